/-! the worlds of this claim: N cells at fixed places; what they hold is a function from cell and slot to a number -/
abbrev Sg : Type := Nat → Nat → Int32
abbrev Ev : Type := va_G × ClassId × ClassId × ClassId × (Nat → Nat)
abbrev Rs : Type := Option (Int32 × Sg)
def eD (E : Ev) : va_G := E.1
def eI (E : Ev) : ClassId := E.2.1
def eZ (E : Ev) : ClassId := E.2.2.1
def eO (E : Ev) : ClassId := E.2.2.2.1
def eA (E : Ev) : Nat → Nat := E.2.2.2.2
abbrev tyl (E : Ev) : List (ClassId × FieldType) := [(eI E, .int), (eZ E, .boolean), (eO E, .object "GridStarts$Grid")]
abbrev Wk : Type := Nat × (Ev → Nat → (Nat → Int32) → va_E)
def wdl (K : Wk) (E : Ev) (σ : Sg) : va_W := (List.range K.1).map (fun k => (eA E k, K.2 E k (σ k)))
def ups (σ : Sg) (c : Nat) (f : Nat → Int32) : Sg := fun c' => if c' = c then f else σ c'
def wr (σ : Sg) (c j : Nat) (v : Int32) : Sg := ups σ c (upd (σ c) j v)
theorem wdl_get {K : Wk} {E : Ev} {σ : Sg} {k : Nat} (hk : k < K.1) : (wdl K E σ)[k]? = some (eA E k, K.2 E k (σ k)) := by
  unfold wdl
  rw [List.getElem?_map, List.getElem?_range hk]
  rfl
theorem wdl_len {K : Wk} {E : Ev} {σ : Sg} : (wdl K E σ).length = K.1 := by simp [wdl]
theorem wdl_set {K : Wk} {E : Ev} {σ : Sg} {k : Nat} {f : Nat → Int32} {x : va_E} (hx : x = K.2 E k f) : (wdl K E σ).set k (eA E k, x) = wdl K E (ups σ k f) := by
  apply List.ext_getElem?
  intro i
  rw [List.getElem?_set]
  by_cases hi : i < K.1
  · by_cases e : k = i
    · subst e
      rw [if_pos rfl, wdl_len, if_pos hi, wdl_get hi, hx]
      simp [ups]
    · rw [if_neg e, wdl_get hi, wdl_get hi]
      simp [ups, Ne.symm e]
  · by_cases e : k = i
    · subst e
      rw [if_pos rfl, wdl_len, if_neg hi, List.getElem?_eq_none (by rw [wdl_len]; omega)]
    · rw [if_neg e, List.getElem?_eq_none (by rw [wdl_len]; omega), List.getElem?_eq_none (by rw [wdl_len]; omega)]
def AA (K : Wk) (E : Ev) : Nat → Prop := fun q => ∃ k, k < K.1 ∧ eA E k = q
def Inj (K : Wk) (E : Ev) : Prop := ∀ i j, i < K.1 → j < K.1 → eA E i = eA E j → i = j
theorem wdl_D {K : Wk} {E : Ev} {σ : Sg} (hj : Inj K E) : va_D (AA K E) (wdl K E σ) := by
  have hlt : ∀ (i : Nat) (q : Nat × va_E), (wdl K E σ)[i]? = some q → i < K.1 ∧ q.1 = eA E i := by
    intro i q h
    have h1 : i < K.1 := by
      have := (List.getElem?_eq_some_iff.mp h).1
      rwa [wdl_len] at this
    rw [wdl_get h1] at h
    cases h
    exact ⟨h1, rfl⟩
  refine ⟨fun i j p q hp hq h => ?_, fun k q h => ?_⟩
  · obtain ⟨a1, a2⟩ := hlt i p hp
    obtain ⟨b1, b2⟩ := hlt j q hq
    exact hj i j a1 b1 (by rw [← a2, ← b2]; exact h)
  · obtain ⟨a1, a2⟩ := hlt k q h
    exact ⟨k, a1, a2.symm⟩
def Nst (U : State) : Prop := ∀ w ∈ nestW, va_Nw w U
theorem Nst.warm {s U : State} (hW : s.WarmedH U.vm) (h : Nst s) : Nst U := by
  intro w hw
  have h1 := h w hw
  simp only [nestW, List.mem_cons, List.not_mem_nil, or_false] at hw
  rcases hw with rfl | rfl | rfl | rfl | rfl | rfl | rfl <;> exact va_Nw.warmM hW h1
theorem Nst.calling {U : State} {g : JFrame} {mk : MethodId} {a : Array Value} (h : Nst U) : Nst (U.calling g mk a) := by
  intro w hw
  refine va_Nw.same (u := U) ?_ rfl (h w hw)
  simp only [nestW, List.mem_cons, List.not_mem_nil, or_false] at hw
  rcases hw with rfl | rfl | rfl | rfl | rfl | rfl | rfl <;> rfl
def WS (K : Wk) (E : Ev) (σ : Sg) (U : State) : Prop := va_P (eD E) vwCl (wdl K E σ) U.heap ∧ va_K (eD E) vwCl (tyl E) U ∧ Nst U
def HP (K : Wk) (E : Ev) (s : State) (σ : Sg) (H : Heap) (locs : List Loc) : Prop := va_P (eD E) vwCl (wdl K E σ) H ∧ va_S (AA K E) s.heap H locs
/-- the contract of a method that answers a number -/
def CI (l : Launch) (y : MethodName) (bytes : ByteArray) (maxL : Nat) (ret : Option FieldType) (rm : Room) (K : Wk) (E : Ev) (av : List Value) (σ : Sg) (r : Int32 × Sg) : Prop :=
  Met l y (.code y bytes maxL ret :: TW) rm (va_Pc av (WS K E σ)) (va_Qi (fun (v : Int32) (τ : Sg) => v = r.1 ∧ τ = r.2) (fun τ t => WS K E τ t) (AA K E)) 0 0 (AA K E)
/-- the contract of a method that answers nothing -/
def CV (l : Launch) (y : MethodName) (bytes : ByteArray) (maxL : Nat) (rm : Room) (K : Wk) (E : Ev) (av : List Value) (σ : Sg) (r : Int32 × Sg) : Prop :=
  Met l y (.code y bytes maxL none :: TW) rm (va_Pc av (WS K E σ)) (va_Qv (fun (τ : Sg) => τ = r.2) (fun τ t => WS K E τ t) (AA K E)) 0 0 (AA K E)
theorem WS.blind {K : Wk} {E : Ev} {σ : Sg} {av : List Value} : FrameBlind (va_Pc av (WS K E σ)) := by
  intro a U g mk h
  obtain ⟨h0, hP, hK, hN⟩ := h
  exact ⟨h0, hP, va_K.moved (u := U) (U := U.calling g mk a) (Vm.Alike.refl U.vm) hK, hN.calling⟩
/-! the pure side: what a method does as a function that answers none where the machine would not go on -/
def gd {α : Type} (i : Int32) (n : Nat) (o : Option α) : Option α := if i < 0 ∨ n ≤ i.toNatClampNeg then none else o
def sv {α β : Type} (x : α) (k : α → β) : β := k x
def bd (o : Rs) (k : Int32 → Sg → Rs) : Rs := match o with
  | none => none
  | some r => k r.1 r.2
def zr (v : Int32) (σ : Sg) : Rs := if v = 0 ∨ v = 1 then some (v, σ) else none
def it {α : Type} (F : α → α) (z : α) : Nat → α
  | 0 => z
  | n + 1 => F (it F z n)
def FU : Nat := 10000
theorem it_eq {α : Type} (F : α → α) (z : α) (n : Nat) : it F z (n + 1) = F (it F z n) := rfl
theorem gd_some {α : Type} {i : Int32} {n : Nat} {o : Option α} {r : α} (h : gd i n o = some r) : vp_in i n ∧ o = some r := by
  unfold gd at h
  split at h
  · cases h
  · exact ⟨‹_›, h⟩
theorem gd_in {α : Type} {i : Int32} {n : Nat} {o : Option α} (h : vp_in i n) : gd i n o = o := if_neg h
theorem sv_at {α β : Type} {x y : α} {k : α → Option β} {r : β} (h : sv x k = some r) (e : y = x) : k y = some r := by
  subst e
  exact h
theorem bd_some {o : Rs} {k : Int32 → Sg → Rs} {r : Int32 × Sg} (h : bd o k = some r) : ∃ (v : Int32) (τ : Sg), o = some (v, τ) ∧ k v τ = some r := by
  cases o with
  | none => cases h
  | some q => exact ⟨q.1, q.2, rfl, h⟩
theorem bd_of {o : Rs} {k : Int32 → Sg → Rs} {v : Int32} {τ : Sg} (h : o = some (v, τ)) : bd o k = k v τ := by
  rw [h]
  rfl
theorem zr_some {v : Int32} {σ : Sg} {r : Int32 × Sg} (h : zr v σ = some r) : (v = 0 ∨ v = 1) ∧ some (v, σ) = some r := by
  unfold zr at h
  split at h
  · exact ⟨‹_›, h⟩
  · cases h
section Fix
variable {p : Program} {l : Launch} {e : Env} {R : Room} {s : State} {m : MethodId} {args : Array Value} {below : List Frame} {meth : Method} {c : Code} {H : Heap} {locs : List Loc} {Q : State → Prop}
variable {cc : ByteArray} {pc : Nat} {ls : Array Slot} {rest : List Value} {K : Wk} {E : Ev} {σ : Sg} {own : String} {nL : Nat} {ret : Option FieldType} {lv : List (Nat × Value)}
def Fx (K : Wk) (E : Ev) (p : Program) (s : State) (m : MethodId) (args : Array Value) (meth : Method) (c : Code) (cc : ByteArray) (own : String) (nL : Nat) (ret : Option FieldType) : Prop :=
  p.tables.exec = Jvm.exec ∧ c.code = cc ∧ c.maxLocals = nL ∧ s.vm.findClass own = some m.cls ∧ (∀ w ∈ TW, w.before args s = true) ∧ va_K (eD E) vwCl (tyl E) s ∧ Nst s ∧ meth.locks = false ∧ meth.sig.returnType = ret ∧ Inj K E
theorem Fx.x (h : Fx K E p s m args meth c cc own nL ret) : p.tables.exec = Jvm.exec := h.1
theorem Fx.b (h : Fx K E p s m args meth c cc own nL ret) : c.code = cc := h.2.1
theorem Fx.ml (h : Fx K E p s m args meth c cc own nL ret) : c.maxLocals = nL := h.2.2.1
theorem Fx.o (h : Fx K E p s m args meth c cc own nL ret) : s.vm.findClass own = some m.cls := h.2.2.2.1
theorem Fx.t (h : Fx K E p s m args meth c cc own nL ret) : ∀ w ∈ TW, w.before args s = true := h.2.2.2.2.1
theorem Fx.k (h : Fx K E p s m args meth c cc own nL ret) : va_K (eD E) vwCl (tyl E) s := h.2.2.2.2.2.1
theorem Fx.n (h : Fx K E p s m args meth c cc own nL ret) : Nst s := h.2.2.2.2.2.2.1
theorem Fx.lk (h : Fx K E p s m args meth c cc own nL ret) : meth.locks = false := h.2.2.2.2.2.2.2.1
theorem Fx.r (h : Fx K E p s m args meth c cc own nL ret) : meth.sig.returnType = ret := h.2.2.2.2.2.2.2.2.1
theorem Fx.j (h : Fx K E p s m args meth c cc own nL ret) : Inj K E := h.2.2.2.2.2.2.2.2.2
theorem w_get (hF : Fx K E p s m args meth c cc own nL ret) (hH : HP K E s σ H locs) (k : Nat) (hk : k < K.1) {ci n : Nat} {fs : List Value} {C : String} {T : u_T} (hc : K.2 E k (σ k) = .inr (ci, fs)) (hcl : vwCl[ci]? = some (C, T, n)) (hin : ∀ w ∈ u_ws C T n, w ∈ TW) (j : Nat) (hj : j < n) {idx : Nat} (hlink : Cond.fieldLink own idx (T j).1 (T j).2.1 (T j).2.2.1 ∈ TW) {v : Value} (hv : fs[j]? = some v) (hdg : decode cc pc = .ok (.getfield idx, 3))
    (kk : W p l e R s m args below meth c H locs 0 0 Q (F0 m (pc + 3) ls (v :: rest))) : W p l e R s m args below meth c H locs 0 0 Q (F0 m pc ls (.ref (eA E k) :: rest)) :=
  va_get (D := eD E) (cl := vwCl) hF.x hF.b hF.t hin hF.o hF.k hH.1 k (by rw [wdl_get hk, hc]) hcl j hj (hF.t _ hlink) (fun _ h9 => h9) hv hdg kk
theorem w_put (hF : Fx K E p s m args meth c cc own nL ret) (hH : HP K E s σ H locs) (k : Nat) (hk : k < K.1) {ci n : Nat} {fs : List Value} {C : String} {T : u_T} (hc : K.2 E k (σ k) = .inr (ci, fs)) (hcl : vwCl[ci]? = some (C, T, n)) (hin : ∀ w ∈ u_ws C T n, w ∈ TW) (ty0 : Nat → FieldType) (hty : ∀ k, k < n → parseFieldDescriptor (T k).2.2.1 = some (ty0 k)) (hnm : ∀ a, a < n → ∀ b, b < n → a ≠ b → (T a).2.1 ≠ (T b).2.1) (j : Nat) (hj : j < n) {idx : Nat} (hlink : Cond.fieldLink own idx (T j).1 (T j).2.1 (T j).2.2.1 ∈ TW) (hfin : (T j).2.2.2 = false) {v : Int32} (hd : parseFieldDescriptor (T j).2.2.1 = some .int) (hl : j < fs.length) (hset : (.inr (ci, fs.set j (.int v)) : va_E) = K.2 E k (upd (σ k) j v)) (hdg : decode cc pc = .ok (.putfield idx, 3))
    (kk : ∀ (σ1 : Sg) (H1 : Heap) (locs1 : List Loc), σ1 = wr σ k j v → HP K E s σ1 H1 locs1 → W p l e R s m args below meth c H1 locs1 0 0 Q (F0 m (pc + 3) ls rest)) : W p l e R s m args below meth c H locs 0 0 Q (F0 m pc ls (.int v :: .ref (eA E k) :: rest)) :=
  va_put (D := eD E) (cl := vwCl) (A := AA K E) (H0 := s.heap) (v := .int v) (ty := .int) hF.x hF.b hF.t hin ty0 hty hnm hF.o hF.k hH.1 (wdl_D hF.j) hH.2 k (by rw [wdl_get hk, hc]) hcl j hj (hF.t _ hlink) (fun _ h9 => h9) hfin hd rfl rfl hl hdg
    (fun H1 locs1 hP _ hS => kk _ H1 locs1 rfl ⟨by rw [wdl_set hset] at hP; exact hP, hS⟩)
theorem w_ald (hF : Fx K E p s m args meth c cc own nL ret) (hH : HP K E s σ H locs) (k : Nat) (hk : k < K.1) {n : Nat} (hc : ∀ f, K.2 E k f = .inl (eI E, n, .inl f)) {i : Int32} (hin : vp_in i n) (hdg : decode cc pc = .ok (.iaload, 1))
    (kk : W p l e R s m args below meth c H locs 0 0 Q (F0 m (pc + 1) ls (.int (σ k i.toNatClampNeg) :: rest))) : W p l e R s m args below meth c H locs 0 0 Q (F0 m pc ls (.int i :: .ref (eA E k) :: rest)) :=
  va_iald (D := eD E) (cl := vwCl) hF.x hF.b hF.k hH.1 k 0 (by rw [wdl_get hk, hc]) rfl hin hdg kk
theorem w_zld (hF : Fx K E p s m args meth c cc own nL ret) (hH : HP K E s σ H locs) (k : Nat) (hk : k < K.1) {n : Nat} (hc : ∀ f, K.2 E k f = .inl (eZ E, n, .inl f)) {i : Int32} (hin : vp_in i n) (hdg : decode cc pc = .ok (.baload, 1))
    (kk : W p l e R s m args below meth c H locs 0 0 Q (F0 m (pc + 1) ls (.int (σ k i.toNatClampNeg) :: rest))) : W p l e R s m args below meth c H locs 0 0 Q (F0 m pc ls (.int i :: .ref (eA E k) :: rest)) :=
  va_zald (D := eD E) (cl := vwCl) hF.x hF.b hF.k hH.1 k 1 (by rw [wdl_get hk, hc]) rfl hin hdg kk
theorem w_ast (hF : Fx K E p s m args meth c cc own nL ret) (hH : HP K E s σ H locs) (k : Nat) (hk : k < K.1) {n : Nat} (hc : ∀ f, K.2 E k f = .inl (eI E, n, .inl f)) {i v : Int32} (hin : vp_in i n) (hdg : decode cc pc = .ok (.iastore, 1))
    (kk : ∀ (σ1 : Sg) (H1 : Heap) (locs1 : List Loc), σ1 = wr σ k i.toNatClampNeg v → HP K E s σ1 H1 locs1 → W p l e R s m args below meth c H1 locs1 0 0 Q (F0 m (pc + 1) ls rest)) : W p l e R s m args below meth c H locs 0 0 Q (F0 m pc ls (.int v :: .int i :: .ref (eA E k) :: rest)) :=
  va_iast (D := eD E) (cl := vwCl) (A := AA K E) (H0 := s.heap) hF.x hF.b hF.k hH.1 (wdl_D hF.j) hH.2 k 0 (by rw [wdl_get hk, hc]) rfl hin hdg
    (fun H1 locs1 hP _ hS => kk _ H1 locs1 rfl ⟨by rw [wdl_set (hc _).symm] at hP; exact hP, hS⟩)
theorem w_zst (hF : Fx K E p s m args meth c cc own nL ret) (hH : HP K E s σ H locs) (k : Nat) (hk : k < K.1) {n : Nat} (hc : ∀ f, K.2 E k f = .inl (eZ E, n, .inl f)) {i v : Int32} (hin : vp_in i n) (hdg : decode cc pc = .ok (.bastore, 1))
    (kk : ∀ (σ1 : Sg) (H1 : Heap) (locs1 : List Loc), σ1 = wr σ k i.toNatClampNeg (vp_nar .boolean v) → HP K E s σ1 H1 locs1 → W p l e R s m args below meth c H1 locs1 0 0 Q (F0 m (pc + 1) ls rest)) : W p l e R s m args below meth c H locs 0 0 Q (F0 m pc ls (.int v :: .int i :: .ref (eA E k) :: rest)) :=
  va_zast (D := eD E) (cl := vwCl) (A := AA K E) (H0 := s.heap) hF.x hF.b hF.k hH.1 (wdl_D hF.j) hH.2 k 1 (by rw [wdl_get hk, hc]) rfl hin hdg
    (fun H1 locs1 hP _ hS => kk _ H1 locs1 rfl ⟨by rw [wdl_set (hc _).symm] at hP; exact hP, hS⟩)
/-! returns -/
theorem w_iret {r : Int32 × Sg} (hF : Fx K E p s m args meth c cc own nL (some .int)) (hH : HP K E s σ H locs) {v : Int32} (h : some (v, σ) = some r) (hdg : decode cc pc = .ok (.ireturn, 1)) :
    W p l e R s m args below meth c H locs 0 0 (MQ below (va_Qi (fun (w : Int32) (τ : Sg) => w = r.1 ∧ τ = r.2) (fun τ t => WS K E τ t) (AA K E)) args s 0 0 (AA K E)) (F0 m pc ls [.int v]) := by
  cases h
  exact W.iret (v := v) hF.x hF.b hF.r (fun t ht hW => ⟨⟨v, σ, rfl, ⟨rfl, rfl⟩, by rw [ht]; exact hH.1, va_K.moved hW.alike hF.k, hF.n.warm hW⟩, hH.2.F ht⟩) hH.2.2.2 hdg hF.lk
theorem w_zret {r : Int32 × Sg} (hF : Fx K E p s m args meth c cc own nL (some .boolean)) (hH : HP K E s σ H locs) {v : Int32} (h : zr v σ = some r) (hdg : decode cc pc = .ok (.ireturn, 1)) :
    W p l e R s m args below meth c H locs 0 0 (MQ below (va_Qi (fun (w : Int32) (τ : Sg) => w = r.1 ∧ τ = r.2) (fun τ t => WS K E τ t) (AA K E)) args s 0 0 (AA K E)) (F0 m pc ls [.int v]) := by
  obtain ⟨hv, h⟩ := zr_some h
  cases h
  exact W.zret (v := v) (ty := .boolean) hF.x hF.b hF.r (by rcases hv with rfl | rfl <;> rfl) (fun t ht hW => ⟨⟨v, σ, rfl, ⟨rfl, rfl⟩, by rw [ht]; exact hH.1, va_K.moved hW.alike hF.k, hF.n.warm hW⟩, hH.2.F ht⟩) hH.2.2.2 hdg hF.lk
theorem w_vret {r : Int32 × Sg} (hF : Fx K E p s m args meth c cc own nL none) (hH : HP K E s σ H locs) {v : Int32} (h : some (v, σ) = some r) (hdg : decode cc pc = .ok (.return_, 1)) :
    W p l e R s m args below meth c H locs 0 0 (MQ below (va_Qv (fun (τ : Sg) => τ = r.2) (fun τ t => WS K E τ t) (AA K E)) args s 0 0 (AA K E)) (F0 m pc ls []) := by
  cases h
  exact W.vret hF.x hF.b hF.r (fun t ht hW => ⟨⟨σ, rfl, rfl, by rw [ht]; exact hH.1, va_K.moved hW.alike hF.k, hF.n.warm hW⟩, hH.2.F ht⟩) hH.2.2.2 hdg hF.lk
/-! calls -/
theorem tw_good {w0 : Cond} {ws : List Cond} {y : MethodName} {bytes : ByteArray} {maxL : Nat} {ret' : Option FieldType} (h : ∀ w ∈ ws, w ∈ TW) (hc : Cond.code y bytes maxL ret' ∈ TW) : GoodIn (w0 :: TW) (ws ++ (.code y bytes maxL ret' :: TW)) := by
  have g : ∀ w ∈ TW, w ∈ w0 :: TW ∧ ((w.onTables && w.keeps) = true ∨ ∃ ty, w = .arrayClass ty) := fun w hw => ⟨List.mem_cons_of_mem _ hw, good_of_word (List.mem_filter.mp hw).2⟩
  intro w hw
  rcases List.mem_append.mp hw with h1 | h1
  · exact g w (h w h1)
  · rcases List.mem_cons.mp h1 with rfl | h2
    · exact g _ hc
    · exact g w h2
theorem tw_good0 {ws : List Cond} {y : MethodName} {bytes : ByteArray} {maxL : Nat} {ret' : Option FieldType} (h : ∀ w ∈ ws, w ∈ TW) (hc : Cond.code y bytes maxL ret' ∈ TW) : GoodIn TW (ws ++ (.code y bytes maxL ret' :: TW)) := by
  have g : ∀ w ∈ TW, w ∈ TW ∧ ((w.onTables && w.keeps) = true ∨ ∃ ty, w = .arrayClass ty) := fun w hw => ⟨hw, good_of_word (List.mem_filter.mp hw).2⟩
  intro w hw
  rcases List.mem_append.mp hw with h1 | h1
  · exact g w (h w h1)
  · rcases List.mem_cons.mp h1 with rfl | h2
    · exact g _ hc
    · exact g w h2
variable {y : MethodName} {bytes : ByteArray} {maxL n index : Nat} {ret' : Option FieldType} {rm : Room} {C host : String} {As : List Value} {r : Int32 × Sg} {st0 : List Value}
theorem HP.sub {H1 : Heap} {t : State} {τ : Sg} {locs1 : List Loc} (ht : t.heap = H1) (hw : WS K E τ t) (hS : va_S (AA K E) s.heap H1 locs1) : HP K E s τ H1 locs1 := ⟨by rw [← ht]; exact hw.1, hS⟩
theorem w_cVi (hF : Fx K E p s m args meth c cc own nL ret) (hH : HP K E s σ H locs) (hl : lv_has ls nL lv) (k : Nat) (hk : k < K.1) {ci : Nat} {fs : List Value} {q : vw_C} (hc : K.2 E k (σ k) = .inr (ci, fs)) (hcl : vwCl[ci]? = some q)
    (hM : CI l y bytes maxL ret' rm K E (.ref (eA E k) :: As) σ r) (m1 : Cond.methodLink own index y ∈ TW) (m2 : Cond.instanceMethod y ∈ TW) (m3 : Cond.selects q.1 y y ∈ TW) (m4 : Cond.initialized q.1 ∈ TW) (m5 : Cond.code y bytes maxL ret' ∈ TW)
    (hrc : rm.cells = 0) (hrs : rm.slots = 0) (hd : y.cls = q.1 ∧ y.cls ≠ "java/lang/invoke/MethodHandle" ∧ y.cls ≠ "java/lang/invoke/VarHandle" ∧ (parseMethodDescriptor y.desc).map (fun d => d.parameters.length) = some n) (hR : rm.frames + 1 ≤ R.frames ∧ 8 + (maxL + 11) + rm.locals ≤ R.locals)
    (hn : As.length = n) (hst : st0 = As.reverse ++ .ref (eA E k) :: rest) (hrm : (rest.map fun v => v.category).sum ≤ 8) (hdg : decode cc pc = .ok (.invokevirtual index, 3))
    (kk : ∀ (H1 : Heap) (locs1 : List Loc), HP K E s r.2 H1 locs1 → W p l e R s m args below meth c H1 locs1 0 0 Q (F0 m (pc + 3) ls (.int r.1 :: rest))) : W p l e R s m args below meth c H locs 0 0 Q (F0 m pc ls st0) :=
  va_calli (va_runV (As := As) (rest := rest) ⟨hF.x, hF.b, hF.ml, hF.o, hF.t⟩ hM (cwV n hF.t (tw_good0 (ws := [.methodLink own index y, .instanceMethod y, .selects q.1 y y, .initialized q.1]) (List.forall_mem_cons.mpr ⟨m1, List.forall_mem_cons.mpr ⟨m2, List.forall_mem_cons.mpr ⟨m3, List.forall_mem_cons.mpr ⟨m4, fun _ h => absurd h List.not_mem_nil⟩⟩⟩⟩) m5) rfl hrc hrs hd hR)
    ⟨WS.blind, va_recv hF.k hH.1 hcl (by rw [wdl_get hk, hc]), fun U hU hW => ⟨rfl, by rw [hU]; exact hH.1, va_K.moved hW.alike hF.k, hF.n.warm hW⟩⟩ rfl hn hl.1 hst (lv_room hrm) hdg ⟨Nat.zero_le _, Nat.zero_le _⟩) hH.2 (fun q _ h => h) (fun q h => h)
    (fun r1 u t H1 locs1 ht hvm hw hB hz1 hk1 hS => by
      obtain ⟨rfl, rfl⟩ := hw
      exact kk H1 locs1 (HP.sub ht hB hS))
theorem w_cVv (hF : Fx K E p s m args meth c cc own nL ret) (hH : HP K E s σ H locs) (hl : lv_has ls nL lv) (k : Nat) (hk : k < K.1) {ci : Nat} {fs : List Value} {q : vw_C} (hc : K.2 E k (σ k) = .inr (ci, fs)) (hcl : vwCl[ci]? = some q)
    (hM : CV l y bytes maxL rm K E (.ref (eA E k) :: As) σ r) (m1 : Cond.methodLink own index y ∈ TW) (m2 : Cond.instanceMethod y ∈ TW) (m3 : Cond.selects q.1 y y ∈ TW) (m4 : Cond.initialized q.1 ∈ TW) (m5 : Cond.code y bytes maxL none ∈ TW)
    (hrc : rm.cells = 0) (hrs : rm.slots = 0) (hd : y.cls = q.1 ∧ y.cls ≠ "java/lang/invoke/MethodHandle" ∧ y.cls ≠ "java/lang/invoke/VarHandle" ∧ (parseMethodDescriptor y.desc).map (fun d => d.parameters.length) = some n) (hR : rm.frames + 1 ≤ R.frames ∧ 8 + (maxL + 11) + rm.locals ≤ R.locals)
    (hn : As.length = n) (hst : st0 = As.reverse ++ .ref (eA E k) :: rest) (hrm : (rest.map fun v => v.category).sum ≤ 8) (hdg : decode cc pc = .ok (.invokevirtual index, 3))
    (kk : ∀ (H1 : Heap) (locs1 : List Loc), HP K E s r.2 H1 locs1 → W p l e R s m args below meth c H1 locs1 0 0 Q (F0 m (pc + 3) ls rest)) : W p l e R s m args below meth c H locs 0 0 Q (F0 m pc ls st0) :=
  va_callv (va_runV (As := As) (rest := rest) ⟨hF.x, hF.b, hF.ml, hF.o, hF.t⟩ hM (cwV n hF.t (tw_good0 (ws := [.methodLink own index y, .instanceMethod y, .selects q.1 y y, .initialized q.1]) (List.forall_mem_cons.mpr ⟨m1, List.forall_mem_cons.mpr ⟨m2, List.forall_mem_cons.mpr ⟨m3, List.forall_mem_cons.mpr ⟨m4, fun _ h => absurd h List.not_mem_nil⟩⟩⟩⟩) m5) rfl hrc hrs hd hR)
    ⟨WS.blind, va_recv hF.k hH.1 hcl (by rw [wdl_get hk, hc]), fun U hU hW => ⟨rfl, by rw [hU]; exact hH.1, va_K.moved hW.alike hF.k, hF.n.warm hW⟩⟩ rfl hn hl.1 hst (lv_room hrm) hdg ⟨Nat.zero_le _, Nat.zero_le _⟩) hH.2 (fun q _ h => h) (fun q h => h)
    (fun u t H1 locs1 ht hvm hw hB hz1 hk1 hS => by
      obtain rfl := hw
      exact kk H1 locs1 (HP.sub ht hB hS))
theorem w_cSi (hF : Fx K E p s m args meth c cc own nL ret) (hH : HP K E s σ H locs) (hl : lv_has ls nL lv)
    (hM : CI l y bytes maxL ret' rm K E As σ r) (m1 : Cond.methodLink own index y ∈ TW) (m2 : Cond.static y ∈ TW) (m4 : Cond.initialized y.cls ∈ TW) (m5 : Cond.code y bytes maxL ret' ∈ TW)
    (hrc : rm.cells = 0) (hrs : rm.slots = 0) (hd : y.cls ≠ "java/lang/invoke/MethodHandle" ∧ y.cls ≠ "java/lang/invoke/VarHandle" ∧ (parseMethodDescriptor y.desc).map (fun d => d.parameters.length) = some n) (hR : rm.frames + 1 ≤ R.frames ∧ 8 + (maxL + 11) + rm.locals ≤ R.locals)
    (hn : As.length = n) (hst : st0 = As.reverse ++ rest) (hrm : (rest.map fun v => v.category).sum ≤ 8) (hdg : decode cc pc = .ok (.invokestatic index, 3))
    (kk : ∀ (H1 : Heap) (locs1 : List Loc), HP K E s r.2 H1 locs1 → W p l e R s m args below meth c H1 locs1 0 0 Q (F0 m (pc + 3) ls (.int r.1 :: rest))) : W p l e R s m args below meth c H locs 0 0 Q (F0 m pc ls st0) :=
  va_calli (va_runS (As := As) (rest := rest) ⟨hF.x, hF.b, hF.ml, hF.o, hF.t⟩ hM (va_cwS n hF.t (tw_good0 (ws := [.methodLink own index y, .static y, .initialized y.cls]) (List.forall_mem_cons.mpr ⟨m1, List.forall_mem_cons.mpr ⟨m2, List.forall_mem_cons.mpr ⟨m4, fun _ h => absurd h List.not_mem_nil⟩⟩⟩) m5) rfl hrc hrs hd hR)
    ⟨WS.blind, fun U hU hW => ⟨rfl, by rw [hU]; exact hH.1, va_K.moved hW.alike hF.k, hF.n.warm hW⟩⟩ rfl hn hl.1 hst (lv_room hrm) hdg ⟨Nat.zero_le _, Nat.zero_le _⟩) hH.2 (fun q _ h => h) (fun q h => h)
    (fun r1 u t H1 locs1 ht hvm hw hB hz1 hk1 hS => by
      obtain ⟨rfl, rfl⟩ := hw
      exact kk H1 locs1 (HP.sub ht hB hS))
theorem w_cNi (hF : Fx K E p s m args meth c cc own nL ret) (hH : HP K E s σ H locs) (hl : lv_has ls nL lv)
    (hM : CI l y bytes maxL ret' rm K E As σ r) (m1 : Cond.methodLinkNest own index y host ∈ nestW) (m2 : Cond.static y ∈ TW) (m4 : Cond.initialized y.cls ∈ TW) (m5 : Cond.code y bytes maxL ret' ∈ TW)
    (hrc : rm.cells = 0) (hrs : rm.slots = 0) (hd : y.cls ≠ "java/lang/invoke/MethodHandle" ∧ y.cls ≠ "java/lang/invoke/VarHandle" ∧ (parseMethodDescriptor y.desc).map (fun d => d.parameters.length) = some n) (hR : rm.frames + 1 ≤ R.frames ∧ 8 + (maxL + 11) + rm.locals ≤ R.locals)
    (hn : As.length = n) (hst : st0 = As.reverse ++ rest) (hrm : (rest.map fun v => v.category).sum ≤ 8) (hdg : decode cc pc = .ok (.invokestatic index, 3))
    (kk : ∀ (H1 : Heap) (locs1 : List Loc), HP K E s r.2 H1 locs1 → W p l e R s m args below meth c H1 locs1 0 0 Q (F0 m (pc + 3) ls (.int r.1 :: rest))) : W p l e R s m args below meth c H locs 0 0 Q (F0 m pc ls st0) :=
  va_calli (va_runSN (host := host) (As := As) (rest := rest) ⟨hF.x, hF.b, hF.ml, hF.o, hF.t⟩ hM ⟨va_cnB n hF.t (tw_good0 (ws := []) (fun _ h => absurd h List.not_mem_nil) m5) rfl hrc hrs (hF.n _ m1) (hF.t _ m4) hd hR, hF.t _ m2, trivial⟩
    ⟨WS.blind, fun U hU hW => ⟨rfl, by rw [hU]; exact hH.1, va_K.moved hW.alike hF.k, hF.n.warm hW⟩⟩ rfl hn hl.1 hst (lv_room hrm) hdg ⟨Nat.zero_le _, Nat.zero_le _⟩) hH.2 (fun q _ h => h) (fun q h => h)
    (fun r1 u t H1 locs1 ht hvm hw hB hz1 hk1 hS => by
      obtain ⟨rfl, rfl⟩ := hw
      exact kk H1 locs1 (HP.sub ht hB hS))
end Fix
/-! a contract out of a walk -/
def rmk (f l : Nat) : Room := { frames := f, cells := 0, slots := 0, locals := l }
section Of
variable {l : Launch} {y : MethodName} {bytes : ByteArray} {maxL : Nat} {rm : Room} {K : Wk} {E : Ev} {av : List Value} {σ : Sg} {r : Int32 × Sg} {lv : List (Nat × Value)}
theorem CI_i (hy : plainName y.cls = true) (hj : Inj K E) (hn : (lg_sl av).length ≤ maxL) (hlv : lv_args 0 av = lv)
    (body : ∀ (p : Program) (e : Env) (s : State) (m : MethodId) (args : Array Value) (below : List Frame) (meth : Method) (c : Code) (ls : Array Slot) (Q : State → Prop), Fx K E p s m args meth c bytes y.cls maxL (some .int) →
      (∀ (τ : Sg) (H : Heap) (locs : List Loc) (v : Int32) (pc : Nat) (ls : Array Slot), HP K E s τ H locs → some (v, τ) = some r → decode bytes pc = .ok (.ireturn, 1) → W p l e rm s m args below meth c H locs 0 0 Q (F0 m pc ls [.int v])) →
      HP K E s σ s.heap [] → lv_has ls maxL lv → W p l e rm s m args below meth c s.heap [] 0 0 Q (F0 m 0 ls [])) : CI l y bytes maxL (some .int) rm K E av σ r := by
  refine Met.ofW (cc := bytes) (maxL := maxL) (ret := some .int) hy rfl ?_
  intro p e s m args below meth c s₁ B hml hv
  obtain ⟨rfl, hP, hK, hN⟩ := hv
  have hts := atoms_spec (ws := .code y bytes maxL (some .int) :: TW) B.pre
  have hown : s.vm.findClass y.cls = some m.cls := findClass_of_methodNamed B.named
  have hl := lv_entry av (n := maxL) hn
  rw [hlv] at hl
  rw [lg_entry_eq]
  have hF : Fx K E p s m av.toArray meth c bytes y.cls maxL (some .int) := ⟨B.exec, B.bytes, hml, hown, fun w h => hts w (List.mem_cons_of_mem _ h), hK, hN, B.notSynchronized, B.returns, hj⟩
  exact body p e s m _ below meth c _ _ hF (fun τ H locs v pc ls hH h hd => w_iret hF hH h hd) ⟨hP, va_S.rf⟩ hl
theorem CI_z (hy : plainName y.cls = true) (hj : Inj K E) (hn : (lg_sl av).length ≤ maxL) (hlv : lv_args 0 av = lv)
    (body : ∀ (p : Program) (e : Env) (s : State) (m : MethodId) (args : Array Value) (below : List Frame) (meth : Method) (c : Code) (ls : Array Slot) (Q : State → Prop), Fx K E p s m args meth c bytes y.cls maxL (some .boolean) →
      (∀ (τ : Sg) (H : Heap) (locs : List Loc) (v : Int32) (pc : Nat) (ls : Array Slot), HP K E s τ H locs → zr v τ = some r → decode bytes pc = .ok (.ireturn, 1) → W p l e rm s m args below meth c H locs 0 0 Q (F0 m pc ls [.int v])) →
      HP K E s σ s.heap [] → lv_has ls maxL lv → W p l e rm s m args below meth c s.heap [] 0 0 Q (F0 m 0 ls [])) : CI l y bytes maxL (some .boolean) rm K E av σ r := by
  refine Met.ofW (cc := bytes) (maxL := maxL) (ret := some .boolean) hy rfl ?_
  intro p e s m args below meth c s₁ B hml hv
  obtain ⟨rfl, hP, hK, hN⟩ := hv
  have hts := atoms_spec (ws := .code y bytes maxL (some .boolean) :: TW) B.pre
  have hown : s.vm.findClass y.cls = some m.cls := findClass_of_methodNamed B.named
  have hl := lv_entry av (n := maxL) hn
  rw [hlv] at hl
  rw [lg_entry_eq]
  have hF : Fx K E p s m av.toArray meth c bytes y.cls maxL (some .boolean) := ⟨B.exec, B.bytes, hml, hown, fun w h => hts w (List.mem_cons_of_mem _ h), hK, hN, B.notSynchronized, B.returns, hj⟩
  exact body p e s m _ below meth c _ _ hF (fun τ H locs v pc ls hH h hd => w_zret hF hH h hd) ⟨hP, va_S.rf⟩ hl
theorem CV_v (hy : plainName y.cls = true) (hj : Inj K E) (hn : (lg_sl av).length ≤ maxL) (hlv : lv_args 0 av = lv)
    (body : ∀ (p : Program) (e : Env) (s : State) (m : MethodId) (args : Array Value) (below : List Frame) (meth : Method) (c : Code) (ls : Array Slot) (Q : State → Prop), Fx K E p s m args meth c bytes y.cls maxL none →
      (∀ (τ : Sg) (H : Heap) (locs : List Loc) (pc : Nat) (ls : Array Slot), HP K E s τ H locs → some ((0 : Int32), τ) = some r → decode bytes pc = .ok (.return_, 1) → W p l e rm s m args below meth c H locs 0 0 Q (F0 m pc ls [])) →
      HP K E s σ s.heap [] → lv_has ls maxL lv → W p l e rm s m args below meth c s.heap [] 0 0 Q (F0 m 0 ls [])) : CV l y bytes maxL rm K E av σ r := by
  refine Met.ofW (cc := bytes) (maxL := maxL) (ret := none) hy rfl ?_
  intro p e s m args below meth c s₁ B hml hv
  obtain ⟨rfl, hP, hK, hN⟩ := hv
  have hts := atoms_spec (ws := .code y bytes maxL none :: TW) B.pre
  have hown : s.vm.findClass y.cls = some m.cls := findClass_of_methodNamed B.named
  have hl := lv_entry av (n := maxL) hn
  rw [hlv] at hl
  rw [lg_entry_eq]
  have hF : Fx K E p s m av.toArray meth c bytes y.cls maxL none := ⟨B.exec, B.bytes, hml, hown, fun w h => hts w (List.mem_cons_of_mem _ h), hK, hN, B.notSynchronized, B.returns, hj⟩
  exact body p e s m _ below meth c _ _ hF (fun τ H locs pc ls hH h hd => w_vret hF hH h hd) ⟨hP, va_S.rf⟩ hl
end Of
section Cpy
variable {p : Program} {l : Launch} {e : Env} {R : Room} {s : State} {m : MethodId} {args : Array Value} {below : List Frame} {meth : Method} {c : Code} {H : Heap} {locs : List Loc} {Q : State → Prop}
variable {cc : ByteArray} {pc : Nat} {ls : Array Slot} {rest : List Value} {K : Wk} {E : Ev} {σ : Sg} {own : String} {nL : Nat} {ret : Option FieldType} {lv : List (Nat × Value)}
theorem w_cpy (hF : Fx K E p s m args meth c cc own nL ret) (hH : HP K E s σ H locs) (hl : lv_has ls nL lv) (k0 k1 : Nat) (hk0 : k0 < K.1) (hk1 : k1 < K.1) {n0 n1 index : Nat} (hc0 : ∀ f, K.2 E k0 f = .inl (eI E, n0, .inl f)) (hc1 : ∀ f, K.2 E k1 f = .inl (eI E, n1, .inl f))
    (m1 : Cond.methodLink own index arraycopyName ∈ TW) (m2 : Cond.native arraycopyName ∈ TW) (m3 : Cond.static arraycopyName ∈ TW) (m4 : Cond.initialized "java/lang/System" ∈ TW) {n : Int32} (h3 : ¬ n < 0) (h4 : n.toNatClampNeg ≤ n0) (h5 : n.toNatClampNeg ≤ n1)
    (hframes : 1 ≤ R.frames) (hlocals : (rest.map fun v => v.category).sum + (nativeFrameWords "java/lang/System" "arraycopy" 5 + 11) ≤ R.locals) (hdg : decode cc pc = .ok (.invokestatic index, 3))
    (kk : ∀ (σ1 : Sg) (H1 : Heap) (locs1 : List Loc), σ1 = ups σ k1 (va_cpy (σ k0) (σ k1) 0 0 n.toNatClampNeg) → HP K E s σ1 H1 locs1 → W p l e R s m args below meth c H1 locs1 0 0 Q (F0 m (pc + 3) ls rest)) : W p l e R s m args below meth c H locs 0 0 Q (F0 m pc ls (.int n :: .int 0 :: .ref (eA E k1) :: .int 0 :: .ref (eA E k0) :: rest)) :=
  va_copyi (D := eD E) (cl := vwCl) (A := AA K E) (H0 := s.heap) (ty := .int) hF.x hF.b (hF.ml.trans hl.1.symm) hF.o (hF.t _ m1) (hF.t _ m2) (hF.t _ m3) (hF.t _ m4) hF.k hH.1 (wdl_D hF.j) hH.2 k0 k1 0 0 (by rw [wdl_get hk0, hc0]) (by rw [wdl_get hk1, hc1]) rfl rfl rfl (by decide) (by decide) h3 (by show 0 + _ ≤ _; omega) (by show 0 + _ ≤ _; omega) (fun i _ => rfl) hframes hlocals hdg
    (fun H1 locs1 hP _ hS => kk _ H1 locs1 rfl ⟨by rw [wdl_set (hc1 _).symm] at hP; exact hP, hS⟩)
end Cpy
