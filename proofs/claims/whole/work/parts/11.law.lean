def SP0 (Rel : Sg → Sg → Prop) (f g : Sg → Rs) : Prop := ∀ (σ μ : Sg), Rel σ μ → ∃ (v : Int32) (σ1 μ1 : Sg), f σ = some (v, σ1) ∧ g μ = some (v, μ1) ∧ Rel σ1 μ1
def SP1 (Rel : Sg → Sg → Prop) (f g : Int32 → Sg → Rs) : Prop := ∀ (σ μ : Sg), Rel σ μ → ∀ (a : Int32), ∃ (v : Int32) (σ1 μ1 : Sg), f a σ = some (v, σ1) ∧ g a μ = some (v, μ1) ∧ Rel σ1 μ1
def SP2 (Rel : Sg → Sg → Prop) (f g : Int32 → Int32 → Sg → Rs) : Prop := ∀ (σ μ : Sg), Rel σ μ → ∀ (a b : Int32), ∃ (v : Int32) (σ1 μ1 : Sg), f a b σ = some (v, σ1) ∧ g a b μ = some (v, μ1) ∧ Rel σ1 μ1
def SP3 (Rel : Sg → Sg → Prop) (f g : Int32 → Int32 → Int32 → Sg → Rs) : Prop := ∀ (σ μ : Sg), Rel σ μ → ∀ (a b c : Int32), ∃ (v : Int32) (σ1 μ1 : Sg), f a b c σ = some (v, σ1) ∧ g a b c μ = some (v, μ1) ∧ Rel σ1 μ1
def SP4 (Rel : Sg → Sg → Prop) (f g : Int32 → Int32 → Int32 → Int32 → Sg → Rs) : Prop := ∀ (σ μ : Sg), Rel σ μ → ∀ (a b c d : Int32), ∃ (v : Int32) (σ1 μ1 : Sg), f a b c d σ = some (v, σ1) ∧ g a b c d μ = some (v, μ1) ∧ Rel σ1 μ1
def Steps17 (Rel : Sg → Sg → Prop) : Prop := SP3 Rel fX5_line fX6_line ∧ SP4 Rel fX5_machine fX6_machine ∧ SP0 Rel fX5_dark fX6_dark ∧ SP2 Rel fX5_of fX6_of ∧ SP2 Rel fX5_at fX6_at ∧ SP2 Rel fX5_bus fX6_bus ∧ SP0 Rel fX5_can fX6_can ∧ SP1 Rel fX5_tick fX6_tick ∧ SP1 Rel fX5_fail fX6_fail ∧ SP1 Rel fX5_trip fX6_trip ∧ SP3 Rel fX5_way fX6_way ∧ SP2 Rel fX5_go fX6_go ∧ SP3 Rel fX5_needed fX6_needed ∧ SP1 Rel fX5_ever fX6_ever ∧ SP1 Rel fX5_image fX6_image ∧ SP1 Rel fX5_restore fX6_restore ∧ SP1 Rel fX5_count fX6_count
def LF (s : State) (EC EM : Ev) : Prop := Inj kC EC ∧ Inj kM EM ∧ (∀ i j, i < 34 → j < 12 → eA EC i ≠ eA EM j) ∧ (∀ i, i < 34 → s.heap.size ≤ eA EC i) ∧ (∀ j, j < 12 → s.heap.size ≤ eA EM j) ∧ va_K (eD EC) vwCl (tyl EC) s ∧ va_K (eD EM) vwCl (tyl EM) s ∧ Nst s
def LwP (s : State) (EC EM : Ev) (σ μ : Sg) (H : Heap) (locs : List Loc) : Prop := va_P (eD EC) vwCl (wdl kC EC σ) H ∧ va_P (eD EM) vwCl (wdl kM EM μ) H ∧ va_S (fun q => s.heap.size ≤ q) s.heap H locs
theorem wdl_at {K : Wk} {E : Ev} {σ : Sg} {k : Nat} {q : Nat × va_E} (h : (wdl K E σ)[k]? = some q) : k < K.1 ∧ q.1 = eA E k := by
  have h1 : k < K.1 := by
    have := (List.getElem?_eq_some_iff.mp h).1
    rwa [wdl_len] at this
  rw [wdl_get h1] at h
  cases h
  exact ⟨h1, rfl⟩
section LwC
variable {p : Program} {l : Launch} {e : Env} {R : Room} {s : State} {m : MethodId} {args : Array Value} {below : List Frame} {meth : Method} {c : Code} {H : Heap} {locs : List Loc} {cells slots : Nat} {Q : State → Prop}
variable {cc : ByteArray} {pc : Nat} {ls : Array Slot} {rest : List Value} {K K' : Wk} {E E' : Ev} {σ μ : Sg} {own : String} {nL : Nat} {lv : List (Nat × Value)}
variable {y : MethodName} {bytes : ByteArray} {maxL n index : Nat} {ret' : Option FieldType} {rm : Room} {As : List Value} {r : Int32 × Sg} {st0 : List Value}
theorem lw_call (hx : p.tables.exec = Jvm.exec) (hb : c.code = cc) (hml : c.maxLocals = nL) (hown : s.vm.findClass own = some m.cls) (htw : ∀ w ∈ TW, w.before args s = true) (hK : va_K (eD E) vwCl (tyl E) s) (hN : Nst s) (hl : lv_has ls nL lv) (hP : va_P (eD E) vwCl (wdl K E σ) H) (hP' : va_P (eD E') vwCl (wdl K' E' μ) H) (hdis : ∀ i j, i < K.1 → j < K'.1 → eA E i ≠ eA E' j) (hlo : ∀ i, i < K.1 → s.heap.size ≤ eA E i) (hS : va_S (fun q => s.heap.size ≤ q) s.heap H locs) (hk : 0 < K.1) {ci : Nat} {fs : List Value} {q : vw_C} (hc : K.2 E 0 (σ 0) = .inr (ci, fs)) (hcl : vwCl[ci]? = some q)
    (hM : CI l y bytes maxL ret' rm K E (.ref (eA E 0) :: As) σ r) (m1 : Cond.methodLink own index y ∈ TW) (m2 : Cond.instanceMethod y ∈ TW) (m3 : Cond.selects q.1 y y ∈ TW) (m4 : Cond.initialized q.1 ∈ TW) (m5 : Cond.code y bytes maxL ret' ∈ TW)
    (hrc : rm.cells = 0) (hrs : rm.slots = 0) (hd : y.cls = q.1 ∧ y.cls ≠ "java/lang/invoke/MethodHandle" ∧ y.cls ≠ "java/lang/invoke/VarHandle" ∧ (parseMethodDescriptor y.desc).map (fun d => d.parameters.length) = some n) (hR : rm.frames + 1 ≤ R.frames ∧ 8 + (maxL + 11) + rm.locals ≤ R.locals)
    (hn : As.length = n) (hst : st0 = As.reverse ++ .ref (eA E 0) :: rest) (hrm : (rest.map fun v => v.category).sum ≤ 8) (hdg : decode cc pc = .ok (.invokevirtual index, 3)) (hcs : cells ≤ R.cells ∧ slots ≤ R.slots)
    (kk : ∀ (H1 : Heap) (locs1 : List Loc), va_P (eD E) vwCl (wdl K E r.2) H1 → va_P (eD E') vwCl (wdl K' E' μ) H1 → va_S (fun q => s.heap.size ≤ q) s.heap H1 locs1 → W p l e R s m args below meth c H1 locs1 cells slots Q (F0 m (pc + 3) ls (.int r.1 :: rest))) : W p l e R s m args below meth c H locs cells slots Q (F0 m pc ls st0) :=
  va_calli (va_runV (As := As) (rest := rest) ⟨hx, hb, hml, hown, htw⟩ hM (cwV n htw (tw_good0 (ws := [.methodLink own index y, .instanceMethod y, .selects q.1 y y, .initialized q.1]) (List.forall_mem_cons.mpr ⟨m1, List.forall_mem_cons.mpr ⟨m2, List.forall_mem_cons.mpr ⟨m3, List.forall_mem_cons.mpr ⟨m4, fun _ h => absurd h List.not_mem_nil⟩⟩⟩⟩) m5) rfl hrc hrs hd hR)
    ⟨WS.blind, va_recv hK hP hcl (by rw [wdl_get hk, hc]), fun U hU hW => ⟨rfl, by rw [hU]; exact hP, va_K.moved hW.alike hK, hN.warm hW⟩⟩ rfl hn hl.1 hst (lv_room hrm) hdg hcs) hS (fun q _ h => by obtain ⟨k, h1, h2⟩ := h; rw [← h2]; exact hlo k h1) (fun q h => by obtain ⟨k, h1, h2⟩ := h; rw [← h2]; exact hlo k h1)
    (fun r1 u t H1 locs1 ht hvm hw hB hz1 hk1 hS => by
      obtain ⟨rfl, rfl⟩ := hw
      refine kk H1 locs1 (by rw [← ht]; exact hB.1) (hP'.kept (fun k x hx => hk1 _ ((hP' k x hx).lt) (fun hA => ?_))) hS
      obtain ⟨i, h1, h2⟩ := hA
      obtain ⟨g1, g2⟩ := wdl_at hx
      exact hdis i k h1 g1 (h2.trans g2))
end LwC
theorem lw_five {j L : Nat} (hL : L ≤ 2560) (hj : j ≤ 2600) (h : ¬ nI L - 5 < nI j) : j + 5 ≤ L := by
  have e : (nI L - 5).toInt = (L : Int) - 5 := pk_sub_toInt (a := L) (b := 5) (by omega) (by omega)
  have e2 : (nI j).toInt = (j : Int) := nI_toInt (by omega)
  rw [Int32.lt_iff_toInt_lt, e, e2] at h
  omega
theorem lw_ix {j L : Nat} (k : Nat) (hL : L ≤ 2560) (h : j + 5 ≤ L) (hk : k < 5) {x : Int32} (hx : x = nI k) : vp_in (nI j + x) L := by
  rw [hx, nI_add]
  exact vp_in_nI (by omega) (by omega)

set_option maxHeartbeats 4000000 in
set_option maxRecDepth 100000 in
theorem law_loop {p : Program} {e : Env} {s : State} {m : MethodId} {below : List Frame} {meth : Method} {c : Code} (l : Launch) (Rel : Sg → Sg → Prop) (hst : Steps17 Rel) {b L : Nat} {xs : Nat → Int32} (hL : L ≤ 2560) (C0 : lw_At p s m meth c b L xs) (EC EM : Ev) (hLF : LF s EC EM) (cells slots : Nat) (hcs : cells ≤ 600000 ∧ slots ≤ 7302250) : ∀ (n j : Nat) (σ μ : Sg) (H : Heap) (locs : List Loc) (ls : Array Slot), L < n + j → j ≤ 2600 → Rel σ μ → LwP s EC EM σ μ H locs → lv_has ls 4 [(0, .ref b), (1, .ref (eA EC 0)), (2, .ref (eA EM 0)), (3, .int (nI j))] → W p l e room_1 s m #[Value.ref b] below meth c H locs cells slots (lw_Z below #[Value.ref b] s) (F0 m 18 ls []) := by
  obtain ⟨hx, hb, hr, hml, hown0, hts, hX, hbl, hlocks, hgv⟩ := id C0
  have hown : s.vm.findClass RL = some m.cls := hown0
  have htw : ∀ w ∈ TW, w.before #[Value.ref b] s = true := fun w h => hts w (List.mem_filter.mp h).1
  have hbA : ¬ (fun q : Nat => s.heap.size ≤ q) b := Nat.not_le.mpr hbl
  obtain ⟨hjC, hjM, hdis, hloC, hloM, hKC, hKM, hN⟩ := hLF
  obtain ⟨h_line, h_machine, h_dark, h_of, h_at, h_bus, h_can, h_tick, h_fail, h_trip, h_way, h_go, h_needed, h_ever, h_image, h_restore, h_count⟩ := hst
  intro n
  induction n with
  | zero =>
    intro j σ μ H locs ls hn hj hR hP hl
    refine lv_iload_n hx hb dL_law_18 rfl (lv_at hl 3 rfl) ?_
    refine lv_aload_n hx hb dL_law_19 rfl (lv_at hl 0 rfl) ?_
    refine va_slen hx hb hX hbl hbA hP.2.2 dL_law_20 ?_
    refine lv_iconst (v := 5) hx hb dL_law_21 (by decide) ?_
    refine lv_isub hx hb dL_law_22 ?_
    refine lv_icmp_gt (tgt := 623) hx hb dL_law_23 (by decide) (fun c1 => ?_) (fun c1 => absurd (lw_five hL hj c1) (by omega))
    refine lv_iconst (v := 1) hx hb dL_law_623 (by decide) ?_
    refine va_forget (fun q hq => hP.2.2.2.2 q hq) ?_
    refine W.widen (k := 600000) (n := 7302250) hcs.1 hcs.2 ?_
    exact lw_ret hx hb hr hlocks dL_law_624
  | succ n ih =>
    intro j σ μ H locs ls hn hj hR hP hl
    refine lv_iload_n hx hb dL_law_18 rfl (lv_at hl 3 rfl) ?_
    refine lv_aload_n hx hb dL_law_19 rfl (lv_at hl 0 rfl) ?_
    refine va_slen hx hb hX hbl hbA hP.2.2 dL_law_20 ?_
    refine lv_iconst (v := 5) hx hb dL_law_21 (by decide) ?_
    refine lv_isub hx hb dL_law_22 ?_
    refine lv_icmp_gt (tgt := 623) hx hb dL_law_23 (by decide) (fun c1 => ?_) (fun c1 => ?_)
    · refine lv_iconst (v := 1) hx hb dL_law_623 (by decide) ?_
      refine va_forget (fun q hq => hP.2.2.2.2 q hq) ?_
      refine W.widen (k := 600000) (n := 7302250) hcs.1 hcs.2 ?_
      exact lw_ret hx hb hr hlocks dL_law_624
    · have h5 := lw_five hL hj c1
      have w617 : ∀ (σ μ : Sg) (H : Heap) (locs : List Loc) (ls : Array Slot), Rel σ μ → LwP s EC EM σ μ H locs → lv_has ls 4 [(0, .ref b), (1, .ref (eA EC 0)), (2, .ref (eA EM 0)), (3, .int (nI j))] → W p l e room_1 s m #[Value.ref b] below meth c H locs cells slots (lw_Z below #[Value.ref b] s) (F0 m 617 ls []) := by
        intro σ μ H locs ls hR hP hl
        refine lv_iinc (v := nI (j + 5)) (lv' := [(3, .int (nI (j + 5))), (0, .ref b), (1, .ref (eA EC 0)), (2, .ref (eA EM 0))]) hx hb dL_law_617 hl (k := 3) rfl (nI_add j 5) (by decide) rfl (fun ls hl => ?_)
        refine lv_goto (tgt := 18) hx hb dL_law_620 (by decide) ?_
        exact ih (j + 5) σ μ H locs ls (by omega) (by omega) hR hP (lv_sub hl [1, 2, 3, 0] rfl)
      refine lv_aload_n hx hb dL_law_26 rfl (lv_at hl 0 rfl) ?_
      refine lv_iload_n hx hb dL_law_27 rfl (lv_at hl 3 rfl) ?_
      refine va_sld hx hb hX hbl hbA hP.2.2 (vp_in_nI (by omega) (by omega)) dL_law_28 ?_
      refine lv_bipush (v := 31) hx hb dL_law_29 (by decide) ?_
      refine lv_iand hx hb dL_law_31 ?_
      refine lv_topi (fun x _ => ?_)
      by_cases k0 : x = 0
      · refine lv_tableIn (off := 84) (tgt := 116) hx hb dL_law_32 (by rw [k0]; decide) (by rw [k0]; decide) (by rw [k0]; rfl) (by decide) ?_
        obtain ⟨v, σ1, μ1, hC, hM, hR1⟩ := h_line σ μ hR (xs (nI j + 1).toNatClampNeg) (xs (nI j + 2).toNatClampNeg) (xs (nI j + 3).toNatClampNeg)
        refine lv_aload_n hx hb dL_law_116 rfl (lv_at hl 1 rfl) ?_
        refine lv_aload_n hx hb dL_law_117 rfl (lv_at hl 0 rfl) ?_
        refine lv_iload_n hx hb dL_law_118 rfl (lv_at hl 3 rfl) ?_
        refine lv_iconst (v := 1) hx hb dL_law_119 (by decide) ?_
        refine lv_iadd hx hb dL_law_120 ?_
        refine va_sld hx hb hX hbl hbA hP.2.2 (lw_ix 1 hL h5 (by decide) rfl) dL_law_121 ?_
        refine lv_aload_n hx hb dL_law_122 rfl (lv_at hl 0 rfl) ?_
        refine lv_iload_n hx hb dL_law_123 rfl (lv_at hl 3 rfl) ?_
        refine lv_iconst (v := 2) hx hb dL_law_124 (by decide) ?_
        refine lv_iadd hx hb dL_law_125 ?_
        refine va_sld hx hb hX hbl hbA hP.2.2 (lw_ix 2 hL h5 (by decide) rfl) dL_law_126 ?_
        refine lv_aload_n hx hb dL_law_127 rfl (lv_at hl 0 rfl) ?_
        refine lv_iload_n hx hb dL_law_128 rfl (lv_at hl 3 rfl) ?_
        refine lv_iconst (v := 3) hx hb dL_law_129 (by decide) ?_
        refine lv_iadd hx hb dL_law_130 ?_
        refine va_sld hx hb hX hbl hbA hP.2.2 (lw_ix 3 hL h5 (by decide) rfl) dL_law_131 ?_
        refine lw_call (nL := 4) (As := [.int (xs (nI j + 1).toNatClampNeg), .int (xs (nI j + 2).toNatClampNeg), .int (xs (nI j + 3).toNatClampNeg)]) (rest := []) hx hb hml hown htw hKC hN hl hP.1 hP.2.1 hdis hloC hP.2.2 (by decide) rfl rfl (tX5_line l EC hjC _ _ _ _ _ hC) tk_190 tk_191 tk_192 tk_41 tk_193 rfl rfl hdX5_line ⟨Nat.le_of_ble_eq_true rfl, Nat.le_of_ble_eq_true rfl⟩ rfl rfl (Nat.le_of_ble_eq_true rfl) dL_law_132 hcs (fun H locs hPa hPb hSa => ?_)
        have hP : LwP s EC EM σ1 μ H locs := ⟨hPa, hPb, hSa⟩
        refine lv_aload_n hx hb dL_law_135 rfl (lv_at hl 2 rfl) ?_
        refine lv_aload_n hx hb dL_law_136 rfl (lv_at hl 0 rfl) ?_
        refine lv_iload_n hx hb dL_law_137 rfl (lv_at hl 3 rfl) ?_
        refine lv_iconst (v := 1) hx hb dL_law_138 (by decide) ?_
        refine lv_iadd hx hb dL_law_139 ?_
        refine va_sld hx hb hX hbl hbA hP.2.2 (lw_ix 1 hL h5 (by decide) rfl) dL_law_140 ?_
        refine lv_aload_n hx hb dL_law_141 rfl (lv_at hl 0 rfl) ?_
        refine lv_iload_n hx hb dL_law_142 rfl (lv_at hl 3 rfl) ?_
        refine lv_iconst (v := 2) hx hb dL_law_143 (by decide) ?_
        refine lv_iadd hx hb dL_law_144 ?_
        refine va_sld hx hb hX hbl hbA hP.2.2 (lw_ix 2 hL h5 (by decide) rfl) dL_law_145 ?_
        refine lv_aload_n hx hb dL_law_146 rfl (lv_at hl 0 rfl) ?_
        refine lv_iload_n hx hb dL_law_147 rfl (lv_at hl 3 rfl) ?_
        refine lv_iconst (v := 3) hx hb dL_law_148 (by decide) ?_
        refine lv_iadd hx hb dL_law_149 ?_
        refine va_sld hx hb hX hbl hbA hP.2.2 (lw_ix 3 hL h5 (by decide) rfl) dL_law_150 ?_
        refine lw_call (nL := 4) (As := [.int (xs (nI j + 1).toNatClampNeg), .int (xs (nI j + 2).toNatClampNeg), .int (xs (nI j + 3).toNatClampNeg)]) (rest := [.int v]) hx hb hml hown htw hKM hN hl hP.2.1 hP.1 (fun i j hi hj h => hdis j i hj hi h.symm) hloM hP.2.2 (by decide) rfl rfl (tX6_line l EM hjM _ _ _ _ _ hM) tk_516 tk_517 tk_518 tk_46 tk_519 rfl rfl hdX6_line ⟨Nat.le_of_ble_eq_true rfl, Nat.le_of_ble_eq_true rfl⟩ rfl rfl (Nat.le_of_ble_eq_true rfl) dL_law_151 hcs (fun H locs hPa hPb hSa => ?_)
        have hP : LwP s EC EM σ1 μ1 H locs := ⟨hPb, hPa, hSa⟩
        refine lv_icmp_eq (tgt := 617) hx hb dL_law_154 (by decide) (fun _ => ?_) (fun c9 => absurd rfl c9)
        exact w617 σ1 μ1 H locs ls hR1 hP hl
      by_cases k1 : x = 1
      · refine lv_tableIn (off := 127) (tgt := 159) hx hb dL_law_32 (by rw [k1]; decide) (by rw [k1]; decide) (by rw [k1]; rfl) (by decide) ?_
        obtain ⟨v, σ1, μ1, hC, hM, hR1⟩ := h_machine σ μ hR (xs (nI j + 1).toNatClampNeg) (xs (nI j + 2).toNatClampNeg) (xs (nI j + 3).toNatClampNeg) (xs (nI j + 4).toNatClampNeg)
        refine lv_aload_n hx hb dL_law_159 rfl (lv_at hl 1 rfl) ?_
        refine lv_aload_n hx hb dL_law_160 rfl (lv_at hl 0 rfl) ?_
        refine lv_iload_n hx hb dL_law_161 rfl (lv_at hl 3 rfl) ?_
        refine lv_iconst (v := 1) hx hb dL_law_162 (by decide) ?_
        refine lv_iadd hx hb dL_law_163 ?_
        refine va_sld hx hb hX hbl hbA hP.2.2 (lw_ix 1 hL h5 (by decide) rfl) dL_law_164 ?_
        refine lv_aload_n hx hb dL_law_165 rfl (lv_at hl 0 rfl) ?_
        refine lv_iload_n hx hb dL_law_166 rfl (lv_at hl 3 rfl) ?_
        refine lv_iconst (v := 2) hx hb dL_law_167 (by decide) ?_
        refine lv_iadd hx hb dL_law_168 ?_
        refine va_sld hx hb hX hbl hbA hP.2.2 (lw_ix 2 hL h5 (by decide) rfl) dL_law_169 ?_
        refine lv_aload_n hx hb dL_law_170 rfl (lv_at hl 0 rfl) ?_
        refine lv_iload_n hx hb dL_law_171 rfl (lv_at hl 3 rfl) ?_
        refine lv_iconst (v := 3) hx hb dL_law_172 (by decide) ?_
        refine lv_iadd hx hb dL_law_173 ?_
        refine va_sld hx hb hX hbl hbA hP.2.2 (lw_ix 3 hL h5 (by decide) rfl) dL_law_174 ?_
        refine lv_aload_n hx hb dL_law_175 rfl (lv_at hl 0 rfl) ?_
        refine lv_iload_n hx hb dL_law_176 rfl (lv_at hl 3 rfl) ?_
        refine lv_iconst (v := 4) hx hb dL_law_177 (by decide) ?_
        refine lv_iadd hx hb dL_law_178 ?_
        refine va_sld hx hb hX hbl hbA hP.2.2 (lw_ix 4 hL h5 (by decide) rfl) dL_law_179 ?_
        refine lw_call (nL := 4) (As := [.int (xs (nI j + 1).toNatClampNeg), .int (xs (nI j + 2).toNatClampNeg), .int (xs (nI j + 3).toNatClampNeg), .int (xs (nI j + 4).toNatClampNeg)]) (rest := []) hx hb hml hown htw hKC hN hl hP.1 hP.2.1 hdis hloC hP.2.2 (by decide) rfl rfl (tX5_machine l EC hjC _ _ _ _ _ _ hC) tk_229 tk_230 tk_231 tk_41 tk_232 rfl rfl hdX5_machine ⟨Nat.le_of_ble_eq_true rfl, Nat.le_of_ble_eq_true rfl⟩ rfl rfl (Nat.le_of_ble_eq_true rfl) dL_law_180 hcs (fun H locs hPa hPb hSa => ?_)
        have hP : LwP s EC EM σ1 μ H locs := ⟨hPa, hPb, hSa⟩
        refine lv_aload_n hx hb dL_law_183 rfl (lv_at hl 2 rfl) ?_
        refine lv_aload_n hx hb dL_law_184 rfl (lv_at hl 0 rfl) ?_
        refine lv_iload_n hx hb dL_law_185 rfl (lv_at hl 3 rfl) ?_
        refine lv_iconst (v := 1) hx hb dL_law_186 (by decide) ?_
        refine lv_iadd hx hb dL_law_187 ?_
        refine va_sld hx hb hX hbl hbA hP.2.2 (lw_ix 1 hL h5 (by decide) rfl) dL_law_188 ?_
        refine lv_aload_n hx hb dL_law_189 rfl (lv_at hl 0 rfl) ?_
        refine lv_iload_n hx hb dL_law_190 rfl (lv_at hl 3 rfl) ?_
        refine lv_iconst (v := 2) hx hb dL_law_191 (by decide) ?_
        refine lv_iadd hx hb dL_law_192 ?_
        refine va_sld hx hb hX hbl hbA hP.2.2 (lw_ix 2 hL h5 (by decide) rfl) dL_law_193 ?_
        refine lv_aload_n hx hb dL_law_194 rfl (lv_at hl 0 rfl) ?_
        refine lv_iload_n hx hb dL_law_195 rfl (lv_at hl 3 rfl) ?_
        refine lv_iconst (v := 3) hx hb dL_law_196 (by decide) ?_
        refine lv_iadd hx hb dL_law_197 ?_
        refine va_sld hx hb hX hbl hbA hP.2.2 (lw_ix 3 hL h5 (by decide) rfl) dL_law_198 ?_
        refine lv_aload_n hx hb dL_law_199 rfl (lv_at hl 0 rfl) ?_
        refine lv_iload_n hx hb dL_law_200 rfl (lv_at hl 3 rfl) ?_
        refine lv_iconst (v := 4) hx hb dL_law_201 (by decide) ?_
        refine lv_iadd hx hb dL_law_202 ?_
        refine va_sld hx hb hX hbl hbA hP.2.2 (lw_ix 4 hL h5 (by decide) rfl) dL_law_203 ?_
        refine lw_call (nL := 4) (As := [.int (xs (nI j + 1).toNatClampNeg), .int (xs (nI j + 2).toNatClampNeg), .int (xs (nI j + 3).toNatClampNeg), .int (xs (nI j + 4).toNatClampNeg)]) (rest := [.int v]) hx hb hml hown htw hKM hN hl hP.2.1 hP.1 (fun i j hi hj h => hdis j i hj hi h.symm) hloM hP.2.2 (by decide) rfl rfl (tX6_machine l EM hjM _ _ _ _ _ _ hM) tk_526 tk_527 tk_528 tk_46 tk_529 rfl rfl hdX6_machine ⟨Nat.le_of_ble_eq_true rfl, Nat.le_of_ble_eq_true rfl⟩ rfl rfl (Nat.le_of_ble_eq_true rfl) dL_law_204 hcs (fun H locs hPa hPb hSa => ?_)
        have hP : LwP s EC EM σ1 μ1 H locs := ⟨hPb, hPa, hSa⟩
        refine lv_icmp_eq (tgt := 617) hx hb dL_law_207 (by decide) (fun _ => ?_) (fun c9 => absurd rfl c9)
        exact w617 σ1 μ1 H locs ls hR1 hP hl
      by_cases k2 : x = 2
      · refine lv_tableIn (off := 180) (tgt := 212) hx hb dL_law_32 (by rw [k2]; decide) (by rw [k2]; decide) (by rw [k2]; rfl) (by decide) ?_
        obtain ⟨v, σ1, μ1, hC, hM, hR1⟩ := h_dark σ μ hR
        refine lv_aload_n hx hb dL_law_212 rfl (lv_at hl 1 rfl) ?_
        refine lw_call (nL := 4) (As := []) (rest := []) hx hb hml hown htw hKC hN hl hP.1 hP.2.1 hdis hloC hP.2.2 (by decide) rfl rfl (tX5_dark l EC hjC _ _ hC) tk_237 tk_238 tk_239 tk_41 tk_240 rfl rfl hdX5_dark ⟨Nat.le_of_ble_eq_true rfl, Nat.le_of_ble_eq_true rfl⟩ rfl rfl (Nat.le_of_ble_eq_true rfl) dL_law_213 hcs (fun H locs hPa hPb hSa => ?_)
        have hP : LwP s EC EM σ1 μ H locs := ⟨hPa, hPb, hSa⟩
        refine lv_aload_n hx hb dL_law_216 rfl (lv_at hl 2 rfl) ?_
        refine lw_call (nL := 4) (As := []) (rest := [.int v]) hx hb hml hown htw hKM hN hl hP.2.1 hP.1 (fun i j hi hj h => hdis j i hj hi h.symm) hloM hP.2.2 (by decide) rfl rfl (tX6_dark l EM hjM _ _ hM) tk_530 tk_531 tk_532 tk_46 tk_533 rfl rfl hdX6_dark ⟨Nat.le_of_ble_eq_true rfl, Nat.le_of_ble_eq_true rfl⟩ rfl rfl (Nat.le_of_ble_eq_true rfl) dL_law_217 hcs (fun H locs hPa hPb hSa => ?_)
        have hP : LwP s EC EM σ1 μ1 H locs := ⟨hPb, hPa, hSa⟩
        refine lv_icmp_eq (tgt := 617) hx hb dL_law_220 (by decide) (fun _ => ?_) (fun c9 => absurd rfl c9)
        exact w617 σ1 μ1 H locs ls hR1 hP hl
      by_cases k3 : x = 3
      · refine lv_tableIn (off := 193) (tgt := 225) hx hb dL_law_32 (by rw [k3]; decide) (by rw [k3]; decide) (by rw [k3]; rfl) (by decide) ?_
        obtain ⟨v, σ1, μ1, hC, hM, hR1⟩ := h_of σ μ hR (xs (nI j + 1).toNatClampNeg) (xs (nI j + 2).toNatClampNeg)
        refine lv_aload_n hx hb dL_law_225 rfl (lv_at hl 1 rfl) ?_
        refine lv_aload_n hx hb dL_law_226 rfl (lv_at hl 0 rfl) ?_
        refine lv_iload_n hx hb dL_law_227 rfl (lv_at hl 3 rfl) ?_
        refine lv_iconst (v := 1) hx hb dL_law_228 (by decide) ?_
        refine lv_iadd hx hb dL_law_229 ?_
        refine va_sld hx hb hX hbl hbA hP.2.2 (lw_ix 1 hL h5 (by decide) rfl) dL_law_230 ?_
        refine lv_aload_n hx hb dL_law_231 rfl (lv_at hl 0 rfl) ?_
        refine lv_iload_n hx hb dL_law_232 rfl (lv_at hl 3 rfl) ?_
        refine lv_iconst (v := 2) hx hb dL_law_233 (by decide) ?_
        refine lv_iadd hx hb dL_law_234 ?_
        refine va_sld hx hb hX hbl hbA hP.2.2 (lw_ix 2 hL h5 (by decide) rfl) dL_law_235 ?_
        refine lw_call (nL := 4) (As := [.int (xs (nI j + 1).toNatClampNeg), .int (xs (nI j + 2).toNatClampNeg)]) (rest := []) hx hb hml hown htw hKC hN hl hP.1 hP.2.1 hdis hloC hP.2.2 (by decide) rfl rfl (tX5_of l EC hjC _ _ _ _ hC) tk_250 tk_251 tk_252 tk_41 tk_253 rfl rfl hdX5_of ⟨Nat.le_of_ble_eq_true rfl, Nat.le_of_ble_eq_true rfl⟩ rfl rfl (Nat.le_of_ble_eq_true rfl) dL_law_236 hcs (fun H locs hPa hPb hSa => ?_)
        have hP : LwP s EC EM σ1 μ H locs := ⟨hPa, hPb, hSa⟩
        refine lv_aload_n hx hb dL_law_239 rfl (lv_at hl 2 rfl) ?_
        refine lv_aload_n hx hb dL_law_240 rfl (lv_at hl 0 rfl) ?_
        refine lv_iload_n hx hb dL_law_241 rfl (lv_at hl 3 rfl) ?_
        refine lv_iconst (v := 1) hx hb dL_law_242 (by decide) ?_
        refine lv_iadd hx hb dL_law_243 ?_
        refine va_sld hx hb hX hbl hbA hP.2.2 (lw_ix 1 hL h5 (by decide) rfl) dL_law_244 ?_
        refine lv_aload_n hx hb dL_law_245 rfl (lv_at hl 0 rfl) ?_
        refine lv_iload_n hx hb dL_law_246 rfl (lv_at hl 3 rfl) ?_
        refine lv_iconst (v := 2) hx hb dL_law_247 (by decide) ?_
        refine lv_iadd hx hb dL_law_248 ?_
        refine va_sld hx hb hX hbl hbA hP.2.2 (lw_ix 2 hL h5 (by decide) rfl) dL_law_249 ?_
        refine lw_call (nL := 4) (As := [.int (xs (nI j + 1).toNatClampNeg), .int (xs (nI j + 2).toNatClampNeg)]) (rest := [.int v]) hx hb hml hown htw hKM hN hl hP.2.1 hP.1 (fun i j hi hj h => hdis j i hj hi h.symm) hloM hP.2.2 (by decide) rfl rfl (tX6_of l EM hjM _ _ _ _ hM) tk_534 tk_535 tk_536 tk_46 tk_537 rfl rfl hdX6_of ⟨Nat.le_of_ble_eq_true rfl, Nat.le_of_ble_eq_true rfl⟩ rfl rfl (Nat.le_of_ble_eq_true rfl) dL_law_250 hcs (fun H locs hPa hPb hSa => ?_)
        have hP : LwP s EC EM σ1 μ1 H locs := ⟨hPb, hPa, hSa⟩
        refine lv_icmp_eq (tgt := 617) hx hb dL_law_253 (by decide) (fun _ => ?_) (fun c9 => absurd rfl c9)
        exact w617 σ1 μ1 H locs ls hR1 hP hl
      by_cases k4 : x = 4
      · refine lv_tableIn (off := 226) (tgt := 258) hx hb dL_law_32 (by rw [k4]; decide) (by rw [k4]; decide) (by rw [k4]; rfl) (by decide) ?_
        obtain ⟨v, σ1, μ1, hC, hM, hR1⟩ := h_at σ μ hR (xs (nI j + 1).toNatClampNeg) (xs (nI j + 2).toNatClampNeg)
        refine lv_aload_n hx hb dL_law_258 rfl (lv_at hl 1 rfl) ?_
        refine lv_aload_n hx hb dL_law_259 rfl (lv_at hl 0 rfl) ?_
        refine lv_iload_n hx hb dL_law_260 rfl (lv_at hl 3 rfl) ?_
        refine lv_iconst (v := 1) hx hb dL_law_261 (by decide) ?_
        refine lv_iadd hx hb dL_law_262 ?_
        refine va_sld hx hb hX hbl hbA hP.2.2 (lw_ix 1 hL h5 (by decide) rfl) dL_law_263 ?_
        refine lv_aload_n hx hb dL_law_264 rfl (lv_at hl 0 rfl) ?_
        refine lv_iload_n hx hb dL_law_265 rfl (lv_at hl 3 rfl) ?_
        refine lv_iconst (v := 2) hx hb dL_law_266 (by decide) ?_
        refine lv_iadd hx hb dL_law_267 ?_
        refine va_sld hx hb hX hbl hbA hP.2.2 (lw_ix 2 hL h5 (by decide) rfl) dL_law_268 ?_
        refine lw_call (nL := 4) (As := [.int (xs (nI j + 1).toNatClampNeg), .int (xs (nI j + 2).toNatClampNeg)]) (rest := []) hx hb hml hown htw hKC hN hl hP.1 hP.2.1 hdis hloC hP.2.2 (by decide) rfl rfl (tX5_at l EC hjC _ _ _ _ hC) tk_262 tk_263 tk_264 tk_41 tk_265 rfl rfl hdX5_at ⟨Nat.le_of_ble_eq_true rfl, Nat.le_of_ble_eq_true rfl⟩ rfl rfl (Nat.le_of_ble_eq_true rfl) dL_law_269 hcs (fun H locs hPa hPb hSa => ?_)
        have hP : LwP s EC EM σ1 μ H locs := ⟨hPa, hPb, hSa⟩
        refine lv_aload_n hx hb dL_law_272 rfl (lv_at hl 2 rfl) ?_
        refine lv_aload_n hx hb dL_law_273 rfl (lv_at hl 0 rfl) ?_
        refine lv_iload_n hx hb dL_law_274 rfl (lv_at hl 3 rfl) ?_
        refine lv_iconst (v := 1) hx hb dL_law_275 (by decide) ?_
        refine lv_iadd hx hb dL_law_276 ?_
        refine va_sld hx hb hX hbl hbA hP.2.2 (lw_ix 1 hL h5 (by decide) rfl) dL_law_277 ?_
        refine lv_aload_n hx hb dL_law_278 rfl (lv_at hl 0 rfl) ?_
        refine lv_iload_n hx hb dL_law_279 rfl (lv_at hl 3 rfl) ?_
        refine lv_iconst (v := 2) hx hb dL_law_280 (by decide) ?_
        refine lv_iadd hx hb dL_law_281 ?_
        refine va_sld hx hb hX hbl hbA hP.2.2 (lw_ix 2 hL h5 (by decide) rfl) dL_law_282 ?_
        refine lw_call (nL := 4) (As := [.int (xs (nI j + 1).toNatClampNeg), .int (xs (nI j + 2).toNatClampNeg)]) (rest := [.int v]) hx hb hml hown htw hKM hN hl hP.2.1 hP.1 (fun i j hi hj h => hdis j i hj hi h.symm) hloM hP.2.2 (by decide) rfl rfl (tX6_at l EM hjM _ _ _ _ hM) tk_542 tk_543 tk_544 tk_46 tk_545 rfl rfl hdX6_at ⟨Nat.le_of_ble_eq_true rfl, Nat.le_of_ble_eq_true rfl⟩ rfl rfl (Nat.le_of_ble_eq_true rfl) dL_law_283 hcs (fun H locs hPa hPb hSa => ?_)
        have hP : LwP s EC EM σ1 μ1 H locs := ⟨hPb, hPa, hSa⟩
        refine lv_icmp_eq (tgt := 617) hx hb dL_law_286 (by decide) (fun _ => ?_) (fun c9 => absurd rfl c9)
        exact w617 σ1 μ1 H locs ls hR1 hP hl
      by_cases k5 : x = 5
      · refine lv_tableIn (off := 259) (tgt := 291) hx hb dL_law_32 (by rw [k5]; decide) (by rw [k5]; decide) (by rw [k5]; rfl) (by decide) ?_
        obtain ⟨v, σ1, μ1, hC, hM, hR1⟩ := h_bus σ μ hR (xs (nI j + 1).toNatClampNeg) (xs (nI j + 2).toNatClampNeg)
        refine lv_aload_n hx hb dL_law_291 rfl (lv_at hl 1 rfl) ?_
        refine lv_aload_n hx hb dL_law_292 rfl (lv_at hl 0 rfl) ?_
        refine lv_iload_n hx hb dL_law_293 rfl (lv_at hl 3 rfl) ?_
        refine lv_iconst (v := 1) hx hb dL_law_294 (by decide) ?_
        refine lv_iadd hx hb dL_law_295 ?_
        refine va_sld hx hb hX hbl hbA hP.2.2 (lw_ix 1 hL h5 (by decide) rfl) dL_law_296 ?_
        refine lv_aload_n hx hb dL_law_297 rfl (lv_at hl 0 rfl) ?_
        refine lv_iload_n hx hb dL_law_298 rfl (lv_at hl 3 rfl) ?_
        refine lv_iconst (v := 2) hx hb dL_law_299 (by decide) ?_
        refine lv_iadd hx hb dL_law_300 ?_
        refine va_sld hx hb hX hbl hbA hP.2.2 (lw_ix 2 hL h5 (by decide) rfl) dL_law_301 ?_
        refine lw_call (nL := 4) (As := [.int (xs (nI j + 1).toNatClampNeg), .int (xs (nI j + 2).toNatClampNeg)]) (rest := []) hx hb hml hown htw hKC hN hl hP.1 hP.2.1 hdis hloC hP.2.2 (by decide) rfl rfl (tX5_bus l EC hjC _ _ _ _ hC) tk_281 tk_282 tk_283 tk_41 tk_284 rfl rfl hdX5_bus ⟨Nat.le_of_ble_eq_true rfl, Nat.le_of_ble_eq_true rfl⟩ rfl rfl (Nat.le_of_ble_eq_true rfl) dL_law_302 hcs (fun H locs hPa hPb hSa => ?_)
        have hP : LwP s EC EM σ1 μ H locs := ⟨hPa, hPb, hSa⟩
        refine lv_aload_n hx hb dL_law_305 rfl (lv_at hl 2 rfl) ?_
        refine lv_aload_n hx hb dL_law_306 rfl (lv_at hl 0 rfl) ?_
        refine lv_iload_n hx hb dL_law_307 rfl (lv_at hl 3 rfl) ?_
        refine lv_iconst (v := 1) hx hb dL_law_308 (by decide) ?_
        refine lv_iadd hx hb dL_law_309 ?_
        refine va_sld hx hb hX hbl hbA hP.2.2 (lw_ix 1 hL h5 (by decide) rfl) dL_law_310 ?_
        refine lv_aload_n hx hb dL_law_311 rfl (lv_at hl 0 rfl) ?_
        refine lv_iload_n hx hb dL_law_312 rfl (lv_at hl 3 rfl) ?_
        refine lv_iconst (v := 2) hx hb dL_law_313 (by decide) ?_
        refine lv_iadd hx hb dL_law_314 ?_
        refine va_sld hx hb hX hbl hbA hP.2.2 (lw_ix 2 hL h5 (by decide) rfl) dL_law_315 ?_
        refine lw_call (nL := 4) (As := [.int (xs (nI j + 1).toNatClampNeg), .int (xs (nI j + 2).toNatClampNeg)]) (rest := [.int v]) hx hb hml hown htw hKM hN hl hP.2.1 hP.1 (fun i j hi hj h => hdis j i hj hi h.symm) hloM hP.2.2 (by decide) rfl rfl (tX6_bus l EM hjM _ _ _ _ hM) tk_550 tk_551 tk_552 tk_46 tk_553 rfl rfl hdX6_bus ⟨Nat.le_of_ble_eq_true rfl, Nat.le_of_ble_eq_true rfl⟩ rfl rfl (Nat.le_of_ble_eq_true rfl) dL_law_316 hcs (fun H locs hPa hPb hSa => ?_)
        have hP : LwP s EC EM σ1 μ1 H locs := ⟨hPb, hPa, hSa⟩
        refine lv_icmp_eq (tgt := 617) hx hb dL_law_319 (by decide) (fun _ => ?_) (fun c9 => absurd rfl c9)
        exact w617 σ1 μ1 H locs ls hR1 hP hl
      by_cases k6 : x = 6
      · refine lv_tableIn (off := 292) (tgt := 324) hx hb dL_law_32 (by rw [k6]; decide) (by rw [k6]; decide) (by rw [k6]; rfl) (by decide) ?_
        obtain ⟨v, σ1, μ1, hC, hM, hR1⟩ := h_can σ μ hR
        refine lv_aload_n hx hb dL_law_324 rfl (lv_at hl 1 rfl) ?_
        refine lw_call (nL := 4) (As := []) (rest := []) hx hb hml hown htw hKC hN hl hP.1 hP.2.1 hdis hloC hP.2.2 (by decide) rfl rfl (tX5_can l EC hjC _ _ hC) tk_307 tk_308 tk_309 tk_41 tk_310 rfl rfl hdX5_can ⟨Nat.le_of_ble_eq_true rfl, Nat.le_of_ble_eq_true rfl⟩ rfl rfl (Nat.le_of_ble_eq_true rfl) dL_law_325 hcs (fun H locs hPa hPb hSa => ?_)
        have hP : LwP s EC EM σ1 μ H locs := ⟨hPa, hPb, hSa⟩
        refine lv_aload_n hx hb dL_law_328 rfl (lv_at hl 2 rfl) ?_
        refine lw_call (nL := 4) (As := []) (rest := [.int v]) hx hb hml hown htw hKM hN hl hP.2.1 hP.1 (fun i j hi hj h => hdis j i hj hi h.symm) hloM hP.2.2 (by decide) rfl rfl (tX6_can l EM hjM _ _ hM) tk_574 tk_575 tk_576 tk_46 tk_577 rfl rfl hdX6_can ⟨Nat.le_of_ble_eq_true rfl, Nat.le_of_ble_eq_true rfl⟩ rfl rfl (Nat.le_of_ble_eq_true rfl) dL_law_329 hcs (fun H locs hPa hPb hSa => ?_)
        have hP : LwP s EC EM σ1 μ1 H locs := ⟨hPb, hPa, hSa⟩
        refine lv_icmp_eq (tgt := 617) hx hb dL_law_332 (by decide) (fun _ => ?_) (fun c9 => absurd rfl c9)
        exact w617 σ1 μ1 H locs ls hR1 hP hl
      by_cases k7 : x = 7
      · refine lv_tableIn (off := 305) (tgt := 337) hx hb dL_law_32 (by rw [k7]; decide) (by rw [k7]; decide) (by rw [k7]; rfl) (by decide) ?_
        obtain ⟨v, σ1, μ1, hC, hM, hR1⟩ := h_tick σ μ hR (xs (nI j + 1).toNatClampNeg)
        refine lv_aload_n hx hb dL_law_337 rfl (lv_at hl 1 rfl) ?_
        refine lv_aload_n hx hb dL_law_338 rfl (lv_at hl 0 rfl) ?_
        refine lv_iload_n hx hb dL_law_339 rfl (lv_at hl 3 rfl) ?_
        refine lv_iconst (v := 1) hx hb dL_law_340 (by decide) ?_
        refine lv_iadd hx hb dL_law_341 ?_
        refine va_sld hx hb hX hbl hbA hP.2.2 (lw_ix 1 hL h5 (by decide) rfl) dL_law_342 ?_
        refine lw_call (nL := 4) (As := [.int (xs (nI j + 1).toNatClampNeg)]) (rest := []) hx hb hml hown htw hKC hN hl hP.1 hP.2.1 hdis hloC hP.2.2 (by decide) rfl rfl (tX5_tick l EC hjC _ _ _ hC) tk_325 tk_326 tk_327 tk_41 tk_328 rfl rfl hdX5_tick ⟨Nat.le_of_ble_eq_true rfl, Nat.le_of_ble_eq_true rfl⟩ rfl rfl (Nat.le_of_ble_eq_true rfl) dL_law_343 hcs (fun H locs hPa hPb hSa => ?_)
        have hP : LwP s EC EM σ1 μ H locs := ⟨hPa, hPb, hSa⟩
        refine lv_aload_n hx hb dL_law_346 rfl (lv_at hl 2 rfl) ?_
        refine lv_aload_n hx hb dL_law_347 rfl (lv_at hl 0 rfl) ?_
        refine lv_iload_n hx hb dL_law_348 rfl (lv_at hl 3 rfl) ?_
        refine lv_iconst (v := 1) hx hb dL_law_349 (by decide) ?_
        refine lv_iadd hx hb dL_law_350 ?_
        refine va_sld hx hb hX hbl hbA hP.2.2 (lw_ix 1 hL h5 (by decide) rfl) dL_law_351 ?_
        refine lw_call (nL := 4) (As := [.int (xs (nI j + 1).toNatClampNeg)]) (rest := [.int v]) hx hb hml hown htw hKM hN hl hP.2.1 hP.1 (fun i j hi hj h => hdis j i hj hi h.symm) hloM hP.2.2 (by decide) rfl rfl (tX6_tick l EM hjM _ _ _ hM) tk_590 tk_591 tk_592 tk_46 tk_593 rfl rfl hdX6_tick ⟨Nat.le_of_ble_eq_true rfl, Nat.le_of_ble_eq_true rfl⟩ rfl rfl (Nat.le_of_ble_eq_true rfl) dL_law_352 hcs (fun H locs hPa hPb hSa => ?_)
        have hP : LwP s EC EM σ1 μ1 H locs := ⟨hPb, hPa, hSa⟩
        refine lv_icmp_eq (tgt := 617) hx hb dL_law_355 (by decide) (fun _ => ?_) (fun c9 => absurd rfl c9)
        exact w617 σ1 μ1 H locs ls hR1 hP hl
      by_cases k8 : x = 8
      · refine lv_tableIn (off := 328) (tgt := 360) hx hb dL_law_32 (by rw [k8]; decide) (by rw [k8]; decide) (by rw [k8]; rfl) (by decide) ?_
        obtain ⟨v, σ1, μ1, hC, hM, hR1⟩ := h_fail σ μ hR (xs (nI j + 1).toNatClampNeg)
        refine lv_aload_n hx hb dL_law_360 rfl (lv_at hl 1 rfl) ?_
        refine lv_aload_n hx hb dL_law_361 rfl (lv_at hl 0 rfl) ?_
        refine lv_iload_n hx hb dL_law_362 rfl (lv_at hl 3 rfl) ?_
        refine lv_iconst (v := 1) hx hb dL_law_363 (by decide) ?_
        refine lv_iadd hx hb dL_law_364 ?_
        refine va_sld hx hb hX hbl hbA hP.2.2 (lw_ix 1 hL h5 (by decide) rfl) dL_law_365 ?_
        refine lw_call (nL := 4) (As := [.int (xs (nI j + 1).toNatClampNeg)]) (rest := []) hx hb hml hown htw hKC hN hl hP.1 hP.2.1 hdis hloC hP.2.2 (by decide) rfl rfl (tX5_fail l EC hjC _ _ _ hC) tk_348 tk_349 tk_350 tk_41 tk_351 rfl rfl hdX5_fail ⟨Nat.le_of_ble_eq_true rfl, Nat.le_of_ble_eq_true rfl⟩ rfl rfl (Nat.le_of_ble_eq_true rfl) dL_law_366 hcs (fun H locs hPa hPb hSa => ?_)
        have hP : LwP s EC EM σ1 μ H locs := ⟨hPa, hPb, hSa⟩
        refine lv_aload_n hx hb dL_law_369 rfl (lv_at hl 2 rfl) ?_
        refine lv_aload_n hx hb dL_law_370 rfl (lv_at hl 0 rfl) ?_
        refine lv_iload_n hx hb dL_law_371 rfl (lv_at hl 3 rfl) ?_
        refine lv_iconst (v := 1) hx hb dL_law_372 (by decide) ?_
        refine lv_iadd hx hb dL_law_373 ?_
        refine va_sld hx hb hX hbl hbA hP.2.2 (lw_ix 1 hL h5 (by decide) rfl) dL_law_374 ?_
        refine lw_call (nL := 4) (As := [.int (xs (nI j + 1).toNatClampNeg)]) (rest := [.int v]) hx hb hml hown htw hKM hN hl hP.2.1 hP.1 (fun i j hi hj h => hdis j i hj hi h.symm) hloM hP.2.2 (by decide) rfl rfl (tX6_fail l EM hjM _ _ _ hM) tk_606 tk_607 tk_608 tk_46 tk_609 rfl rfl hdX6_fail ⟨Nat.le_of_ble_eq_true rfl, Nat.le_of_ble_eq_true rfl⟩ rfl rfl (Nat.le_of_ble_eq_true rfl) dL_law_375 hcs (fun H locs hPa hPb hSa => ?_)
        have hP : LwP s EC EM σ1 μ1 H locs := ⟨hPb, hPa, hSa⟩
        refine lv_icmp_eq (tgt := 617) hx hb dL_law_378 (by decide) (fun _ => ?_) (fun c9 => absurd rfl c9)
        exact w617 σ1 μ1 H locs ls hR1 hP hl
      by_cases k9 : x = 9
      · refine lv_tableIn (off := 351) (tgt := 383) hx hb dL_law_32 (by rw [k9]; decide) (by rw [k9]; decide) (by rw [k9]; rfl) (by decide) ?_
        obtain ⟨v, σ1, μ1, hC, hM, hR1⟩ := h_trip σ μ hR (xs (nI j + 1).toNatClampNeg)
        refine lv_aload_n hx hb dL_law_383 rfl (lv_at hl 1 rfl) ?_
        refine lv_aload_n hx hb dL_law_384 rfl (lv_at hl 0 rfl) ?_
        refine lv_iload_n hx hb dL_law_385 rfl (lv_at hl 3 rfl) ?_
        refine lv_iconst (v := 1) hx hb dL_law_386 (by decide) ?_
        refine lv_iadd hx hb dL_law_387 ?_
        refine va_sld hx hb hX hbl hbA hP.2.2 (lw_ix 1 hL h5 (by decide) rfl) dL_law_388 ?_
        refine lw_call (nL := 4) (As := [.int (xs (nI j + 1).toNatClampNeg)]) (rest := []) hx hb hml hown htw hKC hN hl hP.1 hP.2.1 hdis hloC hP.2.2 (by decide) rfl rfl (tX5_trip l EC hjC _ _ _ hC) tk_367 tk_368 tk_369 tk_41 tk_370 rfl rfl hdX5_trip ⟨Nat.le_of_ble_eq_true rfl, Nat.le_of_ble_eq_true rfl⟩ rfl rfl (Nat.le_of_ble_eq_true rfl) dL_law_389 hcs (fun H locs hPa hPb hSa => ?_)
        have hP : LwP s EC EM σ1 μ H locs := ⟨hPa, hPb, hSa⟩
        refine lv_aload_n hx hb dL_law_392 rfl (lv_at hl 2 rfl) ?_
        refine lv_aload_n hx hb dL_law_393 rfl (lv_at hl 0 rfl) ?_
        refine lv_iload_n hx hb dL_law_394 rfl (lv_at hl 3 rfl) ?_
        refine lv_iconst (v := 1) hx hb dL_law_395 (by decide) ?_
        refine lv_iadd hx hb dL_law_396 ?_
        refine va_sld hx hb hX hbl hbA hP.2.2 (lw_ix 1 hL h5 (by decide) rfl) dL_law_397 ?_
        refine lw_call (nL := 4) (As := [.int (xs (nI j + 1).toNatClampNeg)]) (rest := [.int v]) hx hb hml hown htw hKM hN hl hP.2.1 hP.1 (fun i j hi hj h => hdis j i hj hi h.symm) hloM hP.2.2 (by decide) rfl rfl (tX6_trip l EM hjM _ _ _ hM) tk_614 tk_615 tk_616 tk_46 tk_617 rfl rfl hdX6_trip ⟨Nat.le_of_ble_eq_true rfl, Nat.le_of_ble_eq_true rfl⟩ rfl rfl (Nat.le_of_ble_eq_true rfl) dL_law_398 hcs (fun H locs hPa hPb hSa => ?_)
        have hP : LwP s EC EM σ1 μ1 H locs := ⟨hPb, hPa, hSa⟩
        refine lv_icmp_eq (tgt := 617) hx hb dL_law_401 (by decide) (fun _ => ?_) (fun c9 => absurd rfl c9)
        exact w617 σ1 μ1 H locs ls hR1 hP hl
      by_cases k10 : x = 10
      · refine lv_tableIn (off := 374) (tgt := 406) hx hb dL_law_32 (by rw [k10]; decide) (by rw [k10]; decide) (by rw [k10]; rfl) (by decide) ?_
        obtain ⟨v, σ1, μ1, hC, hM, hR1⟩ := h_way σ μ hR (xs (nI j + 1).toNatClampNeg) (xs (nI j + 2).toNatClampNeg) (xs (nI j + 3).toNatClampNeg)
        refine lv_aload_n hx hb dL_law_406 rfl (lv_at hl 1 rfl) ?_
        refine lv_aload_n hx hb dL_law_407 rfl (lv_at hl 0 rfl) ?_
        refine lv_iload_n hx hb dL_law_408 rfl (lv_at hl 3 rfl) ?_
        refine lv_iconst (v := 1) hx hb dL_law_409 (by decide) ?_
        refine lv_iadd hx hb dL_law_410 ?_
        refine va_sld hx hb hX hbl hbA hP.2.2 (lw_ix 1 hL h5 (by decide) rfl) dL_law_411 ?_
        refine lv_aload_n hx hb dL_law_412 rfl (lv_at hl 0 rfl) ?_
        refine lv_iload_n hx hb dL_law_413 rfl (lv_at hl 3 rfl) ?_
        refine lv_iconst (v := 2) hx hb dL_law_414 (by decide) ?_
        refine lv_iadd hx hb dL_law_415 ?_
        refine va_sld hx hb hX hbl hbA hP.2.2 (lw_ix 2 hL h5 (by decide) rfl) dL_law_416 ?_
        refine lv_aload_n hx hb dL_law_417 rfl (lv_at hl 0 rfl) ?_
        refine lv_iload_n hx hb dL_law_418 rfl (lv_at hl 3 rfl) ?_
        refine lv_iconst (v := 3) hx hb dL_law_419 (by decide) ?_
        refine lv_iadd hx hb dL_law_420 ?_
        refine va_sld hx hb hX hbl hbA hP.2.2 (lw_ix 3 hL h5 (by decide) rfl) dL_law_421 ?_
        refine lw_call (nL := 4) (As := [.int (xs (nI j + 1).toNatClampNeg), .int (xs (nI j + 2).toNatClampNeg), .int (xs (nI j + 3).toNatClampNeg)]) (rest := []) hx hb hml hown htw hKC hN hl hP.1 hP.2.1 hdis hloC hP.2.2 (by decide) rfl rfl (tX5_way l EC hjC _ _ _ _ _ hC) tk_371 tk_372 tk_373 tk_41 tk_374 rfl rfl hdX5_way ⟨Nat.le_of_ble_eq_true rfl, Nat.le_of_ble_eq_true rfl⟩ rfl rfl (Nat.le_of_ble_eq_true rfl) dL_law_422 hcs (fun H locs hPa hPb hSa => ?_)
        have hP : LwP s EC EM σ1 μ H locs := ⟨hPa, hPb, hSa⟩
        refine lv_aload_n hx hb dL_law_425 rfl (lv_at hl 2 rfl) ?_
        refine lv_aload_n hx hb dL_law_426 rfl (lv_at hl 0 rfl) ?_
        refine lv_iload_n hx hb dL_law_427 rfl (lv_at hl 3 rfl) ?_
        refine lv_iconst (v := 1) hx hb dL_law_428 (by decide) ?_
        refine lv_iadd hx hb dL_law_429 ?_
        refine va_sld hx hb hX hbl hbA hP.2.2 (lw_ix 1 hL h5 (by decide) rfl) dL_law_430 ?_
        refine lv_aload_n hx hb dL_law_431 rfl (lv_at hl 0 rfl) ?_
        refine lv_iload_n hx hb dL_law_432 rfl (lv_at hl 3 rfl) ?_
        refine lv_iconst (v := 2) hx hb dL_law_433 (by decide) ?_
        refine lv_iadd hx hb dL_law_434 ?_
        refine va_sld hx hb hX hbl hbA hP.2.2 (lw_ix 2 hL h5 (by decide) rfl) dL_law_435 ?_
        refine lv_aload_n hx hb dL_law_436 rfl (lv_at hl 0 rfl) ?_
        refine lv_iload_n hx hb dL_law_437 rfl (lv_at hl 3 rfl) ?_
        refine lv_iconst (v := 3) hx hb dL_law_438 (by decide) ?_
        refine lv_iadd hx hb dL_law_439 ?_
        refine va_sld hx hb hX hbl hbA hP.2.2 (lw_ix 3 hL h5 (by decide) rfl) dL_law_440 ?_
        refine lw_call (nL := 4) (As := [.int (xs (nI j + 1).toNatClampNeg), .int (xs (nI j + 2).toNatClampNeg), .int (xs (nI j + 3).toNatClampNeg)]) (rest := [.int v]) hx hb hml hown htw hKM hN hl hP.2.1 hP.1 (fun i j hi hj h => hdis j i hj hi h.symm) hloM hP.2.2 (by decide) rfl rfl (tX6_way l EM hjM _ _ _ _ _ hM) tk_618 tk_619 tk_620 tk_46 tk_621 rfl rfl hdX6_way ⟨Nat.le_of_ble_eq_true rfl, Nat.le_of_ble_eq_true rfl⟩ rfl rfl (Nat.le_of_ble_eq_true rfl) dL_law_441 hcs (fun H locs hPa hPb hSa => ?_)
        have hP : LwP s EC EM σ1 μ1 H locs := ⟨hPb, hPa, hSa⟩
        refine lv_icmp_eq (tgt := 617) hx hb dL_law_444 (by decide) (fun _ => ?_) (fun c9 => absurd rfl c9)
        exact w617 σ1 μ1 H locs ls hR1 hP hl
      by_cases k11 : x = 11
      · refine lv_tableIn (off := 417) (tgt := 449) hx hb dL_law_32 (by rw [k11]; decide) (by rw [k11]; decide) (by rw [k11]; rfl) (by decide) ?_
        obtain ⟨v, σ1, μ1, hC, hM, hR1⟩ := h_go σ μ hR (xs (nI j + 1).toNatClampNeg) (xs (nI j + 2).toNatClampNeg)
        refine lv_aload_n hx hb dL_law_449 rfl (lv_at hl 1 rfl) ?_
        refine lv_aload_n hx hb dL_law_450 rfl (lv_at hl 0 rfl) ?_
        refine lv_iload_n hx hb dL_law_451 rfl (lv_at hl 3 rfl) ?_
        refine lv_iconst (v := 1) hx hb dL_law_452 (by decide) ?_
        refine lv_iadd hx hb dL_law_453 ?_
        refine va_sld hx hb hX hbl hbA hP.2.2 (lw_ix 1 hL h5 (by decide) rfl) dL_law_454 ?_
        refine lv_aload_n hx hb dL_law_455 rfl (lv_at hl 0 rfl) ?_
        refine lv_iload_n hx hb dL_law_456 rfl (lv_at hl 3 rfl) ?_
        refine lv_iconst (v := 2) hx hb dL_law_457 (by decide) ?_
        refine lv_iadd hx hb dL_law_458 ?_
        refine va_sld hx hb hX hbl hbA hP.2.2 (lw_ix 2 hL h5 (by decide) rfl) dL_law_459 ?_
        refine lw_call (nL := 4) (As := [.int (xs (nI j + 1).toNatClampNeg), .int (xs (nI j + 2).toNatClampNeg)]) (rest := []) hx hb hml hown htw hKC hN hl hP.1 hP.2.1 hdis hloC hP.2.2 (by decide) rfl rfl (tX5_go l EC hjC _ _ _ _ hC) tk_415 tk_416 tk_417 tk_41 tk_418 rfl rfl hdX5_go ⟨Nat.le_of_ble_eq_true rfl, Nat.le_of_ble_eq_true rfl⟩ rfl rfl (Nat.le_of_ble_eq_true rfl) dL_law_460 hcs (fun H locs hPa hPb hSa => ?_)
        have hP : LwP s EC EM σ1 μ H locs := ⟨hPa, hPb, hSa⟩
        refine lv_aload_n hx hb dL_law_463 rfl (lv_at hl 2 rfl) ?_
        refine lv_aload_n hx hb dL_law_464 rfl (lv_at hl 0 rfl) ?_
        refine lv_iload_n hx hb dL_law_465 rfl (lv_at hl 3 rfl) ?_
        refine lv_iconst (v := 1) hx hb dL_law_466 (by decide) ?_
        refine lv_iadd hx hb dL_law_467 ?_
        refine va_sld hx hb hX hbl hbA hP.2.2 (lw_ix 1 hL h5 (by decide) rfl) dL_law_468 ?_
        refine lv_aload_n hx hb dL_law_469 rfl (lv_at hl 0 rfl) ?_
        refine lv_iload_n hx hb dL_law_470 rfl (lv_at hl 3 rfl) ?_
        refine lv_iconst (v := 2) hx hb dL_law_471 (by decide) ?_
        refine lv_iadd hx hb dL_law_472 ?_
        refine va_sld hx hb hX hbl hbA hP.2.2 (lw_ix 2 hL h5 (by decide) rfl) dL_law_473 ?_
        refine lw_call (nL := 4) (As := [.int (xs (nI j + 1).toNatClampNeg), .int (xs (nI j + 2).toNatClampNeg)]) (rest := [.int v]) hx hb hml hown htw hKM hN hl hP.2.1 hP.1 (fun i j hi hj h => hdis j i hj hi h.symm) hloM hP.2.2 (by decide) rfl rfl (tX6_go l EM hjM _ _ _ _ hM) tk_670 tk_671 tk_672 tk_46 tk_673 rfl rfl hdX6_go ⟨Nat.le_of_ble_eq_true rfl, Nat.le_of_ble_eq_true rfl⟩ rfl rfl (Nat.le_of_ble_eq_true rfl) dL_law_474 hcs (fun H locs hPa hPb hSa => ?_)
        have hP : LwP s EC EM σ1 μ1 H locs := ⟨hPb, hPa, hSa⟩
        refine lv_icmp_eq (tgt := 617) hx hb dL_law_477 (by decide) (fun _ => ?_) (fun c9 => absurd rfl c9)
        exact w617 σ1 μ1 H locs ls hR1 hP hl
      by_cases k12 : x = 12
      · refine lv_tableIn (off := 450) (tgt := 482) hx hb dL_law_32 (by rw [k12]; decide) (by rw [k12]; decide) (by rw [k12]; rfl) (by decide) ?_
        obtain ⟨v, σ1, μ1, hC, hM, hR1⟩ := h_needed σ μ hR (xs (nI j + 1).toNatClampNeg) (xs (nI j + 2).toNatClampNeg) (xs (nI j + 3).toNatClampNeg)
        refine lv_aload_n hx hb dL_law_482 rfl (lv_at hl 1 rfl) ?_
        refine lv_aload_n hx hb dL_law_483 rfl (lv_at hl 0 rfl) ?_
        refine lv_iload_n hx hb dL_law_484 rfl (lv_at hl 3 rfl) ?_
        refine lv_iconst (v := 1) hx hb dL_law_485 (by decide) ?_
        refine lv_iadd hx hb dL_law_486 ?_
        refine va_sld hx hb hX hbl hbA hP.2.2 (lw_ix 1 hL h5 (by decide) rfl) dL_law_487 ?_
        refine lv_aload_n hx hb dL_law_488 rfl (lv_at hl 0 rfl) ?_
        refine lv_iload_n hx hb dL_law_489 rfl (lv_at hl 3 rfl) ?_
        refine lv_iconst (v := 2) hx hb dL_law_490 (by decide) ?_
        refine lv_iadd hx hb dL_law_491 ?_
        refine va_sld hx hb hX hbl hbA hP.2.2 (lw_ix 2 hL h5 (by decide) rfl) dL_law_492 ?_
        refine lv_aload_n hx hb dL_law_493 rfl (lv_at hl 0 rfl) ?_
        refine lv_iload_n hx hb dL_law_494 rfl (lv_at hl 3 rfl) ?_
        refine lv_iconst (v := 3) hx hb dL_law_495 (by decide) ?_
        refine lv_iadd hx hb dL_law_496 ?_
        refine va_sld hx hb hX hbl hbA hP.2.2 (lw_ix 3 hL h5 (by decide) rfl) dL_law_497 ?_
        refine lw_call (nL := 4) (As := [.int (xs (nI j + 1).toNatClampNeg), .int (xs (nI j + 2).toNatClampNeg), .int (xs (nI j + 3).toNatClampNeg)]) (rest := []) hx hb hml hown htw hKC hN hl hP.1 hP.2.1 hdis hloC hP.2.2 (by decide) rfl rfl (tX5_needed l EC hjC _ _ _ _ _ hC) tk_423 tk_424 tk_425 tk_41 tk_426 rfl rfl hdX5_needed ⟨Nat.le_of_ble_eq_true rfl, Nat.le_of_ble_eq_true rfl⟩ rfl rfl (Nat.le_of_ble_eq_true rfl) dL_law_498 hcs (fun H locs hPa hPb hSa => ?_)
        have hP : LwP s EC EM σ1 μ H locs := ⟨hPa, hPb, hSa⟩
        refine lv_aload_n hx hb dL_law_501 rfl (lv_at hl 2 rfl) ?_
        refine lv_aload_n hx hb dL_law_502 rfl (lv_at hl 0 rfl) ?_
        refine lv_iload_n hx hb dL_law_503 rfl (lv_at hl 3 rfl) ?_
        refine lv_iconst (v := 1) hx hb dL_law_504 (by decide) ?_
        refine lv_iadd hx hb dL_law_505 ?_
        refine va_sld hx hb hX hbl hbA hP.2.2 (lw_ix 1 hL h5 (by decide) rfl) dL_law_506 ?_
        refine lv_aload_n hx hb dL_law_507 rfl (lv_at hl 0 rfl) ?_
        refine lv_iload_n hx hb dL_law_508 rfl (lv_at hl 3 rfl) ?_
        refine lv_iconst (v := 2) hx hb dL_law_509 (by decide) ?_
        refine lv_iadd hx hb dL_law_510 ?_
        refine va_sld hx hb hX hbl hbA hP.2.2 (lw_ix 2 hL h5 (by decide) rfl) dL_law_511 ?_
        refine lv_aload_n hx hb dL_law_512 rfl (lv_at hl 0 rfl) ?_
        refine lv_iload_n hx hb dL_law_513 rfl (lv_at hl 3 rfl) ?_
        refine lv_iconst (v := 3) hx hb dL_law_514 (by decide) ?_
        refine lv_iadd hx hb dL_law_515 ?_
        refine va_sld hx hb hX hbl hbA hP.2.2 (lw_ix 3 hL h5 (by decide) rfl) dL_law_516 ?_
        refine lw_call (nL := 4) (As := [.int (xs (nI j + 1).toNatClampNeg), .int (xs (nI j + 2).toNatClampNeg), .int (xs (nI j + 3).toNatClampNeg)]) (rest := [.int v]) hx hb hml hown htw hKM hN hl hP.2.1 hP.1 (fun i j hi hj h => hdis j i hj hi h.symm) hloM hP.2.2 (by decide) rfl rfl (tX6_needed l EM hjM _ _ _ _ _ hM) tk_674 tk_675 tk_676 tk_46 tk_677 rfl rfl hdX6_needed ⟨Nat.le_of_ble_eq_true rfl, Nat.le_of_ble_eq_true rfl⟩ rfl rfl (Nat.le_of_ble_eq_true rfl) dL_law_517 hcs (fun H locs hPa hPb hSa => ?_)
        have hP : LwP s EC EM σ1 μ1 H locs := ⟨hPb, hPa, hSa⟩
        refine lv_icmp_eq (tgt := 617) hx hb dL_law_520 (by decide) (fun _ => ?_) (fun c9 => absurd rfl c9)
        exact w617 σ1 μ1 H locs ls hR1 hP hl
      by_cases k13 : x = 13
      · refine lv_tableIn (off := 493) (tgt := 525) hx hb dL_law_32 (by rw [k13]; decide) (by rw [k13]; decide) (by rw [k13]; rfl) (by decide) ?_
        obtain ⟨v, σ1, μ1, hC, hM, hR1⟩ := h_ever σ μ hR (xs (nI j + 1).toNatClampNeg)
        refine lv_aload_n hx hb dL_law_525 rfl (lv_at hl 1 rfl) ?_
        refine lv_aload_n hx hb dL_law_526 rfl (lv_at hl 0 rfl) ?_
        refine lv_iload_n hx hb dL_law_527 rfl (lv_at hl 3 rfl) ?_
        refine lv_iconst (v := 1) hx hb dL_law_528 (by decide) ?_
        refine lv_iadd hx hb dL_law_529 ?_
        refine va_sld hx hb hX hbl hbA hP.2.2 (lw_ix 1 hL h5 (by decide) rfl) dL_law_530 ?_
        refine lw_call (nL := 4) (As := [.int (xs (nI j + 1).toNatClampNeg)]) (rest := []) hx hb hml hown htw hKC hN hl hP.1 hP.2.1 hdis hloC hP.2.2 (by decide) rfl rfl (tX5_ever l EC hjC _ _ _ hC) tk_435 tk_436 tk_437 tk_41 tk_438 rfl rfl hdX5_ever ⟨Nat.le_of_ble_eq_true rfl, Nat.le_of_ble_eq_true rfl⟩ rfl rfl (Nat.le_of_ble_eq_true rfl) dL_law_531 hcs (fun H locs hPa hPb hSa => ?_)
        have hP : LwP s EC EM σ1 μ H locs := ⟨hPa, hPb, hSa⟩
        refine lv_aload_n hx hb dL_law_534 rfl (lv_at hl 2 rfl) ?_
        refine lv_aload_n hx hb dL_law_535 rfl (lv_at hl 0 rfl) ?_
        refine lv_iload_n hx hb dL_law_536 rfl (lv_at hl 3 rfl) ?_
        refine lv_iconst (v := 1) hx hb dL_law_537 (by decide) ?_
        refine lv_iadd hx hb dL_law_538 ?_
        refine va_sld hx hb hX hbl hbA hP.2.2 (lw_ix 1 hL h5 (by decide) rfl) dL_law_539 ?_
        refine lw_call (nL := 4) (As := [.int (xs (nI j + 1).toNatClampNeg)]) (rest := [.int v]) hx hb hml hown htw hKM hN hl hP.2.1 hP.1 (fun i j hi hj h => hdis j i hj hi h.symm) hloM hP.2.2 (by decide) rfl rfl (tX6_ever l EM hjM _ _ _ hM) tk_690 tk_691 tk_692 tk_46 tk_693 rfl rfl hdX6_ever ⟨Nat.le_of_ble_eq_true rfl, Nat.le_of_ble_eq_true rfl⟩ rfl rfl (Nat.le_of_ble_eq_true rfl) dL_law_540 hcs (fun H locs hPa hPb hSa => ?_)
        have hP : LwP s EC EM σ1 μ1 H locs := ⟨hPb, hPa, hSa⟩
        refine lv_icmp_eq (tgt := 617) hx hb dL_law_543 (by decide) (fun _ => ?_) (fun c9 => absurd rfl c9)
        exact w617 σ1 μ1 H locs ls hR1 hP hl
      by_cases k14 : x = 14
      · refine lv_tableIn (off := 516) (tgt := 548) hx hb dL_law_32 (by rw [k14]; decide) (by rw [k14]; decide) (by rw [k14]; rfl) (by decide) ?_
        obtain ⟨v, σ1, μ1, hC, hM, hR1⟩ := h_image σ μ hR (xs (nI j + 1).toNatClampNeg)
        refine lv_aload_n hx hb dL_law_548 rfl (lv_at hl 1 rfl) ?_
        refine lv_aload_n hx hb dL_law_549 rfl (lv_at hl 0 rfl) ?_
        refine lv_iload_n hx hb dL_law_550 rfl (lv_at hl 3 rfl) ?_
        refine lv_iconst (v := 1) hx hb dL_law_551 (by decide) ?_
        refine lv_iadd hx hb dL_law_552 ?_
        refine va_sld hx hb hX hbl hbA hP.2.2 (lw_ix 1 hL h5 (by decide) rfl) dL_law_553 ?_
        refine lw_call (nL := 4) (As := [.int (xs (nI j + 1).toNatClampNeg)]) (rest := []) hx hb hml hown htw hKC hN hl hP.1 hP.2.1 hdis hloC hP.2.2 (by decide) rfl rfl (tX5_image l EC hjC _ _ _ hC) tk_447 tk_448 tk_449 tk_41 tk_450 rfl rfl hdX5_image ⟨Nat.le_of_ble_eq_true rfl, Nat.le_of_ble_eq_true rfl⟩ rfl rfl (Nat.le_of_ble_eq_true rfl) dL_law_554 hcs (fun H locs hPa hPb hSa => ?_)
        have hP : LwP s EC EM σ1 μ H locs := ⟨hPa, hPb, hSa⟩
        refine lv_aload_n hx hb dL_law_557 rfl (lv_at hl 2 rfl) ?_
        refine lv_aload_n hx hb dL_law_558 rfl (lv_at hl 0 rfl) ?_
        refine lv_iload_n hx hb dL_law_559 rfl (lv_at hl 3 rfl) ?_
        refine lv_iconst (v := 1) hx hb dL_law_560 (by decide) ?_
        refine lv_iadd hx hb dL_law_561 ?_
        refine va_sld hx hb hX hbl hbA hP.2.2 (lw_ix 1 hL h5 (by decide) rfl) dL_law_562 ?_
        refine lw_call (nL := 4) (As := [.int (xs (nI j + 1).toNatClampNeg)]) (rest := [.int v]) hx hb hml hown htw hKM hN hl hP.2.1 hP.1 (fun i j hi hj h => hdis j i hj hi h.symm) hloM hP.2.2 (by decide) rfl rfl (tX6_image l EM hjM _ _ _ hM) tk_694 tk_695 tk_696 tk_46 tk_697 rfl rfl hdX6_image ⟨Nat.le_of_ble_eq_true rfl, Nat.le_of_ble_eq_true rfl⟩ rfl rfl (Nat.le_of_ble_eq_true rfl) dL_law_563 hcs (fun H locs hPa hPb hSa => ?_)
        have hP : LwP s EC EM σ1 μ1 H locs := ⟨hPb, hPa, hSa⟩
        refine lv_icmp_eq (tgt := 617) hx hb dL_law_566 (by decide) (fun _ => ?_) (fun c9 => absurd rfl c9)
        exact w617 σ1 μ1 H locs ls hR1 hP hl
      by_cases k15 : x = 15
      · refine lv_tableIn (off := 539) (tgt := 571) hx hb dL_law_32 (by rw [k15]; decide) (by rw [k15]; decide) (by rw [k15]; rfl) (by decide) ?_
        obtain ⟨v, σ1, μ1, hC, hM, hR1⟩ := h_restore σ μ hR (xs (nI j + 1).toNatClampNeg)
        refine lv_aload_n hx hb dL_law_571 rfl (lv_at hl 1 rfl) ?_
        refine lv_aload_n hx hb dL_law_572 rfl (lv_at hl 0 rfl) ?_
        refine lv_iload_n hx hb dL_law_573 rfl (lv_at hl 3 rfl) ?_
        refine lv_iconst (v := 1) hx hb dL_law_574 (by decide) ?_
        refine lv_iadd hx hb dL_law_575 ?_
        refine va_sld hx hb hX hbl hbA hP.2.2 (lw_ix 1 hL h5 (by decide) rfl) dL_law_576 ?_
        refine lw_call (nL := 4) (As := [.int (xs (nI j + 1).toNatClampNeg)]) (rest := []) hx hb hml hown htw hKC hN hl hP.1 hP.2.1 hdis hloC hP.2.2 (by decide) rfl rfl (tX5_restore l EC hjC _ _ _ hC) tk_458 tk_459 tk_460 tk_41 tk_461 rfl rfl hdX5_restore ⟨Nat.le_of_ble_eq_true rfl, Nat.le_of_ble_eq_true rfl⟩ rfl rfl (Nat.le_of_ble_eq_true rfl) dL_law_577 hcs (fun H locs hPa hPb hSa => ?_)
        have hP : LwP s EC EM σ1 μ H locs := ⟨hPa, hPb, hSa⟩
        refine lv_aload_n hx hb dL_law_580 rfl (lv_at hl 2 rfl) ?_
        refine lv_aload_n hx hb dL_law_581 rfl (lv_at hl 0 rfl) ?_
        refine lv_iload_n hx hb dL_law_582 rfl (lv_at hl 3 rfl) ?_
        refine lv_iconst (v := 1) hx hb dL_law_583 (by decide) ?_
        refine lv_iadd hx hb dL_law_584 ?_
        refine va_sld hx hb hX hbl hbA hP.2.2 (lw_ix 1 hL h5 (by decide) rfl) dL_law_585 ?_
        refine lw_call (nL := 4) (As := [.int (xs (nI j + 1).toNatClampNeg)]) (rest := [.int v]) hx hb hml hown htw hKM hN hl hP.2.1 hP.1 (fun i j hi hj h => hdis j i hj hi h.symm) hloM hP.2.2 (by decide) rfl rfl (tX6_restore l EM hjM _ _ _ hM) tk_698 tk_699 tk_700 tk_46 tk_701 rfl rfl hdX6_restore ⟨Nat.le_of_ble_eq_true rfl, Nat.le_of_ble_eq_true rfl⟩ rfl rfl (Nat.le_of_ble_eq_true rfl) dL_law_586 hcs (fun H locs hPa hPb hSa => ?_)
        have hP : LwP s EC EM σ1 μ1 H locs := ⟨hPb, hPa, hSa⟩
        refine lv_icmp_eq (tgt := 617) hx hb dL_law_589 (by decide) (fun _ => ?_) (fun c9 => absurd rfl c9)
        exact w617 σ1 μ1 H locs ls hR1 hP hl
      by_cases k16 : x = 16
      · refine lv_tableIn (off := 562) (tgt := 594) hx hb dL_law_32 (by rw [k16]; decide) (by rw [k16]; decide) (by rw [k16]; rfl) (by decide) ?_
        obtain ⟨v, σ1, μ1, hC, hM, hR1⟩ := h_count σ μ hR (xs (nI j + 1).toNatClampNeg)
        refine lv_aload_n hx hb dL_law_594 rfl (lv_at hl 1 rfl) ?_
        refine lv_aload_n hx hb dL_law_595 rfl (lv_at hl 0 rfl) ?_
        refine lv_iload_n hx hb dL_law_596 rfl (lv_at hl 3 rfl) ?_
        refine lv_iconst (v := 1) hx hb dL_law_597 (by decide) ?_
        refine lv_iadd hx hb dL_law_598 ?_
        refine va_sld hx hb hX hbl hbA hP.2.2 (lw_ix 1 hL h5 (by decide) rfl) dL_law_599 ?_
        refine lw_call (nL := 4) (As := [.int (xs (nI j + 1).toNatClampNeg)]) (rest := []) hx hb hml hown htw hKC hN hl hP.1 hP.2.1 hdis hloC hP.2.2 (by decide) rfl rfl (tX5_count l EC hjC _ _ _ hC) tk_462 tk_463 tk_464 tk_41 tk_465 rfl rfl hdX5_count ⟨Nat.le_of_ble_eq_true rfl, Nat.le_of_ble_eq_true rfl⟩ rfl rfl (Nat.le_of_ble_eq_true rfl) dL_law_600 hcs (fun H locs hPa hPb hSa => ?_)
        have hP : LwP s EC EM σ1 μ H locs := ⟨hPa, hPb, hSa⟩
        refine lv_aload_n hx hb dL_law_603 rfl (lv_at hl 2 rfl) ?_
        refine lv_aload_n hx hb dL_law_604 rfl (lv_at hl 0 rfl) ?_
        refine lv_iload_n hx hb dL_law_605 rfl (lv_at hl 3 rfl) ?_
        refine lv_iconst (v := 1) hx hb dL_law_606 (by decide) ?_
        refine lv_iadd hx hb dL_law_607 ?_
        refine va_sld hx hb hX hbl hbA hP.2.2 (lw_ix 1 hL h5 (by decide) rfl) dL_law_608 ?_
        refine lw_call (nL := 4) (As := [.int (xs (nI j + 1).toNatClampNeg)]) (rest := [.int v]) hx hb hml hown htw hKM hN hl hP.2.1 hP.1 (fun i j hi hj h => hdis j i hj hi h.symm) hloM hP.2.2 (by decide) rfl rfl (tX6_count l EM hjM _ _ _ hM) tk_702 tk_703 tk_704 tk_46 tk_705 rfl rfl hdX6_count ⟨Nat.le_of_ble_eq_true rfl, Nat.le_of_ble_eq_true rfl⟩ rfl rfl (Nat.le_of_ble_eq_true rfl) dL_law_609 hcs (fun H locs hPa hPb hSa => ?_)
        have hP : LwP s EC EM σ1 μ1 H locs := ⟨hPb, hPa, hSa⟩
        refine lv_icmp_eq (tgt := 617) hx hb dL_law_612 (by decide) (fun _ => ?_) (fun c9 => absurd rfl c9)
        exact w617 σ1 μ1 H locs ls hR1 hP hl
      have z0 := lv_neT k0 (show (0 : Int32).toInt = 0 by decide)
      have z1 := lv_neT k1 (show (1 : Int32).toInt = 1 by decide)
      have z2 := lv_neT k2 (show (2 : Int32).toInt = 2 by decide)
      have z3 := lv_neT k3 (show (3 : Int32).toInt = 3 by decide)
      have z4 := lv_neT k4 (show (4 : Int32).toInt = 4 by decide)
      have z5 := lv_neT k5 (show (5 : Int32).toInt = 5 by decide)
      have z6 := lv_neT k6 (show (6 : Int32).toInt = 6 by decide)
      have z7 := lv_neT k7 (show (7 : Int32).toInt = 7 by decide)
      have z8 := lv_neT k8 (show (8 : Int32).toInt = 8 by decide)
      have z9 := lv_neT k9 (show (9 : Int32).toInt = 9 by decide)
      have z10 := lv_neT k10 (show (10 : Int32).toInt = 10 by decide)
      have z11 := lv_neT k11 (show (11 : Int32).toInt = 11 by decide)
      have z12 := lv_neT k12 (show (12 : Int32).toInt = 12 by decide)
      have z13 := lv_neT k13 (show (13 : Int32).toInt = 13 by decide)
      have z14 := lv_neT k14 (show (14 : Int32).toInt = 14 by decide)
      have z15 := lv_neT k15 (show (15 : Int32).toInt = 15 by decide)
      have z16 := lv_neT k16 (show (16 : Int32).toInt = 16 by decide)
      refine lv_tableOut (tgt := 617) hx hb dL_law_32 (by omega) (by decide) ?_
      exact w617 σ μ H locs ls hR hP hl
def sg0 : Sg := fun k => if k = 10 then (upd (upd (upd (upd (upd (upd (fun _ => 0) 0 1) 1 2) 2 4) 3 8) 4 16) 5 32) else (fun _ => 0)
def mu0 : Sg := fun _ => (fun _ => 0)
theorem sg0_w (D : va_G) (cyI cyZ cyO : ClassId) (u : Nat → Nat) : wdl kC (D, cyI, cyZ, cyO, u) sg0 = [((u 0), .inr (4, [.ref (u 1), .ref (u 9), .ref (u 12), .ref (u 13), .ref (u 17), .int 0])), ((u 1), .inr (0, [.int 0, .ref (u 2), .ref (u 3), .ref (u 4), .int 0, .ref (u 5), .ref (u 6), .ref (u 7), .ref (u 8), .int 0, .int 0])), ((u 2), .inl (cyI, 6, .inl (fun _ => 0))), ((u 3), .inl (cyI, 6, .inl (fun _ => 0))), ((u 4), .inl (cyI, 6, .inl (fun _ => 0))), ((u 5), .inl (cyI, 3, .inl (fun _ => 0))), ((u 6), .inl (cyI, 3, .inl (fun _ => 0))), ((u 7), .inl (cyI, 3, .inl (fun _ => 0))), ((u 8), .inl (cyI, 3, .inl (fun _ => 0))), ((u 9), .inr (1, [.ref (u 10), .ref (u 11)])), ((u 10), .inl (cyI, 384, .inl (upd (upd (upd (upd (upd (upd (fun _ => 0) 0 1) 1 2) 2 4) 3 8) 4 16) 5 32))), ((u 11), .inl (cyI, 384, .inl (fun _ => 0))), ((u 12), .inr (2, [.ref (u 1), .ref (u 9)])), ((u 13), .inr (3, [.ref (u 12), .ref (u 14), .ref (u 15), .ref (u 16), .int 0])), ((u 14), .inl (cyI, 8000, .inl (fun _ => 0))), ((u 15), .inl (cyI, 8000, .inl (fun _ => 0))), ((u 16), .inl (cyI, 1024, .inl (fun _ => 0))), ((u 17), .inl (cyO, 2, .inr (.inr (.inr (.inr (va_up (va_up (fun _ => none) 0 (some (u 18))) 1 (some (u 26)))))))), ((u 18), .inr (0, [.int 0, .ref (u 19), .ref (u 20), .ref (u 21), .int 0, .ref (u 22), .ref (u 23), .ref (u 24), .ref (u 25), .int 0, .int 0])), ((u 19), .inl (cyI, 6, .inl (fun _ => 0))), ((u 20), .inl (cyI, 6, .inl (fun _ => 0))), ((u 21), .inl (cyI, 6, .inl (fun _ => 0))), ((u 22), .inl (cyI, 3, .inl (fun _ => 0))), ((u 23), .inl (cyI, 3, .inl (fun _ => 0))), ((u 24), .inl (cyI, 3, .inl (fun _ => 0))), ((u 25), .inl (cyI, 3, .inl (fun _ => 0))), ((u 26), .inr (0, [.int 0, .ref (u 27), .ref (u 28), .ref (u 29), .int 0, .ref (u 30), .ref (u 31), .ref (u 32), .ref (u 33), .int 0, .int 0])), ((u 27), .inl (cyI, 6, .inl (fun _ => 0))), ((u 28), .inl (cyI, 6, .inl (fun _ => 0))), ((u 29), .inl (cyI, 6, .inl (fun _ => 0))), ((u 30), .inl (cyI, 3, .inl (fun _ => 0))), ((u 31), .inl (cyI, 3, .inl (fun _ => 0))), ((u 32), .inl (cyI, 3, .inl (fun _ => 0))), ((u 33), .inl (cyI, 3, .inl (fun _ => 0)))] := rfl
theorem mu0_w (D : va_G) (cyI cyZ cyO : ClassId) (u : Nat → Nat) : wdl kM (D, cyI, cyZ, cyO, u) mu0 = [((u 0), .inr (5, [.ref (u 1), .ref (u 2), .ref (u 3), .ref (u 4), .ref (u 5), .ref (u 6), .ref (u 7), .ref (u 8), .ref (u 9), .ref (u 10), .ref (u 11), .int 0])), ((u 1), .inl (cyI, 42, .inl (fun _ => 0))), ((u 2), .inl (cyI, 84, .inl (fun _ => 0))), ((u 3), .inl (cyZ, 2, .inl (fun _ => 0))), ((u 4), .inl (cyI, 6, .inl (fun _ => 0))), ((u 5), .inl (cyI, 3, .inl (fun _ => 0))), ((u 6), .inl (cyI, 6, .inl (fun _ => 0))), ((u 7), .inl (cyI, 6, .inl (fun _ => 0))), ((u 8), .inl (cyZ, 6, .inl (fun _ => 0))), ((u 9), .inl (cyI, 8000, .inl (fun _ => 0))), ((u 10), .inl (cyZ, 8000, .inl (fun _ => 0))), ((u 11), .inl (cyI, 8000, .inl (fun _ => 0)))] := rfl
theorem inj_of {K : Wk} {E : Ev} {σ : Sg} {A : Nat → Prop} (h : va_D A (wdl K E σ)) : Inj K E ∧ ∀ i, i < K.1 → A (eA E i) := by
  refine ⟨fun i j hi hj hh => h.1 i j _ _ (wdl_get hi) (wdl_get hj) hh, fun i hi => h.2 i _ (wdl_get hi)⟩
theorem lw_ao {s : State} {args : Array Value} (h : (Cond.arrayOver (.object "GridStarts$Grid")).before args s = true) : ∃ cyO : ClassId, ArrOfT s cyO (.object "GridStarts$Grid") ∧ va_RA s cyO (.object "GridStarts$Grid") := by
  obtain ⟨comp, c, k, h1, h2, h3, h4, h5⟩ := Cond.arrayOver_spec h
  exact ⟨c, fun n z => ⟨fun k h => (by cases h), k, h3, comp, h4⟩, k, comp, h3, h4, h1, h5⟩
set_option maxHeartbeats 4000000 in
set_option maxRecDepth 100000 in
theorem whole_of {p : Program} {e : Env} {s : State} {m : MethodId} {below : List Frame} {meth : Method} {c : Code} (l : Launch) (Rel : Sg → Sg → Prop) (hst : Steps17 Rel) (h00 : Rel sg0 mu0) {b L : Nat} {xs : Nat → Int32} (hL : L ≤ 2560) (C0 : lw_At p s m meth c b L xs) : W p l e room_1 s m #[Value.ref b] below meth c s.heap [] 0 0 (lw_Z below #[Value.ref b] s) (entryFrame m ([Value.ref b] : List Value).toArray 4) := by
  obtain ⟨hx, hb, hr, hml, hown0, hts0, hX, hbl, hlocks, hgv⟩ := id C0
  have hown : s.vm.findClass RL = some m.cls := hown0
  have hts : ∀ w ∈ TW, w.before #[Value.ref b] s = true := fun w h => hts0 w (List.mem_filter.mp h).1
  have hA : ∀ q : Nat, s.heap.size ≤ q → (fun q : Nat => s.heap.size ≤ q) q := fun _ h => h
  obtain ⟨c0, iS0, hKn0⟩ := u_known (C := RX1) (T := TX1) (N := 11) (n := 11) hts tlX1 (hts _ tk_60)
  obtain ⟨c1, iS1, hKn1⟩ := u_known (C := RX2) (T := TX2) (N := 2) (n := 2) hts tlX2 (hts _ tk_123)
  obtain ⟨c2, iS2, hKn2⟩ := u_known (C := RX3) (T := TX3) (N := 2) (n := 2) hts tlX3 (hts _ tk_136)
  obtain ⟨c3, iS3, hKn3⟩ := u_known (C := RX4) (T := TX4) (N := 5) (n := 5) hts tlX4 (hts _ tk_149)
  obtain ⟨c4, iS4, hKn4⟩ := u_known (C := RX5) (T := TX5) (N := 6) (n := 6) hts tlX5 (hts _ tk_52)
  obtain ⟨c5, iS5, hKn5⟩ := u_known (C := RX6) (T := TX6) (N := 12) (n := 12) hts tlX6 (hts _ tk_473)
  obtain ⟨dC, dI, hKc⟩ : ∃ (dC : Nat → ClassId) (dI : Nat → Nat → Nat), ∀ (k : Nat) (q : vw_C), vwCl[k]? = some q → u_Kn s q.1 q.2.1 q.2.2 (dC k) (dI k) := by
    refine ⟨fun k => if k = 0 then c0 else if k = 1 then c1 else if k = 2 then c2 else if k = 3 then c3 else if k = 4 then c4 else c5, fun k => if k = 0 then iS0 else if k = 1 then iS1 else if k = 2 then iS2 else if k = 3 then iS3 else if k = 4 then iS4 else iS5, ?_⟩
    intro k q hq
    match k, hq with
    | 0, hq => cases hq; exact hKn0
    | 1, hq => cases hq; exact hKn1
    | 2, hq => cases hq; exact hKn2
    | 3, hq => cases hq; exact hKn3
    | 4, hq => cases hq; exact hKn4
    | 5, hq => cases hq; exact hKn5
    | k + 6, hq => simp [vwCl] at hq
  obtain ⟨cyI, kI, compI, fI, gI, eI⟩ := Cond.arrayClass_spec (hts _ tk_121)
  obtain ⟨cyZ, kZ, compZ, fZ, gZ, eZ⟩ := Cond.arrayClass_spec (hts _ tk_515)
  have hao0 : (Cond.arrayOver (.object "GridStarts$Grid")).before #[Value.ref b] s = true := hts0 _ (List.mem_append_right _ (List.mem_append_left _ (List.mem_of_getElem? (i := 130) rfl)))
  have hao : va_AO "GridStarts$Grid" s := va_AO.of hao0
  obtain ⟨cyO, hKO⟩ := lw_ao hao0
  have hN : Nst s := fun w hw => va_Nw.of (by
      simp only [nestW, List.mem_cons, List.not_mem_nil, or_false] at hw
      rcases hw with rfl | rfl | rfl | rfl | rfl | rfl | rfl <;> rfl) (hts0 w (nestW_in w hw))
  have hK : va_K (dC, dI) vwCl [(cyI, .int), (cyZ, .boolean), (cyO, .object "GridStarts$Grid")] s := by
    refine ⟨hKc, fun k q h => ?_⟩
    match k, h with
    | 0, h => cases h; exact ⟨fun n z => ⟨fun k h => (by cases h), kI, gI, compI, eI⟩, fI⟩
    | 1, h => cases h; exact ⟨fun n z => ⟨fun k h => (by cases h), kZ, gZ, compZ, eZ⟩, fZ⟩
    | 2, h => cases h; exact hKO
    | k + 3, h => simp at h
  have hS : va_S (fun q : Nat => s.heap.size ≤ q) s.heap s.heap [] := va_S.rf
  have hP : va_P (dC, dI) vwCl [] s.heap := fun k q h => by simp at h
  have hD : va_D (fun q : Nat => s.heap.size ≤ q) [] := ⟨fun i j p q h => by simp at h, fun k q h => by simp at h⟩
  have hl := lv_entry ([.ref b]) (n := 4) (Nat.le_of_ble_eq_true rfl)
  rw [lg_entry_eq]
  generalize (lg_sl ([.ref b]) ++ List.replicate (4 - (lg_sl ([.ref b])).length) Slot.unset).toArray = ls at hl ⊢
  have hl : lv_has ls 4 [(0, .ref b)] := hl
  refine va_new (ci := 4) (fs := [.null, .null, .null, .null, .null, .int 0]) (C := RX5) (T := TX5) (N := 6) hx hb hts tlX5 tyX5 tyX5_ok hown (hts _ tk_51) (hts _ tk_52) (hts _ tk_41) hK hP hD hS hA rfl (fun j hj => by rcases (show j = 0 ∨ j = 1 ∨ j = 2 ∨ j = 3 ∨ j = 4 ∨ j = 5 by omega) with rfl | rfl | rfl | rfl | rfl | rfl <;> rfl) (Nat.le_of_ble_eq_true rfl) (Nat.le_of_ble_eq_true rfl) dL_law_0 (fun q0 H hP hD hS => ?_)
  refine lv_dup hx hb dL_law_3 rfl ?_
  have hP : va_P (dC, dI) vwCl [(q0, .inr (4, [.null, .null, .null, .null, .null, .int 0]))] H := hP
  have hD : va_D (fun q : Nat => s.heap.size ≤ q) [(q0, .inr (4, [.null, .null, .null, .null, .null, .int 0]))] := hD
  have hPc := hP.sub (ws' := [(q0, .inr (4, [.null, .null, .null, .null, .null, .int 0]))]) [0] rfl
  have hDc := hD.sub (ws' := [(q0, .inr (4, [.null, .null, .null, .null, .null, .int 0]))]) [0] (by decide) rfl
  have hFc := va_free (wc := [(q0, .inr (4, [.null, .null, .null, .null, .null, .int 0]))]) hD hS hA [0] rfl
  refine va_callv (va_runI (As := []) (rest := [.ref q0]) ⟨hx, hb, hml, hown, hts⟩ (kX5_init l (dC, dI) cyI cyZ cyO q0 H.size) (cwI 0 hts (tw_good0 (ws := []) (fun _ h => absurd h List.not_mem_nil) tk_55) rfl rfl rfl (hts _ tk_41) (hts _ tk_53) (hts _ tk_54) rfl (by decide +kernel) ⟨Nat.le_of_ble_eq_true rfl, Nat.le_of_ble_eq_true rfl⟩) ⟨fun a U g mk q => by obtain ⟨q0, q1, qP, qK, qN, qD, qA⟩ := q; exact ⟨q0, q1, qP, va_K.moved (u := U) (U := U.calling g mk a) (Vm.Alike.refl U.vm) qK, qN.calling, qD, va_AO.moved (u := U) (U := U.calling g mk a) (Vm.Alike.refl U.vm) qA⟩, fun U hU hW => ⟨rfl, by rw [hU], by rw [hU]; exact hPc, va_K.moved hW.alike hK, hN.warm hW, hDc.weaken (fun _ _ _ _ => trivial), va_AO.moved hW.alike hao⟩⟩ rfl rfl hl.1 rfl (lv_room (Nat.le_of_ble_eq_true rfl)) dL_law_4 ⟨Nat.le_of_ble_eq_true rfl, Nat.le_of_ble_eq_true rfl⟩) hS (fun q _ h => hFc q h) hFc (fun u t H1 locs ht hvm hw hB hz1 hk1 hS => ?_)
  obtain ⟨hP1, -, -, hD1⟩ := hB
  rw [ht] at hP1
  have hDx : va_D (fun q : Nat => s.heap.size ≤ q) [((u 0), .inr (4, [.ref (u 1), .ref (u 9), .ref (u 12), .ref (u 13), .ref (u 17), .int 0])), ((u 1), .inr (0, [.int 0, .ref (u 2), .ref (u 3), .ref (u 4), .int 0, .ref (u 5), .ref (u 6), .ref (u 7), .ref (u 8), .int 0, .int 0])), ((u 2), .inl (cyI, 6, .inl (fun _ => 0))), ((u 3), .inl (cyI, 6, .inl (fun _ => 0))), ((u 4), .inl (cyI, 6, .inl (fun _ => 0))), ((u 5), .inl (cyI, 3, .inl (fun _ => 0))), ((u 6), .inl (cyI, 3, .inl (fun _ => 0))), ((u 7), .inl (cyI, 3, .inl (fun _ => 0))), ((u 8), .inl (cyI, 3, .inl (fun _ => 0))), ((u 9), .inr (1, [.ref (u 10), .ref (u 11)])), ((u 10), .inl (cyI, 384, .inl (upd (upd (upd (upd (upd (upd (fun _ => 0) 0 1) 1 2) 2 4) 3 8) 4 16) 5 32))), ((u 11), .inl (cyI, 384, .inl (fun _ => 0))), ((u 12), .inr (2, [.ref (u 1), .ref (u 9)])), ((u 13), .inr (3, [.ref (u 12), .ref (u 14), .ref (u 15), .ref (u 16), .int 0])), ((u 14), .inl (cyI, 8000, .inl (fun _ => 0))), ((u 15), .inl (cyI, 8000, .inl (fun _ => 0))), ((u 16), .inl (cyI, 1024, .inl (fun _ => 0))), ((u 17), .inl (cyO, 2, .inr (.inr (.inr (.inr (va_up (va_up (fun _ => none) 0 (some (u 18))) 1 (some (u 26)))))))), ((u 18), .inr (0, [.int 0, .ref (u 19), .ref (u 20), .ref (u 21), .int 0, .ref (u 22), .ref (u 23), .ref (u 24), .ref (u 25), .int 0, .int 0])), ((u 19), .inl (cyI, 6, .inl (fun _ => 0))), ((u 20), .inl (cyI, 6, .inl (fun _ => 0))), ((u 21), .inl (cyI, 6, .inl (fun _ => 0))), ((u 22), .inl (cyI, 3, .inl (fun _ => 0))), ((u 23), .inl (cyI, 3, .inl (fun _ => 0))), ((u 24), .inl (cyI, 3, .inl (fun _ => 0))), ((u 25), .inl (cyI, 3, .inl (fun _ => 0))), ((u 26), .inr (0, [.int 0, .ref (u 27), .ref (u 28), .ref (u 29), .int 0, .ref (u 30), .ref (u 31), .ref (u 32), .ref (u 33), .int 0, .int 0])), ((u 27), .inl (cyI, 6, .inl (fun _ => 0))), ((u 28), .inl (cyI, 6, .inl (fun _ => 0))), ((u 29), .inl (cyI, 6, .inl (fun _ => 0))), ((u 30), .inl (cyI, 3, .inl (fun _ => 0))), ((u 31), .inl (cyI, 3, .inl (fun _ => 0))), ((u 32), .inl (cyI, 3, .inl (fun _ => 0))), ((u 33), .inl (cyI, 3, .inl (fun _ => 0)))] := hD1.weaken (fun k q _ h => hFc _ h)
  generalize H1 = H at hP1 hS ⊢
  clear hP hD hPc hDc hFc hk1 hD1 hz1 ht
  subst hw
  rw [← sg0_w (dC, dI) cyI cyZ cyO u] at hP1 hDx
  have hP := hP1
  have hD := hDx
  clear hP1 hDx
  refine lv_astore_n (lv' := [(1, .ref (u 0)), (0, .ref b)]) hx hb dL_law_7 rfl hl (by decide) rfl (fun ls hl => ?_)
  refine va_new (ci := 5) (fs := [.null, .null, .null, .null, .null, .null, .null, .null, .null, .null, .null, .int 0]) (C := RX6) (T := TX6) (N := 12) hx hb hts tlX6 tyX6 tyX6_ok hown (hts _ tk_472) (hts _ tk_473) (hts _ tk_46) hK hP hD hS hA rfl (fun j hj => by rcases (show j = 0 ∨ j = 1 ∨ j = 2 ∨ j = 3 ∨ j = 4 ∨ j = 5 ∨ j = 6 ∨ j = 7 ∨ j = 8 ∨ j = 9 ∨ j = 10 ∨ j = 11 by omega) with rfl | rfl | rfl | rfl | rfl | rfl | rfl | rfl | rfl | rfl | rfl | rfl <;> rfl) (Nat.le_of_ble_eq_true rfl) (Nat.le_of_ble_eq_true rfl) dL_law_8 (fun q1 H hP hD hS => ?_)
  refine lv_dup hx hb dL_law_11 rfl ?_
  have hP : va_P (dC, dI) vwCl (wdl kC ((dC, dI), cyI, cyZ, cyO, u) sg0 ++ [(q1, .inr (5, [.null, .null, .null, .null, .null, .null, .null, .null, .null, .null, .null, .int 0]))]) H := hP
  have hD : va_D (fun q : Nat => s.heap.size ≤ q) (wdl kC ((dC, dI), cyI, cyZ, cyO, u) sg0 ++ [(q1, .inr (5, [.null, .null, .null, .null, .null, .null, .null, .null, .null, .null, .null, .int 0]))]) := hD
  have hPc := hP.sub (ws' := [(q1, .inr (5, [.null, .null, .null, .null, .null, .null, .null, .null, .null, .null, .null, .int 0]))]) [34] rfl
  have hDc := hD.sub (ws' := [(q1, .inr (5, [.null, .null, .null, .null, .null, .null, .null, .null, .null, .null, .null, .int 0]))]) [34] (by decide) rfl
  have hFc := va_free (wc := [(q1, .inr (5, [.null, .null, .null, .null, .null, .null, .null, .null, .null, .null, .null, .int 0]))]) hD hS hA [34] rfl
  refine va_callv (va_runI (As := []) (rest := [.ref q1]) ⟨hx, hb, hml, hown, hts⟩ (kX6_init l (dC, dI) cyI cyZ cyO q1 H.size) (cwI 0 hts (tw_good0 (ws := []) (fun _ h => absurd h List.not_mem_nil) tk_476) rfl rfl rfl (hts _ tk_46) (hts _ tk_474) (hts _ tk_475) rfl (by decide +kernel) ⟨Nat.le_of_ble_eq_true rfl, Nat.le_of_ble_eq_true rfl⟩) ⟨fun a U g mk q => by obtain ⟨q0, q1, qP, qK, qN, qD⟩ := q; exact ⟨q0, q1, qP, va_K.moved (u := U) (U := U.calling g mk a) (Vm.Alike.refl U.vm) qK, qN.calling, qD⟩, fun U hU hW => ⟨rfl, by rw [hU], by rw [hU]; exact hPc, va_K.moved hW.alike hK, hN.warm hW, hDc.weaken (fun _ _ _ _ => trivial)⟩⟩ rfl rfl hl.1 rfl (lv_room (Nat.le_of_ble_eq_true rfl)) dL_law_12 ⟨Nat.le_of_ble_eq_true rfl, Nat.le_of_ble_eq_true rfl⟩) hS (fun q _ h => hFc q h) hFc (fun w t H1 locs ht hvm hw hB hz1 hk1 hS => ?_)
  obtain ⟨hP1, -, -, hD1⟩ := hB
  rw [ht] at hP1
  obtain ⟨hPj, hDj⟩ := va_join (wr := wdl kC ((dC, dI), cyI, cyZ, cyO, u) sg0) (w1 := [((w 0), .inr (5, [.ref (w 1), .ref (w 2), .ref (w 3), .ref (w 4), .ref (w 5), .ref (w 6), .ref (w 7), .ref (w 8), .ref (w 9), .ref (w 10), .ref (w 11), .int 0])), ((w 1), .inl (cyI, 42, .inl (fun _ => 0))), ((w 2), .inl (cyI, 84, .inl (fun _ => 0))), ((w 3), .inl (cyZ, 2, .inl (fun _ => 0))), ((w 4), .inl (cyI, 6, .inl (fun _ => 0))), ((w 5), .inl (cyI, 3, .inl (fun _ => 0))), ((w 6), .inl (cyI, 6, .inl (fun _ => 0))), ((w 7), .inl (cyI, 6, .inl (fun _ => 0))), ((w 8), .inl (cyZ, 6, .inl (fun _ => 0))), ((w 9), .inl (cyI, 8000, .inl (fun _ => 0))), ((w 10), .inl (cyZ, 8000, .inl (fun _ => 0))), ((w 11), .inl (cyI, 8000, .inl (fun _ => 0)))]) hP hD [34] (List.range 34) rfl rfl (by decide) (by decide) hk1 hFc hP1 hD1
  generalize H1 = H at hPj hS ⊢
  clear hP hD hPc hDc hFc hk1 hP1 hD1 hz1 ht
  subst hw
  rw [← mu0_w (dC, dI) cyI cyZ cyO w] at hPj hDj
  refine lv_astore_n (lv' := [(2, .ref (w 0)), (1, .ref (u 0)), (0, .ref b)]) hx hb dL_law_15 rfl hl (by decide) rfl (fun ls hl => ?_)
  refine lv_iconst (v := 0) hx hb dL_law_16 (by decide) ?_
  refine lv_istore_n (lv' := [(3, .int 0), (2, .ref (w 0)), (1, .ref (u 0)), (0, .ref b)]) hx hb dL_law_17 rfl hl (by decide) rfl (fun ls hl => ?_)
  have hPC : va_P (dC, dI) vwCl (wdl kC ((dC, dI), cyI, cyZ, cyO, u) sg0) H := fun k q h => hPj k q (by rw [List.getElem?_append_left (List.getElem?_eq_some_iff.mp h).1]; exact h)
  have hPM : va_P (dC, dI) vwCl (wdl kM ((dC, dI), cyI, cyZ, cyO, w) mu0) H := fun k q h => hPj (34 + k) q (by rw [List.getElem?_append_right (by rw [wdl_len]; exact Nat.le_add_right _ _), wdl_len]; show _ = _; rw [Nat.add_sub_cancel_left]; exact h)
  have hC1 : ∀ i, i < 34 → (wdl kC ((dC, dI), cyI, cyZ, cyO, u) sg0 ++ wdl kM ((dC, dI), cyI, cyZ, cyO, w) mu0)[i]? = some (u i, cfC ((dC, dI), cyI, cyZ, cyO, u) i (sg0 i)) := fun i hi => by rw [List.getElem?_append_left (by rw [wdl_len]; exact hi)]; exact wdl_get (K := kC) hi
  have hM1 : ∀ i, i < 12 → (wdl kC ((dC, dI), cyI, cyZ, cyO, u) sg0 ++ wdl kM ((dC, dI), cyI, cyZ, cyO, w) mu0)[34 + i]? = some (w i, cfM ((dC, dI), cyI, cyZ, cyO, w) i (mu0 i)) := fun i hi => by rw [List.getElem?_append_right (by rw [wdl_len]; exact Nat.le_add_right _ _), wdl_len]; show (wdl kM _ _)[34 + i - 34]? = _; rw [Nat.add_sub_cancel_left]; exact wdl_get (K := kM) hi
  refine law_loop l Rel hst hL C0 ((dC, dI), cyI, cyZ, cyO, u) ((dC, dI), cyI, cyZ, cyO, w) ⟨fun i j hi hj h => hDj.1 i j _ _ (hC1 i hi) (hC1 j hj) h, fun i j hi hj h => Nat.add_left_cancel (hDj.1 (34 + i) (34 + j) _ _ (hM1 i hi) (hM1 j hj) h), fun i j hi hj h => absurd (hDj.1 i (34 + j) _ _ (hC1 i hi) (hM1 j hj) h) (by omega), fun i hi => hDj.2 i _ (hC1 i hi), fun j hj => hDj.2 (34 + j) _ (hM1 j hj), hK, hK, hN⟩ _ _ ⟨Nat.le_of_ble_eq_true rfl, Nat.le_of_ble_eq_true rfl⟩ (L + 1) 0 sg0 mu0 H _ ls (by omega) (by omega) h00 ⟨hPC, hPM, hS⟩ (lv_sub hl [3, 2, 1, 0] rfl)
