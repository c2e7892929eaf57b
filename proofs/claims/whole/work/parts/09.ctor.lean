section Nw
variable {p : Program} {l : Launch} {e : Env} {R : Room} {s : State} {m : MethodId} {args : Array Value} {below : List Frame} {meth : Method} {c : Code} {H : Heap} {locs : List Loc} {cells slots : Nat} {Q : State → Prop}
variable {cc : ByteArray} {pc : Nat} {ls : Array Slot} {rest : List Value} {D : va_G} {cl : List vw_C} {A : Nat → Prop} {a : Nat} {tys : List (ClassId × FieldType)} {ws : va_W} {H0 : Heap}
theorem w_newa (hexec : p.tables.exec = Jvm.exec) (hb : c.code = cc) {atype : ArrayType} (harr : (Cond.arrayClass (newarray.typeOf atype)).before args s = true) {ty : FieldType} (hty : newarray.typeOf atype = ty) (hK : va_K D cl tys s) (hP : va_P D cl ws H) (hD : va_D A ws) (hS : va_S A H0 H locs) (hA : ∀ q, H0.size ≤ q → A q)
    (t0 : Nat) {cy : ClassId} (ht : tys[t0]? = some (cy, ty)) {n : Int32} {N : Nat} (hdf : defaultValue ty = .int 0) (hpr : ty = .int ∨ ty = .boolean) (hn : ¬ n < 0) (hN : n.toNatClampNeg = N) (hcells : cells + 1 ≤ R.cells) (hslots : slots + N ≤ R.slots) (hdg : decode cc pc = .ok (.newarray atype, 2))
    (kk : ∀ (q : Nat) (H1 : Heap), va_P D cl (ws ++ [(q, .inl (cy, N, .inl (fun _ => 0)))]) H1 → va_D A (ws ++ [(q, .inl (cy, N, .inl (fun _ => 0)))]) → va_S A H0 H1 locs →
      W p l e R s m args below meth c H1 locs (cells + 1) (slots + N) Q (F0 m (pc + 2) ls (.ref q :: rest))) (hbytes : N * 4 ≤ 536870912 := by decide) : W p l e R s m args below meth c H locs cells slots Q (F0 m pc ls (.int n :: rest)) := by
  refine va_newa (a0 := (N, .inl (fun _ => 0))) hexec hb harr hty hK hP hD hS hA (fun cA => ?_) hn hN ?_ hcells hslots hdg (fun q cA H1 hK1 hP1 hD1 hS1 => ?_)
  · rw [hdf]
    rfl
  · rcases hpr with rfl | rfl
    · exact hbytes
    · exact Nat.le_trans (Nat.mul_le_mul_left N (show componentBytes .boolean ≤ 4 by decide)) hbytes
  · have h1 := (hK.2 t0 _ ht).2
    have h2 := (hK1.2 tys.length (cA, ty) (by simp)).2
    have e : cA = cy := by
      rcases hpr with rfl | rfl
      · exact Option.some.inj ((show s.vm.findClass _ = some cA from h2).symm.trans h1)
      · exact Option.some.inj ((show s.vm.findClass _ = some cA from h2).symm.trans h1)
    subst e
    exact kk q H1 hP1 hD1 hS1
theorem w_newq (hexec : p.tables.exec = Jvm.exec) (hb : c.code = cc) {own C : String} {index : Nat} (hown : s.vm.findClass own = some m.cls) (hclink : (Cond.classLink own index C).before args s = true) (hover : va_AO C s) (hK : va_K D cl tys s) (hP : va_P D cl ws H) (hD : va_D A ws) (hS : va_S A H0 H locs) (hA : ∀ q, H0.size ≤ q → A q)
    (t0 : Nat) {cy : ClassId} (ht : tys[t0]? = some (cy, .object C)) {n : Int32} {N : Nat} (hn : ¬ n < 0) (hN : n.toNatClampNeg = N) (hbytes : N * 4 ≤ 536870912) (hcells : cells + 1 ≤ R.cells) (hslots : slots + N ≤ R.slots) (hdg : decode cc pc = .ok (.anewarray index, 3))
    (kk : ∀ (q : Nat) (H1 : Heap), va_P D cl (ws ++ [(q, .inl (cy, N, .inr (.inr (.inr (.inr (fun _ => none))))))]) H1 → va_D A (ws ++ [(q, .inl (cy, N, .inr (.inr (.inr (.inr (fun _ => none))))))]) → va_S A H0 H1 locs →
      W p l e R s m args below meth c H1 locs (cells + 1) (slots + N) Q (F0 m (pc + 3) ls (.ref q :: rest))) : W p l e R s m args below meth c H locs cells slots Q (F0 m pc ls (.int n :: rest)) := by
  refine va_newq hexec hb hown hclink hover hK hP hD hS hA hn hN hbytes hcells hslots hdg (fun q cA H1 hK1 hP1 hD1 hS1 => ?_)
  obtain ⟨k1, c1, -, -, -, h1⟩ := (hK.2 t0 _ ht).2
  obtain ⟨k2, c2, -, -, -, h2⟩ := (hK1.2 tys.length (cA, .object C) (by simp)).2
  have e : cA = cy := Option.some.inj (h2.symm.trans h1)
  subst e
  exact kk q H1 hP1 hD1 hS1
end Nw
set_option maxHeartbeats 4000000 in
set_option maxRecDepth 100000 in
theorem kX1_init (l : Launch) (D : va_G) (cyI cyZ cyO : ClassId) (h0 sz : Nat) : Met l yX1_init (.code yX1_init cX1_init 1 none :: TW) ({ frames := 1, cells := 7, slots := 30, locals := 12 }) (va_Pc [.ref h0] (fun U => U.heap.size = sz ∧ va_P D vwCl [(h0, .inr (0, [.int 0, .null, .null, .null, .int 0, .null, .null, .null, .null, .int 0, .int 0]))] U.heap ∧ va_K D vwCl [(cyI, .int), (cyZ, .boolean), (cyO, .object "GridStarts$Grid")] U ∧ Nst U ∧ va_D (fun _ => True) [(h0, .inr (0, [.int 0, .null, .null, .null, .int 0, .null, .null, .null, .null, .int 0, .int 0]))])) (va_Qv (fun u : Nat → Nat => u 0 = h0) (fun u t => va_P D vwCl [((u 0), .inr (0, [.int 0, .ref (u 1), .ref (u 2), .ref (u 3), .int 0, .ref (u 4), .ref (u 5), .ref (u 6), .ref (u 7), .int 0, .int 0])), ((u 1), .inl (cyI, 6, .inl (fun _ => 0))), ((u 2), .inl (cyI, 6, .inl (fun _ => 0))), ((u 3), .inl (cyI, 6, .inl (fun _ => 0))), ((u 4), .inl (cyI, 3, .inl (fun _ => 0))), ((u 5), .inl (cyI, 3, .inl (fun _ => 0))), ((u 6), .inl (cyI, 3, .inl (fun _ => 0))), ((u 7), .inl (cyI, 3, .inl (fun _ => 0)))] t.heap ∧ va_K D vwCl [(cyI, .int), (cyZ, .boolean), (cyO, .object "GridStarts$Grid")] t ∧ Nst t ∧ va_D (va_A [(h0, .inr (0, [.int 0, .null, .null, .null, .int 0, .null, .null, .null, .null, .int 0, .int 0]))] sz) [((u 0), .inr (0, [.int 0, .ref (u 1), .ref (u 2), .ref (u 3), .int 0, .ref (u 4), .ref (u 5), .ref (u 6), .ref (u 7), .int 0, .int 0])), ((u 1), .inl (cyI, 6, .inl (fun _ => 0))), ((u 2), .inl (cyI, 6, .inl (fun _ => 0))), ((u 3), .inl (cyI, 6, .inl (fun _ => 0))), ((u 4), .inl (cyI, 3, .inl (fun _ => 0))), ((u 5), .inl (cyI, 3, .inl (fun _ => 0))), ((u 6), .inl (cyI, 3, .inl (fun _ => 0))), ((u 7), .inl (cyI, 3, .inl (fun _ => 0)))]) (va_A [(h0, .inr (0, [.int 0, .null, .null, .null, .int 0, .null, .null, .null, .null, .int 0, .int 0]))] sz)) 7 30 (va_A [(h0, .inr (0, [.int 0, .null, .null, .null, .int 0, .null, .null, .null, .null, .int 0, .int 0]))] sz) := by
  refine Met.ofW (cc := cX1_init) (maxL := 1) (ret := none) (by decide) rfl ?_
  intro p e s m args below meth c s₁ B hml hv
  obtain ⟨rfl, hsz, hP, hK, hN, hD0⟩ := hv
  have hx := B.exec
  have hb := B.bytes
  have hr := B.returns
  have hts0 := atoms_spec (ws := .code yX1_init cX1_init 1 none :: TW) B.pre
  have hts : ∀ w ∈ TW, w.before _ s = true := fun w h => hts0 w (List.mem_cons_of_mem _ h)
  have hown : s.vm.findClass RX1 = some m.cls := findClass_of_methodNamed B.named
  have hlocks := B.notSynchronized
  have hin : meth.name = "<init>" := (name_of_methodNamed B.named B.method).1
  subst hsz
  have hD := hD0.self (sz := s.heap.size)
  generalize hAe : va_A [(h0, .inr (0, [.int 0, .null, .null, .null, .int 0, .null, .null, .null, .null, .int 0, .int 0]))] s.heap.size = A at hD ⊢
  have hA : ∀ q : Nat, s.heap.size ≤ q → A q := fun q h => by rw [← hAe]; exact Or.inr h
  have hS : va_S A s.heap s.heap [] := va_S.rf
  have hl := lv_entry ([.ref h0]) (n := 1) (Nat.le_of_ble_eq_true rfl)
  rw [lg_entry_eq]
  generalize (lg_sl ([.ref h0]) ++ List.replicate (1 - (lg_sl ([.ref h0])).length) Slot.unset).toArray = ls at hl ⊢
  have hl : lv_has ls 1 [(0, .ref h0)] := hl
  refine lv_aload_n hx hb dX1_init_0 rfl (lv_at hl 0 rfl) ?_
  refine W.objInit hx hb hown (hts _ tk_64) (hts _ tk_57) (hts _ tk_58) rfl (by rw [hml]; exact hl.1) rfl dX1_init_1 (Nat.le_of_ble_eq_true rfl) (Nat.le_of_ble_eq_true rfl) ?_
  refine W.eq (g2 := F0 m 4 ls []) rfl ?_
  refine lv_aload_n hx hb dX1_init_4 rfl (lv_at hl 0 rfl) ?_
  refine lv_bipush (v := 6) hx hb dX1_init_5 (by decide) ?_
  refine w_newa (atype := .int) (ty := .int) (cy := cyI) (N := 6) hx hb (hts _ tk_121) rfl hK hP hD hS hA 0 rfl rfl (by decide) (by decide) (by decide) (Nat.le_of_ble_eq_true rfl) (Nat.le_of_ble_eq_true rfl) dX1_init_7 (fun q1 H hP hD hS => ?_)
  have hP : va_P D vwCl [(h0, .inr (0, [.int 0, .null, .null, .null, .int 0, .null, .null, .null, .null, .int 0, .int 0])), (q1, .inl (cyI, 6, .inl (fun _ => 0)))] H := hP
  have hD : va_D A [(h0, .inr (0, [.int 0, .null, .null, .null, .int 0, .null, .null, .null, .null, .int 0, .int 0])), (q1, .inl (cyI, 6, .inl (fun _ => 0)))] := hD
  refine va_putF (D := D) (ci := 0) (v := .ref q1) (ty := .array .int) (C := RX1) (T := TX1) (N := 11) hx hb hts tlX1 tyX1 tyX1_ok nmX1 hown hK hP hD hS 0 rfl rfl 1 (by decide) (hts _ tk_68) (fun _ h9 => h9) rfl hin rfl (by decide +kernel) rfl rfl (Nat.le_of_ble_eq_true rfl) dX1_init_9 (fun H locs hP hD hS => ?_)
  have hP : va_P D vwCl [(h0, .inr (0, [.int 0, .ref q1, .null, .null, .int 0, .null, .null, .null, .null, .int 0, .int 0])), (q1, .inl (cyI, 6, .inl (fun _ => 0)))] H := hP
  have hD : va_D A [(h0, .inr (0, [.int 0, .ref q1, .null, .null, .int 0, .null, .null, .null, .null, .int 0, .int 0])), (q1, .inl (cyI, 6, .inl (fun _ => 0)))] := hD
  refine lv_aload_n hx hb dX1_init_12 rfl (lv_at hl 0 rfl) ?_
  refine lv_bipush (v := 6) hx hb dX1_init_13 (by decide) ?_
  refine w_newa (atype := .int) (ty := .int) (cy := cyI) (N := 6) hx hb (hts _ tk_121) rfl hK hP hD hS hA 0 rfl rfl (by decide) (by decide) (by decide) (Nat.le_of_ble_eq_true rfl) (Nat.le_of_ble_eq_true rfl) dX1_init_15 (fun q2 H hP hD hS => ?_)
  have hP : va_P D vwCl [(h0, .inr (0, [.int 0, .ref q1, .null, .null, .int 0, .null, .null, .null, .null, .int 0, .int 0])), (q1, .inl (cyI, 6, .inl (fun _ => 0))), (q2, .inl (cyI, 6, .inl (fun _ => 0)))] H := hP
  have hD : va_D A [(h0, .inr (0, [.int 0, .ref q1, .null, .null, .int 0, .null, .null, .null, .null, .int 0, .int 0])), (q1, .inl (cyI, 6, .inl (fun _ => 0))), (q2, .inl (cyI, 6, .inl (fun _ => 0)))] := hD
  refine va_putF (D := D) (ci := 0) (v := .ref q2) (ty := .array .int) (C := RX1) (T := TX1) (N := 11) hx hb hts tlX1 tyX1 tyX1_ok nmX1 hown hK hP hD hS 0 rfl rfl 2 (by decide) (hts _ tk_72) (fun _ h9 => h9) rfl hin rfl (by decide +kernel) rfl rfl (Nat.le_of_ble_eq_true rfl) dX1_init_17 (fun H locs hP hD hS => ?_)
  have hP : va_P D vwCl [(h0, .inr (0, [.int 0, .ref q1, .ref q2, .null, .int 0, .null, .null, .null, .null, .int 0, .int 0])), (q1, .inl (cyI, 6, .inl (fun _ => 0))), (q2, .inl (cyI, 6, .inl (fun _ => 0)))] H := hP
  have hD : va_D A [(h0, .inr (0, [.int 0, .ref q1, .ref q2, .null, .int 0, .null, .null, .null, .null, .int 0, .int 0])), (q1, .inl (cyI, 6, .inl (fun _ => 0))), (q2, .inl (cyI, 6, .inl (fun _ => 0)))] := hD
  refine lv_aload_n hx hb dX1_init_20 rfl (lv_at hl 0 rfl) ?_
  refine lv_bipush (v := 6) hx hb dX1_init_21 (by decide) ?_
  refine w_newa (atype := .int) (ty := .int) (cy := cyI) (N := 6) hx hb (hts _ tk_121) rfl hK hP hD hS hA 0 rfl rfl (by decide) (by decide) (by decide) (Nat.le_of_ble_eq_true rfl) (Nat.le_of_ble_eq_true rfl) dX1_init_23 (fun q3 H hP hD hS => ?_)
  have hP : va_P D vwCl [(h0, .inr (0, [.int 0, .ref q1, .ref q2, .null, .int 0, .null, .null, .null, .null, .int 0, .int 0])), (q1, .inl (cyI, 6, .inl (fun _ => 0))), (q2, .inl (cyI, 6, .inl (fun _ => 0))), (q3, .inl (cyI, 6, .inl (fun _ => 0)))] H := hP
  have hD : va_D A [(h0, .inr (0, [.int 0, .ref q1, .ref q2, .null, .int 0, .null, .null, .null, .null, .int 0, .int 0])), (q1, .inl (cyI, 6, .inl (fun _ => 0))), (q2, .inl (cyI, 6, .inl (fun _ => 0))), (q3, .inl (cyI, 6, .inl (fun _ => 0)))] := hD
  refine va_putF (D := D) (ci := 0) (v := .ref q3) (ty := .array .int) (C := RX1) (T := TX1) (N := 11) hx hb hts tlX1 tyX1 tyX1_ok nmX1 hown hK hP hD hS 0 rfl rfl 3 (by decide) (hts _ tk_76) (fun _ h9 => h9) rfl hin rfl (by decide +kernel) rfl rfl (Nat.le_of_ble_eq_true rfl) dX1_init_25 (fun H locs hP hD hS => ?_)
  have hP : va_P D vwCl [(h0, .inr (0, [.int 0, .ref q1, .ref q2, .ref q3, .int 0, .null, .null, .null, .null, .int 0, .int 0])), (q1, .inl (cyI, 6, .inl (fun _ => 0))), (q2, .inl (cyI, 6, .inl (fun _ => 0))), (q3, .inl (cyI, 6, .inl (fun _ => 0)))] H := hP
  have hD : va_D A [(h0, .inr (0, [.int 0, .ref q1, .ref q2, .ref q3, .int 0, .null, .null, .null, .null, .int 0, .int 0])), (q1, .inl (cyI, 6, .inl (fun _ => 0))), (q2, .inl (cyI, 6, .inl (fun _ => 0))), (q3, .inl (cyI, 6, .inl (fun _ => 0)))] := hD
  refine lv_aload_n hx hb dX1_init_28 rfl (lv_at hl 0 rfl) ?_
  refine lv_iconst (v := 3) hx hb dX1_init_29 (by decide) ?_
  refine w_newa (atype := .int) (ty := .int) (cy := cyI) (N := 3) hx hb (hts _ tk_121) rfl hK hP hD hS hA 0 rfl rfl (by decide) (by decide) (by decide) (Nat.le_of_ble_eq_true rfl) (Nat.le_of_ble_eq_true rfl) dX1_init_30 (fun q4 H hP hD hS => ?_)
  have hP : va_P D vwCl [(h0, .inr (0, [.int 0, .ref q1, .ref q2, .ref q3, .int 0, .null, .null, .null, .null, .int 0, .int 0])), (q1, .inl (cyI, 6, .inl (fun _ => 0))), (q2, .inl (cyI, 6, .inl (fun _ => 0))), (q3, .inl (cyI, 6, .inl (fun _ => 0))), (q4, .inl (cyI, 3, .inl (fun _ => 0)))] H := hP
  have hD : va_D A [(h0, .inr (0, [.int 0, .ref q1, .ref q2, .ref q3, .int 0, .null, .null, .null, .null, .int 0, .int 0])), (q1, .inl (cyI, 6, .inl (fun _ => 0))), (q2, .inl (cyI, 6, .inl (fun _ => 0))), (q3, .inl (cyI, 6, .inl (fun _ => 0))), (q4, .inl (cyI, 3, .inl (fun _ => 0)))] := hD
  refine va_putF (D := D) (ci := 0) (v := .ref q4) (ty := .array .int) (C := RX1) (T := TX1) (N := 11) hx hb hts tlX1 tyX1 tyX1_ok nmX1 hown hK hP hD hS 0 rfl rfl 5 (by decide) (hts _ tk_82) (fun _ h9 => h9) rfl hin rfl (by decide +kernel) rfl rfl (Nat.le_of_ble_eq_true rfl) dX1_init_32 (fun H locs hP hD hS => ?_)
  have hP : va_P D vwCl [(h0, .inr (0, [.int 0, .ref q1, .ref q2, .ref q3, .int 0, .ref q4, .null, .null, .null, .int 0, .int 0])), (q1, .inl (cyI, 6, .inl (fun _ => 0))), (q2, .inl (cyI, 6, .inl (fun _ => 0))), (q3, .inl (cyI, 6, .inl (fun _ => 0))), (q4, .inl (cyI, 3, .inl (fun _ => 0)))] H := hP
  have hD : va_D A [(h0, .inr (0, [.int 0, .ref q1, .ref q2, .ref q3, .int 0, .ref q4, .null, .null, .null, .int 0, .int 0])), (q1, .inl (cyI, 6, .inl (fun _ => 0))), (q2, .inl (cyI, 6, .inl (fun _ => 0))), (q3, .inl (cyI, 6, .inl (fun _ => 0))), (q4, .inl (cyI, 3, .inl (fun _ => 0)))] := hD
  refine lv_aload_n hx hb dX1_init_35 rfl (lv_at hl 0 rfl) ?_
  refine lv_iconst (v := 3) hx hb dX1_init_36 (by decide) ?_
  refine w_newa (atype := .int) (ty := .int) (cy := cyI) (N := 3) hx hb (hts _ tk_121) rfl hK hP hD hS hA 0 rfl rfl (by decide) (by decide) (by decide) (Nat.le_of_ble_eq_true rfl) (Nat.le_of_ble_eq_true rfl) dX1_init_37 (fun q5 H hP hD hS => ?_)
  have hP : va_P D vwCl [(h0, .inr (0, [.int 0, .ref q1, .ref q2, .ref q3, .int 0, .ref q4, .null, .null, .null, .int 0, .int 0])), (q1, .inl (cyI, 6, .inl (fun _ => 0))), (q2, .inl (cyI, 6, .inl (fun _ => 0))), (q3, .inl (cyI, 6, .inl (fun _ => 0))), (q4, .inl (cyI, 3, .inl (fun _ => 0))), (q5, .inl (cyI, 3, .inl (fun _ => 0)))] H := hP
  have hD : va_D A [(h0, .inr (0, [.int 0, .ref q1, .ref q2, .ref q3, .int 0, .ref q4, .null, .null, .null, .int 0, .int 0])), (q1, .inl (cyI, 6, .inl (fun _ => 0))), (q2, .inl (cyI, 6, .inl (fun _ => 0))), (q3, .inl (cyI, 6, .inl (fun _ => 0))), (q4, .inl (cyI, 3, .inl (fun _ => 0))), (q5, .inl (cyI, 3, .inl (fun _ => 0)))] := hD
  refine va_putF (D := D) (ci := 0) (v := .ref q5) (ty := .array .int) (C := RX1) (T := TX1) (N := 11) hx hb hts tlX1 tyX1 tyX1_ok nmX1 hown hK hP hD hS 0 rfl rfl 6 (by decide) (hts _ tk_85) (fun _ h9 => h9) rfl hin rfl (by decide +kernel) rfl rfl (Nat.le_of_ble_eq_true rfl) dX1_init_39 (fun H locs hP hD hS => ?_)
  have hP : va_P D vwCl [(h0, .inr (0, [.int 0, .ref q1, .ref q2, .ref q3, .int 0, .ref q4, .ref q5, .null, .null, .int 0, .int 0])), (q1, .inl (cyI, 6, .inl (fun _ => 0))), (q2, .inl (cyI, 6, .inl (fun _ => 0))), (q3, .inl (cyI, 6, .inl (fun _ => 0))), (q4, .inl (cyI, 3, .inl (fun _ => 0))), (q5, .inl (cyI, 3, .inl (fun _ => 0)))] H := hP
  have hD : va_D A [(h0, .inr (0, [.int 0, .ref q1, .ref q2, .ref q3, .int 0, .ref q4, .ref q5, .null, .null, .int 0, .int 0])), (q1, .inl (cyI, 6, .inl (fun _ => 0))), (q2, .inl (cyI, 6, .inl (fun _ => 0))), (q3, .inl (cyI, 6, .inl (fun _ => 0))), (q4, .inl (cyI, 3, .inl (fun _ => 0))), (q5, .inl (cyI, 3, .inl (fun _ => 0)))] := hD
  refine lv_aload_n hx hb dX1_init_42 rfl (lv_at hl 0 rfl) ?_
  refine lv_iconst (v := 3) hx hb dX1_init_43 (by decide) ?_
  refine w_newa (atype := .int) (ty := .int) (cy := cyI) (N := 3) hx hb (hts _ tk_121) rfl hK hP hD hS hA 0 rfl rfl (by decide) (by decide) (by decide) (Nat.le_of_ble_eq_true rfl) (Nat.le_of_ble_eq_true rfl) dX1_init_44 (fun q6 H hP hD hS => ?_)
  have hP : va_P D vwCl [(h0, .inr (0, [.int 0, .ref q1, .ref q2, .ref q3, .int 0, .ref q4, .ref q5, .null, .null, .int 0, .int 0])), (q1, .inl (cyI, 6, .inl (fun _ => 0))), (q2, .inl (cyI, 6, .inl (fun _ => 0))), (q3, .inl (cyI, 6, .inl (fun _ => 0))), (q4, .inl (cyI, 3, .inl (fun _ => 0))), (q5, .inl (cyI, 3, .inl (fun _ => 0))), (q6, .inl (cyI, 3, .inl (fun _ => 0)))] H := hP
  have hD : va_D A [(h0, .inr (0, [.int 0, .ref q1, .ref q2, .ref q3, .int 0, .ref q4, .ref q5, .null, .null, .int 0, .int 0])), (q1, .inl (cyI, 6, .inl (fun _ => 0))), (q2, .inl (cyI, 6, .inl (fun _ => 0))), (q3, .inl (cyI, 6, .inl (fun _ => 0))), (q4, .inl (cyI, 3, .inl (fun _ => 0))), (q5, .inl (cyI, 3, .inl (fun _ => 0))), (q6, .inl (cyI, 3, .inl (fun _ => 0)))] := hD
  refine va_putF (D := D) (ci := 0) (v := .ref q6) (ty := .array .int) (C := RX1) (T := TX1) (N := 11) hx hb hts tlX1 tyX1 tyX1_ok nmX1 hown hK hP hD hS 0 rfl rfl 7 (by decide) (hts _ tk_88) (fun _ h9 => h9) rfl hin rfl (by decide +kernel) rfl rfl (Nat.le_of_ble_eq_true rfl) dX1_init_46 (fun H locs hP hD hS => ?_)
  have hP : va_P D vwCl [(h0, .inr (0, [.int 0, .ref q1, .ref q2, .ref q3, .int 0, .ref q4, .ref q5, .ref q6, .null, .int 0, .int 0])), (q1, .inl (cyI, 6, .inl (fun _ => 0))), (q2, .inl (cyI, 6, .inl (fun _ => 0))), (q3, .inl (cyI, 6, .inl (fun _ => 0))), (q4, .inl (cyI, 3, .inl (fun _ => 0))), (q5, .inl (cyI, 3, .inl (fun _ => 0))), (q6, .inl (cyI, 3, .inl (fun _ => 0)))] H := hP
  have hD : va_D A [(h0, .inr (0, [.int 0, .ref q1, .ref q2, .ref q3, .int 0, .ref q4, .ref q5, .ref q6, .null, .int 0, .int 0])), (q1, .inl (cyI, 6, .inl (fun _ => 0))), (q2, .inl (cyI, 6, .inl (fun _ => 0))), (q3, .inl (cyI, 6, .inl (fun _ => 0))), (q4, .inl (cyI, 3, .inl (fun _ => 0))), (q5, .inl (cyI, 3, .inl (fun _ => 0))), (q6, .inl (cyI, 3, .inl (fun _ => 0)))] := hD
  refine lv_aload_n hx hb dX1_init_49 rfl (lv_at hl 0 rfl) ?_
  refine lv_iconst (v := 3) hx hb dX1_init_50 (by decide) ?_
  refine w_newa (atype := .int) (ty := .int) (cy := cyI) (N := 3) hx hb (hts _ tk_121) rfl hK hP hD hS hA 0 rfl rfl (by decide) (by decide) (by decide) (Nat.le_of_ble_eq_true rfl) (Nat.le_of_ble_eq_true rfl) dX1_init_51 (fun q7 H hP hD hS => ?_)
  have hP : va_P D vwCl [(h0, .inr (0, [.int 0, .ref q1, .ref q2, .ref q3, .int 0, .ref q4, .ref q5, .ref q6, .null, .int 0, .int 0])), (q1, .inl (cyI, 6, .inl (fun _ => 0))), (q2, .inl (cyI, 6, .inl (fun _ => 0))), (q3, .inl (cyI, 6, .inl (fun _ => 0))), (q4, .inl (cyI, 3, .inl (fun _ => 0))), (q5, .inl (cyI, 3, .inl (fun _ => 0))), (q6, .inl (cyI, 3, .inl (fun _ => 0))), (q7, .inl (cyI, 3, .inl (fun _ => 0)))] H := hP
  have hD : va_D A [(h0, .inr (0, [.int 0, .ref q1, .ref q2, .ref q3, .int 0, .ref q4, .ref q5, .ref q6, .null, .int 0, .int 0])), (q1, .inl (cyI, 6, .inl (fun _ => 0))), (q2, .inl (cyI, 6, .inl (fun _ => 0))), (q3, .inl (cyI, 6, .inl (fun _ => 0))), (q4, .inl (cyI, 3, .inl (fun _ => 0))), (q5, .inl (cyI, 3, .inl (fun _ => 0))), (q6, .inl (cyI, 3, .inl (fun _ => 0))), (q7, .inl (cyI, 3, .inl (fun _ => 0)))] := hD
  refine va_putF (D := D) (ci := 0) (v := .ref q7) (ty := .array .int) (C := RX1) (T := TX1) (N := 11) hx hb hts tlX1 tyX1 tyX1_ok nmX1 hown hK hP hD hS 0 rfl rfl 8 (by decide) (hts _ tk_91) (fun _ h9 => h9) rfl hin rfl (by decide +kernel) rfl rfl (Nat.le_of_ble_eq_true rfl) dX1_init_53 (fun H locs hP hD hS => ?_)
  have hP : va_P D vwCl [(h0, .inr (0, [.int 0, .ref q1, .ref q2, .ref q3, .int 0, .ref q4, .ref q5, .ref q6, .ref q7, .int 0, .int 0])), (q1, .inl (cyI, 6, .inl (fun _ => 0))), (q2, .inl (cyI, 6, .inl (fun _ => 0))), (q3, .inl (cyI, 6, .inl (fun _ => 0))), (q4, .inl (cyI, 3, .inl (fun _ => 0))), (q5, .inl (cyI, 3, .inl (fun _ => 0))), (q6, .inl (cyI, 3, .inl (fun _ => 0))), (q7, .inl (cyI, 3, .inl (fun _ => 0)))] H := hP
  have hD : va_D A [(h0, .inr (0, [.int 0, .ref q1, .ref q2, .ref q3, .int 0, .ref q4, .ref q5, .ref q6, .ref q7, .int 0, .int 0])), (q1, .inl (cyI, 6, .inl (fun _ => 0))), (q2, .inl (cyI, 6, .inl (fun _ => 0))), (q3, .inl (cyI, 6, .inl (fun _ => 0))), (q4, .inl (cyI, 3, .inl (fun _ => 0))), (q5, .inl (cyI, 3, .inl (fun _ => 0))), (q6, .inl (cyI, 3, .inl (fun _ => 0))), (q7, .inl (cyI, 3, .inl (fun _ => 0)))] := hD
  refine lv_aload_n hx hb dX1_init_56 rfl (lv_at hl 0 rfl) ?_
  refine lv_iconst (v := 0) hx hb dX1_init_57 (by decide) ?_
  refine va_put (D := D) (ci := 0) (v := .int 0) (ty := .int) (C := RX1) (T := TX1) (N := 11) hx hb hts tlX1 tyX1 tyX1_ok nmX1 hown hK hP hD hS 0 rfl rfl 9 (by decide) (hts _ tk_94) (fun _ h9 => h9) rfl (by decide +kernel) rfl rfl (Nat.le_of_ble_eq_true rfl) dX1_init_58 (fun H locs hP hD hS => ?_)
  have hP : va_P D vwCl [(h0, .inr (0, [.int 0, .ref q1, .ref q2, .ref q3, .int 0, .ref q4, .ref q5, .ref q6, .ref q7, .int 0, .int 0])), (q1, .inl (cyI, 6, .inl (fun _ => 0))), (q2, .inl (cyI, 6, .inl (fun _ => 0))), (q3, .inl (cyI, 6, .inl (fun _ => 0))), (q4, .inl (cyI, 3, .inl (fun _ => 0))), (q5, .inl (cyI, 3, .inl (fun _ => 0))), (q6, .inl (cyI, 3, .inl (fun _ => 0))), (q7, .inl (cyI, 3, .inl (fun _ => 0)))] H := hP
  have hD : va_D A [(h0, .inr (0, [.int 0, .ref q1, .ref q2, .ref q3, .int 0, .ref q4, .ref q5, .ref q6, .ref q7, .int 0, .int 0])), (q1, .inl (cyI, 6, .inl (fun _ => 0))), (q2, .inl (cyI, 6, .inl (fun _ => 0))), (q3, .inl (cyI, 6, .inl (fun _ => 0))), (q4, .inl (cyI, 3, .inl (fun _ => 0))), (q5, .inl (cyI, 3, .inl (fun _ => 0))), (q6, .inl (cyI, 3, .inl (fun _ => 0))), (q7, .inl (cyI, 3, .inl (fun _ => 0)))] := hD
  refine W.widen (k := 7) (n := 30) (Nat.le_of_ble_eq_true rfl) (Nat.le_of_ble_eq_true rfl) ?_
  have hP9 := hP.sub (ws' := [(h0, .inr (0, [.int 0, .ref q1, .ref q2, .ref q3, .int 0, .ref q4, .ref q5, .ref q6, .ref q7, .int 0, .int 0])), (q1, .inl (cyI, 6, .inl (fun _ => 0))), (q2, .inl (cyI, 6, .inl (fun _ => 0))), (q3, .inl (cyI, 6, .inl (fun _ => 0))), (q4, .inl (cyI, 3, .inl (fun _ => 0))), (q5, .inl (cyI, 3, .inl (fun _ => 0))), (q6, .inl (cyI, 3, .inl (fun _ => 0))), (q7, .inl (cyI, 3, .inl (fun _ => 0)))]) [0, 1, 2, 3, 4, 5, 6, 7] rfl
  have hD9 := hD.sub (ws' := [(h0, .inr (0, [.int 0, .ref q1, .ref q2, .ref q3, .int 0, .ref q4, .ref q5, .ref q6, .ref q7, .int 0, .int 0])), (q1, .inl (cyI, 6, .inl (fun _ => 0))), (q2, .inl (cyI, 6, .inl (fun _ => 0))), (q3, .inl (cyI, 6, .inl (fun _ => 0))), (q4, .inl (cyI, 3, .inl (fun _ => 0))), (q5, .inl (cyI, 3, .inl (fun _ => 0))), (q6, .inl (cyI, 3, .inl (fun _ => 0))), (q7, .inl (cyI, 3, .inl (fun _ => 0)))]) [0, 1, 2, 3, 4, 5, 6, 7] (by decide) rfl
  exact W.vret hx hb hr (fun t ht hW => ⟨⟨(fun k => [h0, q1, q2, q3, q4, q5, q6, q7].getD k 0), rfl, rfl, by rw [ht]; exact hP9, va_K.moved hW.alike hK, hN.warm hW, hD9⟩, hS.F ht⟩) hS.2.2 dX1_init_61
set_option maxHeartbeats 4000000 in
set_option maxRecDepth 100000 in
theorem kX2_init (l : Launch) (D : va_G) (cyI cyZ cyO : ClassId) (h0 sz : Nat) : Met l yX2_init (.code yX2_init cX2_init 2 none :: TW) ({ frames := 1, cells := 2, slots := 768, locals := 12 }) (va_Pc [.ref h0] (fun U => U.heap.size = sz ∧ va_P D vwCl [(h0, .inr (1, [.null, .null]))] U.heap ∧ va_K D vwCl [(cyI, .int), (cyZ, .boolean), (cyO, .object "GridStarts$Grid")] U ∧ Nst U ∧ va_D (fun _ => True) [(h0, .inr (1, [.null, .null]))])) (va_Qv (fun u : Nat → Nat => u 0 = h0) (fun u t => va_P D vwCl [((u 0), .inr (1, [.ref (u 1), .ref (u 2)])), ((u 1), .inl (cyI, 384, .inl (upd (upd (upd (upd (upd (upd (fun _ => 0) 0 1) 1 2) 2 4) 3 8) 4 16) 5 32))), ((u 2), .inl (cyI, 384, .inl (fun _ => 0)))] t.heap ∧ va_K D vwCl [(cyI, .int), (cyZ, .boolean), (cyO, .object "GridStarts$Grid")] t ∧ Nst t ∧ va_D (va_A [(h0, .inr (1, [.null, .null]))] sz) [((u 0), .inr (1, [.ref (u 1), .ref (u 2)])), ((u 1), .inl (cyI, 384, .inl (upd (upd (upd (upd (upd (upd (fun _ => 0) 0 1) 1 2) 2 4) 3 8) 4 16) 5 32))), ((u 2), .inl (cyI, 384, .inl (fun _ => 0)))]) (va_A [(h0, .inr (1, [.null, .null]))] sz)) 2 768 (va_A [(h0, .inr (1, [.null, .null]))] sz) := by
  refine Met.ofW (cc := cX2_init) (maxL := 2) (ret := none) (by decide) rfl ?_
  intro p e s m args below meth c s₁ B hml hv
  obtain ⟨rfl, hsz, hP, hK, hN, hD0⟩ := hv
  have hx := B.exec
  have hb := B.bytes
  have hr := B.returns
  have hts0 := atoms_spec (ws := .code yX2_init cX2_init 2 none :: TW) B.pre
  have hts : ∀ w ∈ TW, w.before _ s = true := fun w h => hts0 w (List.mem_cons_of_mem _ h)
  have hown : s.vm.findClass RX2 = some m.cls := findClass_of_methodNamed B.named
  have hlocks := B.notSynchronized
  have hin : meth.name = "<init>" := (name_of_methodNamed B.named B.method).1
  subst hsz
  have hD := hD0.self (sz := s.heap.size)
  generalize hAe : va_A [(h0, .inr (1, [.null, .null]))] s.heap.size = A at hD ⊢
  have hA : ∀ q : Nat, s.heap.size ≤ q → A q := fun q h => by rw [← hAe]; exact Or.inr h
  have hS : va_S A s.heap s.heap [] := va_S.rf
  have hl := lv_entry ([.ref h0]) (n := 2) (Nat.le_of_ble_eq_true rfl)
  rw [lg_entry_eq]
  generalize (lg_sl ([.ref h0]) ++ List.replicate (2 - (lg_sl ([.ref h0])).length) Slot.unset).toArray = ls at hl ⊢
  have hl : lv_has ls 2 [(0, .ref h0)] := hl
  refine lv_aload_n hx hb dX2_init_0 rfl (lv_at hl 0 rfl) ?_
  refine W.objInit hx hb hown (hts _ tk_127) (hts _ tk_57) (hts _ tk_58) rfl (by rw [hml]; exact hl.1) rfl dX2_init_1 (Nat.le_of_ble_eq_true rfl) (Nat.le_of_ble_eq_true rfl) ?_
  refine W.eq (g2 := F0 m 4 ls []) rfl ?_
  refine lv_aload_n hx hb dX2_init_4 rfl (lv_at hl 0 rfl) ?_
  refine lv_sipush (v := 384) hx hb dX2_init_5 (by decide) ?_
  refine w_newa (atype := .int) (ty := .int) (cy := cyI) (N := 384) hx hb (hts _ tk_121) rfl hK hP hD hS hA 0 rfl rfl (by decide) (by decide) (by decide) (Nat.le_of_ble_eq_true rfl) (Nat.le_of_ble_eq_true rfl) dX2_init_8 (fun q1 H hP hD hS => ?_)
  have hP : va_P D vwCl [(h0, .inr (1, [.null, .null])), (q1, .inl (cyI, 384, .inl (fun _ => 0)))] H := hP
  have hD : va_D A [(h0, .inr (1, [.null, .null])), (q1, .inl (cyI, 384, .inl (fun _ => 0)))] := hD
  refine va_putF (D := D) (ci := 1) (v := .ref q1) (ty := .array .int) (C := RX2) (T := TX2) (N := 2) hx hb hts tlX2 tyX2 tyX2_ok nmX2 hown hK hP hD hS 0 rfl rfl 0 (by decide) (hts _ tk_128) (fun _ h9 => h9) rfl hin rfl (by decide +kernel) rfl rfl (Nat.le_of_ble_eq_true rfl) dX2_init_10 (fun H locs hP hD hS => ?_)
  have hP : va_P D vwCl [(h0, .inr (1, [.ref q1, .null])), (q1, .inl (cyI, 384, .inl (fun _ => 0)))] H := hP
  have hD : va_D A [(h0, .inr (1, [.ref q1, .null])), (q1, .inl (cyI, 384, .inl (fun _ => 0)))] := hD
  refine lv_aload_n hx hb dX2_init_13 rfl (lv_at hl 0 rfl) ?_
  refine lv_sipush (v := 384) hx hb dX2_init_14 (by decide) ?_
  refine w_newa (atype := .int) (ty := .int) (cy := cyI) (N := 384) hx hb (hts _ tk_121) rfl hK hP hD hS hA 0 rfl rfl (by decide) (by decide) (by decide) (Nat.le_of_ble_eq_true rfl) (Nat.le_of_ble_eq_true rfl) dX2_init_17 (fun q2 H hP hD hS => ?_)
  have hP : va_P D vwCl [(h0, .inr (1, [.ref q1, .null])), (q1, .inl (cyI, 384, .inl (fun _ => 0))), (q2, .inl (cyI, 384, .inl (fun _ => 0)))] H := hP
  have hD : va_D A [(h0, .inr (1, [.ref q1, .null])), (q1, .inl (cyI, 384, .inl (fun _ => 0))), (q2, .inl (cyI, 384, .inl (fun _ => 0)))] := hD
  refine va_putF (D := D) (ci := 1) (v := .ref q2) (ty := .array .int) (C := RX2) (T := TX2) (N := 2) hx hb hts tlX2 tyX2 tyX2_ok nmX2 hown hK hP hD hS 0 rfl rfl 1 (by decide) (hts _ tk_129) (fun _ h9 => h9) rfl hin rfl (by decide +kernel) rfl rfl (Nat.le_of_ble_eq_true rfl) dX2_init_19 (fun H locs hP hD hS => ?_)
  have hP : va_P D vwCl [(h0, .inr (1, [.ref q1, .ref q2])), (q1, .inl (cyI, 384, .inl (fun _ => 0))), (q2, .inl (cyI, 384, .inl (fun _ => 0)))] H := hP
  have hD : va_D A [(h0, .inr (1, [.ref q1, .ref q2])), (q1, .inl (cyI, 384, .inl (fun _ => 0))), (q2, .inl (cyI, 384, .inl (fun _ => 0)))] := hD
  refine lv_iconst (v := 0) hx hb dX2_init_22 (by decide) ?_
  refine lv_istore_n (lv' := [(1, .int 0), (0, .ref h0)]) hx hb dX2_init_23 rfl hl (by decide) rfl (fun ls hl => ?_)
  refine lv_iload_n hx hb dX2_init_24 rfl (lv_at hl 0 rfl) ?_
  refine lv_bipush (v := 6) hx hb dX2_init_25 (by decide) ?_
  refine lv_icmp_ge (tgt := 45) hx hb dX2_init_27 (by decide) (fun c3 => absurd c3 (by decide)) (fun _ => ?_)
  refine lv_aload_n hx hb dX2_init_30 rfl (lv_at hl 1 rfl) ?_
  refine va_get (D := D) (ci := 1) (v := .ref q1) (C := RX2) (T := TX2) (N := 2) hx hb hts tlX2 hown hK hP 0 rfl rfl 0 (by decide) (hts _ tk_128) (fun _ h9 => h9) rfl dX2_init_31 ?_
  refine lv_iload_n hx hb dX2_init_34 rfl (lv_at hl 0 rfl) ?_
  refine lv_iconst (v := 1) hx hb dX2_init_35 (by decide) ?_
  refine lv_iload_n hx hb dX2_init_36 rfl (lv_at hl 0 rfl) ?_
  refine lv_ishl hx hb dX2_init_37 ?_
  refine lv_topi (fun z4 ez4 => ?_)
  obtain rfl : z4 = 1 := ez4.trans (by decide)
  refine va_iast (D := D) hx hb hK hP hD hS 1 0 rfl rfl (by unfold vp_in; decide) dX2_init_38 (fun H locs hP hD hS => ?_)
  have hP : va_P D vwCl [(h0, .inr (1, [.ref q1, .ref q2])), (q1, .inl (cyI, 384, .inl (upd (fun _ => 0) 0 1))), (q2, .inl (cyI, 384, .inl (fun _ => 0)))] H := hP
  have hD : va_D A [(h0, .inr (1, [.ref q1, .ref q2])), (q1, .inl (cyI, 384, .inl (upd (fun _ => 0) 0 1))), (q2, .inl (cyI, 384, .inl (fun _ => 0)))] := hD
  refine lv_iinc (v := 1) (lv' := [(1, .int 1), (0, .ref h0)]) hx hb dX2_init_39 hl (k := 0) rfl (by decide) (by decide) rfl (fun ls hl => ?_)
  refine lv_goto (tgt := 24) hx hb dX2_init_42 (by decide) ?_
  refine lv_iload_n hx hb dX2_init_24 rfl (lv_at hl 0 rfl) ?_
  refine lv_bipush (v := 6) hx hb dX2_init_25 (by decide) ?_
  refine lv_icmp_ge (tgt := 45) hx hb dX2_init_27 (by decide) (fun c5 => absurd c5 (by decide)) (fun _ => ?_)
  refine lv_aload_n hx hb dX2_init_30 rfl (lv_at hl 1 rfl) ?_
  refine va_get (D := D) (ci := 1) (v := .ref q1) (C := RX2) (T := TX2) (N := 2) hx hb hts tlX2 hown hK hP 0 rfl rfl 0 (by decide) (hts _ tk_128) (fun _ h9 => h9) rfl dX2_init_31 ?_
  refine lv_iload_n hx hb dX2_init_34 rfl (lv_at hl 0 rfl) ?_
  refine lv_iconst (v := 1) hx hb dX2_init_35 (by decide) ?_
  refine lv_iload_n hx hb dX2_init_36 rfl (lv_at hl 0 rfl) ?_
  refine lv_ishl hx hb dX2_init_37 ?_
  refine lv_topi (fun z6 ez6 => ?_)
  obtain rfl : z6 = 2 := ez6.trans (by decide)
  refine va_iast (D := D) hx hb hK hP hD hS 1 0 rfl rfl (by unfold vp_in; decide) dX2_init_38 (fun H locs hP hD hS => ?_)
  have hP : va_P D vwCl [(h0, .inr (1, [.ref q1, .ref q2])), (q1, .inl (cyI, 384, .inl (upd (upd (fun _ => 0) 0 1) 1 2))), (q2, .inl (cyI, 384, .inl (fun _ => 0)))] H := hP
  have hD : va_D A [(h0, .inr (1, [.ref q1, .ref q2])), (q1, .inl (cyI, 384, .inl (upd (upd (fun _ => 0) 0 1) 1 2))), (q2, .inl (cyI, 384, .inl (fun _ => 0)))] := hD
  refine lv_iinc (v := 2) (lv' := [(1, .int 2), (0, .ref h0)]) hx hb dX2_init_39 hl (k := 0) rfl (by decide) (by decide) rfl (fun ls hl => ?_)
  refine lv_goto (tgt := 24) hx hb dX2_init_42 (by decide) ?_
  refine lv_iload_n hx hb dX2_init_24 rfl (lv_at hl 0 rfl) ?_
  refine lv_bipush (v := 6) hx hb dX2_init_25 (by decide) ?_
  refine lv_icmp_ge (tgt := 45) hx hb dX2_init_27 (by decide) (fun c7 => absurd c7 (by decide)) (fun _ => ?_)
  refine lv_aload_n hx hb dX2_init_30 rfl (lv_at hl 1 rfl) ?_
  refine va_get (D := D) (ci := 1) (v := .ref q1) (C := RX2) (T := TX2) (N := 2) hx hb hts tlX2 hown hK hP 0 rfl rfl 0 (by decide) (hts _ tk_128) (fun _ h9 => h9) rfl dX2_init_31 ?_
  refine lv_iload_n hx hb dX2_init_34 rfl (lv_at hl 0 rfl) ?_
  refine lv_iconst (v := 1) hx hb dX2_init_35 (by decide) ?_
  refine lv_iload_n hx hb dX2_init_36 rfl (lv_at hl 0 rfl) ?_
  refine lv_ishl hx hb dX2_init_37 ?_
  refine lv_topi (fun z8 ez8 => ?_)
  obtain rfl : z8 = 4 := ez8.trans (by decide)
  refine va_iast (D := D) hx hb hK hP hD hS 1 0 rfl rfl (by unfold vp_in; decide) dX2_init_38 (fun H locs hP hD hS => ?_)
  have hP : va_P D vwCl [(h0, .inr (1, [.ref q1, .ref q2])), (q1, .inl (cyI, 384, .inl (upd (upd (upd (fun _ => 0) 0 1) 1 2) 2 4))), (q2, .inl (cyI, 384, .inl (fun _ => 0)))] H := hP
  have hD : va_D A [(h0, .inr (1, [.ref q1, .ref q2])), (q1, .inl (cyI, 384, .inl (upd (upd (upd (fun _ => 0) 0 1) 1 2) 2 4))), (q2, .inl (cyI, 384, .inl (fun _ => 0)))] := hD
  refine lv_iinc (v := 3) (lv' := [(1, .int 3), (0, .ref h0)]) hx hb dX2_init_39 hl (k := 0) rfl (by decide) (by decide) rfl (fun ls hl => ?_)
  refine lv_goto (tgt := 24) hx hb dX2_init_42 (by decide) ?_
  refine lv_iload_n hx hb dX2_init_24 rfl (lv_at hl 0 rfl) ?_
  refine lv_bipush (v := 6) hx hb dX2_init_25 (by decide) ?_
  refine lv_icmp_ge (tgt := 45) hx hb dX2_init_27 (by decide) (fun c9 => absurd c9 (by decide)) (fun _ => ?_)
  refine lv_aload_n hx hb dX2_init_30 rfl (lv_at hl 1 rfl) ?_
  refine va_get (D := D) (ci := 1) (v := .ref q1) (C := RX2) (T := TX2) (N := 2) hx hb hts tlX2 hown hK hP 0 rfl rfl 0 (by decide) (hts _ tk_128) (fun _ h9 => h9) rfl dX2_init_31 ?_
  refine lv_iload_n hx hb dX2_init_34 rfl (lv_at hl 0 rfl) ?_
  refine lv_iconst (v := 1) hx hb dX2_init_35 (by decide) ?_
  refine lv_iload_n hx hb dX2_init_36 rfl (lv_at hl 0 rfl) ?_
  refine lv_ishl hx hb dX2_init_37 ?_
  refine lv_topi (fun z10 ez10 => ?_)
  obtain rfl : z10 = 8 := ez10.trans (by decide)
  refine va_iast (D := D) hx hb hK hP hD hS 1 0 rfl rfl (by unfold vp_in; decide) dX2_init_38 (fun H locs hP hD hS => ?_)
  have hP : va_P D vwCl [(h0, .inr (1, [.ref q1, .ref q2])), (q1, .inl (cyI, 384, .inl (upd (upd (upd (upd (fun _ => 0) 0 1) 1 2) 2 4) 3 8))), (q2, .inl (cyI, 384, .inl (fun _ => 0)))] H := hP
  have hD : va_D A [(h0, .inr (1, [.ref q1, .ref q2])), (q1, .inl (cyI, 384, .inl (upd (upd (upd (upd (fun _ => 0) 0 1) 1 2) 2 4) 3 8))), (q2, .inl (cyI, 384, .inl (fun _ => 0)))] := hD
  refine lv_iinc (v := 4) (lv' := [(1, .int 4), (0, .ref h0)]) hx hb dX2_init_39 hl (k := 0) rfl (by decide) (by decide) rfl (fun ls hl => ?_)
  refine lv_goto (tgt := 24) hx hb dX2_init_42 (by decide) ?_
  refine lv_iload_n hx hb dX2_init_24 rfl (lv_at hl 0 rfl) ?_
  refine lv_bipush (v := 6) hx hb dX2_init_25 (by decide) ?_
  refine lv_icmp_ge (tgt := 45) hx hb dX2_init_27 (by decide) (fun c11 => absurd c11 (by decide)) (fun _ => ?_)
  refine lv_aload_n hx hb dX2_init_30 rfl (lv_at hl 1 rfl) ?_
  refine va_get (D := D) (ci := 1) (v := .ref q1) (C := RX2) (T := TX2) (N := 2) hx hb hts tlX2 hown hK hP 0 rfl rfl 0 (by decide) (hts _ tk_128) (fun _ h9 => h9) rfl dX2_init_31 ?_
  refine lv_iload_n hx hb dX2_init_34 rfl (lv_at hl 0 rfl) ?_
  refine lv_iconst (v := 1) hx hb dX2_init_35 (by decide) ?_
  refine lv_iload_n hx hb dX2_init_36 rfl (lv_at hl 0 rfl) ?_
  refine lv_ishl hx hb dX2_init_37 ?_
  refine lv_topi (fun z12 ez12 => ?_)
  obtain rfl : z12 = 16 := ez12.trans (by decide)
  refine va_iast (D := D) hx hb hK hP hD hS 1 0 rfl rfl (by unfold vp_in; decide) dX2_init_38 (fun H locs hP hD hS => ?_)
  have hP : va_P D vwCl [(h0, .inr (1, [.ref q1, .ref q2])), (q1, .inl (cyI, 384, .inl (upd (upd (upd (upd (upd (fun _ => 0) 0 1) 1 2) 2 4) 3 8) 4 16))), (q2, .inl (cyI, 384, .inl (fun _ => 0)))] H := hP
  have hD : va_D A [(h0, .inr (1, [.ref q1, .ref q2])), (q1, .inl (cyI, 384, .inl (upd (upd (upd (upd (upd (fun _ => 0) 0 1) 1 2) 2 4) 3 8) 4 16))), (q2, .inl (cyI, 384, .inl (fun _ => 0)))] := hD
  refine lv_iinc (v := 5) (lv' := [(1, .int 5), (0, .ref h0)]) hx hb dX2_init_39 hl (k := 0) rfl (by decide) (by decide) rfl (fun ls hl => ?_)
  refine lv_goto (tgt := 24) hx hb dX2_init_42 (by decide) ?_
  refine lv_iload_n hx hb dX2_init_24 rfl (lv_at hl 0 rfl) ?_
  refine lv_bipush (v := 6) hx hb dX2_init_25 (by decide) ?_
  refine lv_icmp_ge (tgt := 45) hx hb dX2_init_27 (by decide) (fun c13 => absurd c13 (by decide)) (fun _ => ?_)
  refine lv_aload_n hx hb dX2_init_30 rfl (lv_at hl 1 rfl) ?_
  refine va_get (D := D) (ci := 1) (v := .ref q1) (C := RX2) (T := TX2) (N := 2) hx hb hts tlX2 hown hK hP 0 rfl rfl 0 (by decide) (hts _ tk_128) (fun _ h9 => h9) rfl dX2_init_31 ?_
  refine lv_iload_n hx hb dX2_init_34 rfl (lv_at hl 0 rfl) ?_
  refine lv_iconst (v := 1) hx hb dX2_init_35 (by decide) ?_
  refine lv_iload_n hx hb dX2_init_36 rfl (lv_at hl 0 rfl) ?_
  refine lv_ishl hx hb dX2_init_37 ?_
  refine lv_topi (fun z14 ez14 => ?_)
  obtain rfl : z14 = 32 := ez14.trans (by decide)
  refine va_iast (D := D) hx hb hK hP hD hS 1 0 rfl rfl (by unfold vp_in; decide) dX2_init_38 (fun H locs hP hD hS => ?_)
  have hP : va_P D vwCl [(h0, .inr (1, [.ref q1, .ref q2])), (q1, .inl (cyI, 384, .inl (upd (upd (upd (upd (upd (upd (fun _ => 0) 0 1) 1 2) 2 4) 3 8) 4 16) 5 32))), (q2, .inl (cyI, 384, .inl (fun _ => 0)))] H := hP
  have hD : va_D A [(h0, .inr (1, [.ref q1, .ref q2])), (q1, .inl (cyI, 384, .inl (upd (upd (upd (upd (upd (upd (fun _ => 0) 0 1) 1 2) 2 4) 3 8) 4 16) 5 32))), (q2, .inl (cyI, 384, .inl (fun _ => 0)))] := hD
  refine lv_iinc (v := 6) (lv' := [(1, .int 6), (0, .ref h0)]) hx hb dX2_init_39 hl (k := 0) rfl (by decide) (by decide) rfl (fun ls hl => ?_)
  refine lv_goto (tgt := 24) hx hb dX2_init_42 (by decide) ?_
  refine lv_iload_n hx hb dX2_init_24 rfl (lv_at hl 0 rfl) ?_
  refine lv_bipush (v := 6) hx hb dX2_init_25 (by decide) ?_
  refine lv_icmp_ge (tgt := 45) hx hb dX2_init_27 (by decide) (fun _ => ?_) (fun c15 => absurd (by decide) c15)
  refine W.widen (k := 2) (n := 768) (Nat.le_of_ble_eq_true rfl) (Nat.le_of_ble_eq_true rfl) ?_
  have hP9 := hP.sub (ws' := [(h0, .inr (1, [.ref q1, .ref q2])), (q1, .inl (cyI, 384, .inl (upd (upd (upd (upd (upd (upd (fun _ => 0) 0 1) 1 2) 2 4) 3 8) 4 16) 5 32))), (q2, .inl (cyI, 384, .inl (fun _ => 0)))]) [0, 1, 2] rfl
  have hD9 := hD.sub (ws' := [(h0, .inr (1, [.ref q1, .ref q2])), (q1, .inl (cyI, 384, .inl (upd (upd (upd (upd (upd (upd (fun _ => 0) 0 1) 1 2) 2 4) 3 8) 4 16) 5 32))), (q2, .inl (cyI, 384, .inl (fun _ => 0)))]) [0, 1, 2] (by decide) rfl
  exact W.vret hx hb hr (fun t ht hW => ⟨⟨(fun k => [h0, q1, q2].getD k 0), rfl, rfl, by rw [ht]; exact hP9, va_K.moved hW.alike hK, hN.warm hW, hD9⟩, hS.F ht⟩) hS.2.2 dX2_init_45
set_option maxHeartbeats 4000000 in
set_option maxRecDepth 100000 in
theorem kX3_init (l : Launch) (D : va_G) (cyI cyZ cyO : ClassId) (h0 sz : Nat) (b1 : Nat) (b2 : Nat) : Met l yX3_init (.code yX3_init cX3_init 3 none :: TW) ({ frames := 1, cells := 0, slots := 0, locals := 12 }) (va_Pc [.ref h0, .ref b1, .ref b2] (fun U => U.heap.size = sz ∧ va_P D vwCl [(h0, .inr (2, [.null, .null]))] U.heap ∧ va_K D vwCl [(cyI, .int), (cyZ, .boolean), (cyO, .object "GridStarts$Grid")] U ∧ Nst U ∧ va_D (fun _ => True) [(h0, .inr (2, [.null, .null]))])) (va_Qv (fun u : Nat → Nat => u 0 = h0) (fun u t => va_P D vwCl [((u 0), .inr (2, [.ref b1, .ref b2]))] t.heap ∧ va_K D vwCl [(cyI, .int), (cyZ, .boolean), (cyO, .object "GridStarts$Grid")] t ∧ Nst t ∧ va_D (va_A [(h0, .inr (2, [.null, .null]))] sz) [((u 0), .inr (2, [.ref b1, .ref b2]))]) (va_A [(h0, .inr (2, [.null, .null]))] sz)) 0 0 (va_A [(h0, .inr (2, [.null, .null]))] sz) := by
  refine Met.ofW (cc := cX3_init) (maxL := 3) (ret := none) (by decide) rfl ?_
  intro p e s m args below meth c s₁ B hml hv
  obtain ⟨rfl, hsz, hP, hK, hN, hD0⟩ := hv
  have hx := B.exec
  have hb := B.bytes
  have hr := B.returns
  have hts0 := atoms_spec (ws := .code yX3_init cX3_init 3 none :: TW) B.pre
  have hts : ∀ w ∈ TW, w.before _ s = true := fun w h => hts0 w (List.mem_cons_of_mem _ h)
  have hown : s.vm.findClass RX3 = some m.cls := findClass_of_methodNamed B.named
  have hlocks := B.notSynchronized
  have hin : meth.name = "<init>" := (name_of_methodNamed B.named B.method).1
  subst hsz
  have hD := hD0.self (sz := s.heap.size)
  generalize hAe : va_A [(h0, .inr (2, [.null, .null]))] s.heap.size = A at hD ⊢
  have hA : ∀ q : Nat, s.heap.size ≤ q → A q := fun q h => by rw [← hAe]; exact Or.inr h
  have hS : va_S A s.heap s.heap [] := va_S.rf
  have hl := lv_entry ([.ref h0, .ref b1, .ref b2]) (n := 3) (Nat.le_of_ble_eq_true rfl)
  rw [lg_entry_eq]
  generalize (lg_sl ([.ref h0, .ref b1, .ref b2]) ++ List.replicate (3 - (lg_sl ([.ref h0, .ref b1, .ref b2])).length) Slot.unset).toArray = ls at hl ⊢
  have hl : lv_has ls 3 [(0, .ref h0), (1, .ref b1), (2, .ref b2)] := hl
  refine lv_aload_n hx hb dX3_init_0 rfl (lv_at hl 0 rfl) ?_
  refine W.objInit hx hb hown (hts _ tk_140) (hts _ tk_57) (hts _ tk_58) rfl (by rw [hml]; exact hl.1) rfl dX3_init_1 (Nat.le_of_ble_eq_true rfl) (Nat.le_of_ble_eq_true rfl) ?_
  refine W.eq (g2 := F0 m 4 ls []) rfl ?_
  refine lv_aload_n hx hb dX3_init_4 rfl (lv_at hl 0 rfl) ?_
  refine lv_aload_n hx hb dX3_init_5 rfl (lv_at hl 1 rfl) ?_
  refine va_putF (D := D) (ci := 2) (v := .ref b1) (ty := .object "GridStarts$Grid") (C := RX3) (T := TX3) (N := 2) hx hb hts tlX3 tyX3 tyX3_ok nmX3 hown hK hP hD hS 0 rfl rfl 0 (by decide) (hts _ tk_141) (fun _ h9 => h9) rfl hin rfl (by decide +kernel) rfl rfl (Nat.le_of_ble_eq_true rfl) dX3_init_6 (fun H locs hP hD hS => ?_)
  have hP : va_P D vwCl [(h0, .inr (2, [.ref b1, .null]))] H := hP
  have hD : va_D A [(h0, .inr (2, [.ref b1, .null]))] := hD
  refine lv_aload_n hx hb dX3_init_9 rfl (lv_at hl 0 rfl) ?_
  refine lv_aload_n hx hb dX3_init_10 rfl (lv_at hl 2 rfl) ?_
  refine va_putF (D := D) (ci := 2) (v := .ref b2) (ty := .object "GridStarts$Islands") (C := RX3) (T := TX3) (N := 2) hx hb hts tlX3 tyX3 tyX3_ok nmX3 hown hK hP hD hS 0 rfl rfl 1 (by decide) (hts _ tk_142) (fun _ h9 => h9) rfl hin rfl (by decide +kernel) rfl rfl (Nat.le_of_ble_eq_true rfl) dX3_init_11 (fun H locs hP hD hS => ?_)
  have hP : va_P D vwCl [(h0, .inr (2, [.ref b1, .ref b2]))] H := hP
  have hD : va_D A [(h0, .inr (2, [.ref b1, .ref b2]))] := hD
  refine W.widen (k := 0) (n := 0) (Nat.le_of_ble_eq_true rfl) (Nat.le_of_ble_eq_true rfl) ?_
  have hP9 := hP.sub (ws' := [(h0, .inr (2, [.ref b1, .ref b2]))]) [0] rfl
  have hD9 := hD.sub (ws' := [(h0, .inr (2, [.ref b1, .ref b2]))]) [0] (by decide) rfl
  exact W.vret hx hb hr (fun t ht hW => ⟨⟨(fun k => [h0].getD k 0), rfl, rfl, by rw [ht]; exact hP9, va_K.moved hW.alike hK, hN.warm hW, hD9⟩, hS.F ht⟩) hS.2.2 dX3_init_14
set_option maxHeartbeats 4000000 in
set_option maxRecDepth 100000 in
theorem kX4_init (l : Launch) (D : va_G) (cyI cyZ cyO : ClassId) (h0 sz : Nat) (b1 : Nat) : Met l yX4_init (.code yX4_init cX4_init 2 none :: TW) ({ frames := 1, cells := 3, slots := 17024, locals := 12 }) (va_Pc [.ref h0, .ref b1] (fun U => U.heap.size = sz ∧ va_P D vwCl [(h0, .inr (3, [.null, .null, .null, .null, .int 0]))] U.heap ∧ va_K D vwCl [(cyI, .int), (cyZ, .boolean), (cyO, .object "GridStarts$Grid")] U ∧ Nst U ∧ va_D (fun _ => True) [(h0, .inr (3, [.null, .null, .null, .null, .int 0]))])) (va_Qv (fun u : Nat → Nat => u 0 = h0) (fun u t => va_P D vwCl [((u 0), .inr (3, [.ref b1, .ref (u 1), .ref (u 2), .ref (u 3), .int 0])), ((u 1), .inl (cyI, 8000, .inl (fun _ => 0))), ((u 2), .inl (cyI, 8000, .inl (fun _ => 0))), ((u 3), .inl (cyI, 1024, .inl (fun _ => 0)))] t.heap ∧ va_K D vwCl [(cyI, .int), (cyZ, .boolean), (cyO, .object "GridStarts$Grid")] t ∧ Nst t ∧ va_D (va_A [(h0, .inr (3, [.null, .null, .null, .null, .int 0]))] sz) [((u 0), .inr (3, [.ref b1, .ref (u 1), .ref (u 2), .ref (u 3), .int 0])), ((u 1), .inl (cyI, 8000, .inl (fun _ => 0))), ((u 2), .inl (cyI, 8000, .inl (fun _ => 0))), ((u 3), .inl (cyI, 1024, .inl (fun _ => 0)))]) (va_A [(h0, .inr (3, [.null, .null, .null, .null, .int 0]))] sz)) 3 17024 (va_A [(h0, .inr (3, [.null, .null, .null, .null, .int 0]))] sz) := by
  refine Met.ofW (cc := cX4_init) (maxL := 2) (ret := none) (by decide) rfl ?_
  intro p e s m args below meth c s₁ B hml hv
  obtain ⟨rfl, hsz, hP, hK, hN, hD0⟩ := hv
  have hx := B.exec
  have hb := B.bytes
  have hr := B.returns
  have hts0 := atoms_spec (ws := .code yX4_init cX4_init 2 none :: TW) B.pre
  have hts : ∀ w ∈ TW, w.before _ s = true := fun w h => hts0 w (List.mem_cons_of_mem _ h)
  have hown : s.vm.findClass RX4 = some m.cls := findClass_of_methodNamed B.named
  have hlocks := B.notSynchronized
  have hin : meth.name = "<init>" := (name_of_methodNamed B.named B.method).1
  subst hsz
  have hD := hD0.self (sz := s.heap.size)
  generalize hAe : va_A [(h0, .inr (3, [.null, .null, .null, .null, .int 0]))] s.heap.size = A at hD ⊢
  have hA : ∀ q : Nat, s.heap.size ≤ q → A q := fun q h => by rw [← hAe]; exact Or.inr h
  have hS : va_S A s.heap s.heap [] := va_S.rf
  have hl := lv_entry ([.ref h0, .ref b1]) (n := 2) (Nat.le_of_ble_eq_true rfl)
  rw [lg_entry_eq]
  generalize (lg_sl ([.ref h0, .ref b1]) ++ List.replicate (2 - (lg_sl ([.ref h0, .ref b1])).length) Slot.unset).toArray = ls at hl ⊢
  have hl : lv_has ls 2 [(0, .ref h0), (1, .ref b1)] := hl
  refine lv_aload_n hx hb dX4_init_0 rfl (lv_at hl 0 rfl) ?_
  refine W.objInit hx hb hown (hts _ tk_153) (hts _ tk_57) (hts _ tk_58) rfl (by rw [hml]; exact hl.1) rfl dX4_init_1 (Nat.le_of_ble_eq_true rfl) (Nat.le_of_ble_eq_true rfl) ?_
  refine W.eq (g2 := F0 m 4 ls []) rfl ?_
  refine lv_aload_n hx hb dX4_init_4 rfl (lv_at hl 0 rfl) ?_
  refine lv_sipush (v := 8000) hx hb dX4_init_5 (by decide) ?_
  refine w_newa (atype := .int) (ty := .int) (cy := cyI) (N := 8000) hx hb (hts _ tk_121) rfl hK hP hD hS hA 0 rfl rfl (by decide) (by decide) (by decide) (Nat.le_of_ble_eq_true rfl) (Nat.le_of_ble_eq_true rfl) dX4_init_8 (fun q1 H hP hD hS => ?_)
  have hP : va_P D vwCl [(h0, .inr (3, [.null, .null, .null, .null, .int 0])), (q1, .inl (cyI, 8000, .inl (fun _ => 0)))] H := hP
  have hD : va_D A [(h0, .inr (3, [.null, .null, .null, .null, .int 0])), (q1, .inl (cyI, 8000, .inl (fun _ => 0)))] := hD
  refine va_putF (D := D) (ci := 3) (v := .ref q1) (ty := .array .int) (C := RX4) (T := TX4) (N := 5) hx hb hts tlX4 tyX4 tyX4_ok nmX4 hown hK hP hD hS 0 rfl rfl 1 (by decide) (hts _ tk_155) (fun _ h9 => h9) rfl hin rfl (by decide +kernel) rfl rfl (Nat.le_of_ble_eq_true rfl) dX4_init_10 (fun H locs hP hD hS => ?_)
  have hP : va_P D vwCl [(h0, .inr (3, [.null, .ref q1, .null, .null, .int 0])), (q1, .inl (cyI, 8000, .inl (fun _ => 0)))] H := hP
  have hD : va_D A [(h0, .inr (3, [.null, .ref q1, .null, .null, .int 0])), (q1, .inl (cyI, 8000, .inl (fun _ => 0)))] := hD
  refine lv_aload_n hx hb dX4_init_13 rfl (lv_at hl 0 rfl) ?_
  refine lv_sipush (v := 8000) hx hb dX4_init_14 (by decide) ?_
  refine w_newa (atype := .int) (ty := .int) (cy := cyI) (N := 8000) hx hb (hts _ tk_121) rfl hK hP hD hS hA 0 rfl rfl (by decide) (by decide) (by decide) (Nat.le_of_ble_eq_true rfl) (Nat.le_of_ble_eq_true rfl) dX4_init_17 (fun q2 H hP hD hS => ?_)
  have hP : va_P D vwCl [(h0, .inr (3, [.null, .ref q1, .null, .null, .int 0])), (q1, .inl (cyI, 8000, .inl (fun _ => 0))), (q2, .inl (cyI, 8000, .inl (fun _ => 0)))] H := hP
  have hD : va_D A [(h0, .inr (3, [.null, .ref q1, .null, .null, .int 0])), (q1, .inl (cyI, 8000, .inl (fun _ => 0))), (q2, .inl (cyI, 8000, .inl (fun _ => 0)))] := hD
  refine va_putF (D := D) (ci := 3) (v := .ref q2) (ty := .array .int) (C := RX4) (T := TX4) (N := 5) hx hb hts tlX4 tyX4 tyX4_ok nmX4 hown hK hP hD hS 0 rfl rfl 2 (by decide) (hts _ tk_156) (fun _ h9 => h9) rfl hin rfl (by decide +kernel) rfl rfl (Nat.le_of_ble_eq_true rfl) dX4_init_19 (fun H locs hP hD hS => ?_)
  have hP : va_P D vwCl [(h0, .inr (3, [.null, .ref q1, .ref q2, .null, .int 0])), (q1, .inl (cyI, 8000, .inl (fun _ => 0))), (q2, .inl (cyI, 8000, .inl (fun _ => 0)))] H := hP
  have hD : va_D A [(h0, .inr (3, [.null, .ref q1, .ref q2, .null, .int 0])), (q1, .inl (cyI, 8000, .inl (fun _ => 0))), (q2, .inl (cyI, 8000, .inl (fun _ => 0)))] := hD
  refine lv_aload_n hx hb dX4_init_22 rfl (lv_at hl 0 rfl) ?_
  refine lv_sipush (v := 1024) hx hb dX4_init_23 (by decide) ?_
  refine w_newa (atype := .int) (ty := .int) (cy := cyI) (N := 1024) hx hb (hts _ tk_121) rfl hK hP hD hS hA 0 rfl rfl (by decide) (by decide) (by decide) (Nat.le_of_ble_eq_true rfl) (Nat.le_of_ble_eq_true rfl) dX4_init_26 (fun q3 H hP hD hS => ?_)
  have hP : va_P D vwCl [(h0, .inr (3, [.null, .ref q1, .ref q2, .null, .int 0])), (q1, .inl (cyI, 8000, .inl (fun _ => 0))), (q2, .inl (cyI, 8000, .inl (fun _ => 0))), (q3, .inl (cyI, 1024, .inl (fun _ => 0)))] H := hP
  have hD : va_D A [(h0, .inr (3, [.null, .ref q1, .ref q2, .null, .int 0])), (q1, .inl (cyI, 8000, .inl (fun _ => 0))), (q2, .inl (cyI, 8000, .inl (fun _ => 0))), (q3, .inl (cyI, 1024, .inl (fun _ => 0)))] := hD
  refine va_putF (D := D) (ci := 3) (v := .ref q3) (ty := .array .int) (C := RX4) (T := TX4) (N := 5) hx hb hts tlX4 tyX4 tyX4_ok nmX4 hown hK hP hD hS 0 rfl rfl 3 (by decide) (hts _ tk_157) (fun _ h9 => h9) rfl hin rfl (by decide +kernel) rfl rfl (Nat.le_of_ble_eq_true rfl) dX4_init_28 (fun H locs hP hD hS => ?_)
  have hP : va_P D vwCl [(h0, .inr (3, [.null, .ref q1, .ref q2, .ref q3, .int 0])), (q1, .inl (cyI, 8000, .inl (fun _ => 0))), (q2, .inl (cyI, 8000, .inl (fun _ => 0))), (q3, .inl (cyI, 1024, .inl (fun _ => 0)))] H := hP
  have hD : va_D A [(h0, .inr (3, [.null, .ref q1, .ref q2, .ref q3, .int 0])), (q1, .inl (cyI, 8000, .inl (fun _ => 0))), (q2, .inl (cyI, 8000, .inl (fun _ => 0))), (q3, .inl (cyI, 1024, .inl (fun _ => 0)))] := hD
  refine lv_aload_n hx hb dX4_init_31 rfl (lv_at hl 0 rfl) ?_
  refine lv_aload_n hx hb dX4_init_32 rfl (lv_at hl 1 rfl) ?_
  refine va_putF (D := D) (ci := 3) (v := .ref b1) (ty := .object "GridStarts$Rules") (C := RX4) (T := TX4) (N := 5) hx hb hts tlX4 tyX4 tyX4_ok nmX4 hown hK hP hD hS 0 rfl rfl 0 (by decide) (hts _ tk_154) (fun _ h9 => h9) rfl hin rfl (by decide +kernel) rfl rfl (Nat.le_of_ble_eq_true rfl) dX4_init_33 (fun H locs hP hD hS => ?_)
  have hP : va_P D vwCl [(h0, .inr (3, [.ref b1, .ref q1, .ref q2, .ref q3, .int 0])), (q1, .inl (cyI, 8000, .inl (fun _ => 0))), (q2, .inl (cyI, 8000, .inl (fun _ => 0))), (q3, .inl (cyI, 1024, .inl (fun _ => 0)))] H := hP
  have hD : va_D A [(h0, .inr (3, [.ref b1, .ref q1, .ref q2, .ref q3, .int 0])), (q1, .inl (cyI, 8000, .inl (fun _ => 0))), (q2, .inl (cyI, 8000, .inl (fun _ => 0))), (q3, .inl (cyI, 1024, .inl (fun _ => 0)))] := hD
  refine W.widen (k := 3) (n := 17024) (Nat.le_of_ble_eq_true rfl) (Nat.le_of_ble_eq_true rfl) ?_
  have hP9 := hP.sub (ws' := [(h0, .inr (3, [.ref b1, .ref q1, .ref q2, .ref q3, .int 0])), (q1, .inl (cyI, 8000, .inl (fun _ => 0))), (q2, .inl (cyI, 8000, .inl (fun _ => 0))), (q3, .inl (cyI, 1024, .inl (fun _ => 0)))]) [0, 1, 2, 3] rfl
  have hD9 := hD.sub (ws' := [(h0, .inr (3, [.ref b1, .ref q1, .ref q2, .ref q3, .int 0])), (q1, .inl (cyI, 8000, .inl (fun _ => 0))), (q2, .inl (cyI, 8000, .inl (fun _ => 0))), (q3, .inl (cyI, 1024, .inl (fun _ => 0)))]) [0, 1, 2, 3] (by decide) rfl
  exact W.vret hx hb hr (fun t ht hW => ⟨⟨(fun k => [h0, q1, q2, q3].getD k 0), rfl, rfl, by rw [ht]; exact hP9, va_K.moved hW.alike hK, hN.warm hW, hD9⟩, hS.F ht⟩) hS.2.2 dX4_init_36
set_option maxHeartbeats 4000000 in
set_option maxRecDepth 100000 in
theorem kX6_init (l : Launch) (D : va_G) (cyI cyZ cyO : ClassId) (h0 sz : Nat) : Met l yX6_init (.code yX6_init cX6_init 1 none :: TW) ({ frames := 1, cells := 11, slots := 24155, locals := 12 }) (va_Pc [.ref h0] (fun U => U.heap.size = sz ∧ va_P D vwCl [(h0, .inr (5, [.null, .null, .null, .null, .null, .null, .null, .null, .null, .null, .null, .int 0]))] U.heap ∧ va_K D vwCl [(cyI, .int), (cyZ, .boolean), (cyO, .object "GridStarts$Grid")] U ∧ Nst U ∧ va_D (fun _ => True) [(h0, .inr (5, [.null, .null, .null, .null, .null, .null, .null, .null, .null, .null, .null, .int 0]))])) (va_Qv (fun u : Nat → Nat => u 0 = h0) (fun u t => va_P D vwCl [((u 0), .inr (5, [.ref (u 1), .ref (u 2), .ref (u 3), .ref (u 4), .ref (u 5), .ref (u 6), .ref (u 7), .ref (u 8), .ref (u 9), .ref (u 10), .ref (u 11), .int 0])), ((u 1), .inl (cyI, 42, .inl (fun _ => 0))), ((u 2), .inl (cyI, 84, .inl (fun _ => 0))), ((u 3), .inl (cyZ, 2, .inl (fun _ => 0))), ((u 4), .inl (cyI, 6, .inl (fun _ => 0))), ((u 5), .inl (cyI, 3, .inl (fun _ => 0))), ((u 6), .inl (cyI, 6, .inl (fun _ => 0))), ((u 7), .inl (cyI, 6, .inl (fun _ => 0))), ((u 8), .inl (cyZ, 6, .inl (fun _ => 0))), ((u 9), .inl (cyI, 8000, .inl (fun _ => 0))), ((u 10), .inl (cyZ, 8000, .inl (fun _ => 0))), ((u 11), .inl (cyI, 8000, .inl (fun _ => 0)))] t.heap ∧ va_K D vwCl [(cyI, .int), (cyZ, .boolean), (cyO, .object "GridStarts$Grid")] t ∧ Nst t ∧ va_D (va_A [(h0, .inr (5, [.null, .null, .null, .null, .null, .null, .null, .null, .null, .null, .null, .int 0]))] sz) [((u 0), .inr (5, [.ref (u 1), .ref (u 2), .ref (u 3), .ref (u 4), .ref (u 5), .ref (u 6), .ref (u 7), .ref (u 8), .ref (u 9), .ref (u 10), .ref (u 11), .int 0])), ((u 1), .inl (cyI, 42, .inl (fun _ => 0))), ((u 2), .inl (cyI, 84, .inl (fun _ => 0))), ((u 3), .inl (cyZ, 2, .inl (fun _ => 0))), ((u 4), .inl (cyI, 6, .inl (fun _ => 0))), ((u 5), .inl (cyI, 3, .inl (fun _ => 0))), ((u 6), .inl (cyI, 6, .inl (fun _ => 0))), ((u 7), .inl (cyI, 6, .inl (fun _ => 0))), ((u 8), .inl (cyZ, 6, .inl (fun _ => 0))), ((u 9), .inl (cyI, 8000, .inl (fun _ => 0))), ((u 10), .inl (cyZ, 8000, .inl (fun _ => 0))), ((u 11), .inl (cyI, 8000, .inl (fun _ => 0)))]) (va_A [(h0, .inr (5, [.null, .null, .null, .null, .null, .null, .null, .null, .null, .null, .null, .int 0]))] sz)) 11 24155 (va_A [(h0, .inr (5, [.null, .null, .null, .null, .null, .null, .null, .null, .null, .null, .null, .int 0]))] sz) := by
  refine Met.ofW (cc := cX6_init) (maxL := 1) (ret := none) (by decide) rfl ?_
  intro p e s m args below meth c s₁ B hml hv
  obtain ⟨rfl, hsz, hP, hK, hN, hD0⟩ := hv
  have hx := B.exec
  have hb := B.bytes
  have hr := B.returns
  have hts0 := atoms_spec (ws := .code yX6_init cX6_init 1 none :: TW) B.pre
  have hts : ∀ w ∈ TW, w.before _ s = true := fun w h => hts0 w (List.mem_cons_of_mem _ h)
  have hown : s.vm.findClass RX6 = some m.cls := findClass_of_methodNamed B.named
  have hlocks := B.notSynchronized
  have hin : meth.name = "<init>" := (name_of_methodNamed B.named B.method).1
  subst hsz
  have hD := hD0.self (sz := s.heap.size)
  generalize hAe : va_A [(h0, .inr (5, [.null, .null, .null, .null, .null, .null, .null, .null, .null, .null, .null, .int 0]))] s.heap.size = A at hD ⊢
  have hA : ∀ q : Nat, s.heap.size ≤ q → A q := fun q h => by rw [← hAe]; exact Or.inr h
  have hS : va_S A s.heap s.heap [] := va_S.rf
  have hl := lv_entry ([.ref h0]) (n := 1) (Nat.le_of_ble_eq_true rfl)
  rw [lg_entry_eq]
  generalize (lg_sl ([.ref h0]) ++ List.replicate (1 - (lg_sl ([.ref h0])).length) Slot.unset).toArray = ls at hl ⊢
  have hl : lv_has ls 1 [(0, .ref h0)] := hl
  refine lv_aload_n hx hb dX6_init_0 rfl (lv_at hl 0 rfl) ?_
  refine W.objInit hx hb hown (hts _ tk_477) (hts _ tk_57) (hts _ tk_58) rfl (by rw [hml]; exact hl.1) rfl dX6_init_1 (Nat.le_of_ble_eq_true rfl) (Nat.le_of_ble_eq_true rfl) ?_
  refine W.eq (g2 := F0 m 4 ls []) rfl ?_
  refine lv_aload_n hx hb dX6_init_4 rfl (lv_at hl 0 rfl) ?_
  refine lv_bipush (v := 42) hx hb dX6_init_5 (by decide) ?_
  refine w_newa (atype := .int) (ty := .int) (cy := cyI) (N := 42) hx hb (hts _ tk_121) rfl hK hP hD hS hA 0 rfl rfl (by decide) (by decide) (by decide) (Nat.le_of_ble_eq_true rfl) (Nat.le_of_ble_eq_true rfl) dX6_init_7 (fun q1 H hP hD hS => ?_)
  have hP : va_P D vwCl [(h0, .inr (5, [.null, .null, .null, .null, .null, .null, .null, .null, .null, .null, .null, .int 0])), (q1, .inl (cyI, 42, .inl (fun _ => 0)))] H := hP
  have hD : va_D A [(h0, .inr (5, [.null, .null, .null, .null, .null, .null, .null, .null, .null, .null, .null, .int 0])), (q1, .inl (cyI, 42, .inl (fun _ => 0)))] := hD
  refine va_putF (D := D) (ci := 5) (v := .ref q1) (ty := .array .int) (C := RX6) (T := TX6) (N := 12) hx hb hts tlX6 tyX6 tyX6_ok nmX6 hown hK hP hD hS 0 rfl rfl 0 (by decide) (hts _ tk_478) (fun _ h9 => h9) rfl hin rfl (by decide +kernel) rfl rfl (Nat.le_of_ble_eq_true rfl) dX6_init_9 (fun H locs hP hD hS => ?_)
  have hP : va_P D vwCl [(h0, .inr (5, [.ref q1, .null, .null, .null, .null, .null, .null, .null, .null, .null, .null, .int 0])), (q1, .inl (cyI, 42, .inl (fun _ => 0)))] H := hP
  have hD : va_D A [(h0, .inr (5, [.ref q1, .null, .null, .null, .null, .null, .null, .null, .null, .null, .null, .int 0])), (q1, .inl (cyI, 42, .inl (fun _ => 0)))] := hD
  refine lv_aload_n hx hb dX6_init_12 rfl (lv_at hl 0 rfl) ?_
  refine lv_bipush (v := 84) hx hb dX6_init_13 (by decide) ?_
  refine w_newa (atype := .int) (ty := .int) (cy := cyI) (N := 84) hx hb (hts _ tk_121) rfl hK hP hD hS hA 0 rfl rfl (by decide) (by decide) (by decide) (Nat.le_of_ble_eq_true rfl) (Nat.le_of_ble_eq_true rfl) dX6_init_15 (fun q2 H hP hD hS => ?_)
  have hP : va_P D vwCl [(h0, .inr (5, [.ref q1, .null, .null, .null, .null, .null, .null, .null, .null, .null, .null, .int 0])), (q1, .inl (cyI, 42, .inl (fun _ => 0))), (q2, .inl (cyI, 84, .inl (fun _ => 0)))] H := hP
  have hD : va_D A [(h0, .inr (5, [.ref q1, .null, .null, .null, .null, .null, .null, .null, .null, .null, .null, .int 0])), (q1, .inl (cyI, 42, .inl (fun _ => 0))), (q2, .inl (cyI, 84, .inl (fun _ => 0)))] := hD
  refine va_putF (D := D) (ci := 5) (v := .ref q2) (ty := .array .int) (C := RX6) (T := TX6) (N := 12) hx hb hts tlX6 tyX6 tyX6_ok nmX6 hown hK hP hD hS 0 rfl rfl 1 (by decide) (hts _ tk_479) (fun _ h9 => h9) rfl hin rfl (by decide +kernel) rfl rfl (Nat.le_of_ble_eq_true rfl) dX6_init_17 (fun H locs hP hD hS => ?_)
  have hP : va_P D vwCl [(h0, .inr (5, [.ref q1, .ref q2, .null, .null, .null, .null, .null, .null, .null, .null, .null, .int 0])), (q1, .inl (cyI, 42, .inl (fun _ => 0))), (q2, .inl (cyI, 84, .inl (fun _ => 0)))] H := hP
  have hD : va_D A [(h0, .inr (5, [.ref q1, .ref q2, .null, .null, .null, .null, .null, .null, .null, .null, .null, .int 0])), (q1, .inl (cyI, 42, .inl (fun _ => 0))), (q2, .inl (cyI, 84, .inl (fun _ => 0)))] := hD
  refine lv_aload_n hx hb dX6_init_20 rfl (lv_at hl 0 rfl) ?_
  refine lv_iconst (v := 2) hx hb dX6_init_21 (by decide) ?_
  refine w_newa (atype := .boolean) (ty := .boolean) (cy := cyZ) (N := 2) hx hb (hts _ tk_515) rfl hK hP hD hS hA 1 rfl rfl (by decide) (by decide) (by decide) (Nat.le_of_ble_eq_true rfl) (Nat.le_of_ble_eq_true rfl) dX6_init_22 (fun q3 H hP hD hS => ?_)
  have hP : va_P D vwCl [(h0, .inr (5, [.ref q1, .ref q2, .null, .null, .null, .null, .null, .null, .null, .null, .null, .int 0])), (q1, .inl (cyI, 42, .inl (fun _ => 0))), (q2, .inl (cyI, 84, .inl (fun _ => 0))), (q3, .inl (cyZ, 2, .inl (fun _ => 0)))] H := hP
  have hD : va_D A [(h0, .inr (5, [.ref q1, .ref q2, .null, .null, .null, .null, .null, .null, .null, .null, .null, .int 0])), (q1, .inl (cyI, 42, .inl (fun _ => 0))), (q2, .inl (cyI, 84, .inl (fun _ => 0))), (q3, .inl (cyZ, 2, .inl (fun _ => 0)))] := hD
  refine va_putF (D := D) (ci := 5) (v := .ref q3) (ty := .array .boolean) (C := RX6) (T := TX6) (N := 12) hx hb hts tlX6 tyX6 tyX6_ok nmX6 hown hK hP hD hS 0 rfl rfl 2 (by decide) (hts _ tk_480) (fun _ h9 => h9) rfl hin rfl (by decide +kernel) rfl rfl (Nat.le_of_ble_eq_true rfl) dX6_init_24 (fun H locs hP hD hS => ?_)
  have hP : va_P D vwCl [(h0, .inr (5, [.ref q1, .ref q2, .ref q3, .null, .null, .null, .null, .null, .null, .null, .null, .int 0])), (q1, .inl (cyI, 42, .inl (fun _ => 0))), (q2, .inl (cyI, 84, .inl (fun _ => 0))), (q3, .inl (cyZ, 2, .inl (fun _ => 0)))] H := hP
  have hD : va_D A [(h0, .inr (5, [.ref q1, .ref q2, .ref q3, .null, .null, .null, .null, .null, .null, .null, .null, .int 0])), (q1, .inl (cyI, 42, .inl (fun _ => 0))), (q2, .inl (cyI, 84, .inl (fun _ => 0))), (q3, .inl (cyZ, 2, .inl (fun _ => 0)))] := hD
  refine lv_aload_n hx hb dX6_init_27 rfl (lv_at hl 0 rfl) ?_
  refine lv_bipush (v := 6) hx hb dX6_init_28 (by decide) ?_
  refine w_newa (atype := .int) (ty := .int) (cy := cyI) (N := 6) hx hb (hts _ tk_121) rfl hK hP hD hS hA 0 rfl rfl (by decide) (by decide) (by decide) (Nat.le_of_ble_eq_true rfl) (Nat.le_of_ble_eq_true rfl) dX6_init_30 (fun q4 H hP hD hS => ?_)
  have hP : va_P D vwCl [(h0, .inr (5, [.ref q1, .ref q2, .ref q3, .null, .null, .null, .null, .null, .null, .null, .null, .int 0])), (q1, .inl (cyI, 42, .inl (fun _ => 0))), (q2, .inl (cyI, 84, .inl (fun _ => 0))), (q3, .inl (cyZ, 2, .inl (fun _ => 0))), (q4, .inl (cyI, 6, .inl (fun _ => 0)))] H := hP
  have hD : va_D A [(h0, .inr (5, [.ref q1, .ref q2, .ref q3, .null, .null, .null, .null, .null, .null, .null, .null, .int 0])), (q1, .inl (cyI, 42, .inl (fun _ => 0))), (q2, .inl (cyI, 84, .inl (fun _ => 0))), (q3, .inl (cyZ, 2, .inl (fun _ => 0))), (q4, .inl (cyI, 6, .inl (fun _ => 0)))] := hD
  refine va_putF (D := D) (ci := 5) (v := .ref q4) (ty := .array .int) (C := RX6) (T := TX6) (N := 12) hx hb hts tlX6 tyX6 tyX6_ok nmX6 hown hK hP hD hS 0 rfl rfl 3 (by decide) (hts _ tk_481) (fun _ h9 => h9) rfl hin rfl (by decide +kernel) rfl rfl (Nat.le_of_ble_eq_true rfl) dX6_init_32 (fun H locs hP hD hS => ?_)
  have hP : va_P D vwCl [(h0, .inr (5, [.ref q1, .ref q2, .ref q3, .ref q4, .null, .null, .null, .null, .null, .null, .null, .int 0])), (q1, .inl (cyI, 42, .inl (fun _ => 0))), (q2, .inl (cyI, 84, .inl (fun _ => 0))), (q3, .inl (cyZ, 2, .inl (fun _ => 0))), (q4, .inl (cyI, 6, .inl (fun _ => 0)))] H := hP
  have hD : va_D A [(h0, .inr (5, [.ref q1, .ref q2, .ref q3, .ref q4, .null, .null, .null, .null, .null, .null, .null, .int 0])), (q1, .inl (cyI, 42, .inl (fun _ => 0))), (q2, .inl (cyI, 84, .inl (fun _ => 0))), (q3, .inl (cyZ, 2, .inl (fun _ => 0))), (q4, .inl (cyI, 6, .inl (fun _ => 0)))] := hD
  refine lv_aload_n hx hb dX6_init_35 rfl (lv_at hl 0 rfl) ?_
  refine lv_iconst (v := 3) hx hb dX6_init_36 (by decide) ?_
  refine w_newa (atype := .int) (ty := .int) (cy := cyI) (N := 3) hx hb (hts _ tk_121) rfl hK hP hD hS hA 0 rfl rfl (by decide) (by decide) (by decide) (Nat.le_of_ble_eq_true rfl) (Nat.le_of_ble_eq_true rfl) dX6_init_37 (fun q5 H hP hD hS => ?_)
  have hP : va_P D vwCl [(h0, .inr (5, [.ref q1, .ref q2, .ref q3, .ref q4, .null, .null, .null, .null, .null, .null, .null, .int 0])), (q1, .inl (cyI, 42, .inl (fun _ => 0))), (q2, .inl (cyI, 84, .inl (fun _ => 0))), (q3, .inl (cyZ, 2, .inl (fun _ => 0))), (q4, .inl (cyI, 6, .inl (fun _ => 0))), (q5, .inl (cyI, 3, .inl (fun _ => 0)))] H := hP
  have hD : va_D A [(h0, .inr (5, [.ref q1, .ref q2, .ref q3, .ref q4, .null, .null, .null, .null, .null, .null, .null, .int 0])), (q1, .inl (cyI, 42, .inl (fun _ => 0))), (q2, .inl (cyI, 84, .inl (fun _ => 0))), (q3, .inl (cyZ, 2, .inl (fun _ => 0))), (q4, .inl (cyI, 6, .inl (fun _ => 0))), (q5, .inl (cyI, 3, .inl (fun _ => 0)))] := hD
  refine va_putF (D := D) (ci := 5) (v := .ref q5) (ty := .array .int) (C := RX6) (T := TX6) (N := 12) hx hb hts tlX6 tyX6 tyX6_ok nmX6 hown hK hP hD hS 0 rfl rfl 4 (by decide) (hts _ tk_482) (fun _ h9 => h9) rfl hin rfl (by decide +kernel) rfl rfl (Nat.le_of_ble_eq_true rfl) dX6_init_39 (fun H locs hP hD hS => ?_)
  have hP : va_P D vwCl [(h0, .inr (5, [.ref q1, .ref q2, .ref q3, .ref q4, .ref q5, .null, .null, .null, .null, .null, .null, .int 0])), (q1, .inl (cyI, 42, .inl (fun _ => 0))), (q2, .inl (cyI, 84, .inl (fun _ => 0))), (q3, .inl (cyZ, 2, .inl (fun _ => 0))), (q4, .inl (cyI, 6, .inl (fun _ => 0))), (q5, .inl (cyI, 3, .inl (fun _ => 0)))] H := hP
  have hD : va_D A [(h0, .inr (5, [.ref q1, .ref q2, .ref q3, .ref q4, .ref q5, .null, .null, .null, .null, .null, .null, .int 0])), (q1, .inl (cyI, 42, .inl (fun _ => 0))), (q2, .inl (cyI, 84, .inl (fun _ => 0))), (q3, .inl (cyZ, 2, .inl (fun _ => 0))), (q4, .inl (cyI, 6, .inl (fun _ => 0))), (q5, .inl (cyI, 3, .inl (fun _ => 0)))] := hD
  refine lv_aload_n hx hb dX6_init_42 rfl (lv_at hl 0 rfl) ?_
  refine lv_bipush (v := 6) hx hb dX6_init_43 (by decide) ?_
  refine w_newa (atype := .int) (ty := .int) (cy := cyI) (N := 6) hx hb (hts _ tk_121) rfl hK hP hD hS hA 0 rfl rfl (by decide) (by decide) (by decide) (Nat.le_of_ble_eq_true rfl) (Nat.le_of_ble_eq_true rfl) dX6_init_45 (fun q6 H hP hD hS => ?_)
  have hP : va_P D vwCl [(h0, .inr (5, [.ref q1, .ref q2, .ref q3, .ref q4, .ref q5, .null, .null, .null, .null, .null, .null, .int 0])), (q1, .inl (cyI, 42, .inl (fun _ => 0))), (q2, .inl (cyI, 84, .inl (fun _ => 0))), (q3, .inl (cyZ, 2, .inl (fun _ => 0))), (q4, .inl (cyI, 6, .inl (fun _ => 0))), (q5, .inl (cyI, 3, .inl (fun _ => 0))), (q6, .inl (cyI, 6, .inl (fun _ => 0)))] H := hP
  have hD : va_D A [(h0, .inr (5, [.ref q1, .ref q2, .ref q3, .ref q4, .ref q5, .null, .null, .null, .null, .null, .null, .int 0])), (q1, .inl (cyI, 42, .inl (fun _ => 0))), (q2, .inl (cyI, 84, .inl (fun _ => 0))), (q3, .inl (cyZ, 2, .inl (fun _ => 0))), (q4, .inl (cyI, 6, .inl (fun _ => 0))), (q5, .inl (cyI, 3, .inl (fun _ => 0))), (q6, .inl (cyI, 6, .inl (fun _ => 0)))] := hD
  refine va_putF (D := D) (ci := 5) (v := .ref q6) (ty := .array .int) (C := RX6) (T := TX6) (N := 12) hx hb hts tlX6 tyX6 tyX6_ok nmX6 hown hK hP hD hS 0 rfl rfl 5 (by decide) (hts _ tk_483) (fun _ h9 => h9) rfl hin rfl (by decide +kernel) rfl rfl (Nat.le_of_ble_eq_true rfl) dX6_init_47 (fun H locs hP hD hS => ?_)
  have hP : va_P D vwCl [(h0, .inr (5, [.ref q1, .ref q2, .ref q3, .ref q4, .ref q5, .ref q6, .null, .null, .null, .null, .null, .int 0])), (q1, .inl (cyI, 42, .inl (fun _ => 0))), (q2, .inl (cyI, 84, .inl (fun _ => 0))), (q3, .inl (cyZ, 2, .inl (fun _ => 0))), (q4, .inl (cyI, 6, .inl (fun _ => 0))), (q5, .inl (cyI, 3, .inl (fun _ => 0))), (q6, .inl (cyI, 6, .inl (fun _ => 0)))] H := hP
  have hD : va_D A [(h0, .inr (5, [.ref q1, .ref q2, .ref q3, .ref q4, .ref q5, .ref q6, .null, .null, .null, .null, .null, .int 0])), (q1, .inl (cyI, 42, .inl (fun _ => 0))), (q2, .inl (cyI, 84, .inl (fun _ => 0))), (q3, .inl (cyZ, 2, .inl (fun _ => 0))), (q4, .inl (cyI, 6, .inl (fun _ => 0))), (q5, .inl (cyI, 3, .inl (fun _ => 0))), (q6, .inl (cyI, 6, .inl (fun _ => 0)))] := hD
  refine lv_aload_n hx hb dX6_init_50 rfl (lv_at hl 0 rfl) ?_
  refine lv_bipush (v := 6) hx hb dX6_init_51 (by decide) ?_
  refine w_newa (atype := .int) (ty := .int) (cy := cyI) (N := 6) hx hb (hts _ tk_121) rfl hK hP hD hS hA 0 rfl rfl (by decide) (by decide) (by decide) (Nat.le_of_ble_eq_true rfl) (Nat.le_of_ble_eq_true rfl) dX6_init_53 (fun q7 H hP hD hS => ?_)
  have hP : va_P D vwCl [(h0, .inr (5, [.ref q1, .ref q2, .ref q3, .ref q4, .ref q5, .ref q6, .null, .null, .null, .null, .null, .int 0])), (q1, .inl (cyI, 42, .inl (fun _ => 0))), (q2, .inl (cyI, 84, .inl (fun _ => 0))), (q3, .inl (cyZ, 2, .inl (fun _ => 0))), (q4, .inl (cyI, 6, .inl (fun _ => 0))), (q5, .inl (cyI, 3, .inl (fun _ => 0))), (q6, .inl (cyI, 6, .inl (fun _ => 0))), (q7, .inl (cyI, 6, .inl (fun _ => 0)))] H := hP
  have hD : va_D A [(h0, .inr (5, [.ref q1, .ref q2, .ref q3, .ref q4, .ref q5, .ref q6, .null, .null, .null, .null, .null, .int 0])), (q1, .inl (cyI, 42, .inl (fun _ => 0))), (q2, .inl (cyI, 84, .inl (fun _ => 0))), (q3, .inl (cyZ, 2, .inl (fun _ => 0))), (q4, .inl (cyI, 6, .inl (fun _ => 0))), (q5, .inl (cyI, 3, .inl (fun _ => 0))), (q6, .inl (cyI, 6, .inl (fun _ => 0))), (q7, .inl (cyI, 6, .inl (fun _ => 0)))] := hD
  refine va_putF (D := D) (ci := 5) (v := .ref q7) (ty := .array .int) (C := RX6) (T := TX6) (N := 12) hx hb hts tlX6 tyX6 tyX6_ok nmX6 hown hK hP hD hS 0 rfl rfl 6 (by decide) (hts _ tk_484) (fun _ h9 => h9) rfl hin rfl (by decide +kernel) rfl rfl (Nat.le_of_ble_eq_true rfl) dX6_init_55 (fun H locs hP hD hS => ?_)
  have hP : va_P D vwCl [(h0, .inr (5, [.ref q1, .ref q2, .ref q3, .ref q4, .ref q5, .ref q6, .ref q7, .null, .null, .null, .null, .int 0])), (q1, .inl (cyI, 42, .inl (fun _ => 0))), (q2, .inl (cyI, 84, .inl (fun _ => 0))), (q3, .inl (cyZ, 2, .inl (fun _ => 0))), (q4, .inl (cyI, 6, .inl (fun _ => 0))), (q5, .inl (cyI, 3, .inl (fun _ => 0))), (q6, .inl (cyI, 6, .inl (fun _ => 0))), (q7, .inl (cyI, 6, .inl (fun _ => 0)))] H := hP
  have hD : va_D A [(h0, .inr (5, [.ref q1, .ref q2, .ref q3, .ref q4, .ref q5, .ref q6, .ref q7, .null, .null, .null, .null, .int 0])), (q1, .inl (cyI, 42, .inl (fun _ => 0))), (q2, .inl (cyI, 84, .inl (fun _ => 0))), (q3, .inl (cyZ, 2, .inl (fun _ => 0))), (q4, .inl (cyI, 6, .inl (fun _ => 0))), (q5, .inl (cyI, 3, .inl (fun _ => 0))), (q6, .inl (cyI, 6, .inl (fun _ => 0))), (q7, .inl (cyI, 6, .inl (fun _ => 0)))] := hD
  refine lv_aload_n hx hb dX6_init_58 rfl (lv_at hl 0 rfl) ?_
  refine lv_bipush (v := 6) hx hb dX6_init_59 (by decide) ?_
  refine w_newa (atype := .boolean) (ty := .boolean) (cy := cyZ) (N := 6) hx hb (hts _ tk_515) rfl hK hP hD hS hA 1 rfl rfl (by decide) (by decide) (by decide) (Nat.le_of_ble_eq_true rfl) (Nat.le_of_ble_eq_true rfl) dX6_init_61 (fun q8 H hP hD hS => ?_)
  have hP : va_P D vwCl [(h0, .inr (5, [.ref q1, .ref q2, .ref q3, .ref q4, .ref q5, .ref q6, .ref q7, .null, .null, .null, .null, .int 0])), (q1, .inl (cyI, 42, .inl (fun _ => 0))), (q2, .inl (cyI, 84, .inl (fun _ => 0))), (q3, .inl (cyZ, 2, .inl (fun _ => 0))), (q4, .inl (cyI, 6, .inl (fun _ => 0))), (q5, .inl (cyI, 3, .inl (fun _ => 0))), (q6, .inl (cyI, 6, .inl (fun _ => 0))), (q7, .inl (cyI, 6, .inl (fun _ => 0))), (q8, .inl (cyZ, 6, .inl (fun _ => 0)))] H := hP
  have hD : va_D A [(h0, .inr (5, [.ref q1, .ref q2, .ref q3, .ref q4, .ref q5, .ref q6, .ref q7, .null, .null, .null, .null, .int 0])), (q1, .inl (cyI, 42, .inl (fun _ => 0))), (q2, .inl (cyI, 84, .inl (fun _ => 0))), (q3, .inl (cyZ, 2, .inl (fun _ => 0))), (q4, .inl (cyI, 6, .inl (fun _ => 0))), (q5, .inl (cyI, 3, .inl (fun _ => 0))), (q6, .inl (cyI, 6, .inl (fun _ => 0))), (q7, .inl (cyI, 6, .inl (fun _ => 0))), (q8, .inl (cyZ, 6, .inl (fun _ => 0)))] := hD
  refine va_putF (D := D) (ci := 5) (v := .ref q8) (ty := .array .boolean) (C := RX6) (T := TX6) (N := 12) hx hb hts tlX6 tyX6 tyX6_ok nmX6 hown hK hP hD hS 0 rfl rfl 7 (by decide) (hts _ tk_485) (fun _ h9 => h9) rfl hin rfl (by decide +kernel) rfl rfl (Nat.le_of_ble_eq_true rfl) dX6_init_63 (fun H locs hP hD hS => ?_)
  have hP : va_P D vwCl [(h0, .inr (5, [.ref q1, .ref q2, .ref q3, .ref q4, .ref q5, .ref q6, .ref q7, .ref q8, .null, .null, .null, .int 0])), (q1, .inl (cyI, 42, .inl (fun _ => 0))), (q2, .inl (cyI, 84, .inl (fun _ => 0))), (q3, .inl (cyZ, 2, .inl (fun _ => 0))), (q4, .inl (cyI, 6, .inl (fun _ => 0))), (q5, .inl (cyI, 3, .inl (fun _ => 0))), (q6, .inl (cyI, 6, .inl (fun _ => 0))), (q7, .inl (cyI, 6, .inl (fun _ => 0))), (q8, .inl (cyZ, 6, .inl (fun _ => 0)))] H := hP
  have hD : va_D A [(h0, .inr (5, [.ref q1, .ref q2, .ref q3, .ref q4, .ref q5, .ref q6, .ref q7, .ref q8, .null, .null, .null, .int 0])), (q1, .inl (cyI, 42, .inl (fun _ => 0))), (q2, .inl (cyI, 84, .inl (fun _ => 0))), (q3, .inl (cyZ, 2, .inl (fun _ => 0))), (q4, .inl (cyI, 6, .inl (fun _ => 0))), (q5, .inl (cyI, 3, .inl (fun _ => 0))), (q6, .inl (cyI, 6, .inl (fun _ => 0))), (q7, .inl (cyI, 6, .inl (fun _ => 0))), (q8, .inl (cyZ, 6, .inl (fun _ => 0)))] := hD
  refine lv_aload_n hx hb dX6_init_66 rfl (lv_at hl 0 rfl) ?_
  refine lv_sipush (v := 8000) hx hb dX6_init_67 (by decide) ?_
  refine w_newa (atype := .int) (ty := .int) (cy := cyI) (N := 8000) hx hb (hts _ tk_121) rfl hK hP hD hS hA 0 rfl rfl (by decide) (by decide) (by decide) (Nat.le_of_ble_eq_true rfl) (Nat.le_of_ble_eq_true rfl) dX6_init_70 (fun q9 H hP hD hS => ?_)
  have hP : va_P D vwCl [(h0, .inr (5, [.ref q1, .ref q2, .ref q3, .ref q4, .ref q5, .ref q6, .ref q7, .ref q8, .null, .null, .null, .int 0])), (q1, .inl (cyI, 42, .inl (fun _ => 0))), (q2, .inl (cyI, 84, .inl (fun _ => 0))), (q3, .inl (cyZ, 2, .inl (fun _ => 0))), (q4, .inl (cyI, 6, .inl (fun _ => 0))), (q5, .inl (cyI, 3, .inl (fun _ => 0))), (q6, .inl (cyI, 6, .inl (fun _ => 0))), (q7, .inl (cyI, 6, .inl (fun _ => 0))), (q8, .inl (cyZ, 6, .inl (fun _ => 0))), (q9, .inl (cyI, 8000, .inl (fun _ => 0)))] H := hP
  have hD : va_D A [(h0, .inr (5, [.ref q1, .ref q2, .ref q3, .ref q4, .ref q5, .ref q6, .ref q7, .ref q8, .null, .null, .null, .int 0])), (q1, .inl (cyI, 42, .inl (fun _ => 0))), (q2, .inl (cyI, 84, .inl (fun _ => 0))), (q3, .inl (cyZ, 2, .inl (fun _ => 0))), (q4, .inl (cyI, 6, .inl (fun _ => 0))), (q5, .inl (cyI, 3, .inl (fun _ => 0))), (q6, .inl (cyI, 6, .inl (fun _ => 0))), (q7, .inl (cyI, 6, .inl (fun _ => 0))), (q8, .inl (cyZ, 6, .inl (fun _ => 0))), (q9, .inl (cyI, 8000, .inl (fun _ => 0)))] := hD
  refine va_putF (D := D) (ci := 5) (v := .ref q9) (ty := .array .int) (C := RX6) (T := TX6) (N := 12) hx hb hts tlX6 tyX6 tyX6_ok nmX6 hown hK hP hD hS 0 rfl rfl 8 (by decide) (hts _ tk_486) (fun _ h9 => h9) rfl hin rfl (by decide +kernel) rfl rfl (Nat.le_of_ble_eq_true rfl) dX6_init_72 (fun H locs hP hD hS => ?_)
  have hP : va_P D vwCl [(h0, .inr (5, [.ref q1, .ref q2, .ref q3, .ref q4, .ref q5, .ref q6, .ref q7, .ref q8, .ref q9, .null, .null, .int 0])), (q1, .inl (cyI, 42, .inl (fun _ => 0))), (q2, .inl (cyI, 84, .inl (fun _ => 0))), (q3, .inl (cyZ, 2, .inl (fun _ => 0))), (q4, .inl (cyI, 6, .inl (fun _ => 0))), (q5, .inl (cyI, 3, .inl (fun _ => 0))), (q6, .inl (cyI, 6, .inl (fun _ => 0))), (q7, .inl (cyI, 6, .inl (fun _ => 0))), (q8, .inl (cyZ, 6, .inl (fun _ => 0))), (q9, .inl (cyI, 8000, .inl (fun _ => 0)))] H := hP
  have hD : va_D A [(h0, .inr (5, [.ref q1, .ref q2, .ref q3, .ref q4, .ref q5, .ref q6, .ref q7, .ref q8, .ref q9, .null, .null, .int 0])), (q1, .inl (cyI, 42, .inl (fun _ => 0))), (q2, .inl (cyI, 84, .inl (fun _ => 0))), (q3, .inl (cyZ, 2, .inl (fun _ => 0))), (q4, .inl (cyI, 6, .inl (fun _ => 0))), (q5, .inl (cyI, 3, .inl (fun _ => 0))), (q6, .inl (cyI, 6, .inl (fun _ => 0))), (q7, .inl (cyI, 6, .inl (fun _ => 0))), (q8, .inl (cyZ, 6, .inl (fun _ => 0))), (q9, .inl (cyI, 8000, .inl (fun _ => 0)))] := hD
  refine lv_aload_n hx hb dX6_init_75 rfl (lv_at hl 0 rfl) ?_
  refine lv_sipush (v := 8000) hx hb dX6_init_76 (by decide) ?_
  refine w_newa (atype := .boolean) (ty := .boolean) (cy := cyZ) (N := 8000) hx hb (hts _ tk_515) rfl hK hP hD hS hA 1 rfl rfl (by decide) (by decide) (by decide) (Nat.le_of_ble_eq_true rfl) (Nat.le_of_ble_eq_true rfl) dX6_init_79 (fun q10 H hP hD hS => ?_)
  have hP : va_P D vwCl [(h0, .inr (5, [.ref q1, .ref q2, .ref q3, .ref q4, .ref q5, .ref q6, .ref q7, .ref q8, .ref q9, .null, .null, .int 0])), (q1, .inl (cyI, 42, .inl (fun _ => 0))), (q2, .inl (cyI, 84, .inl (fun _ => 0))), (q3, .inl (cyZ, 2, .inl (fun _ => 0))), (q4, .inl (cyI, 6, .inl (fun _ => 0))), (q5, .inl (cyI, 3, .inl (fun _ => 0))), (q6, .inl (cyI, 6, .inl (fun _ => 0))), (q7, .inl (cyI, 6, .inl (fun _ => 0))), (q8, .inl (cyZ, 6, .inl (fun _ => 0))), (q9, .inl (cyI, 8000, .inl (fun _ => 0))), (q10, .inl (cyZ, 8000, .inl (fun _ => 0)))] H := hP
  have hD : va_D A [(h0, .inr (5, [.ref q1, .ref q2, .ref q3, .ref q4, .ref q5, .ref q6, .ref q7, .ref q8, .ref q9, .null, .null, .int 0])), (q1, .inl (cyI, 42, .inl (fun _ => 0))), (q2, .inl (cyI, 84, .inl (fun _ => 0))), (q3, .inl (cyZ, 2, .inl (fun _ => 0))), (q4, .inl (cyI, 6, .inl (fun _ => 0))), (q5, .inl (cyI, 3, .inl (fun _ => 0))), (q6, .inl (cyI, 6, .inl (fun _ => 0))), (q7, .inl (cyI, 6, .inl (fun _ => 0))), (q8, .inl (cyZ, 6, .inl (fun _ => 0))), (q9, .inl (cyI, 8000, .inl (fun _ => 0))), (q10, .inl (cyZ, 8000, .inl (fun _ => 0)))] := hD
  refine va_putF (D := D) (ci := 5) (v := .ref q10) (ty := .array .boolean) (C := RX6) (T := TX6) (N := 12) hx hb hts tlX6 tyX6 tyX6_ok nmX6 hown hK hP hD hS 0 rfl rfl 9 (by decide) (hts _ tk_487) (fun _ h9 => h9) rfl hin rfl (by decide +kernel) rfl rfl (Nat.le_of_ble_eq_true rfl) dX6_init_81 (fun H locs hP hD hS => ?_)
  have hP : va_P D vwCl [(h0, .inr (5, [.ref q1, .ref q2, .ref q3, .ref q4, .ref q5, .ref q6, .ref q7, .ref q8, .ref q9, .ref q10, .null, .int 0])), (q1, .inl (cyI, 42, .inl (fun _ => 0))), (q2, .inl (cyI, 84, .inl (fun _ => 0))), (q3, .inl (cyZ, 2, .inl (fun _ => 0))), (q4, .inl (cyI, 6, .inl (fun _ => 0))), (q5, .inl (cyI, 3, .inl (fun _ => 0))), (q6, .inl (cyI, 6, .inl (fun _ => 0))), (q7, .inl (cyI, 6, .inl (fun _ => 0))), (q8, .inl (cyZ, 6, .inl (fun _ => 0))), (q9, .inl (cyI, 8000, .inl (fun _ => 0))), (q10, .inl (cyZ, 8000, .inl (fun _ => 0)))] H := hP
  have hD : va_D A [(h0, .inr (5, [.ref q1, .ref q2, .ref q3, .ref q4, .ref q5, .ref q6, .ref q7, .ref q8, .ref q9, .ref q10, .null, .int 0])), (q1, .inl (cyI, 42, .inl (fun _ => 0))), (q2, .inl (cyI, 84, .inl (fun _ => 0))), (q3, .inl (cyZ, 2, .inl (fun _ => 0))), (q4, .inl (cyI, 6, .inl (fun _ => 0))), (q5, .inl (cyI, 3, .inl (fun _ => 0))), (q6, .inl (cyI, 6, .inl (fun _ => 0))), (q7, .inl (cyI, 6, .inl (fun _ => 0))), (q8, .inl (cyZ, 6, .inl (fun _ => 0))), (q9, .inl (cyI, 8000, .inl (fun _ => 0))), (q10, .inl (cyZ, 8000, .inl (fun _ => 0)))] := hD
  refine lv_aload_n hx hb dX6_init_84 rfl (lv_at hl 0 rfl) ?_
  refine lv_sipush (v := 8000) hx hb dX6_init_85 (by decide) ?_
  refine w_newa (atype := .int) (ty := .int) (cy := cyI) (N := 8000) hx hb (hts _ tk_121) rfl hK hP hD hS hA 0 rfl rfl (by decide) (by decide) (by decide) (Nat.le_of_ble_eq_true rfl) (Nat.le_of_ble_eq_true rfl) dX6_init_88 (fun q11 H hP hD hS => ?_)
  have hP : va_P D vwCl [(h0, .inr (5, [.ref q1, .ref q2, .ref q3, .ref q4, .ref q5, .ref q6, .ref q7, .ref q8, .ref q9, .ref q10, .null, .int 0])), (q1, .inl (cyI, 42, .inl (fun _ => 0))), (q2, .inl (cyI, 84, .inl (fun _ => 0))), (q3, .inl (cyZ, 2, .inl (fun _ => 0))), (q4, .inl (cyI, 6, .inl (fun _ => 0))), (q5, .inl (cyI, 3, .inl (fun _ => 0))), (q6, .inl (cyI, 6, .inl (fun _ => 0))), (q7, .inl (cyI, 6, .inl (fun _ => 0))), (q8, .inl (cyZ, 6, .inl (fun _ => 0))), (q9, .inl (cyI, 8000, .inl (fun _ => 0))), (q10, .inl (cyZ, 8000, .inl (fun _ => 0))), (q11, .inl (cyI, 8000, .inl (fun _ => 0)))] H := hP
  have hD : va_D A [(h0, .inr (5, [.ref q1, .ref q2, .ref q3, .ref q4, .ref q5, .ref q6, .ref q7, .ref q8, .ref q9, .ref q10, .null, .int 0])), (q1, .inl (cyI, 42, .inl (fun _ => 0))), (q2, .inl (cyI, 84, .inl (fun _ => 0))), (q3, .inl (cyZ, 2, .inl (fun _ => 0))), (q4, .inl (cyI, 6, .inl (fun _ => 0))), (q5, .inl (cyI, 3, .inl (fun _ => 0))), (q6, .inl (cyI, 6, .inl (fun _ => 0))), (q7, .inl (cyI, 6, .inl (fun _ => 0))), (q8, .inl (cyZ, 6, .inl (fun _ => 0))), (q9, .inl (cyI, 8000, .inl (fun _ => 0))), (q10, .inl (cyZ, 8000, .inl (fun _ => 0))), (q11, .inl (cyI, 8000, .inl (fun _ => 0)))] := hD
  refine va_putF (D := D) (ci := 5) (v := .ref q11) (ty := .array .int) (C := RX6) (T := TX6) (N := 12) hx hb hts tlX6 tyX6 tyX6_ok nmX6 hown hK hP hD hS 0 rfl rfl 10 (by decide) (hts _ tk_488) (fun _ h9 => h9) rfl hin rfl (by decide +kernel) rfl rfl (Nat.le_of_ble_eq_true rfl) dX6_init_90 (fun H locs hP hD hS => ?_)
  have hP : va_P D vwCl [(h0, .inr (5, [.ref q1, .ref q2, .ref q3, .ref q4, .ref q5, .ref q6, .ref q7, .ref q8, .ref q9, .ref q10, .ref q11, .int 0])), (q1, .inl (cyI, 42, .inl (fun _ => 0))), (q2, .inl (cyI, 84, .inl (fun _ => 0))), (q3, .inl (cyZ, 2, .inl (fun _ => 0))), (q4, .inl (cyI, 6, .inl (fun _ => 0))), (q5, .inl (cyI, 3, .inl (fun _ => 0))), (q6, .inl (cyI, 6, .inl (fun _ => 0))), (q7, .inl (cyI, 6, .inl (fun _ => 0))), (q8, .inl (cyZ, 6, .inl (fun _ => 0))), (q9, .inl (cyI, 8000, .inl (fun _ => 0))), (q10, .inl (cyZ, 8000, .inl (fun _ => 0))), (q11, .inl (cyI, 8000, .inl (fun _ => 0)))] H := hP
  have hD : va_D A [(h0, .inr (5, [.ref q1, .ref q2, .ref q3, .ref q4, .ref q5, .ref q6, .ref q7, .ref q8, .ref q9, .ref q10, .ref q11, .int 0])), (q1, .inl (cyI, 42, .inl (fun _ => 0))), (q2, .inl (cyI, 84, .inl (fun _ => 0))), (q3, .inl (cyZ, 2, .inl (fun _ => 0))), (q4, .inl (cyI, 6, .inl (fun _ => 0))), (q5, .inl (cyI, 3, .inl (fun _ => 0))), (q6, .inl (cyI, 6, .inl (fun _ => 0))), (q7, .inl (cyI, 6, .inl (fun _ => 0))), (q8, .inl (cyZ, 6, .inl (fun _ => 0))), (q9, .inl (cyI, 8000, .inl (fun _ => 0))), (q10, .inl (cyZ, 8000, .inl (fun _ => 0))), (q11, .inl (cyI, 8000, .inl (fun _ => 0)))] := hD
  refine W.widen (k := 11) (n := 24155) (Nat.le_of_ble_eq_true rfl) (Nat.le_of_ble_eq_true rfl) ?_
  have hP9 := hP.sub (ws' := [(h0, .inr (5, [.ref q1, .ref q2, .ref q3, .ref q4, .ref q5, .ref q6, .ref q7, .ref q8, .ref q9, .ref q10, .ref q11, .int 0])), (q1, .inl (cyI, 42, .inl (fun _ => 0))), (q2, .inl (cyI, 84, .inl (fun _ => 0))), (q3, .inl (cyZ, 2, .inl (fun _ => 0))), (q4, .inl (cyI, 6, .inl (fun _ => 0))), (q5, .inl (cyI, 3, .inl (fun _ => 0))), (q6, .inl (cyI, 6, .inl (fun _ => 0))), (q7, .inl (cyI, 6, .inl (fun _ => 0))), (q8, .inl (cyZ, 6, .inl (fun _ => 0))), (q9, .inl (cyI, 8000, .inl (fun _ => 0))), (q10, .inl (cyZ, 8000, .inl (fun _ => 0))), (q11, .inl (cyI, 8000, .inl (fun _ => 0)))]) [0, 1, 2, 3, 4, 5, 6, 7, 8, 9, 10, 11] rfl
  have hD9 := hD.sub (ws' := [(h0, .inr (5, [.ref q1, .ref q2, .ref q3, .ref q4, .ref q5, .ref q6, .ref q7, .ref q8, .ref q9, .ref q10, .ref q11, .int 0])), (q1, .inl (cyI, 42, .inl (fun _ => 0))), (q2, .inl (cyI, 84, .inl (fun _ => 0))), (q3, .inl (cyZ, 2, .inl (fun _ => 0))), (q4, .inl (cyI, 6, .inl (fun _ => 0))), (q5, .inl (cyI, 3, .inl (fun _ => 0))), (q6, .inl (cyI, 6, .inl (fun _ => 0))), (q7, .inl (cyI, 6, .inl (fun _ => 0))), (q8, .inl (cyZ, 6, .inl (fun _ => 0))), (q9, .inl (cyI, 8000, .inl (fun _ => 0))), (q10, .inl (cyZ, 8000, .inl (fun _ => 0))), (q11, .inl (cyI, 8000, .inl (fun _ => 0)))]) [0, 1, 2, 3, 4, 5, 6, 7, 8, 9, 10, 11] (by decide) rfl
  exact W.vret hx hb hr (fun t ht hW => ⟨⟨(fun k => [h0, q1, q2, q3, q4, q5, q6, q7, q8, q9, q10, q11].getD k 0), rfl, rfl, by rw [ht]; exact hP9, va_K.moved hW.alike hK, hN.warm hW, hD9⟩, hS.F ht⟩) hS.2.2 dX6_init_93
