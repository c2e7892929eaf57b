theorem hdX6_in : yX6_in.cls ≠ "java/lang/invoke/MethodHandle" ∧ yX6_in.cls ≠ "java/lang/invoke/VarHandle" ∧ (parseMethodDescriptor yX6_in.desc).map (fun d => d.parameters.length) = some 3 := by decide +kernel
set_option maxHeartbeats 4000000 in
set_option maxRecDepth 100000 in
theorem tX6_in (l : Launch) (E : Ev) (hj : Inj kM E) (a0 : Int32) (a1 : Int32) (a2 : Int32) (σ : Sg) (r : Int32 × Sg) (h : fX6_in a0 a1 a2 σ = some r) : CI l yX6_in cX6_in 3 (some FieldType.boolean) (rmk 0 0) kM E [.int a0, .int a1, .int a2] σ r := by
  refine CI_z (lv := [(0, .int a0), (1, .int a1), (2, .int a2)]) (by decide) hj (Nat.le_of_ble_eq_true rfl) rfl (fun p e s m args below meth c ls Q hF hret hH hl => ?_)
  have w15 : ∀ (t0 : Int32) (σ : Sg) (H : Heap) (locs : List Loc) (ls : Array Slot), fX6_in_15 t0 σ = some r → HP kM E s σ H locs → lv_has ls 3 [] → W p l e (rmk 0 0) s m args below meth c H locs 0 0 Q (F0 m 15 ls [.int t0]) := by
    intro t0 σ H locs ls h hH hl
    unfold fX6_in_15 at h
    exact hret _ _ _ _ _ _ hH h dX6_in_15
  have w14 : ∀ (σ : Sg) (H : Heap) (locs : List Loc) (ls : Array Slot), fX6_in_14 σ = some r → HP kM E s σ H locs → lv_has ls 3 [] → W p l e (rmk 0 0) s m args below meth c H locs 0 0 Q (F0 m 14 ls []) := by
    intro σ H locs ls h hH hl
    unfold fX6_in_14 at h
    refine lv_iconst (v := 0) hF.x hF.b dX6_in_14 (by decide) ?_
    exact w15 _ _ _ _ _ h hH (lv_sub hl [] rfl)
  unfold fX6_in at h
  refine lv_iload_n hF.x hF.b dX6_in_0 rfl (lv_at hl 0 rfl) ?_
  refine lv_iload_n hF.x hF.b dX6_in_1 rfl (lv_at hl 1 rfl) ?_
  refine lv_icmp_lt (tgt := 14) hF.x hF.b dX6_in_2 (by decide) (fun c1 => ?_) (fun c1 => ?_)
  · rw [if_pos c1] at h
    exact w14 _ _ _ _ h hH (lv_sub hl [] rfl)
  · rw [if_neg c1] at h
    refine lv_iload_n hF.x hF.b dX6_in_5 rfl (lv_at hl 0 rfl) ?_
    refine lv_iload_n hF.x hF.b dX6_in_6 rfl (lv_at hl 2 rfl) ?_
    refine lv_icmp_gt (tgt := 14) hF.x hF.b dX6_in_7 (by decide) (fun c2 => ?_) (fun c2 => ?_)
    · rw [if_pos c2] at h
      exact w14 _ _ _ _ h hH (lv_sub hl [] rfl)
    · rw [if_neg c2] at h
      refine lv_iconst (v := 1) hF.x hF.b dX6_in_10 (by decide) ?_
      refine lv_goto (tgt := 15) hF.x hF.b dX6_in_11 (by decide) ?_
      exact w15 _ _ _ _ _ h hH (lv_sub hl [] rfl)
theorem hdX6_isBus : yX6_isBus.cls ≠ "java/lang/invoke/MethodHandle" ∧ yX6_isBus.cls ≠ "java/lang/invoke/VarHandle" ∧ (parseMethodDescriptor yX6_isBus.desc).map (fun d => d.parameters.length) = some 1 := by decide +kernel
set_option maxHeartbeats 4000000 in
set_option maxRecDepth 100000 in
theorem tX6_isBus (l : Launch) (E : Ev) (hj : Inj kM E) (a0 : Int32) (σ : Sg) (r : Int32 × Sg) (h : fX6_isBus a0 σ = some r) : CI l yX6_isBus cX6_isBus 1 (some FieldType.boolean) (rmk 1 22) kM E [.int a0] σ r := by
  refine CI_z (lv := [(0, .int a0)]) (by decide) hj (Nat.le_of_ble_eq_true rfl) rfl (fun p e s m args below meth c ls Q hF hret hH hl => ?_)
  unfold fX6_isBus at h
  refine lv_iload_n hF.x hF.b dX6_isBus_0 rfl (lv_at hl 0 rfl) ?_
  refine lv_iconst (v := 0) hF.x hF.b dX6_isBus_1 (by decide) ?_
  refine lv_iconst (v := 5) hF.x hF.b dX6_isBus_2 (by decide) ?_
  replace h := bd_some h
  obtain ⟨v1, σ2, hv1, h⟩ := h
  refine w_cSi (As := [.int a0, .int 0, .int 5]) (rest := []) hF hH hl (tX6_in l E hF.j _ _ _ _ _ hv1) tk_523 tk_524 tk_46 tk_525 rfl rfl hdX6_in ⟨Nat.le_of_ble_eq_true rfl, Nat.le_of_ble_eq_true rfl⟩ rfl rfl (Nat.le_of_ble_eq_true rfl) dX6_isBus_3 (fun H locs hH => ?_)
  exact hret _ _ _ _ _ _ hH h dX6_isBus_6
theorem hdX6_isLine : yX6_isLine.cls = RX6 ∧ yX6_isLine.cls ≠ "java/lang/invoke/MethodHandle" ∧ yX6_isLine.cls ≠ "java/lang/invoke/VarHandle" ∧ (parseMethodDescriptor yX6_isLine.desc).map (fun d => d.parameters.length) = some 1 := by decide +kernel
set_option maxHeartbeats 4000000 in
set_option maxRecDepth 100000 in
theorem tX6_isLine (l : Launch) (E : Ev) (hj : Inj kM E) (a1 : Int32) (σ : Sg) (r : Int32 × Sg) (h : fX6_isLine a1 σ = some r) : CI l yX6_isLine cX6_isLine 2 (some FieldType.boolean) (rmk 1 22) kM E [.ref (eA E 0), .int a1] σ r := by
  refine CI_z (lv := [(0, .ref (eA E 0)), (1, .int a1)]) (by decide) hj (Nat.le_of_ble_eq_true rfl) rfl (fun p e s m args below meth c ls Q hF hret hH hl => ?_)
  unfold fX6_isLine at h
  refine lv_iload_n hF.x hF.b dX6_isLine_0 rfl (lv_at hl 1 rfl) ?_
  refine lv_iconst (v := 0) hF.x hF.b dX6_isLine_1 (by decide) ?_
  refine lv_aload_n hF.x hF.b dX6_isLine_2 rfl (lv_at hl 0 rfl) ?_
  refine gfM_0_0 hF hH tk_478 dX6_isLine_3 ?_
  refine lv_bipush (v := 39) hF.x hF.b dX6_isLine_6 (by decide) ?_
  refine alM_1 hF hH (gd_some h).1 dX6_isLine_8 ?_
  replace h := (gd_some h).2
  refine lv_iconst (v := 1) hF.x hF.b dX6_isLine_9 (by decide) ?_
  refine lv_isub hF.x hF.b dX6_isLine_10 ?_
  replace h := bd_some h
  obtain ⟨v1, σ2, hv1, h⟩ := h
  refine w_cSi (As := [.int a1, .int 0, .int ((σ 1 (Int32.toNatClampNeg 39)) - (1 : Int32))]) (rest := []) hF hH hl (tX6_in l E hF.j _ _ _ _ _ hv1) tk_523 tk_524 tk_46 tk_525 rfl rfl hdX6_in ⟨Nat.le_of_ble_eq_true rfl, Nat.le_of_ble_eq_true rfl⟩ rfl rfl (Nat.le_of_ble_eq_true rfl) dX6_isLine_11 (fun H locs hH => ?_)
  exact hret _ _ _ _ _ _ hH h dX6_isLine_14
theorem hdX6_isMachine : yX6_isMachine.cls = RX6 ∧ yX6_isMachine.cls ≠ "java/lang/invoke/MethodHandle" ∧ yX6_isMachine.cls ≠ "java/lang/invoke/VarHandle" ∧ (parseMethodDescriptor yX6_isMachine.desc).map (fun d => d.parameters.length) = some 1 := by decide +kernel
set_option maxHeartbeats 4000000 in
set_option maxRecDepth 100000 in
theorem tX6_isMachine (l : Launch) (E : Ev) (hj : Inj kM E) (a1 : Int32) (σ : Sg) (r : Int32 × Sg) (h : fX6_isMachine a1 σ = some r) : CI l yX6_isMachine cX6_isMachine 2 (some FieldType.boolean) (rmk 1 22) kM E [.ref (eA E 0), .int a1] σ r := by
  refine CI_z (lv := [(0, .ref (eA E 0)), (1, .int a1)]) (by decide) hj (Nat.le_of_ble_eq_true rfl) rfl (fun p e s m args below meth c ls Q hF hret hH hl => ?_)
  unfold fX6_isMachine at h
  refine lv_iload_n hF.x hF.b dX6_isMachine_0 rfl (lv_at hl 1 rfl) ?_
  refine lv_iconst (v := 0) hF.x hF.b dX6_isMachine_1 (by decide) ?_
  refine lv_aload_n hF.x hF.b dX6_isMachine_2 rfl (lv_at hl 0 rfl) ?_
  refine gfM_0_0 hF hH tk_478 dX6_isMachine_3 ?_
  refine lv_bipush (v := 40) hF.x hF.b dX6_isMachine_6 (by decide) ?_
  refine alM_1 hF hH (gd_some h).1 dX6_isMachine_8 ?_
  replace h := (gd_some h).2
  refine lv_iconst (v := 1) hF.x hF.b dX6_isMachine_9 (by decide) ?_
  refine lv_isub hF.x hF.b dX6_isMachine_10 ?_
  replace h := bd_some h
  obtain ⟨v1, σ2, hv1, h⟩ := h
  refine w_cSi (As := [.int a1, .int 0, .int ((σ 1 (Int32.toNatClampNeg 40)) - (1 : Int32))]) (rest := []) hF hH hl (tX6_in l E hF.j _ _ _ _ _ hv1) tk_523 tk_524 tk_46 tk_525 rfl rfl hdX6_in ⟨Nat.le_of_ble_eq_true rfl, Nat.le_of_ble_eq_true rfl⟩ rfl rfl (Nat.le_of_ble_eq_true rfl) dX6_isMachine_11 (fun H locs hH => ?_)
  exact hret _ _ _ _ _ _ hH h dX6_isMachine_14
theorem hdX6_line : yX6_line.cls = RX6 ∧ yX6_line.cls ≠ "java/lang/invoke/MethodHandle" ∧ yX6_line.cls ≠ "java/lang/invoke/VarHandle" ∧ (parseMethodDescriptor yX6_line.desc).map (fun d => d.parameters.length) = some 3 := by decide +kernel
set_option maxHeartbeats 4000000 in
set_option maxRecDepth 100000 in
theorem tX6_line (l : Launch) (E : Ev) (hj : Inj kM E) (a1 : Int32) (a2 : Int32) (a3 : Int32) (σ : Sg) (r : Int32 × Sg) (h : fX6_line a1 a2 a3 σ = some r) : CI l yX6_line cX6_line 5 (some FieldType.int) (rmk 2 42) kM E [.ref (eA E 0), .int a1, .int a2, .int a3] σ r := by
  refine CI_i (lv := [(0, .ref (eA E 0)), (1, .int a1), (2, .int a2), (3, .int a3)]) (by decide) hj (Nat.le_of_ble_eq_true rfl) rfl (fun p e s m args below meth c ls Q hF hret hH hl => ?_)
  have w19 : ∀ (σ : Sg) (H : Heap) (locs : List Loc) (ls : Array Slot), fX6_line_19 σ = some r → HP kM E s σ H locs → lv_has ls 5 [(0, .ref (eA E 0))] → W p l e (rmk 2 42) s m args below meth c H locs 0 0 Q (F0 m 19 ls []) := by
    intro σ H locs ls h hH hl
    unfold fX6_line_19 at h
    refine lv_iconst (v := (-1)) hF.x hF.b dX6_line_19 (by decide) ?_
    exact hret _ _ _ _ _ _ hH h dX6_line_20
  have w91 : ∀ (x3 x4 t0 t1 : Int32) (σ : Sg) (H : Heap) (locs : List Loc) (ls : Array Slot), fX6_line_91 x3 x4 t0 t1 σ = some r → HP kM E s σ H locs → lv_has ls 5 [(0, .ref (eA E 0)), (3, .int x3), (4, .int x4)] → W p l e (rmk 2 42) s m args below meth c H locs 0 0 Q (F0 m 91 ls [.int t0, .int t1, .ref (eA E 1)]) := by
    intro x3 x4 t0 t1 σ H locs ls h hH hl
    unfold fX6_line_91 at h
    refine asM_1 hF hH (gd_some h).1 dX6_line_91 (fun σ1 H locs eσ1 hH => ?_)
    replace h := sv_at (gd_some h).2 eσ1
    clear eσ1
    refine lv_aload_n hF.x hF.b dX6_line_92 rfl (lv_at hl 0 rfl) ?_
    refine gfM_0_0 hF hH tk_478 dX6_line_93 ?_
    refine lv_bipush (v := 12) hF.x hF.b dX6_line_96 (by decide) ?_
    refine lv_iload hF.x hF.b dX6_line_98 (lv_at hl 2 rfl) ?_
    refine lv_iadd hF.x hF.b dX6_line_100 ?_
    refine lv_iload_n hF.x hF.b dX6_line_101 rfl (lv_at hl 1 rfl) ?_
    refine asM_1 hF hH (gd_some h).1 dX6_line_102 (fun σ2 H locs eσ2 hH => ?_)
    replace h := sv_at (gd_some h).2 eσ2
    clear eσ2
    refine lv_aload_n hF.x hF.b dX6_line_103 rfl (lv_at hl 0 rfl) ?_
    refine gfM_0_0 hF hH tk_478 dX6_line_104 ?_
    refine lv_bipush (v := 18) hF.x hF.b dX6_line_107 (by decide) ?_
    refine lv_iload hF.x hF.b dX6_line_109 (lv_at hl 2 rfl) ?_
    refine lv_iadd hF.x hF.b dX6_line_111 ?_
    refine lv_iconst (v := 0) hF.x hF.b dX6_line_112 (by decide) ?_
    refine asM_1 hF hH (gd_some h).1 dX6_line_113 (fun σ3 H locs eσ3 hH => ?_)
    replace h := sv_at (gd_some h).2 eσ3
    clear eσ3
    refine lv_aload_n hF.x hF.b dX6_line_114 rfl (lv_at hl 0 rfl) ?_
    refine gfM_0_0 hF hH tk_478 dX6_line_115 ?_
    refine lv_bipush (v := 39) hF.x hF.b dX6_line_118 (by decide) ?_
    refine lv_dup2_11 hF.x hF.b dX6_line_120 rfl rfl ?_
    refine alM_1 hF hH (gd_some h).1 dX6_line_121 ?_
    replace h := (gd_some h).2
    refine lv_iconst (v := 1) hF.x hF.b dX6_line_122 (by decide) ?_
    refine lv_iadd hF.x hF.b dX6_line_123 ?_
    refine asM_1 hF hH (gd_some h).1 dX6_line_124 (fun σ4 H locs eσ4 hH => ?_)
    replace h := sv_at (gd_some h).2 eσ4
    clear eσ4
    refine lv_iload hF.x hF.b dX6_line_125 (lv_at hl 2 rfl) ?_
    exact hret _ _ _ _ _ _ hH h dX6_line_127
  have w71 : ∀ (x1 x2 x3 x4 t0 t1 : Int32) (σ : Sg) (H : Heap) (locs : List Loc) (ls : Array Slot), fX6_line_71 x1 x2 x3 x4 t0 t1 σ = some r → HP kM E s σ H locs → lv_has ls 5 [(0, .ref (eA E 0)), (1, .int x1), (2, .int x2), (3, .int x3), (4, .int x4)] → W p l e (rmk 2 42) s m args below meth c H locs 0 0 Q (F0 m 71 ls [.int t0, .int t1, .ref (eA E 1)]) := by
    intro x1 x2 x3 x4 t0 t1 σ H locs ls h hH hl
    unfold fX6_line_71 at h
    refine asM_1 hF hH (gd_some h).1 dX6_line_71 (fun σ5 H locs eσ5 hH => ?_)
    replace h := sv_at (gd_some h).2 eσ5
    clear eσ5
    refine lv_aload_n hF.x hF.b dX6_line_72 rfl (lv_at hl 0 rfl) ?_
    refine gfM_0_0 hF hH tk_478 dX6_line_73 ?_
    refine lv_bipush (v := 6) hF.x hF.b dX6_line_76 (by decide) ?_
    refine lv_iload hF.x hF.b dX6_line_78 (lv_at hl 4 rfl) ?_
    refine lv_iadd hF.x hF.b dX6_line_80 ?_
    refine lv_iload_n hF.x hF.b dX6_line_81 rfl (lv_at hl 1 rfl) ?_
    refine lv_iload_n hF.x hF.b dX6_line_82 rfl (lv_at hl 2 rfl) ?_
    refine lv_icmp_ge (tgt := 90) hF.x hF.b dX6_line_83 (by decide) (fun c6 => ?_) (fun c6 => ?_)
    · rw [if_pos c6] at h
      refine lv_iload_n hF.x hF.b dX6_line_90 rfl (lv_at hl 1 rfl) ?_
      exact w91 _ _ _ _ _ _ _ _ h hH (lv_sub hl [0, 3, 4] rfl)
    · rw [if_neg c6] at h
      refine lv_iload_n hF.x hF.b dX6_line_86 rfl (lv_at hl 2 rfl) ?_
      refine lv_goto (tgt := 91) hF.x hF.b dX6_line_87 (by decide) ?_
      exact w91 _ _ _ _ _ _ _ _ h hH (lv_sub hl [0, 3, 4] rfl)
  unfold fX6_line at h
  refine lv_iload_n hF.x hF.b dX6_line_0 rfl (lv_at hl 1 rfl) ?_
  replace h := bd_some h
  obtain ⟨v7, σ8, hv7, h⟩ := h
  refine w_cSi (As := [.int a1]) (rest := []) hF hH hl (tX6_isBus l E hF.j _ _ _ hv7) tk_520 tk_521 tk_46 tk_522 rfl rfl hdX6_isBus ⟨Nat.le_of_ble_eq_true rfl, Nat.le_of_ble_eq_true rfl⟩ rfl rfl (Nat.le_of_ble_eq_true rfl) dX6_line_1 (fun H locs hH => ?_)
  refine lv_if_eq (tgt := 19) hF.x hF.b dX6_line_4 (by decide) (fun c9 => ?_) (fun c9 => ?_)
  · rw [if_pos c9] at h
    exact w19 _ _ _ _ h hH (lv_sub hl [0] rfl)
  · rw [if_neg c9] at h
    refine lv_iload_n hF.x hF.b dX6_line_7 rfl (lv_at hl 2 rfl) ?_
    replace h := bd_some h
    obtain ⟨v10, σ11, hv10, h⟩ := h
    refine w_cSi (As := [.int a2]) (rest := []) hF hH hl (tX6_isBus l E hF.j _ _ _ hv10) tk_520 tk_521 tk_46 tk_522 rfl rfl hdX6_isBus ⟨Nat.le_of_ble_eq_true rfl, Nat.le_of_ble_eq_true rfl⟩ rfl rfl (Nat.le_of_ble_eq_true rfl) dX6_line_8 (fun H locs hH => ?_)
    refine lv_if_eq (tgt := 19) hF.x hF.b dX6_line_11 (by decide) (fun c12 => ?_) (fun c12 => ?_)
    · rw [if_pos c12] at h
      exact w19 _ _ _ _ h hH (lv_sub hl [0] rfl)
    · rw [if_neg c12] at h
      refine lv_iload_n hF.x hF.b dX6_line_14 rfl (lv_at hl 1 rfl) ?_
      refine lv_iload_n hF.x hF.b dX6_line_15 rfl (lv_at hl 2 rfl) ?_
      refine lv_icmp_ne (tgt := 21) hF.x hF.b dX6_line_16 (by decide) (fun c13 => ?_) (fun c13 => ?_)
      · rw [if_neg c13] at h
        refine lv_iload_n hF.x hF.b dX6_line_21 rfl (lv_at hl 3 rfl) ?_
        refine lv_iconst (v := 0) hF.x hF.b dX6_line_22 (by decide) ?_
        refine lv_bipush (v := 9) hF.x hF.b dX6_line_23 (by decide) ?_
        replace h := bd_some h
        obtain ⟨v14, σ15, hv14, h⟩ := h
        refine w_cSi (As := [.int a3, .int 0, .int 9]) (rest := []) hF hH hl (tX6_in l E hF.j _ _ _ _ _ hv14) tk_523 tk_524 tk_46 tk_525 rfl rfl hdX6_in ⟨Nat.le_of_ble_eq_true rfl, Nat.le_of_ble_eq_true rfl⟩ rfl rfl (Nat.le_of_ble_eq_true rfl) dX6_line_25 (fun H locs hH => ?_)
        refine lv_if_ne (tgt := 34) hF.x hF.b dX6_line_28 (by decide) (fun c16 => ?_) (fun c16 => ?_)
        · rw [if_neg c16] at h
          refine lv_aload_n hF.x hF.b dX6_line_34 rfl (lv_at hl 0 rfl) ?_
          refine gfM_0_0 hF hH tk_478 dX6_line_35 ?_
          refine lv_bipush (v := 39) hF.x hF.b dX6_line_38 (by decide) ?_
          refine alM_1 hF hH (gd_some h).1 dX6_line_40 ?_
          replace h := (gd_some h).2
          refine lv_topi (fun y17 ey17 => ?_)
          replace h := sv_at h ey17
          clear ey17
          refine lv_istore (lv' := [(4, .int y17), (0, .ref (eA E 0)), (1, .int a1), (2, .int a2), (3, .int a3)]) hF.x hF.b dX6_line_41 hl (by decide) rfl (fun ls hl => ?_)
          refine lv_iload hF.x hF.b dX6_line_43 (lv_at hl 0 rfl) ?_
          refine lv_bipush (v := 6) hF.x hF.b dX6_line_45 (by decide) ?_
          refine lv_icmp_ne (tgt := 53) hF.x hF.b dX6_line_47 (by decide) (fun c18 => ?_) (fun c18 => ?_)
          · rw [if_neg c18] at h
            refine lv_aload_n hF.x hF.b dX6_line_53 rfl (lv_at hl 1 rfl) ?_
            refine gfM_0_0 hF hH tk_478 dX6_line_54 ?_
            refine lv_iconst (v := 0) hF.x hF.b dX6_line_57 (by decide) ?_
            refine lv_iload hF.x hF.b dX6_line_58 (lv_at hl 0 rfl) ?_
            refine lv_iadd hF.x hF.b dX6_line_60 ?_
            refine lv_iload_n hF.x hF.b dX6_line_61 rfl (lv_at hl 2 rfl) ?_
            refine lv_iload_n hF.x hF.b dX6_line_62 rfl (lv_at hl 3 rfl) ?_
            refine lv_icmp_ge (tgt := 70) hF.x hF.b dX6_line_63 (by decide) (fun c19 => ?_) (fun c19 => ?_)
            · rw [if_pos c19] at h
              refine lv_iload_n hF.x hF.b dX6_line_70 rfl (lv_at hl 3 rfl) ?_
              exact w71 _ _ _ _ _ _ _ _ _ _ h hH (lv_sub hl [1, 2, 3, 4, 0] rfl)
            · rw [if_neg c19] at h
              refine lv_iload_n hF.x hF.b dX6_line_66 rfl (lv_at hl 2 rfl) ?_
              refine lv_goto (tgt := 71) hF.x hF.b dX6_line_67 (by decide) ?_
              exact w71 _ _ _ _ _ _ _ _ _ _ h hH (lv_sub hl [1, 2, 3, 4, 0] rfl)
          · rw [if_pos c18] at h
            refine lv_bipush (v := (-4)) hF.x hF.b dX6_line_50 (by decide) ?_
            exact hret _ _ _ _ _ _ hH h dX6_line_52
        · rw [if_pos c16] at h
          refine lv_bipush (v := (-2)) hF.x hF.b dX6_line_31 (by decide) ?_
          exact hret _ _ _ _ _ _ hH h dX6_line_33
      · rw [if_pos c13] at h
        exact w19 _ _ _ _ h hH (lv_sub hl [0] rfl)
theorem hdX6_machine : yX6_machine.cls = RX6 ∧ yX6_machine.cls ≠ "java/lang/invoke/MethodHandle" ∧ yX6_machine.cls ≠ "java/lang/invoke/VarHandle" ∧ (parseMethodDescriptor yX6_machine.desc).map (fun d => d.parameters.length) = some 4 := by decide +kernel
set_option maxHeartbeats 4000000 in
set_option maxRecDepth 100000 in
theorem tX6_machine (l : Launch) (E : Ev) (hj : Inj kM E) (a1 : Int32) (a2 : Int32) (a3 : Int32) (a4 : Int32) (σ : Sg) (r : Int32 × Sg) (h : fX6_machine a1 a2 a3 a4 σ = some r) : CI l yX6_machine cX6_machine 6 (some FieldType.int) (rmk 2 42) kM E [.ref (eA E 0), .int a1, .int a2, .int a3, .int a4] σ r := by
  refine CI_i (lv := [(0, .ref (eA E 0)), (1, .int a1), (2, .int a2), (3, .int a3), (4, .int a4)]) (by decide) hj (Nat.le_of_ble_eq_true rfl) rfl (fun p e s m args below meth c ls Q hF hret hH hl => ?_)
  have w39 : ∀ (σ : Sg) (H : Heap) (locs : List Loc) (ls : Array Slot), fX6_machine_39 σ = some r → HP kM E s σ H locs → lv_has ls 6 [(0, .ref (eA E 0))] → W p l e (rmk 2 42) s m args below meth c H locs 0 0 Q (F0 m 39 ls []) := by
    intro σ H locs ls h hH hl
    unfold fX6_machine_39 at h
    refine lv_bipush (v := (-2)) hF.x hF.b dX6_machine_39 (by decide) ?_
    exact hret _ _ _ _ _ _ hH h dX6_machine_41
  unfold fX6_machine at h
  refine lv_iload_n hF.x hF.b dX6_machine_0 rfl (lv_at hl 1 rfl) ?_
  replace h := bd_some h
  obtain ⟨v1, σ2, hv1, h⟩ := h
  refine w_cSi (As := [.int a1]) (rest := []) hF hH hl (tX6_isBus l E hF.j _ _ _ hv1) tk_520 tk_521 tk_46 tk_522 rfl rfl hdX6_isBus ⟨Nat.le_of_ble_eq_true rfl, Nat.le_of_ble_eq_true rfl⟩ rfl rfl (Nat.le_of_ble_eq_true rfl) dX6_machine_1 (fun H locs hH => ?_)
  refine lv_if_ne (tgt := 9) hF.x hF.b dX6_machine_4 (by decide) (fun c3 => ?_) (fun c3 => ?_)
  · rw [if_neg c3] at h
    refine lv_iload_n hF.x hF.b dX6_machine_9 rfl (lv_at hl 2 rfl) ?_
    refine lv_iconst (v := 0) hF.x hF.b dX6_machine_10 (by decide) ?_
    refine lv_bipush (v := 20) hF.x hF.b dX6_machine_11 (by decide) ?_
    replace h := bd_some h
    obtain ⟨v4, σ5, hv4, h⟩ := h
    refine w_cSi (As := [.int a2, .int 0, .int 20]) (rest := []) hF hH hl (tX6_in l E hF.j _ _ _ _ _ hv4) tk_523 tk_524 tk_46 tk_525 rfl rfl hdX6_in ⟨Nat.le_of_ble_eq_true rfl, Nat.le_of_ble_eq_true rfl⟩ rfl rfl (Nat.le_of_ble_eq_true rfl) dX6_machine_13 (fun H locs hH => ?_)
    refine lv_if_eq (tgt := 39) hF.x hF.b dX6_machine_16 (by decide) (fun c6 => ?_) (fun c6 => ?_)
    · rw [if_pos c6] at h
      exact w39 _ _ _ _ h hH (lv_sub hl [0] rfl)
    · rw [if_neg c6] at h
      refine lv_iload_n hF.x hF.b dX6_machine_19 rfl (lv_at hl 3 rfl) ?_
      refine lv_iconst (v := 0) hF.x hF.b dX6_machine_20 (by decide) ?_
      refine lv_bipush (v := 40) hF.x hF.b dX6_machine_21 (by decide) ?_
      replace h := bd_some h
      obtain ⟨v7, σ8, hv7, h⟩ := h
      refine w_cSi (As := [.int a3, .int 0, .int 40]) (rest := []) hF hH hl (tX6_in l E hF.j _ _ _ _ _ hv7) tk_523 tk_524 tk_46 tk_525 rfl rfl hdX6_in ⟨Nat.le_of_ble_eq_true rfl, Nat.le_of_ble_eq_true rfl⟩ rfl rfl (Nat.le_of_ble_eq_true rfl) dX6_machine_23 (fun H locs hH => ?_)
      refine lv_if_eq (tgt := 39) hF.x hF.b dX6_machine_26 (by decide) (fun c9 => ?_) (fun c9 => ?_)
      · rw [if_pos c9] at h
        exact w39 _ _ _ _ h hH (lv_sub hl [0] rfl)
      · rw [if_neg c9] at h
        refine lv_iload hF.x hF.b dX6_machine_29 (lv_at hl 4 rfl) ?_
        refine lv_iconst (v := 0) hF.x hF.b dX6_machine_31 (by decide) ?_
        refine lv_iconst (v := 3) hF.x hF.b dX6_machine_32 (by decide) ?_
        replace h := bd_some h
        obtain ⟨v10, σ11, hv10, h⟩ := h
        refine w_cSi (As := [.int a4, .int 0, .int 3]) (rest := []) hF hH hl (tX6_in l E hF.j _ _ _ _ _ hv10) tk_523 tk_524 tk_46 tk_525 rfl rfl hdX6_in ⟨Nat.le_of_ble_eq_true rfl, Nat.le_of_ble_eq_true rfl⟩ rfl rfl (Nat.le_of_ble_eq_true rfl) dX6_machine_33 (fun H locs hH => ?_)
        refine lv_if_ne (tgt := 42) hF.x hF.b dX6_machine_36 (by decide) (fun c12 => ?_) (fun c12 => ?_)
        · rw [if_neg c12] at h
          refine lv_aload_n hF.x hF.b dX6_machine_42 rfl (lv_at hl 0 rfl) ?_
          refine gfM_0_0 hF hH tk_478 dX6_machine_43 ?_
          refine lv_bipush (v := 40) hF.x hF.b dX6_machine_46 (by decide) ?_
          refine alM_1 hF hH (gd_some h).1 dX6_machine_48 ?_
          replace h := (gd_some h).2
          refine lv_topi (fun y13 ey13 => ?_)
          replace h := sv_at h ey13
          clear ey13
          refine lv_istore (lv' := [(5, .int y13), (0, .ref (eA E 0)), (1, .int a1), (2, .int a2), (3, .int a3), (4, .int a4)]) hF.x hF.b dX6_machine_49 hl (by decide) rfl (fun ls hl => ?_)
          refine lv_iload hF.x hF.b dX6_machine_51 (lv_at hl 0 rfl) ?_
          refine lv_iconst (v := 3) hF.x hF.b dX6_machine_53 (by decide) ?_
          refine lv_icmp_ne (tgt := 60) hF.x hF.b dX6_machine_54 (by decide) (fun c14 => ?_) (fun c14 => ?_)
          · rw [if_neg c14] at h
            refine lv_aload_n hF.x hF.b dX6_machine_60 rfl (lv_at hl 1 rfl) ?_
            refine gfM_0_0 hF hH tk_478 dX6_machine_61 ?_
            refine lv_bipush (v := 24) hF.x hF.b dX6_machine_64 (by decide) ?_
            refine lv_iload hF.x hF.b dX6_machine_66 (lv_at hl 0 rfl) ?_
            refine lv_iadd hF.x hF.b dX6_machine_68 ?_
            refine lv_iload_n hF.x hF.b dX6_machine_69 rfl (lv_at hl 2 rfl) ?_
            refine asM_1 hF hH (gd_some h).1 dX6_machine_70 (fun σ15 H locs eσ15 hH => ?_)
            replace h := sv_at (gd_some h).2 eσ15
            clear eσ15
            refine lv_aload_n hF.x hF.b dX6_machine_71 rfl (lv_at hl 1 rfl) ?_
            refine gfM_0_0 hF hH tk_478 dX6_machine_72 ?_
            refine lv_bipush (v := 27) hF.x hF.b dX6_machine_75 (by decide) ?_
            refine lv_iload hF.x hF.b dX6_machine_77 (lv_at hl 0 rfl) ?_
            refine lv_iadd hF.x hF.b dX6_machine_79 ?_
            refine lv_iload_n hF.x hF.b dX6_machine_80 rfl (lv_at hl 3 rfl) ?_
            refine asM_1 hF hH (gd_some h).1 dX6_machine_81 (fun σ16 H locs eσ16 hH => ?_)
            replace h := sv_at (gd_some h).2 eσ16
            clear eσ16
            refine lv_aload_n hF.x hF.b dX6_machine_82 rfl (lv_at hl 1 rfl) ?_
            refine gfM_0_0 hF hH tk_478 dX6_machine_83 ?_
            refine lv_bipush (v := 30) hF.x hF.b dX6_machine_86 (by decide) ?_
            refine lv_iload hF.x hF.b dX6_machine_88 (lv_at hl 0 rfl) ?_
            refine lv_iadd hF.x hF.b dX6_machine_90 ?_
            refine lv_iload_n hF.x hF.b dX6_machine_91 rfl (lv_at hl 4 rfl) ?_
            refine asM_1 hF hH (gd_some h).1 dX6_machine_92 (fun σ17 H locs eσ17 hH => ?_)
            replace h := sv_at (gd_some h).2 eσ17
            clear eσ17
            refine lv_aload_n hF.x hF.b dX6_machine_93 rfl (lv_at hl 1 rfl) ?_
            refine gfM_0_0 hF hH tk_478 dX6_machine_94 ?_
            refine lv_bipush (v := 33) hF.x hF.b dX6_machine_97 (by decide) ?_
            refine lv_iload hF.x hF.b dX6_machine_99 (lv_at hl 0 rfl) ?_
            refine lv_iadd hF.x hF.b dX6_machine_101 ?_
            refine lv_iload hF.x hF.b dX6_machine_102 (lv_at hl 5 rfl) ?_
            refine asM_1 hF hH (gd_some h).1 dX6_machine_104 (fun σ18 H locs eσ18 hH => ?_)
            replace h := sv_at (gd_some h).2 eσ18
            clear eσ18
            refine lv_aload_n hF.x hF.b dX6_machine_105 rfl (lv_at hl 1 rfl) ?_
            refine gfM_0_0 hF hH tk_478 dX6_machine_106 ?_
            refine lv_bipush (v := 36) hF.x hF.b dX6_machine_109 (by decide) ?_
            refine lv_iload hF.x hF.b dX6_machine_111 (lv_at hl 0 rfl) ?_
            refine lv_iadd hF.x hF.b dX6_machine_113 ?_
            refine lv_iconst (v := 0) hF.x hF.b dX6_machine_114 (by decide) ?_
            refine asM_1 hF hH (gd_some h).1 dX6_machine_115 (fun σ19 H locs eσ19 hH => ?_)
            replace h := sv_at (gd_some h).2 eσ19
            clear eσ19
            refine lv_aload_n hF.x hF.b dX6_machine_116 rfl (lv_at hl 1 rfl) ?_
            refine gfM_0_0 hF hH tk_478 dX6_machine_117 ?_
            refine lv_bipush (v := 40) hF.x hF.b dX6_machine_120 (by decide) ?_
            refine lv_dup2_11 hF.x hF.b dX6_machine_122 rfl rfl ?_
            refine alM_1 hF hH (gd_some h).1 dX6_machine_123 ?_
            replace h := (gd_some h).2
            refine lv_iconst (v := 1) hF.x hF.b dX6_machine_124 (by decide) ?_
            refine lv_iadd hF.x hF.b dX6_machine_125 ?_
            refine asM_1 hF hH (gd_some h).1 dX6_machine_126 (fun σ20 H locs eσ20 hH => ?_)
            replace h := sv_at (gd_some h).2 eσ20
            clear eσ20
            refine lv_iload hF.x hF.b dX6_machine_127 (lv_at hl 0 rfl) ?_
            exact hret _ _ _ _ _ _ hH h dX6_machine_129
          · rw [if_pos c14] at h
            refine lv_bipush (v := (-4)) hF.x hF.b dX6_machine_57 (by decide) ?_
            exact hret _ _ _ _ _ _ hH h dX6_machine_59
        · rw [if_pos c12] at h
          exact w39 _ _ _ _ h hH (lv_sub hl [0] rfl)
  · rw [if_pos c3] at h
    refine lv_iconst (v := (-1)) hF.x hF.b dX6_machine_7 (by decide) ?_
    exact hret _ _ _ _ _ _ hH h dX6_machine_8
theorem hdX6_dark : yX6_dark.cls = RX6 ∧ yX6_dark.cls ≠ "java/lang/invoke/MethodHandle" ∧ yX6_dark.cls ≠ "java/lang/invoke/VarHandle" ∧ (parseMethodDescriptor yX6_dark.desc).map (fun d => d.parameters.length) = some 0 := by decide +kernel
set_option maxHeartbeats 4000000 in
set_option maxRecDepth 100000 in
theorem tX6_dark (l : Launch) (E : Ev) (hj : Inj kM E) (σ : Sg) (r : Int32 × Sg) (h : fX6_dark σ = some r) : CI l yX6_dark cX6_dark 3 (some FieldType.int) (rmk 0 0) kM E [.ref (eA E 0)] σ r := by
  refine CI_i (lv := [(0, .ref (eA E 0))]) (by decide) hj (Nat.le_of_ble_eq_true rfl) rfl (fun p e s m args below meth c ls Q hF hret hH hl => ?_)
  have w53 : ∀ (n : Nat) (x1 x2 : Int32) (σ : Sg) (H : Heap) (locs : List Loc) (ls : Array Slot), it fX6_dark_L53 (fun _ _ _ => none) n x1 x2 σ = some r → HP kM E s σ H locs → lv_has ls 3 [(0, .ref (eA E 0)), (1, .int x1), (2, .int x2)] → W p l e (rmk 0 0) s m args below meth c H locs 0 0 Q (F0 m 53 ls []) := by
    intro n53
    induction n53 with
    | zero =>
      intro x1 x2 σ H locs ls h hH hl
      cases (show (none : Rs) = some r from h)
    | succ n53 ih53 =>
      intro x1 x2 σ H locs ls h hH hl
      rw [it_eq] at h
      unfold fX6_dark_L53 at h
      refine lv_iload_n hF.x hF.b dX6_dark_53 rfl (lv_at hl 2 rfl) ?_
      refine lv_aload_n hF.x hF.b dX6_dark_54 rfl (lv_at hl 0 rfl) ?_
      refine gfM_0_0 hF hH tk_478 dX6_dark_55 ?_
      refine lv_bipush (v := 39) hF.x hF.b dX6_dark_58 (by decide) ?_
      refine alM_1 hF hH (gd_some h).1 dX6_dark_60 ?_
      replace h := (gd_some h).2
      refine lv_icmp_ge (tgt := 80) hF.x hF.b dX6_dark_61 (by decide) (fun c1 => ?_) (fun c1 => ?_)
      · rw [if_pos c1] at h
        refine lv_aload_n hF.x hF.b dX6_dark_80 rfl (lv_at hl 0 rfl) ?_
        refine gfM_0_0 hF hH tk_478 dX6_dark_81 ?_
        refine lv_bipush (v := 41) hF.x hF.b dX6_dark_84 (by decide) ?_
        refine lv_iconst (v := 0) hF.x hF.b dX6_dark_86 (by decide) ?_
        refine asM_1 hF hH (gd_some h).1 dX6_dark_87 (fun σ2 H locs eσ2 hH => ?_)
        replace h := sv_at (gd_some h).2 eσ2
        clear eσ2
        refine lv_iload_n hF.x hF.b dX6_dark_88 rfl (lv_at hl 1 rfl) ?_
        exact hret _ _ _ _ _ _ hH h dX6_dark_89
      · rw [if_neg c1] at h
        refine lv_aload_n hF.x hF.b dX6_dark_64 rfl (lv_at hl 0 rfl) ?_
        refine gfM_0_0 hF hH tk_478 dX6_dark_65 ?_
        refine lv_bipush (v := 18) hF.x hF.b dX6_dark_68 (by decide) ?_
        refine lv_iload_n hF.x hF.b dX6_dark_70 rfl (lv_at hl 2 rfl) ?_
        refine lv_iadd hF.x hF.b dX6_dark_71 ?_
        refine lv_iconst (v := 0) hF.x hF.b dX6_dark_72 (by decide) ?_
        refine asM_1 hF hH (gd_some h).1 dX6_dark_73 (fun σ3 H locs eσ3 hH => ?_)
        replace h := sv_at (gd_some h).2 eσ3
        clear eσ3
        obtain ⟨y4, ey4⟩ : ∃ z : Int32, z = (x2 + 1) := ⟨_, rfl⟩
        replace h := sv_at h ey4
        refine lv_iinc (v := y4) (lv' := [(2, .int y4), (0, .ref (eA E 0)), (1, .int x1)]) hF.x hF.b dX6_dark_74 hl (k := 2) rfl (by rw [ey4]; rfl) (by decide) rfl (fun ls hl => ?_)
        clear ey4
        refine lv_goto (tgt := 53) hF.x hF.b dX6_dark_77 (by decide) ?_
        exact ih53 _ _ _ _ _ _ h hH (lv_sub hl [1, 2, 0] rfl)
  have w4 : ∀ (n : Nat) (x1 x2 : Int32) (σ : Sg) (H : Heap) (locs : List Loc) (ls : Array Slot), it fX6_dark_L4 (fun _ _ _ => none) n x1 x2 σ = some r → HP kM E s σ H locs → lv_has ls 3 [(0, .ref (eA E 0)), (1, .int x1), (2, .int x2)] → W p l e (rmk 0 0) s m args below meth c H locs 0 0 Q (F0 m 4 ls []) := by
    intro n4
    induction n4 with
    | zero =>
      intro x1 x2 σ H locs ls h hH hl
      cases (show (none : Rs) = some r from h)
    | succ n4 ih4 =>
      have w33 : ∀ (x2 t0 t1 : Int32) (σ : Sg) (H : Heap) (locs : List Loc) (ls : Array Slot), fX6_dark_33 (it fX6_dark_L4 (fun _ _ _ => none) n4) x2 t0 t1 σ = some r → HP kM E s σ H locs → lv_has ls 3 [(0, .ref (eA E 0)), (2, .int x2)] → W p l e (rmk 0 0) s m args below meth c H locs 0 0 Q (F0 m 33 ls [.int t0, .int t1]) := by
        intro x2 t0 t1 σ H locs ls h hH hl
        unfold fX6_dark_33 at h
        refine lv_iadd hF.x hF.b dX6_dark_33 ?_
        refine lv_topi (fun y5 ey5 => ?_)
        replace h := sv_at h ey5
        clear ey5
        refine lv_istore_n (lv' := [(1, .int y5), (0, .ref (eA E 0)), (2, .int x2)]) hF.x hF.b dX6_dark_34 rfl hl (by decide) rfl (fun ls hl => ?_)
        refine lv_aload_n hF.x hF.b dX6_dark_35 rfl (lv_at hl 1 rfl) ?_
        refine gfM_0_0 hF hH tk_478 dX6_dark_36 ?_
        refine lv_bipush (v := 36) hF.x hF.b dX6_dark_39 (by decide) ?_
        refine lv_iload_n hF.x hF.b dX6_dark_41 rfl (lv_at hl 2 rfl) ?_
        refine lv_iadd hF.x hF.b dX6_dark_42 ?_
        refine lv_iconst (v := 0) hF.x hF.b dX6_dark_43 (by decide) ?_
        refine asM_1 hF hH (gd_some h).1 dX6_dark_44 (fun σ6 H locs eσ6 hH => ?_)
        replace h := sv_at (gd_some h).2 eσ6
        clear eσ6
        obtain ⟨y7, ey7⟩ : ∃ z : Int32, z = (x2 + 1) := ⟨_, rfl⟩
        replace h := sv_at h ey7
        refine lv_iinc (v := y7) (lv' := [(2, .int y7), (1, .int y5), (0, .ref (eA E 0))]) hF.x hF.b dX6_dark_45 hl (k := 2) rfl (by rw [ey7]; rfl) (by decide) rfl (fun ls hl => ?_)
        clear ey7
        refine lv_goto (tgt := 4) hF.x hF.b dX6_dark_48 (by decide) ?_
        exact ih4 _ _ _ _ _ _ h hH (lv_sub hl [2, 1, 0] rfl)
      intro x1 x2 σ H locs ls h hH hl
      rw [it_eq] at h
      unfold fX6_dark_L4 at h
      refine lv_iload_n hF.x hF.b dX6_dark_4 rfl (lv_at hl 2 rfl) ?_
      refine lv_aload_n hF.x hF.b dX6_dark_5 rfl (lv_at hl 0 rfl) ?_
      refine gfM_0_0 hF hH tk_478 dX6_dark_6 ?_
      refine lv_bipush (v := 40) hF.x hF.b dX6_dark_9 (by decide) ?_
      refine alM_1 hF hH (gd_some h).1 dX6_dark_11 ?_
      replace h := (gd_some h).2
      refine lv_icmp_ge (tgt := 51) hF.x hF.b dX6_dark_12 (by decide) (fun c8 => ?_) (fun c8 => ?_)
      · rw [if_pos c8] at h
        refine lv_iconst (v := 0) hF.x hF.b dX6_dark_51 (by decide) ?_
        refine lv_istore_n (lv' := [(2, .int 0), (0, .ref (eA E 0)), (1, .int x1)]) hF.x hF.b dX6_dark_52 rfl hl (by decide) rfl (fun ls hl => ?_)
        exact w53 _ _ _ _ _ _ _ h hH (lv_sub hl [1, 2, 0] rfl)
      · rw [if_neg c8] at h
        refine lv_iload_n hF.x hF.b dX6_dark_15 rfl (lv_at hl 1 rfl) ?_
        refine lv_aload_n hF.x hF.b dX6_dark_16 rfl (lv_at hl 0 rfl) ?_
        refine gfM_0_0 hF hH tk_478 dX6_dark_17 ?_
        refine lv_bipush (v := 36) hF.x hF.b dX6_dark_20 (by decide) ?_
        refine lv_iload_n hF.x hF.b dX6_dark_22 rfl (lv_at hl 2 rfl) ?_
        refine lv_iadd hF.x hF.b dX6_dark_23 ?_
        refine alM_1 hF hH (gd_some h).1 dX6_dark_24 ?_
        replace h := (gd_some h).2
        refine lv_if_le (tgt := 32) hF.x hF.b dX6_dark_25 (by decide) (fun c9 => ?_) (fun c9 => ?_)
        · rw [if_pos c9] at h
          refine lv_iconst (v := 0) hF.x hF.b dX6_dark_32 (by decide) ?_
          exact w33 _ _ _ _ _ _ _ h hH (lv_sub hl [0, 2] rfl)
        · rw [if_neg c9] at h
          refine lv_iconst (v := 1) hF.x hF.b dX6_dark_28 (by decide) ?_
          refine lv_goto (tgt := 33) hF.x hF.b dX6_dark_29 (by decide) ?_
          exact w33 _ _ _ _ _ _ _ h hH (lv_sub hl [0, 2] rfl)
  unfold fX6_dark at h
  refine lv_iconst (v := 0) hF.x hF.b dX6_dark_0 (by decide) ?_
  refine lv_istore_n (lv' := [(1, .int 0), (0, .ref (eA E 0))]) hF.x hF.b dX6_dark_1 rfl hl (by decide) rfl (fun ls hl => ?_)
  refine lv_iconst (v := 0) hF.x hF.b dX6_dark_2 (by decide) ?_
  refine lv_istore_n (lv' := [(2, .int 0), (1, .int 0), (0, .ref (eA E 0))]) hF.x hF.b dX6_dark_3 rfl hl (by decide) rfl (fun ls hl => ?_)
  exact w4 _ _ _ _ _ _ _ h hH (lv_sub hl [2, 1, 0] rfl)
theorem hdX6_of : yX6_of.cls = RX6 ∧ yX6_of.cls ≠ "java/lang/invoke/MethodHandle" ∧ yX6_of.cls ≠ "java/lang/invoke/VarHandle" ∧ (parseMethodDescriptor yX6_of.desc).map (fun d => d.parameters.length) = some 2 := by decide +kernel
set_option maxHeartbeats 4000000 in
set_option maxRecDepth 100000 in
theorem tX6_of (l : Launch) (E : Ev) (hj : Inj kM E) (a1 : Int32) (a2 : Int32) (σ : Sg) (r : Int32 × Sg) (h : fX6_of a1 a2 σ = some r) : CI l yX6_of cX6_of 3 (some FieldType.int) (rmk 2 43) kM E [.ref (eA E 0), .int a1, .int a2] σ r := by
  refine CI_i (lv := [(0, .ref (eA E 0)), (1, .int a1), (2, .int a2)]) (by decide) hj (Nat.le_of_ble_eq_true rfl) rfl (fun p e s m args below meth c ls Q hF hret hH hl => ?_)
  have w35 : ∀ (t0 : Int32) (σ : Sg) (H : Heap) (locs : List Loc) (ls : Array Slot), fX6_of_35 t0 σ = some r → HP kM E s σ H locs → lv_has ls 3 [(0, .ref (eA E 0))] → W p l e (rmk 2 43) s m args below meth c H locs 0 0 Q (F0 m 35 ls [.int t0]) := by
    intro t0 σ H locs ls h hH hl
    unfold fX6_of_35 at h
    exact hret _ _ _ _ _ _ hH h dX6_of_35
  unfold fX6_of at h
  refine lv_aload_n hF.x hF.b dX6_of_0 rfl (lv_at hl 0 rfl) ?_
  refine lv_iload_n hF.x hF.b dX6_of_1 rfl (lv_at hl 1 rfl) ?_
  replace h := bd_some h
  obtain ⟨v1, σ2, hv1, h⟩ := h
  refine w_cVi (As := [.int a1]) (rest := []) hF hH hl 0 (by decide) rfl rfl (tX6_isLine l E hF.j _ _ _ hv1) tk_538 tk_540 tk_9 tk_46 tk_541 rfl rfl hdX6_isLine ⟨Nat.le_of_ble_eq_true rfl, Nat.le_of_ble_eq_true rfl⟩ rfl rfl (Nat.le_of_ble_eq_true rfl) dX6_of_2 (fun H locs hH => ?_)
  refine lv_if_ne (tgt := 10) hF.x hF.b dX6_of_5 (by decide) (fun c3 => ?_) (fun c3 => ?_)
  · rw [if_neg c3] at h
    refine lv_iload_n hF.x hF.b dX6_of_10 rfl (lv_at hl 2 rfl) ?_
    refine lv_iconst (v := 0) hF.x hF.b dX6_of_11 (by decide) ?_
    refine lv_iconst (v := 3) hF.x hF.b dX6_of_12 (by decide) ?_
    replace h := bd_some h
    obtain ⟨v4, σ5, hv4, h⟩ := h
    refine w_cSi (As := [.int a2, .int 0, .int 3]) (rest := []) hF hH hl (tX6_in l E hF.j _ _ _ _ _ hv4) tk_523 tk_524 tk_46 tk_525 rfl rfl hdX6_in ⟨Nat.le_of_ble_eq_true rfl, Nat.le_of_ble_eq_true rfl⟩ rfl rfl (Nat.le_of_ble_eq_true rfl) dX6_of_13 (fun H locs hH => ?_)
    refine lv_if_eq (tgt := 33) hF.x hF.b dX6_of_16 (by decide) (fun c6 => ?_) (fun c6 => ?_)
    · rw [if_pos c6] at h
      refine lv_bipush (v := (-2)) hF.x hF.b dX6_of_33 (by decide) ?_
      exact w35 _ _ _ _ _ h hH (lv_sub hl [0] rfl)
    · rw [if_neg c6] at h
      refine lv_aload_n hF.x hF.b dX6_of_19 rfl (lv_at hl 0 rfl) ?_
      refine gfM_0_0 hF hH tk_478 dX6_of_20 ?_
      refine lv_bipush (v := 6) hF.x hF.b dX6_of_23 (by decide) ?_
      refine lv_iload_n hF.x hF.b dX6_of_25 rfl (lv_at hl 2 rfl) ?_
      refine lv_imul hF.x hF.b dX6_of_26 ?_
      refine lv_iload_n hF.x hF.b dX6_of_27 rfl (lv_at hl 1 rfl) ?_
      refine lv_iadd hF.x hF.b dX6_of_28 ?_
      refine alM_1 hF hH (gd_some h).1 dX6_of_29 ?_
      replace h := (gd_some h).2
      refine lv_goto (tgt := 35) hF.x hF.b dX6_of_30 (by decide) ?_
      exact w35 _ _ _ _ _ h hH (lv_sub hl [0] rfl)
  · rw [if_pos c3] at h
    refine lv_iconst (v := (-1)) hF.x hF.b dX6_of_8 (by decide) ?_
    exact hret _ _ _ _ _ _ hH h dX6_of_9
theorem hdX6_at : yX6_at.cls = RX6 ∧ yX6_at.cls ≠ "java/lang/invoke/MethodHandle" ∧ yX6_at.cls ≠ "java/lang/invoke/VarHandle" ∧ (parseMethodDescriptor yX6_at.desc).map (fun d => d.parameters.length) = some 2 := by decide +kernel
set_option maxHeartbeats 4000000 in
set_option maxRecDepth 100000 in
theorem tX6_at (l : Launch) (E : Ev) (hj : Inj kM E) (a1 : Int32) (a2 : Int32) (σ : Sg) (r : Int32 × Sg) (h : fX6_at a1 a2 σ = some r) : CI l yX6_at cX6_at 3 (some FieldType.int) (rmk 2 43) kM E [.ref (eA E 0), .int a1, .int a2] σ r := by
  refine CI_i (lv := [(0, .ref (eA E 0)), (1, .int a1), (2, .int a2)]) (by decide) hj (Nat.le_of_ble_eq_true rfl) rfl (fun p e s m args below meth c ls Q hF hret hH hl => ?_)
  have w71 : ∀ (t0 : Int32) (σ : Sg) (H : Heap) (locs : List Loc) (ls : Array Slot), fX6_at_71 t0 σ = some r → HP kM E s σ H locs → lv_has ls 3 [(0, .ref (eA E 0))] → W p l e (rmk 2 43) s m args below meth c H locs 0 0 Q (F0 m 71 ls [.int t0]) := by
    intro t0 σ H locs ls h hH hl
    unfold fX6_at_71 at h
    exact hret _ _ _ _ _ _ hH h dX6_at_71
  unfold fX6_at at h
  refine lv_aload_n hF.x hF.b dX6_at_0 rfl (lv_at hl 0 rfl) ?_
  refine lv_iload_n hF.x hF.b dX6_at_1 rfl (lv_at hl 1 rfl) ?_
  replace h := bd_some h
  obtain ⟨v1, σ2, hv1, h⟩ := h
  refine w_cVi (As := [.int a1]) (rest := []) hF hH hl 0 (by decide) rfl rfl (tX6_isMachine l E hF.j _ _ _ hv1) tk_546 tk_548 tk_10 tk_46 tk_549 rfl rfl hdX6_isMachine ⟨Nat.le_of_ble_eq_true rfl, Nat.le_of_ble_eq_true rfl⟩ rfl rfl (Nat.le_of_ble_eq_true rfl) dX6_at_2 (fun H locs hH => ?_)
  refine lv_if_ne (tgt := 10) hF.x hF.b dX6_at_5 (by decide) (fun c3 => ?_) (fun c3 => ?_)
  · rw [if_neg c3] at h
    refine lv_iload_n hF.x hF.b dX6_at_10 rfl (lv_at hl 2 rfl) ?_
    refine lv_iconst (v := 0) hF.x hF.b dX6_at_11 (by decide) ?_
    refine lv_iconst (v := 4) hF.x hF.b dX6_at_12 (by decide) ?_
    replace h := bd_some h
    obtain ⟨v4, σ5, hv4, h⟩ := h
    refine w_cSi (As := [.int a2, .int 0, .int 4]) (rest := []) hF hH hl (tX6_in l E hF.j _ _ _ _ _ hv4) tk_523 tk_524 tk_46 tk_525 rfl rfl hdX6_in ⟨Nat.le_of_ble_eq_true rfl, Nat.le_of_ble_eq_true rfl⟩ rfl rfl (Nat.le_of_ble_eq_true rfl) dX6_at_13 (fun H locs hH => ?_)
    refine lv_if_ne (tgt := 22) hF.x hF.b dX6_at_16 (by decide) (fun c6 => ?_) (fun c6 => ?_)
    · rw [if_neg c6] at h
      refine lv_iload_n hF.x hF.b dX6_at_22 rfl (lv_at hl 2 rfl) ?_
      refine lv_iconst (v := 4) hF.x hF.b dX6_at_23 (by decide) ?_
      refine lv_icmp_ge (tgt := 43) hF.x hF.b dX6_at_24 (by decide) (fun c7 => ?_) (fun c7 => ?_)
      · rw [if_pos c7] at h
        refine lv_aload_n hF.x hF.b dX6_at_43 rfl (lv_at hl 0 rfl) ?_
        refine gfM_0_0 hF hH tk_478 dX6_at_44 ?_
        refine lv_bipush (v := 36) hF.x hF.b dX6_at_47 (by decide) ?_
        refine lv_iload_n hF.x hF.b dX6_at_49 rfl (lv_at hl 1 rfl) ?_
        refine lv_iadd hF.x hF.b dX6_at_50 ?_
        refine alM_1 hF hH (gd_some h).1 dX6_at_51 ?_
        replace h := (gd_some h).2
        refine lv_if_ne (tgt := 60) hF.x hF.b dX6_at_52 (by decide) (fun c8 => ?_) (fun c8 => ?_)
        · rw [if_neg c8] at h
          refine lv_aload_n hF.x hF.b dX6_at_60 rfl (lv_at hl 0 rfl) ?_
          refine gfM_0_0 hF hH tk_478 dX6_at_61 ?_
          refine lv_bipush (v := 36) hF.x hF.b dX6_at_64 (by decide) ?_
          refine lv_iload_n hF.x hF.b dX6_at_66 rfl (lv_at hl 1 rfl) ?_
          refine lv_iadd hF.x hF.b dX6_at_67 ?_
          refine alM_1 hF hH (gd_some h).1 dX6_at_68 ?_
          replace h := (gd_some h).2
          refine lv_iconst (v := 1) hF.x hF.b dX6_at_69 (by decide) ?_
          refine lv_isub hF.x hF.b dX6_at_70 ?_
          exact w71 _ _ _ _ _ h hH (lv_sub hl [0] rfl)
        · rw [if_pos c8] at h
          refine lv_bipush (v := (-6)) hF.x hF.b dX6_at_55 (by decide) ?_
          refine lv_goto (tgt := 71) hF.x hF.b dX6_at_57 (by decide) ?_
          exact w71 _ _ _ _ _ h hH (lv_sub hl [0] rfl)
      · rw [if_neg c7] at h
        refine lv_aload_n hF.x hF.b dX6_at_27 rfl (lv_at hl 0 rfl) ?_
        refine gfM_0_0 hF hH tk_478 dX6_at_28 ?_
        refine lv_bipush (v := 24) hF.x hF.b dX6_at_31 (by decide) ?_
        refine lv_iconst (v := 3) hF.x hF.b dX6_at_33 (by decide) ?_
        refine lv_iload_n hF.x hF.b dX6_at_34 rfl (lv_at hl 2 rfl) ?_
        refine lv_imul hF.x hF.b dX6_at_35 ?_
        refine lv_iadd hF.x hF.b dX6_at_36 ?_
        refine lv_iload_n hF.x hF.b dX6_at_37 rfl (lv_at hl 1 rfl) ?_
        refine lv_iadd hF.x hF.b dX6_at_38 ?_
        refine alM_1 hF hH (gd_some h).1 dX6_at_39 ?_
        replace h := (gd_some h).2
        refine lv_goto (tgt := 71) hF.x hF.b dX6_at_40 (by decide) ?_
        exact w71 _ _ _ _ _ h hH (lv_sub hl [0] rfl)
    · rw [if_pos c6] at h
      refine lv_bipush (v := (-2)) hF.x hF.b dX6_at_19 (by decide) ?_
      exact hret _ _ _ _ _ _ hH h dX6_at_21
  · rw [if_pos c3] at h
    refine lv_iconst (v := (-1)) hF.x hF.b dX6_at_8 (by decide) ?_
    exact hret _ _ _ _ _ _ hH h dX6_at_9
theorem hdX6_joinOnce : yX6_joinOnce.cls = RX6 ∧ yX6_joinOnce.cls ≠ "java/lang/invoke/MethodHandle" ∧ yX6_joinOnce.cls ≠ "java/lang/invoke/VarHandle" ∧ (parseMethodDescriptor yX6_joinOnce.desc).map (fun d => d.parameters.length) = some 0 := by decide +kernel
set_option maxHeartbeats 4000000 in
set_option maxRecDepth 100000 in
theorem tX6_joinOnce (l : Launch) (E : Ev) (hj : Inj kM E) (σ : Sg) (r : Int32 × Sg) (h : fX6_joinOnce σ = some r) : CI l yX6_joinOnce cX6_joinOnce 6 (some FieldType.boolean) (rmk 0 0) kM E [.ref (eA E 0)] σ r := by
  refine CI_z (lv := [(0, .ref (eA E 0))]) (by decide) hj (Nat.le_of_ble_eq_true rfl) rfl (fun p e s m args below meth c ls Q hF hret hH hl => ?_)
  have w4 : ∀ (n : Nat) (x1 x2 : Int32) (σ : Sg) (H : Heap) (locs : List Loc) (ls : Array Slot), it fX6_joinOnce_L4 (fun _ _ _ => none) n x1 x2 σ = some r → HP kM E s σ H locs → lv_has ls 6 [(0, .ref (eA E 0)), (1, .int x1), (2, .int x2)] → W p l e (rmk 0 0) s m args below meth c H locs 0 0 Q (F0 m 4 ls []) := by
    intro n4
    induction n4 with
    | zero =>
      intro x1 x2 σ H locs ls h hH hl
      cases (show (none : Rs) = some r from h)
    | succ n4 ih4 =>
      have w116 : ∀ (x1 x2 : Int32) (σ : Sg) (H : Heap) (locs : List Loc) (ls : Array Slot), fX6_joinOnce_116 (it fX6_joinOnce_L4 (fun _ _ _ => none) n4) x1 x2 σ = some r → HP kM E s σ H locs → lv_has ls 6 [(0, .ref (eA E 0)), (1, .int x1), (2, .int x2)] → W p l e (rmk 0 0) s m args below meth c H locs 0 0 Q (F0 m 116 ls []) := by
        intro x1 x2 σ H locs ls h hH hl
        unfold fX6_joinOnce_116 at h
        obtain ⟨y1, ey1⟩ : ∃ z : Int32, z = (x2 + 1) := ⟨_, rfl⟩
        replace h := sv_at h ey1
        refine lv_iinc (v := y1) (lv' := [(2, .int y1), (0, .ref (eA E 0)), (1, .int x1)]) hF.x hF.b dX6_joinOnce_116 hl (k := 2) rfl (by rw [ey1]; rfl) (by decide) rfl (fun ls hl => ?_)
        clear ey1
        refine lv_goto (tgt := 4) hF.x hF.b dX6_joinOnce_119 (by decide) ?_
        exact ih4 _ _ _ _ _ _ h hH (lv_sub hl [1, 2, 0] rfl)
      have w84 : ∀ (x2 x5 t0 : Int32) (σ : Sg) (H : Heap) (locs : List Loc) (ls : Array Slot), fX6_joinOnce_84 (it fX6_joinOnce_L4 (fun _ _ _ => none) n4) x2 x5 t0 σ = some r → HP kM E s σ H locs → lv_has ls 6 [(0, .ref (eA E 0)), (2, .int x2), (5, .int x5)] → W p l e (rmk 0 0) s m args below meth c H locs 0 0 Q (F0 m 84 ls [.int t0]) := by
        intro x2 x5 t0 σ H locs ls h hH hl
        unfold fX6_joinOnce_84 at h
        refine lv_istore_n (lv' := [(1, .int t0), (0, .ref (eA E 0)), (2, .int x2), (5, .int x5)]) hF.x hF.b dX6_joinOnce_84 rfl hl (by decide) rfl (fun ls hl => ?_)
        refine lv_aload_n hF.x hF.b dX6_joinOnce_85 rfl (lv_at hl 1 rfl) ?_
        refine gfM_0_5 hF hH tk_483 dX6_joinOnce_86 ?_
        refine lv_aload_n hF.x hF.b dX6_joinOnce_89 rfl (lv_at hl 1 rfl) ?_
        refine gfM_0_0 hF hH tk_478 dX6_joinOnce_90 ?_
        refine lv_iconst (v := 0) hF.x hF.b dX6_joinOnce_93 (by decide) ?_
        refine lv_iload_n hF.x hF.b dX6_joinOnce_94 rfl (lv_at hl 2 rfl) ?_
        refine lv_iadd hF.x hF.b dX6_joinOnce_95 ?_
        refine alM_1 hF hH (gd_some h).1 dX6_joinOnce_96 ?_
        replace h := (gd_some h).2
        refine lv_iload hF.x hF.b dX6_joinOnce_97 (lv_at hl 3 rfl) ?_
        refine asM_6 hF hH (gd_some h).1 dX6_joinOnce_99 (fun σ2 H locs eσ2 hH => ?_)
        replace h := sv_at (gd_some h).2 eσ2
        clear eσ2
        refine lv_aload_n hF.x hF.b dX6_joinOnce_100 rfl (lv_at hl 1 rfl) ?_
        refine gfM_0_5 hF hH tk_483 dX6_joinOnce_101 ?_
        refine lv_aload_n hF.x hF.b dX6_joinOnce_104 rfl (lv_at hl 1 rfl) ?_
        refine gfM_0_0 hF hH tk_478 dX6_joinOnce_105 ?_
        refine lv_bipush (v := 6) hF.x hF.b dX6_joinOnce_108 (by decide) ?_
        refine lv_iload_n hF.x hF.b dX6_joinOnce_110 rfl (lv_at hl 2 rfl) ?_
        refine lv_iadd hF.x hF.b dX6_joinOnce_111 ?_
        refine alM_1 hF hH (gd_some h).1 dX6_joinOnce_112 ?_
        replace h := (gd_some h).2
        refine lv_iload hF.x hF.b dX6_joinOnce_113 (lv_at hl 3 rfl) ?_
        refine asM_6 hF hH (gd_some h).1 dX6_joinOnce_115 (fun σ3 H locs eσ3 hH => ?_)
        replace h := sv_at (gd_some h).2 eσ3
        clear eσ3
        exact w116 _ _ _ _ _ _ h hH (lv_sub hl [1, 0, 2] rfl)
      have w79 : ∀ (x2 x5 : Int32) (σ : Sg) (H : Heap) (locs : List Loc) (ls : Array Slot), fX6_joinOnce_79 (it fX6_joinOnce_L4 (fun _ _ _ => none) n4) x2 x5 σ = some r → HP kM E s σ H locs → lv_has ls 6 [(0, .ref (eA E 0)), (2, .int x2), (5, .int x5)] → W p l e (rmk 0 0) s m args below meth c H locs 0 0 Q (F0 m 79 ls []) := by
        intro x2 x5 σ H locs ls h hH hl
        unfold fX6_joinOnce_79 at h
        refine lv_iconst (v := 1) hF.x hF.b dX6_joinOnce_79 (by decide) ?_
        refine lv_goto (tgt := 84) hF.x hF.b dX6_joinOnce_80 (by decide) ?_
        exact w84 _ _ _ _ _ _ _ h hH (lv_sub hl [0, 1, 2] rfl)
      have w67 : ∀ (x1 x2 x3 x4 t0 : Int32) (σ : Sg) (H : Heap) (locs : List Loc) (ls : Array Slot), fX6_joinOnce_67 (it fX6_joinOnce_L4 (fun _ _ _ => none) n4) x1 x2 x3 x4 t0 σ = some r → HP kM E s σ H locs → lv_has ls 6 [(0, .ref (eA E 0)), (1, .int x1), (2, .int x2), (3, .int x3), (4, .int x4)] → W p l e (rmk 0 0) s m args below meth c H locs 0 0 Q (F0 m 67 ls [.int t0]) := by
        intro x1 x2 x3 x4 t0 σ H locs ls h hH hl
        unfold fX6_joinOnce_67 at h
        refine lv_istore (lv' := [(5, .int t0), (0, .ref (eA E 0)), (1, .int x1), (2, .int x2), (3, .int x3), (4, .int x4)]) hF.x hF.b dX6_joinOnce_67 hl (by decide) rfl (fun ls hl => ?_)
        refine lv_iload_n hF.x hF.b dX6_joinOnce_69 rfl (lv_at hl 2 rfl) ?_
        refine lv_if_ne (tgt := 79) hF.x hF.b dX6_joinOnce_70 (by decide) (fun c4 => ?_) (fun c4 => ?_)
        · rw [if_neg c4] at h
          exact w79 _ _ _ _ _ _ h hH (lv_sub hl [1, 3, 0] rfl)
        · rw [if_pos c4] at h
          refine lv_iload_n hF.x hF.b dX6_joinOnce_73 rfl (lv_at hl 4 rfl) ?_
          refine lv_iload hF.x hF.b dX6_joinOnce_74 (lv_at hl 5 rfl) ?_
          refine lv_icmp_eq (tgt := 83) hF.x hF.b dX6_joinOnce_76 (by decide) (fun c5 => ?_) (fun c5 => ?_)
          · rw [if_pos c5] at h
            refine lv_iconst (v := 0) hF.x hF.b dX6_joinOnce_83 (by decide) ?_
            exact w84 _ _ _ _ _ _ _ h hH (lv_sub hl [1, 3, 0] rfl)
          · rw [if_neg c5] at h
            exact w79 _ _ _ _ _ _ h hH (lv_sub hl [1, 3, 0] rfl)
      intro x1 x2 σ H locs ls h hH hl
      rw [it_eq] at h
      unfold fX6_joinOnce_L4 at h
      refine lv_iload_n hF.x hF.b dX6_joinOnce_4 rfl (lv_at hl 2 rfl) ?_
      refine lv_aload_n hF.x hF.b dX6_joinOnce_5 rfl (lv_at hl 0 rfl) ?_
      refine gfM_0_0 hF hH tk_478 dX6_joinOnce_6 ?_
      refine lv_bipush (v := 39) hF.x hF.b dX6_joinOnce_9 (by decide) ?_
      refine alM_1 hF hH (gd_some h).1 dX6_joinOnce_11 ?_
      replace h := (gd_some h).2
      refine lv_icmp_ge (tgt := 122) hF.x hF.b dX6_joinOnce_12 (by decide) (fun c6 => ?_) (fun c6 => ?_)
      · rw [if_pos c6] at h
        refine lv_iload_n hF.x hF.b dX6_joinOnce_122 rfl (lv_at hl 1 rfl) ?_
        exact hret _ _ _ _ _ _ hH h dX6_joinOnce_123
      · rw [if_neg c6] at h
        refine lv_aload_n hF.x hF.b dX6_joinOnce_15 rfl (lv_at hl 0 rfl) ?_
        refine gfM_0_3 hF hH tk_481 dX6_joinOnce_16 ?_
        refine lv_iload_n hF.x hF.b dX6_joinOnce_19 rfl (lv_at hl 2 rfl) ?_
        refine alM_4 hF hH (gd_some h).1 dX6_joinOnce_20 ?_
        replace h := (gd_some h).2
        refine lv_iconst (v := 1) hF.x hF.b dX6_joinOnce_21 (by decide) ?_
        refine lv_icmp_ne (tgt := 116) hF.x hF.b dX6_joinOnce_22 (by decide) (fun c7 => ?_) (fun c7 => ?_)
        · rw [if_neg c7] at h
          exact w116 _ _ _ _ _ _ h hH (lv_sub hl [0, 1, 2] rfl)
        · rw [if_pos c7] at h
          refine lv_aload_n hF.x hF.b dX6_joinOnce_25 rfl (lv_at hl 0 rfl) ?_
          refine gfM_0_5 hF hH tk_483 dX6_joinOnce_26 ?_
          refine lv_aload_n hF.x hF.b dX6_joinOnce_29 rfl (lv_at hl 0 rfl) ?_
          refine gfM_0_0 hF hH tk_478 dX6_joinOnce_30 ?_
          refine lv_iconst (v := 0) hF.x hF.b dX6_joinOnce_33 (by decide) ?_
          refine lv_iload_n hF.x hF.b dX6_joinOnce_34 rfl (lv_at hl 2 rfl) ?_
          refine lv_iadd hF.x hF.b dX6_joinOnce_35 ?_
          refine alM_1 hF hH (gd_some h).1 dX6_joinOnce_36 ?_
          replace h := (gd_some h).2
          refine alM_6 hF hH (gd_some h).1 dX6_joinOnce_37 ?_
          replace h := (gd_some h).2
          refine lv_topi (fun y8 ey8 => ?_)
          replace h := sv_at h ey8
          clear ey8
          refine lv_istore_n (lv' := [(3, .int y8), (0, .ref (eA E 0)), (1, .int x1), (2, .int x2)]) hF.x hF.b dX6_joinOnce_38 rfl hl (by decide) rfl (fun ls hl => ?_)
          refine lv_aload_n hF.x hF.b dX6_joinOnce_39 rfl (lv_at hl 1 rfl) ?_
          refine gfM_0_5 hF hH tk_483 dX6_joinOnce_40 ?_
          refine lv_aload_n hF.x hF.b dX6_joinOnce_43 rfl (lv_at hl 1 rfl) ?_
          refine gfM_0_0 hF hH tk_478 dX6_joinOnce_44 ?_
          refine lv_bipush (v := 6) hF.x hF.b dX6_joinOnce_47 (by decide) ?_
          refine lv_iload_n hF.x hF.b dX6_joinOnce_49 rfl (lv_at hl 3 rfl) ?_
          refine lv_iadd hF.x hF.b dX6_joinOnce_50 ?_
          refine alM_1 hF hH (gd_some h).1 dX6_joinOnce_51 ?_
          replace h := (gd_some h).2
          refine alM_6 hF hH (gd_some h).1 dX6_joinOnce_52 ?_
          replace h := (gd_some h).2
          refine lv_topi (fun y9 ey9 => ?_)
          replace h := sv_at h ey9
          clear ey9
          refine lv_istore (lv' := [(4, .int y9), (3, .int y8), (0, .ref (eA E 0)), (1, .int x1), (2, .int x2)]) hF.x hF.b dX6_joinOnce_53 hl (by decide) rfl (fun ls hl => ?_)
          refine lv_iload_n hF.x hF.b dX6_joinOnce_55 rfl (lv_at hl 1 rfl) ?_
          refine lv_iload hF.x hF.b dX6_joinOnce_56 (lv_at hl 0 rfl) ?_
          refine lv_icmp_ge (tgt := 65) hF.x hF.b dX6_joinOnce_58 (by decide) (fun c10 => ?_) (fun c10 => ?_)
          · rw [if_pos c10] at h
            refine lv_iload hF.x hF.b dX6_joinOnce_65 (lv_at hl 0 rfl) ?_
            exact w67 _ _ _ _ _ _ _ _ _ h hH (lv_sub hl [2, 3, 4, 1, 0] rfl)
          · rw [if_neg c10] at h
            refine lv_iload_n hF.x hF.b dX6_joinOnce_61 rfl (lv_at hl 1 rfl) ?_
            refine lv_goto (tgt := 67) hF.x hF.b dX6_joinOnce_62 (by decide) ?_
            exact w67 _ _ _ _ _ _ _ _ _ h hH (lv_sub hl [2, 3, 4, 1, 0] rfl)
  unfold fX6_joinOnce at h
  refine lv_iconst (v := 0) hF.x hF.b dX6_joinOnce_0 (by decide) ?_
  refine lv_istore_n (lv' := [(1, .int 0), (0, .ref (eA E 0))]) hF.x hF.b dX6_joinOnce_1 rfl hl (by decide) rfl (fun ls hl => ?_)
  refine lv_iconst (v := 0) hF.x hF.b dX6_joinOnce_2 (by decide) ?_
  refine lv_istore_n (lv' := [(2, .int 0), (1, .int 0), (0, .ref (eA E 0))]) hF.x hF.b dX6_joinOnce_3 rfl hl (by decide) rfl (fun ls hl => ?_)
  exact w4 _ _ _ _ _ _ _ h hH (lv_sub hl [2, 1, 0] rfl)
theorem hdX6_layIslands : yX6_layIslands.cls = RX6 ∧ yX6_layIslands.cls ≠ "java/lang/invoke/MethodHandle" ∧ yX6_layIslands.cls ≠ "java/lang/invoke/VarHandle" ∧ (parseMethodDescriptor yX6_layIslands.desc).map (fun d => d.parameters.length) = some 0 := by decide +kernel
set_option maxHeartbeats 4000000 in
set_option maxRecDepth 100000 in
theorem tX6_layIslands (l : Launch) (E : Ev) (hj : Inj kM E) (σ : Sg) (r : Int32 × Sg) (h : fX6_layIslands σ = some r) : CV l yX6_layIslands cX6_layIslands 4 (rmk 1 25) kM E [.ref (eA E 0)] σ r := by
  refine CV_v (lv := [(0, .ref (eA E 0))]) (by decide) hj (Nat.le_of_ble_eq_true rfl) rfl (fun p e s m args below meth c ls Q hF hret hH hl => ?_)
  have w114 : ∀ (n : Nat) (x2 : Int32) (σ : Sg) (H : Heap) (locs : List Loc) (ls : Array Slot), it fX6_layIslands_L114 (fun _ _ => none) n x2 σ = some r → HP kM E s σ H locs → lv_has ls 4 [(0, .ref (eA E 0)), (2, .int x2)] → W p l e (rmk 1 25) s m args below meth c H locs 0 0 Q (F0 m 114 ls []) := by
    intro n114
    induction n114 with
    | zero =>
      intro x2 σ H locs ls h hH hl
      cases (show (none : Rs) = some r from h)
    | succ n114 ih114 =>
      have w200 : ∀ (x2 t0 t1 : Int32) (σ : Sg) (H : Heap) (locs : List Loc) (ls : Array Slot), fX6_layIslands_200 (it fX6_layIslands_L114 (fun _ _ => none) n114) x2 t0 t1 σ = some r → HP kM E s σ H locs → lv_has ls 4 [(0, .ref (eA E 0)), (2, .int x2)] → W p l e (rmk 1 25) s m args below meth c H locs 0 0 Q (F0 m 200 ls [.int t0, .int t1, .ref (eA E 8)]) := by
        intro x2 t0 t1 σ H locs ls h hH hl
        unfold fX6_layIslands_200 at h
        refine asM_8 hF hH (gd_some h).1 dX6_layIslands_200 (fun σ1 H locs eσ1 hH => ?_)
        replace h := sv_at (gd_some h).2 eσ1
        clear eσ1
        obtain ⟨y2, ey2⟩ : ∃ z : Int32, z = (x2 + 1) := ⟨_, rfl⟩
        replace h := sv_at h ey2
        refine lv_iinc (v := y2) (lv' := [(2, .int y2), (0, .ref (eA E 0))]) hF.x hF.b dX6_layIslands_201 hl (k := 1) rfl (by rw [ey2]; rfl) (by decide) rfl (fun ls hl => ?_)
        clear ey2
        refine lv_goto (tgt := 114) hF.x hF.b dX6_layIslands_204 (by decide) ?_
        exact ih114 _ _ _ _ _ h hH (lv_sub hl [1, 0] rfl)
      have w195 : ∀ (x2 t0 : Int32) (σ : Sg) (H : Heap) (locs : List Loc) (ls : Array Slot), fX6_layIslands_195 (it fX6_layIslands_L114 (fun _ _ => none) n114) x2 t0 σ = some r → HP kM E s σ H locs → lv_has ls 4 [(0, .ref (eA E 0)), (2, .int x2)] → W p l e (rmk 1 25) s m args below meth c H locs 0 0 Q (F0 m 195 ls [.int t0, .ref (eA E 8)]) := by
        intro x2 t0 σ H locs ls h hH hl
        unfold fX6_layIslands_195 at h
        refine lv_iconst (v := 1) hF.x hF.b dX6_layIslands_195 (by decide) ?_
        refine lv_goto (tgt := 200) hF.x hF.b dX6_layIslands_196 (by decide) ?_
        exact w200 _ _ _ _ _ _ _ h hH (lv_sub hl [0, 1] rfl)
      have w170 : ∀ (x2 x3 t0 t1 t2 : Int32) (σ : Sg) (H : Heap) (locs : List Loc) (ls : Array Slot), fX6_layIslands_170 (it fX6_layIslands_L114 (fun _ _ => none) n114) x2 x3 t0 t1 t2 σ = some r → HP kM E s σ H locs → lv_has ls 4 [(0, .ref (eA E 0)), (2, .int x2), (3, .int x3)] → W p l e (rmk 1 25) s m args below meth c H locs 0 0 Q (F0 m 170 ls [.int t0, .int t1, .int t2, .ref (eA E 7)]) := by
        intro x2 x3 t0 t1 t2 σ H locs ls h hH hl
        unfold fX6_layIslands_170 at h
        refine lv_iadd hF.x hF.b dX6_layIslands_170 ?_
        refine asM_7 hF hH (gd_some h).1 dX6_layIslands_171 (fun σ3 H locs eσ3 hH => ?_)
        replace h := sv_at (gd_some h).2 eσ3
        clear eσ3
        refine lv_aload_n hF.x hF.b dX6_layIslands_172 rfl (lv_at hl 0 rfl) ?_
        refine gfM_0_7 hF hH tk_485 dX6_layIslands_173 ?_
        refine lv_iload_n hF.x hF.b dX6_layIslands_176 rfl (lv_at hl 2 rfl) ?_
        refine lv_aload_n hF.x hF.b dX6_layIslands_177 rfl (lv_at hl 0 rfl) ?_
        refine gfM_0_7 hF hH tk_485 dX6_layIslands_178 ?_
        refine lv_iload_n hF.x hF.b dX6_layIslands_181 rfl (lv_at hl 2 rfl) ?_
        refine alM_8 hF hH (gd_some h).1 dX6_layIslands_182 ?_
        replace h := (gd_some h).2
        refine lv_if_ne (tgt := 195) hF.x hF.b dX6_layIslands_183 (by decide) (fun c4 => ?_) (fun c4 => ?_)
        · rw [if_neg c4] at h
          exact w195 _ _ _ _ _ _ h hH (lv_sub hl [0, 1] rfl)
        · rw [if_pos c4] at h
          refine lv_aload_n hF.x hF.b dX6_layIslands_186 rfl (lv_at hl 0 rfl) ?_
          refine gfM_0_4 hF hH tk_482 dX6_layIslands_187 ?_
          refine lv_iload_n hF.x hF.b dX6_layIslands_190 rfl (lv_at hl 1 rfl) ?_
          refine alM_5 hF hH (gd_some h).1 dX6_layIslands_191 ?_
          replace h := (gd_some h).2
          refine lv_if_le (tgt := 199) hF.x hF.b dX6_layIslands_192 (by decide) (fun c5 => ?_) (fun c5 => ?_)
          · rw [if_pos c5] at h
            refine lv_iconst (v := 0) hF.x hF.b dX6_layIslands_199 (by decide) ?_
            exact w200 _ _ _ _ _ _ _ h hH (lv_sub hl [0, 1] rfl)
          · rw [if_neg c5] at h
            exact w195 _ _ _ _ _ _ h hH (lv_sub hl [0, 1] rfl)
      intro x2 σ H locs ls h hH hl
      rw [it_eq] at h
      unfold fX6_layIslands_L114 at h
      refine lv_iload_n hF.x hF.b dX6_layIslands_114 rfl (lv_at hl 1 rfl) ?_
      refine lv_aload_n hF.x hF.b dX6_layIslands_115 rfl (lv_at hl 0 rfl) ?_
      refine gfM_0_0 hF hH tk_478 dX6_layIslands_116 ?_
      refine lv_bipush (v := 40) hF.x hF.b dX6_layIslands_119 (by decide) ?_
      refine alM_1 hF hH (gd_some h).1 dX6_layIslands_121 ?_
      replace h := (gd_some h).2
      refine lv_icmp_ge (tgt := 207) hF.x hF.b dX6_layIslands_122 (by decide) (fun c6 => ?_) (fun c6 => ?_)
      · rw [if_pos c6] at h
        exact hret _ _ _ _ _ hH h dX6_layIslands_207
      · rw [if_neg c6] at h
        refine lv_aload_n hF.x hF.b dX6_layIslands_125 rfl (lv_at hl 0 rfl) ?_
        refine gfM_0_5 hF hH tk_483 dX6_layIslands_126 ?_
        refine lv_aload_n hF.x hF.b dX6_layIslands_129 rfl (lv_at hl 0 rfl) ?_
        refine gfM_0_0 hF hH tk_478 dX6_layIslands_130 ?_
        refine lv_bipush (v := 24) hF.x hF.b dX6_layIslands_133 (by decide) ?_
        refine lv_iload_n hF.x hF.b dX6_layIslands_135 rfl (lv_at hl 1 rfl) ?_
        refine lv_iadd hF.x hF.b dX6_layIslands_136 ?_
        refine alM_1 hF hH (gd_some h).1 dX6_layIslands_137 ?_
        replace h := (gd_some h).2
        refine alM_6 hF hH (gd_some h).1 dX6_layIslands_138 ?_
        replace h := (gd_some h).2
        refine lv_topi (fun y7 ey7 => ?_)
        replace h := sv_at h ey7
        clear ey7
        refine lv_istore_n (lv' := [(3, .int y7), (0, .ref (eA E 0)), (2, .int x2)]) hF.x hF.b dX6_layIslands_139 rfl hl (by decide) rfl (fun ls hl => ?_)
        refine lv_aload_n hF.x hF.b dX6_layIslands_140 rfl (lv_at hl 1 rfl) ?_
        refine gfM_0_6 hF hH tk_484 dX6_layIslands_141 ?_
        refine lv_iload_n hF.x hF.b dX6_layIslands_144 rfl (lv_at hl 0 rfl) ?_
        refine lv_dup2_11 hF.x hF.b dX6_layIslands_145 rfl rfl ?_
        refine alM_7 hF hH (gd_some h).1 dX6_layIslands_146 ?_
        replace h := (gd_some h).2
        refine lv_aload_n hF.x hF.b dX6_layIslands_147 rfl (lv_at hl 1 rfl) ?_
        refine gfM_0_4 hF hH tk_482 dX6_layIslands_148 ?_
        refine lv_iload_n hF.x hF.b dX6_layIslands_151 rfl (lv_at hl 2 rfl) ?_
        refine alM_5 hF hH (gd_some h).1 dX6_layIslands_152 ?_
        replace h := (gd_some h).2
        refine lv_iconst (v := 1) hF.x hF.b dX6_layIslands_153 (by decide) ?_
        refine lv_icmp_ne (tgt := 169) hF.x hF.b dX6_layIslands_154 (by decide) (fun c8 => ?_) (fun c8 => ?_)
        · rw [if_neg c8] at h
          refine lv_iconst (v := 0) hF.x hF.b dX6_layIslands_169 (by decide) ?_
          exact w170 _ _ _ _ _ _ _ _ _ h hH (lv_sub hl [1, 2, 0] rfl)
        · rw [if_pos c8] at h
          refine lv_aload_n hF.x hF.b dX6_layIslands_157 rfl (lv_at hl 1 rfl) ?_
          refine gfM_0_0 hF hH tk_478 dX6_layIslands_158 ?_
          refine lv_bipush (v := 30) hF.x hF.b dX6_layIslands_161 (by decide) ?_
          refine lv_iload_n hF.x hF.b dX6_layIslands_163 rfl (lv_at hl 2 rfl) ?_
          refine lv_iadd hF.x hF.b dX6_layIslands_164 ?_
          refine alM_1 hF hH (gd_some h).1 dX6_layIslands_165 ?_
          replace h := (gd_some h).2
          refine lv_goto (tgt := 170) hF.x hF.b dX6_layIslands_166 (by decide) ?_
          exact w170 _ _ _ _ _ _ _ _ _ h hH (lv_sub hl [1, 2, 0] rfl)
  have w51 : ∀ (n : Nat) (x2 : Int32) (σ : Sg) (H : Heap) (locs : List Loc) (ls : Array Slot), it fX6_layIslands_L51 (fun _ _ => none) n x2 σ = some r → HP kM E s σ H locs → lv_has ls 4 [(0, .ref (eA E 0)), (2, .int x2)] → W p l e (rmk 1 25) s m args below meth c H locs 0 0 Q (F0 m 51 ls []) := by
    intro n51
    induction n51 with
    | zero =>
      intro x2 σ H locs ls h hH hl
      cases (show (none : Rs) = some r from h)
    | succ n51 ih51 =>
      have w104 : ∀ (x2 t0 t1 t2 : Int32) (σ : Sg) (H : Heap) (locs : List Loc) (ls : Array Slot), fX6_layIslands_104 (it fX6_layIslands_L51 (fun _ _ => none) n51) x2 t0 t1 t2 σ = some r → HP kM E s σ H locs → lv_has ls 4 [(0, .ref (eA E 0)), (2, .int x2)] → W p l e (rmk 1 25) s m args below meth c H locs 0 0 Q (F0 m 104 ls [.int t0, .int t1, .int t2, .ref (eA E 7)]) := by
        intro x2 t0 t1 t2 σ H locs ls h hH hl
        unfold fX6_layIslands_104 at h
        refine lv_isub hF.x hF.b dX6_layIslands_104 ?_
        refine asM_7 hF hH (gd_some h).1 dX6_layIslands_105 (fun σ9 H locs eσ9 hH => ?_)
        replace h := sv_at (gd_some h).2 eσ9
        clear eσ9
        obtain ⟨y10, ey10⟩ : ∃ z : Int32, z = (x2 + 1) := ⟨_, rfl⟩
        replace h := sv_at h ey10
        refine lv_iinc (v := y10) (lv' := [(2, .int y10), (0, .ref (eA E 0))]) hF.x hF.b dX6_layIslands_106 hl (k := 1) rfl (by rw [ey10]; rfl) (by decide) rfl (fun ls hl => ?_)
        clear ey10
        refine lv_goto (tgt := 51) hF.x hF.b dX6_layIslands_109 (by decide) ?_
        exact ih51 _ _ _ _ _ h hH (lv_sub hl [1, 0] rfl)
      intro x2 σ H locs ls h hH hl
      rw [it_eq] at h
      unfold fX6_layIslands_L51 at h
      refine lv_iload_n hF.x hF.b dX6_layIslands_51 rfl (lv_at hl 1 rfl) ?_
      refine lv_aload_n hF.x hF.b dX6_layIslands_52 rfl (lv_at hl 0 rfl) ?_
      refine gfM_0_0 hF hH tk_478 dX6_layIslands_53 ?_
      refine lv_bipush (v := 39) hF.x hF.b dX6_layIslands_56 (by decide) ?_
      refine alM_1 hF hH (gd_some h).1 dX6_layIslands_58 ?_
      replace h := (gd_some h).2
      refine lv_icmp_ge (tgt := 112) hF.x hF.b dX6_layIslands_59 (by decide) (fun c11 => ?_) (fun c11 => ?_)
      · rw [if_pos c11] at h
        refine lv_iconst (v := 0) hF.x hF.b dX6_layIslands_112 (by decide) ?_
        refine lv_istore_n (lv' := [(2, .int 0), (0, .ref (eA E 0))]) hF.x hF.b dX6_layIslands_113 rfl hl (by decide) rfl (fun ls hl => ?_)
        exact w114 _ _ _ _ _ _ h hH (lv_sub hl [1, 0] rfl)
      · rw [if_neg c11] at h
        refine lv_aload_n hF.x hF.b dX6_layIslands_62 rfl (lv_at hl 0 rfl) ?_
        refine gfM_0_6 hF hH tk_484 dX6_layIslands_63 ?_
        refine lv_aload_n hF.x hF.b dX6_layIslands_66 rfl (lv_at hl 0 rfl) ?_
        refine gfM_0_5 hF hH tk_483 dX6_layIslands_67 ?_
        refine lv_aload_n hF.x hF.b dX6_layIslands_70 rfl (lv_at hl 0 rfl) ?_
        refine gfM_0_0 hF hH tk_478 dX6_layIslands_71 ?_
        refine lv_iconst (v := 0) hF.x hF.b dX6_layIslands_74 (by decide) ?_
        refine lv_iload_n hF.x hF.b dX6_layIslands_75 rfl (lv_at hl 1 rfl) ?_
        refine lv_iadd hF.x hF.b dX6_layIslands_76 ?_
        refine alM_1 hF hH (gd_some h).1 dX6_layIslands_77 ?_
        replace h := (gd_some h).2
        refine alM_6 hF hH (gd_some h).1 dX6_layIslands_78 ?_
        replace h := (gd_some h).2
        refine lv_topi (fun y12 ey12 => ?_)
        replace h := sv_at h ey12
        clear ey12
        refine lv_dup2_11 hF.x hF.b dX6_layIslands_79 rfl rfl ?_
        refine alM_7 hF hH (gd_some h).1 dX6_layIslands_80 ?_
        replace h := (gd_some h).2
        refine lv_aload_n hF.x hF.b dX6_layIslands_81 rfl (lv_at hl 0 rfl) ?_
        refine gfM_0_3 hF hH tk_481 dX6_layIslands_82 ?_
        refine lv_iload_n hF.x hF.b dX6_layIslands_85 rfl (lv_at hl 1 rfl) ?_
        refine alM_4 hF hH (gd_some h).1 dX6_layIslands_86 ?_
        replace h := (gd_some h).2
        refine lv_iconst (v := 1) hF.x hF.b dX6_layIslands_87 (by decide) ?_
        refine lv_icmp_ne (tgt := 103) hF.x hF.b dX6_layIslands_88 (by decide) (fun c13 => ?_) (fun c13 => ?_)
        · rw [if_neg c13] at h
          refine lv_iconst (v := 0) hF.x hF.b dX6_layIslands_103 (by decide) ?_
          exact w104 _ _ _ _ _ _ _ _ h hH (lv_sub hl [0, 1] rfl)
        · rw [if_pos c13] at h
          refine lv_aload_n hF.x hF.b dX6_layIslands_91 rfl (lv_at hl 0 rfl) ?_
          refine gfM_0_0 hF hH tk_478 dX6_layIslands_92 ?_
          refine lv_bipush (v := 12) hF.x hF.b dX6_layIslands_95 (by decide) ?_
          refine lv_iload_n hF.x hF.b dX6_layIslands_97 rfl (lv_at hl 1 rfl) ?_
          refine lv_iadd hF.x hF.b dX6_layIslands_98 ?_
          refine alM_1 hF hH (gd_some h).1 dX6_layIslands_99 ?_
          replace h := (gd_some h).2
          refine lv_goto (tgt := 104) hF.x hF.b dX6_layIslands_100 (by decide) ?_
          exact w104 _ _ _ _ _ _ _ _ h hH (lv_sub hl [0, 1] rfl)
  have w37 : ∀ (n : Nat) (x1 : Int32) (σ : Sg) (H : Heap) (locs : List Loc) (ls : Array Slot), it fX6_layIslands_L37 (fun _ _ => none) n x1 σ = some r → HP kM E s σ H locs → lv_has ls 4 [(0, .ref (eA E 0)), (1, .int x1)] → W p l e (rmk 1 25) s m args below meth c H locs 0 0 Q (F0 m 37 ls []) := by
    intro n37
    induction n37 with
    | zero =>
      intro x1 σ H locs ls h hH hl
      cases (show (none : Rs) = some r from h)
    | succ n37 ih37 =>
      intro x1 σ H locs ls h hH hl
      rw [it_eq] at h
      unfold fX6_layIslands_L37 at h
      refine lv_iload_n hF.x hF.b dX6_layIslands_37 rfl (lv_at hl 1 rfl) ?_
      refine lv_if_eq (tgt := 49) hF.x hF.b dX6_layIslands_38 (by decide) (fun c14 => ?_) (fun c14 => ?_)
      · rw [if_pos c14] at h
        refine lv_iconst (v := 0) hF.x hF.b dX6_layIslands_49 (by decide) ?_
        refine lv_istore_n (lv' := [(2, .int 0), (0, .ref (eA E 0)), (1, .int x1)]) hF.x hF.b dX6_layIslands_50 rfl hl (by decide) rfl (fun ls hl => ?_)
        exact w51 _ _ _ _ _ _ h hH (lv_sub hl [1, 0] rfl)
      · rw [if_neg c14] at h
        refine lv_aload_n hF.x hF.b dX6_layIslands_41 rfl (lv_at hl 0 rfl) ?_
        replace h := bd_some h
        obtain ⟨v15, σ16, hv15, h⟩ := h
        refine w_cVi (As := []) (rest := []) hF hH hl 0 (by decide) rfl rfl (tX6_joinOnce l E hF.j _ _ hv15) tk_562 tk_564 tk_13 tk_46 tk_565 rfl rfl hdX6_joinOnce ⟨Nat.le_of_ble_eq_true rfl, Nat.le_of_ble_eq_true rfl⟩ rfl rfl (Nat.le_of_ble_eq_true rfl) dX6_layIslands_42 (fun H locs hH => ?_)
        refine lv_istore_n (lv' := [(1, .int v15), (0, .ref (eA E 0))]) hF.x hF.b dX6_layIslands_45 rfl hl (by decide) rfl (fun ls hl => ?_)
        refine lv_goto (tgt := 37) hF.x hF.b dX6_layIslands_46 (by decide) ?_
        exact ih37 _ _ _ _ _ h hH (lv_sub hl [1, 0] rfl)
  have w2 : ∀ (n : Nat) (x1 : Int32) (σ : Sg) (H : Heap) (locs : List Loc) (ls : Array Slot), it fX6_layIslands_L2 (fun _ _ => none) n x1 σ = some r → HP kM E s σ H locs → lv_has ls 4 [(0, .ref (eA E 0)), (1, .int x1)] → W p l e (rmk 1 25) s m args below meth c H locs 0 0 Q (F0 m 2 ls []) := by
    intro n2
    induction n2 with
    | zero =>
      intro x1 σ H locs ls h hH hl
      cases (show (none : Rs) = some r from h)
    | succ n2 ih2 =>
      intro x1 σ H locs ls h hH hl
      rw [it_eq] at h
      unfold fX6_layIslands_L2 at h
      refine lv_iload_n hF.x hF.b dX6_layIslands_2 rfl (lv_at hl 1 rfl) ?_
      refine lv_bipush (v := 6) hF.x hF.b dX6_layIslands_3 (by decide) ?_
      refine lv_icmp_ge (tgt := 35) hF.x hF.b dX6_layIslands_5 (by decide) (fun c17 => ?_) (fun c17 => ?_)
      · rw [if_pos c17] at h
        refine lv_iconst (v := 1) hF.x hF.b dX6_layIslands_35 (by decide) ?_
        refine lv_istore_n (lv' := [(1, .int 1), (0, .ref (eA E 0))]) hF.x hF.b dX6_layIslands_36 rfl hl (by decide) rfl (fun ls hl => ?_)
        exact w37 _ _ _ _ _ _ h hH (lv_sub hl [1, 0] rfl)
      · rw [if_neg c17] at h
        refine lv_aload_n hF.x hF.b dX6_layIslands_8 rfl (lv_at hl 0 rfl) ?_
        refine gfM_0_5 hF hH tk_483 dX6_layIslands_9 ?_
        refine lv_iload_n hF.x hF.b dX6_layIslands_12 rfl (lv_at hl 1 rfl) ?_
        refine lv_iload_n hF.x hF.b dX6_layIslands_13 rfl (lv_at hl 1 rfl) ?_
        refine asM_6 hF hH (gd_some h).1 dX6_layIslands_14 (fun σ18 H locs eσ18 hH => ?_)
        replace h := sv_at (gd_some h).2 eσ18
        clear eσ18
        refine lv_aload_n hF.x hF.b dX6_layIslands_15 rfl (lv_at hl 0 rfl) ?_
        refine gfM_0_6 hF hH tk_484 dX6_layIslands_16 ?_
        refine lv_iload_n hF.x hF.b dX6_layIslands_19 rfl (lv_at hl 1 rfl) ?_
        refine lv_iconst (v := 0) hF.x hF.b dX6_layIslands_20 (by decide) ?_
        refine asM_7 hF hH (gd_some h).1 dX6_layIslands_21 (fun σ19 H locs eσ19 hH => ?_)
        replace h := sv_at (gd_some h).2 eσ19
        clear eσ19
        refine lv_aload_n hF.x hF.b dX6_layIslands_22 rfl (lv_at hl 0 rfl) ?_
        refine gfM_0_7 hF hH tk_485 dX6_layIslands_23 ?_
        refine lv_iload_n hF.x hF.b dX6_layIslands_26 rfl (lv_at hl 1 rfl) ?_
        refine lv_iconst (v := 0) hF.x hF.b dX6_layIslands_27 (by decide) ?_
        refine asM_8 hF hH (gd_some h).1 dX6_layIslands_28 (fun σ20 H locs eσ20 hH => ?_)
        replace h := sv_at (gd_some h).2 eσ20
        clear eσ20
        obtain ⟨y21, ey21⟩ : ∃ z : Int32, z = (x1 + 1) := ⟨_, rfl⟩
        replace h := sv_at h ey21
        refine lv_iinc (v := y21) (lv' := [(1, .int y21), (0, .ref (eA E 0))]) hF.x hF.b dX6_layIslands_29 hl (k := 1) rfl (by rw [ey21]; rfl) (by decide) rfl (fun ls hl => ?_)
        clear ey21
        refine lv_goto (tgt := 2) hF.x hF.b dX6_layIslands_32 (by decide) ?_
        exact ih2 _ _ _ _ _ h hH (lv_sub hl [1, 0] rfl)
  unfold fX6_layIslands at h
  refine lv_iconst (v := 0) hF.x hF.b dX6_layIslands_0 (by decide) ?_
  refine lv_istore_n (lv' := [(1, .int 0), (0, .ref (eA E 0))]) hF.x hF.b dX6_layIslands_1 rfl hl (by decide) rfl (fun ls hl => ?_)
  exact w2 _ _ _ _ _ _ h hH (lv_sub hl [1, 0] rfl)
theorem hdX6_layNow : yX6_layNow.cls = RX6 ∧ yX6_layNow.cls ≠ "java/lang/invoke/MethodHandle" ∧ yX6_layNow.cls ≠ "java/lang/invoke/VarHandle" ∧ (parseMethodDescriptor yX6_layNow.desc).map (fun d => d.parameters.length) = some 0 := by decide +kernel
set_option maxHeartbeats 4000000 in
set_option maxRecDepth 100000 in
theorem tX6_layNow (l : Launch) (E : Ev) (hj : Inj kM E) (σ : Sg) (r : Int32 × Sg) (h : fX6_layNow σ = some r) : CV l yX6_layNow cX6_layNow 2 (rmk 2 48) kM E [.ref (eA E 0)] σ r := by
  refine CV_v (lv := [(0, .ref (eA E 0))]) (by decide) hj (Nat.le_of_ble_eq_true rfl) rfl (fun p e s m args below meth c ls Q hF hret hH hl => ?_)
  have w31 : ∀ (n : Nat) (x1 : Int32) (σ : Sg) (H : Heap) (locs : List Loc) (ls : Array Slot), it fX6_layNow_L31 (fun _ _ => none) n x1 σ = some r → HP kM E s σ H locs → lv_has ls 2 [(0, .ref (eA E 0)), (1, .int x1)] → W p l e (rmk 2 48) s m args below meth c H locs 0 0 Q (F0 m 31 ls []) := by
    intro n31
    induction n31 with
    | zero =>
      intro x1 σ H locs ls h hH hl
      cases (show (none : Rs) = some r from h)
    | succ n31 ih31 =>
      intro x1 σ H locs ls h hH hl
      rw [it_eq] at h
      unfold fX6_layNow_L31 at h
      refine lv_iload_n hF.x hF.b dX6_layNow_31 rfl (lv_at hl 1 rfl) ?_
      refine lv_iconst (v := 3) hF.x hF.b dX6_layNow_32 (by decide) ?_
      refine lv_icmp_ge (tgt := 57) hF.x hF.b dX6_layNow_33 (by decide) (fun c1 => ?_) (fun c1 => ?_)
      · rw [if_pos c1] at h
        refine lv_aload_n hF.x hF.b dX6_layNow_57 rfl (lv_at hl 0 rfl) ?_
        replace h := bd_some h
        obtain ⟨v2, σ3, hv2, h⟩ := h
        refine w_cVv (As := []) (rest := []) hF hH hl 0 (by decide) rfl rfl (tX6_layIslands l E hF.j _ _ hv2) tk_558 tk_560 tk_12 tk_46 tk_561 rfl rfl hdX6_layIslands ⟨Nat.le_of_ble_eq_true rfl, Nat.le_of_ble_eq_true rfl⟩ rfl rfl (Nat.le_of_ble_eq_true rfl) dX6_layNow_58 (fun H locs hH => ?_)
        exact hret _ _ _ _ _ hH h dX6_layNow_61
      · rw [if_neg c1] at h
        refine lv_aload_n hF.x hF.b dX6_layNow_36 rfl (lv_at hl 0 rfl) ?_
        refine gfM_0_4 hF hH tk_482 dX6_layNow_37 ?_
        refine lv_iload_n hF.x hF.b dX6_layNow_40 rfl (lv_at hl 1 rfl) ?_
        refine lv_aload_n hF.x hF.b dX6_layNow_41 rfl (lv_at hl 0 rfl) ?_
        refine gfM_0_0 hF hH tk_478 dX6_layNow_42 ?_
        refine lv_bipush (v := 36) hF.x hF.b dX6_layNow_45 (by decide) ?_
        refine lv_iload_n hF.x hF.b dX6_layNow_47 rfl (lv_at hl 1 rfl) ?_
        refine lv_iadd hF.x hF.b dX6_layNow_48 ?_
        refine alM_1 hF hH (gd_some h).1 dX6_layNow_49 ?_
        replace h := (gd_some h).2
        refine asM_5 hF hH (gd_some h).1 dX6_layNow_50 (fun σ4 H locs eσ4 hH => ?_)
        replace h := sv_at (gd_some h).2 eσ4
        clear eσ4
        obtain ⟨y5, ey5⟩ : ∃ z : Int32, z = (x1 + 1) := ⟨_, rfl⟩
        replace h := sv_at h ey5
        refine lv_iinc (v := y5) (lv' := [(1, .int y5), (0, .ref (eA E 0))]) hF.x hF.b dX6_layNow_51 hl (k := 1) rfl (by rw [ey5]; rfl) (by decide) rfl (fun ls hl => ?_)
        clear ey5
        refine lv_goto (tgt := 31) hF.x hF.b dX6_layNow_54 (by decide) ?_
        exact ih31 _ _ _ _ _ h hH (lv_sub hl [1, 0] rfl)
  have w2 : ∀ (n : Nat) (x1 : Int32) (σ : Sg) (H : Heap) (locs : List Loc) (ls : Array Slot), it fX6_layNow_L2 (fun _ _ => none) n x1 σ = some r → HP kM E s σ H locs → lv_has ls 2 [(0, .ref (eA E 0)), (1, .int x1)] → W p l e (rmk 2 48) s m args below meth c H locs 0 0 Q (F0 m 2 ls []) := by
    intro n2
    induction n2 with
    | zero =>
      intro x1 σ H locs ls h hH hl
      cases (show (none : Rs) = some r from h)
    | succ n2 ih2 =>
      intro x1 σ H locs ls h hH hl
      rw [it_eq] at h
      unfold fX6_layNow_L2 at h
      refine lv_iload_n hF.x hF.b dX6_layNow_2 rfl (lv_at hl 1 rfl) ?_
      refine lv_bipush (v := 6) hF.x hF.b dX6_layNow_3 (by decide) ?_
      refine lv_icmp_ge (tgt := 29) hF.x hF.b dX6_layNow_5 (by decide) (fun c6 => ?_) (fun c6 => ?_)
      · rw [if_pos c6] at h
        refine lv_iconst (v := 0) hF.x hF.b dX6_layNow_29 (by decide) ?_
        refine lv_istore_n (lv' := [(1, .int 0), (0, .ref (eA E 0))]) hF.x hF.b dX6_layNow_30 rfl hl (by decide) rfl (fun ls hl => ?_)
        exact w31 _ _ _ _ _ _ h hH (lv_sub hl [1, 0] rfl)
      · rw [if_neg c6] at h
        refine lv_aload_n hF.x hF.b dX6_layNow_8 rfl (lv_at hl 0 rfl) ?_
        refine gfM_0_3 hF hH tk_481 dX6_layNow_9 ?_
        refine lv_iload_n hF.x hF.b dX6_layNow_12 rfl (lv_at hl 1 rfl) ?_
        refine lv_aload_n hF.x hF.b dX6_layNow_13 rfl (lv_at hl 0 rfl) ?_
        refine gfM_0_0 hF hH tk_478 dX6_layNow_14 ?_
        refine lv_bipush (v := 18) hF.x hF.b dX6_layNow_17 (by decide) ?_
        refine lv_iload_n hF.x hF.b dX6_layNow_19 rfl (lv_at hl 1 rfl) ?_
        refine lv_iadd hF.x hF.b dX6_layNow_20 ?_
        refine alM_1 hF hH (gd_some h).1 dX6_layNow_21 ?_
        replace h := (gd_some h).2
        refine asM_4 hF hH (gd_some h).1 dX6_layNow_22 (fun σ7 H locs eσ7 hH => ?_)
        replace h := sv_at (gd_some h).2 eσ7
        clear eσ7
        obtain ⟨y8, ey8⟩ : ∃ z : Int32, z = (x1 + 1) := ⟨_, rfl⟩
        replace h := sv_at h ey8
        refine lv_iinc (v := y8) (lv' := [(1, .int y8), (0, .ref (eA E 0))]) hF.x hF.b dX6_layNow_23 hl (k := 1) rfl (by rw [ey8]; rfl) (by decide) rfl (fun ls hl => ?_)
        clear ey8
        refine lv_goto (tgt := 2) hF.x hF.b dX6_layNow_26 (by decide) ?_
        exact ih2 _ _ _ _ _ h hH (lv_sub hl [1, 0] rfl)
  unfold fX6_layNow at h
  refine lv_iconst (v := 0) hF.x hF.b dX6_layNow_0 (by decide) ?_
  refine lv_istore_n (lv' := [(1, .int 0), (0, .ref (eA E 0))]) hF.x hF.b dX6_layNow_1 rfl hl (by decide) rfl (fun ls hl => ?_)
  exact w2 _ _ _ _ _ _ h hH (lv_sub hl [1, 0] rfl)
theorem hdX6_isLive : yX6_isLive.cls = RX6 ∧ yX6_isLive.cls ≠ "java/lang/invoke/MethodHandle" ∧ yX6_isLive.cls ≠ "java/lang/invoke/VarHandle" ∧ (parseMethodDescriptor yX6_isLive.desc).map (fun d => d.parameters.length) = some 1 := by decide +kernel
set_option maxHeartbeats 4000000 in
set_option maxRecDepth 100000 in
theorem tX6_isLive (l : Launch) (E : Ev) (hj : Inj kM E) (a1 : Int32) (σ : Sg) (r : Int32 × Sg) (h : fX6_isLive a1 σ = some r) : CI l yX6_isLive cX6_isLive 2 (some FieldType.boolean) (rmk 0 0) kM E [.ref (eA E 0), .int a1] σ r := by
  refine CI_z (lv := [(0, .ref (eA E 0)), (1, .int a1)]) (by decide) hj (Nat.le_of_ble_eq_true rfl) rfl (fun p e s m args below meth c ls Q hF hret hH hl => ?_)
  unfold fX6_isLive at h
  refine lv_aload_n hF.x hF.b dX6_isLive_0 rfl (lv_at hl 0 rfl) ?_
  refine gfM_0_7 hF hH tk_485 dX6_isLive_1 ?_
  refine lv_aload_n hF.x hF.b dX6_isLive_4 rfl (lv_at hl 0 rfl) ?_
  refine gfM_0_5 hF hH tk_483 dX6_isLive_5 ?_
  refine lv_iload_n hF.x hF.b dX6_isLive_8 rfl (lv_at hl 1 rfl) ?_
  refine alM_6 hF hH (gd_some h).1 dX6_isLive_9 ?_
  replace h := (gd_some h).2
  refine alM_8 hF hH (gd_some h).1 dX6_isLive_10 ?_
  replace h := (gd_some h).2
  exact hret _ _ _ _ _ _ hH h dX6_isLive_11
theorem hdX6_islandSet : yX6_islandSet.cls = RX6 ∧ yX6_islandSet.cls ≠ "java/lang/invoke/MethodHandle" ∧ yX6_islandSet.cls ≠ "java/lang/invoke/VarHandle" ∧ (parseMethodDescriptor yX6_islandSet.desc).map (fun d => d.parameters.length) = some 1 := by decide +kernel
set_option maxHeartbeats 4000000 in
set_option maxRecDepth 100000 in
theorem tX6_islandSet (l : Launch) (E : Ev) (hj : Inj kM E) (a1 : Int32) (σ : Sg) (r : Int32 × Sg) (h : fX6_islandSet a1 σ = some r) : CI l yX6_islandSet cX6_islandSet 4 (some FieldType.int) (rmk 0 0) kM E [.ref (eA E 0), .int a1] σ r := by
  refine CI_i (lv := [(0, .ref (eA E 0)), (1, .int a1)]) (by decide) hj (Nat.le_of_ble_eq_true rfl) rfl (fun p e s m args below meth c ls Q hF hret hH hl => ?_)
  have w4 : ∀ (n : Nat) (x1 x2 x3 : Int32) (σ : Sg) (H : Heap) (locs : List Loc) (ls : Array Slot), it fX6_islandSet_L4 (fun _ _ _ _ => none) n x1 x2 x3 σ = some r → HP kM E s σ H locs → lv_has ls 4 [(0, .ref (eA E 0)), (1, .int x1), (2, .int x2), (3, .int x3)] → W p l e (rmk 0 0) s m args below meth c H locs 0 0 Q (F0 m 4 ls []) := by
    intro n4
    induction n4 with
    | zero =>
      intro x1 x2 x3 σ H locs ls h hH hl
      cases (show (none : Rs) = some r from h)
    | succ n4 ih4 =>
      have w33 : ∀ (x1 x3 t0 t1 : Int32) (σ : Sg) (H : Heap) (locs : List Loc) (ls : Array Slot), fX6_islandSet_33 (it fX6_islandSet_L4 (fun _ _ _ _ => none) n4) x1 x3 t0 t1 σ = some r → HP kM E s σ H locs → lv_has ls 4 [(0, .ref (eA E 0)), (1, .int x1), (3, .int x3)] → W p l e (rmk 0 0) s m args below meth c H locs 0 0 Q (F0 m 33 ls [.int t0, .int t1]) := by
        intro x1 x3 t0 t1 σ H locs ls h hH hl
        unfold fX6_islandSet_33 at h
        refine lv_ior hF.x hF.b dX6_islandSet_33 ?_
        refine lv_topi (fun y1 ey1 => ?_)
        replace h := sv_at h ey1
        clear ey1
        refine lv_istore_n (lv' := [(2, .int y1), (0, .ref (eA E 0)), (1, .int x1), (3, .int x3)]) hF.x hF.b dX6_islandSet_34 rfl hl (by decide) rfl (fun ls hl => ?_)
        obtain ⟨y2, ey2⟩ : ∃ z : Int32, z = (x3 + 1) := ⟨_, rfl⟩
        replace h := sv_at h ey2
        refine lv_iinc (v := y2) (lv' := [(3, .int y2), (2, .int y1), (0, .ref (eA E 0)), (1, .int x1)]) hF.x hF.b dX6_islandSet_35 hl (k := 3) rfl (by rw [ey2]; rfl) (by decide) rfl (fun ls hl => ?_)
        clear ey2
        refine lv_goto (tgt := 4) hF.x hF.b dX6_islandSet_38 (by decide) ?_
        exact ih4 _ _ _ _ _ _ _ h hH (lv_sub hl [2, 3, 1, 0] rfl)
      intro x1 x2 x3 σ H locs ls h hH hl
      rw [it_eq] at h
      unfold fX6_islandSet_L4 at h
      refine lv_iload_n hF.x hF.b dX6_islandSet_4 rfl (lv_at hl 3 rfl) ?_
      refine lv_bipush (v := 6) hF.x hF.b dX6_islandSet_5 (by decide) ?_
      refine lv_icmp_ge (tgt := 41) hF.x hF.b dX6_islandSet_7 (by decide) (fun c3 => ?_) (fun c3 => ?_)
      · rw [if_pos c3] at h
        refine lv_iload_n hF.x hF.b dX6_islandSet_41 rfl (lv_at hl 2 rfl) ?_
        exact hret _ _ _ _ _ _ hH h dX6_islandSet_42
      · rw [if_neg c3] at h
        refine lv_iload_n hF.x hF.b dX6_islandSet_10 rfl (lv_at hl 2 rfl) ?_
        refine lv_aload_n hF.x hF.b dX6_islandSet_11 rfl (lv_at hl 0 rfl) ?_
        refine gfM_0_5 hF hH tk_483 dX6_islandSet_12 ?_
        refine lv_iload_n hF.x hF.b dX6_islandSet_15 rfl (lv_at hl 3 rfl) ?_
        refine alM_6 hF hH (gd_some h).1 dX6_islandSet_16 ?_
        replace h := (gd_some h).2
        refine lv_aload_n hF.x hF.b dX6_islandSet_17 rfl (lv_at hl 0 rfl) ?_
        refine gfM_0_5 hF hH tk_483 dX6_islandSet_18 ?_
        refine lv_iload_n hF.x hF.b dX6_islandSet_21 rfl (lv_at hl 1 rfl) ?_
        refine alM_6 hF hH (gd_some h).1 dX6_islandSet_22 ?_
        replace h := (gd_some h).2
        refine lv_icmp_ne (tgt := 32) hF.x hF.b dX6_islandSet_23 (by decide) (fun c4 => ?_) (fun c4 => ?_)
        · rw [if_neg c4] at h
          refine lv_iconst (v := 0) hF.x hF.b dX6_islandSet_32 (by decide) ?_
          exact w33 _ _ _ _ _ _ _ _ h hH (lv_sub hl [0, 1, 3] rfl)
        · rw [if_pos c4] at h
          refine lv_iconst (v := 1) hF.x hF.b dX6_islandSet_26 (by decide) ?_
          refine lv_iload_n hF.x hF.b dX6_islandSet_27 rfl (lv_at hl 3 rfl) ?_
          refine lv_ishl hF.x hF.b dX6_islandSet_28 ?_
          refine lv_goto (tgt := 33) hF.x hF.b dX6_islandSet_29 (by decide) ?_
          exact w33 _ _ _ _ _ _ _ _ h hH (lv_sub hl [0, 1, 3] rfl)
  unfold fX6_islandSet at h
  refine lv_iconst (v := 0) hF.x hF.b dX6_islandSet_0 (by decide) ?_
  refine lv_istore_n (lv' := [(2, .int 0), (0, .ref (eA E 0)), (1, .int a1)]) hF.x hF.b dX6_islandSet_1 rfl hl (by decide) rfl (fun ls hl => ?_)
  refine lv_iconst (v := 0) hF.x hF.b dX6_islandSet_2 (by decide) ?_
  refine lv_istore_n (lv' := [(3, .int 0), (2, .int 0), (0, .ref (eA E 0)), (1, .int a1)]) hF.x hF.b dX6_islandSet_3 rfl hl (by decide) rfl (fun ls hl => ?_)
  exact w4 _ _ _ _ _ _ _ _ h hH (lv_sub hl [2, 3, 1, 0] rfl)
theorem hdX6_bus : yX6_bus.cls = RX6 ∧ yX6_bus.cls ≠ "java/lang/invoke/MethodHandle" ∧ yX6_bus.cls ≠ "java/lang/invoke/VarHandle" ∧ (parseMethodDescriptor yX6_bus.desc).map (fun d => d.parameters.length) = some 2 := by decide +kernel
set_option maxHeartbeats 4000000 in
set_option maxRecDepth 100000 in
theorem tX6_bus (l : Launch) (E : Ev) (hj : Inj kM E) (a1 : Int32) (a2 : Int32) (σ : Sg) (r : Int32 × Sg) (h : fX6_bus a1 a2 σ = some r) : CI l yX6_bus cX6_bus 3 (some FieldType.int) (rmk 3 69) kM E [.ref (eA E 0), .int a1, .int a2] σ r := by
  refine CI_i (lv := [(0, .ref (eA E 0)), (1, .int a1), (2, .int a2)]) (by decide) hj (Nat.le_of_ble_eq_true rfl) rfl (fun p e s m args below meth c ls Q hF hret hH hl => ?_)
  have w72 : ∀ (t0 : Int32) (σ : Sg) (H : Heap) (locs : List Loc) (ls : Array Slot), fX6_bus_72 t0 σ = some r → HP kM E s σ H locs → lv_has ls 3 [(0, .ref (eA E 0))] → W p l e (rmk 3 69) s m args below meth c H locs 0 0 Q (F0 m 72 ls [.int t0]) := by
    intro t0 σ H locs ls h hH hl
    unfold fX6_bus_72 at h
    exact hret _ _ _ _ _ _ hH h dX6_bus_72
  unfold fX6_bus at h
  refine lv_iload_n hF.x hF.b dX6_bus_0 rfl (lv_at hl 1 rfl) ?_
  replace h := bd_some h
  obtain ⟨v1, σ2, hv1, h⟩ := h
  refine w_cSi (As := [.int a1]) (rest := []) hF hH hl (tX6_isBus l E hF.j _ _ _ hv1) tk_520 tk_521 tk_46 tk_522 rfl rfl hdX6_isBus ⟨Nat.le_of_ble_eq_true rfl, Nat.le_of_ble_eq_true rfl⟩ rfl rfl (Nat.le_of_ble_eq_true rfl) dX6_bus_1 (fun H locs hH => ?_)
  refine lv_if_ne (tgt := 9) hF.x hF.b dX6_bus_4 (by decide) (fun c3 => ?_) (fun c3 => ?_)
  · rw [if_neg c3] at h
    refine lv_iload_n hF.x hF.b dX6_bus_9 rfl (lv_at hl 2 rfl) ?_
    refine lv_iconst (v := 0) hF.x hF.b dX6_bus_10 (by decide) ?_
    refine lv_iconst (v := 2) hF.x hF.b dX6_bus_11 (by decide) ?_
    replace h := bd_some h
    obtain ⟨v4, σ5, hv4, h⟩ := h
    refine w_cSi (As := [.int a2, .int 0, .int 2]) (rest := []) hF hH hl (tX6_in l E hF.j _ _ _ _ _ hv4) tk_523 tk_524 tk_46 tk_525 rfl rfl hdX6_in ⟨Nat.le_of_ble_eq_true rfl, Nat.le_of_ble_eq_true rfl⟩ rfl rfl (Nat.le_of_ble_eq_true rfl) dX6_bus_12 (fun H locs hH => ?_)
    refine lv_if_ne (tgt := 21) hF.x hF.b dX6_bus_15 (by decide) (fun c6 => ?_) (fun c6 => ?_)
    · rw [if_neg c6] at h
      refine lv_aload_n hF.x hF.b dX6_bus_21 rfl (lv_at hl 0 rfl) ?_
      replace h := bd_some h
      obtain ⟨v7, σ8, hv7, h⟩ := h
      refine w_cVv (As := []) (rest := []) hF hH hl 0 (by decide) rfl rfl (tX6_layNow l E hF.j _ _ hv7) tk_554 tk_556 tk_11 tk_46 tk_557 rfl rfl hdX6_layNow ⟨Nat.le_of_ble_eq_true rfl, Nat.le_of_ble_eq_true rfl⟩ rfl rfl (Nat.le_of_ble_eq_true rfl) dX6_bus_22 (fun H locs hH => ?_)
      refine lv_iload_n hF.x hF.b dX6_bus_25 rfl (lv_at hl 2 rfl) ?_
      refine lv_if_ne (tgt := 37) hF.x hF.b dX6_bus_26 (by decide) (fun c9 => ?_) (fun c9 => ?_)
      · rw [if_neg c9] at h
        refine lv_iload_n hF.x hF.b dX6_bus_37 rfl (lv_at hl 2 rfl) ?_
        refine lv_iconst (v := 1) hF.x hF.b dX6_bus_38 (by decide) ?_
        refine lv_icmp_ne (tgt := 58) hF.x hF.b dX6_bus_39 (by decide) (fun c10 => ?_) (fun c10 => ?_)
        · rw [if_neg c10] at h
          refine lv_aload_n hF.x hF.b dX6_bus_58 rfl (lv_at hl 0 rfl) ?_
          refine gfM_0_6 hF hH tk_484 dX6_bus_59 ?_
          refine lv_aload_n hF.x hF.b dX6_bus_62 rfl (lv_at hl 0 rfl) ?_
          refine gfM_0_5 hF hH tk_483 dX6_bus_63 ?_
          refine lv_iload_n hF.x hF.b dX6_bus_66 rfl (lv_at hl 1 rfl) ?_
          refine alM_6 hF hH (gd_some h).1 dX6_bus_67 ?_
          replace h := (gd_some h).2
          refine alM_7 hF hH (gd_some h).1 dX6_bus_68 ?_
          replace h := (gd_some h).2
          refine lv_bipush (v := 100) hF.x hF.b dX6_bus_69 (by decide) ?_
          refine lv_iadd hF.x hF.b dX6_bus_71 ?_
          exact w72 _ _ _ _ _ h hH (lv_sub hl [0] rfl)
        · rw [if_pos c10] at h
          refine lv_aload_n hF.x hF.b dX6_bus_42 rfl (lv_at hl 0 rfl) ?_
          refine lv_iload_n hF.x hF.b dX6_bus_43 rfl (lv_at hl 1 rfl) ?_
          replace h := bd_some h
          obtain ⟨v11, σ12, hv11, h⟩ := h
          refine w_cVi (As := [.int a1]) (rest := []) hF hH hl 0 (by decide) rfl rfl (tX6_isLive l E hF.j _ _ _ hv11) tk_570 tk_572 tk_15 tk_46 tk_573 rfl rfl hdX6_isLive ⟨Nat.le_of_ble_eq_true rfl, Nat.le_of_ble_eq_true rfl⟩ rfl rfl (Nat.le_of_ble_eq_true rfl) dX6_bus_44 (fun H locs hH => ?_)
          refine lv_if_eq (tgt := 54) hF.x hF.b dX6_bus_47 (by decide) (fun c13 => ?_) (fun c13 => ?_)
          · rw [if_pos c13] at h
            refine lv_iconst (v := 0) hF.x hF.b dX6_bus_54 (by decide) ?_
            refine lv_goto (tgt := 72) hF.x hF.b dX6_bus_55 (by decide) ?_
            exact w72 _ _ _ _ _ h hH (lv_sub hl [0] rfl)
          · rw [if_neg c13] at h
            refine lv_iconst (v := 1) hF.x hF.b dX6_bus_50 (by decide) ?_
            refine lv_goto (tgt := 72) hF.x hF.b dX6_bus_51 (by decide) ?_
            exact w72 _ _ _ _ _ h hH (lv_sub hl [0] rfl)
      · rw [if_pos c9] at h
        refine lv_aload_n hF.x hF.b dX6_bus_29 rfl (lv_at hl 0 rfl) ?_
        refine lv_iload_n hF.x hF.b dX6_bus_30 rfl (lv_at hl 1 rfl) ?_
        replace h := bd_some h
        obtain ⟨v14, σ15, hv14, h⟩ := h
        refine w_cVi (As := [.int a1]) (rest := []) hF hH hl 0 (by decide) rfl rfl (tX6_islandSet l E hF.j _ _ _ hv14) tk_566 tk_568 tk_14 tk_46 tk_569 rfl rfl hdX6_islandSet ⟨Nat.le_of_ble_eq_true rfl, Nat.le_of_ble_eq_true rfl⟩ rfl rfl (Nat.le_of_ble_eq_true rfl) dX6_bus_31 (fun H locs hH => ?_)
        refine lv_goto (tgt := 72) hF.x hF.b dX6_bus_34 (by decide) ?_
        exact w72 _ _ _ _ _ h hH (lv_sub hl [0] rfl)
    · rw [if_pos c6] at h
      refine lv_bipush (v := (-2)) hF.x hF.b dX6_bus_18 (by decide) ?_
      exact hret _ _ _ _ _ _ hH h dX6_bus_20
  · rw [if_pos c3] at h
    refine lv_iconst (v := (-1)) hF.x hF.b dX6_bus_7 (by decide) ?_
    exact hret _ _ _ _ _ _ hH h dX6_bus_8
theorem hdX6_canStart : yX6_canStart.cls = RX6 ∧ yX6_canStart.cls ≠ "java/lang/invoke/MethodHandle" ∧ yX6_canStart.cls ≠ "java/lang/invoke/VarHandle" ∧ (parseMethodDescriptor yX6_canStart.desc).map (fun d => d.parameters.length) = some 1 := by decide +kernel
set_option maxHeartbeats 4000000 in
set_option maxRecDepth 100000 in
theorem tX6_canStart (l : Launch) (E : Ev) (hj : Inj kM E) (a1 : Int32) (σ : Sg) (r : Int32 × Sg) (h : fX6_canStart a1 σ = some r) : CI l yX6_canStart cX6_canStart 3 (some FieldType.boolean) (rmk 1 21) kM E [.ref (eA E 0), .int a1] σ r := by
  refine CI_z (lv := [(0, .ref (eA E 0)), (1, .int a1)]) (by decide) hj (Nat.le_of_ble_eq_true rfl) rfl (fun p e s m args below meth c ls Q hF hret hH hl => ?_)
  have w67 : ∀ (t0 : Int32) (σ : Sg) (H : Heap) (locs : List Loc) (ls : Array Slot), fX6_canStart_67 t0 σ = some r → HP kM E s σ H locs → lv_has ls 3 [(0, .ref (eA E 0))] → W p l e (rmk 1 21) s m args below meth c H locs 0 0 Q (F0 m 67 ls [.int t0]) := by
    intro t0 σ H locs ls h hH hl
    unfold fX6_canStart_67 at h
    exact hret _ _ _ _ _ _ hH h dX6_canStart_67
  have w62 : ∀ (σ : Sg) (H : Heap) (locs : List Loc) (ls : Array Slot), fX6_canStart_62 σ = some r → HP kM E s σ H locs → lv_has ls 3 [(0, .ref (eA E 0))] → W p l e (rmk 1 21) s m args below meth c H locs 0 0 Q (F0 m 62 ls []) := by
    intro σ H locs ls h hH hl
    unfold fX6_canStart_62 at h
    refine lv_iconst (v := 1) hF.x hF.b dX6_canStart_62 (by decide) ?_
    refine lv_goto (tgt := 67) hF.x hF.b dX6_canStart_63 (by decide) ?_
    exact w67 _ _ _ _ _ h hH (lv_sub hl [0] rfl)
  have w66 : ∀ (σ : Sg) (H : Heap) (locs : List Loc) (ls : Array Slot), fX6_canStart_66 σ = some r → HP kM E s σ H locs → lv_has ls 3 [(0, .ref (eA E 0))] → W p l e (rmk 1 21) s m args below meth c H locs 0 0 Q (F0 m 66 ls []) := by
    intro σ H locs ls h hH hl
    unfold fX6_canStart_66 at h
    refine lv_iconst (v := 0) hF.x hF.b dX6_canStart_66 (by decide) ?_
    exact w67 _ _ _ _ _ h hH (lv_sub hl [0] rfl)
  unfold fX6_canStart at h
  refine lv_aload_n hF.x hF.b dX6_canStart_0 rfl (lv_at hl 0 rfl) ?_
  refine gfM_0_0 hF hH tk_478 dX6_canStart_1 ?_
  refine lv_bipush (v := 24) hF.x hF.b dX6_canStart_4 (by decide) ?_
  refine lv_iload_n hF.x hF.b dX6_canStart_6 rfl (lv_at hl 1 rfl) ?_
  refine lv_iadd hF.x hF.b dX6_canStart_7 ?_
  refine alM_1 hF hH (gd_some h).1 dX6_canStart_8 ?_
  replace h := (gd_some h).2
  refine lv_topi (fun y1 ey1 => ?_)
  replace h := sv_at h ey1
  clear ey1
  refine lv_istore_n (lv' := [(2, .int y1), (0, .ref (eA E 0)), (1, .int a1)]) hF.x hF.b dX6_canStart_9 rfl hl (by decide) rfl (fun ls hl => ?_)
  refine lv_aload_n hF.x hF.b dX6_canStart_10 rfl (lv_at hl 1 rfl) ?_
  refine gfM_0_4 hF hH tk_482 dX6_canStart_11 ?_
  refine lv_iload_n hF.x hF.b dX6_canStart_14 rfl (lv_at hl 2 rfl) ?_
  refine alM_5 hF hH (gd_some h).1 dX6_canStart_15 ?_
  replace h := (gd_some h).2
  refine lv_if_ne (tgt := 66) hF.x hF.b dX6_canStart_16 (by decide) (fun c2 => ?_) (fun c2 => ?_)
  · rw [if_neg c2] at h
    exact w66 _ _ _ _ h hH (lv_sub hl [1] rfl)
  · rw [if_pos c2] at h
    refine lv_aload_n hF.x hF.b dX6_canStart_19 rfl (lv_at hl 1 rfl) ?_
    refine gfM_0_0 hF hH tk_478 dX6_canStart_20 ?_
    refine lv_bipush (v := 27) hF.x hF.b dX6_canStart_23 (by decide) ?_
    refine lv_iload_n hF.x hF.b dX6_canStart_25 rfl (lv_at hl 2 rfl) ?_
    refine lv_iadd hF.x hF.b dX6_canStart_26 ?_
    refine alM_1 hF hH (gd_some h).1 dX6_canStart_27 ?_
    replace h := (gd_some h).2
    refine lv_if_eq (tgt := 62) hF.x hF.b dX6_canStart_28 (by decide) (fun c3 => ?_) (fun c3 => ?_)
    · rw [if_pos c3] at h
      exact w62 _ _ _ _ h hH (lv_sub hl [1] rfl)
    · rw [if_neg c3] at h
      refine lv_aload_n hF.x hF.b dX6_canStart_31 rfl (lv_at hl 1 rfl) ?_
      refine lv_iload_n hF.x hF.b dX6_canStart_32 rfl (lv_at hl 0 rfl) ?_
      replace h := bd_some h
      obtain ⟨v4, σ5, hv4, h⟩ := h
      refine w_cVi (As := [.int y1]) (rest := []) hF hH hl 0 (by decide) rfl rfl (tX6_isLive l E hF.j _ _ _ hv4) tk_570 tk_572 tk_15 tk_46 tk_573 rfl rfl hdX6_isLive ⟨Nat.le_of_ble_eq_true rfl, Nat.le_of_ble_eq_true rfl⟩ rfl rfl (Nat.le_of_ble_eq_true rfl) dX6_canStart_33 (fun H locs hH => ?_)
      refine lv_if_eq (tgt := 66) hF.x hF.b dX6_canStart_36 (by decide) (fun c6 => ?_) (fun c6 => ?_)
      · rw [if_pos c6] at h
        exact w66 _ _ _ _ h hH (lv_sub hl [1] rfl)
      · rw [if_neg c6] at h
        refine lv_aload_n hF.x hF.b dX6_canStart_39 rfl (lv_at hl 1 rfl) ?_
        refine gfM_0_6 hF hH tk_484 dX6_canStart_40 ?_
        refine lv_aload_n hF.x hF.b dX6_canStart_43 rfl (lv_at hl 1 rfl) ?_
        refine gfM_0_5 hF hH tk_483 dX6_canStart_44 ?_
        refine lv_iload_n hF.x hF.b dX6_canStart_47 rfl (lv_at hl 0 rfl) ?_
        refine alM_6 hF hH (gd_some h).1 dX6_canStart_48 ?_
        replace h := (gd_some h).2
        refine alM_7 hF hH (gd_some h).1 dX6_canStart_49 ?_
        replace h := (gd_some h).2
        refine lv_aload_n hF.x hF.b dX6_canStart_50 rfl (lv_at hl 1 rfl) ?_
        refine gfM_0_0 hF hH tk_478 dX6_canStart_51 ?_
        refine lv_bipush (v := 27) hF.x hF.b dX6_canStart_54 (by decide) ?_
        refine lv_iload_n hF.x hF.b dX6_canStart_56 rfl (lv_at hl 2 rfl) ?_
        refine lv_iadd hF.x hF.b dX6_canStart_57 ?_
        refine alM_1 hF hH (gd_some h).1 dX6_canStart_58 ?_
        replace h := (gd_some h).2
        refine lv_icmp_lt (tgt := 66) hF.x hF.b dX6_canStart_59 (by decide) (fun c7 => ?_) (fun c7 => ?_)
        · rw [if_pos c7] at h
          exact w66 _ _ _ _ h hH (lv_sub hl [1] rfl)
        · rw [if_neg c7] at h
          exact w62 _ _ _ _ h hH (lv_sub hl [1] rfl)
theorem hdX6_canClose : yX6_canClose.cls = RX6 ∧ yX6_canClose.cls ≠ "java/lang/invoke/MethodHandle" ∧ yX6_canClose.cls ≠ "java/lang/invoke/VarHandle" ∧ (parseMethodDescriptor yX6_canClose.desc).map (fun d => d.parameters.length) = some 1 := by decide +kernel
set_option maxHeartbeats 4000000 in
set_option maxRecDepth 100000 in
theorem tX6_canClose (l : Launch) (E : Ev) (hj : Inj kM E) (a1 : Int32) (σ : Sg) (r : Int32 × Sg) (h : fX6_canClose a1 σ = some r) : CI l yX6_canClose cX6_canClose 5 (some FieldType.boolean) (rmk 0 0) kM E [.ref (eA E 0), .int a1] σ r := by
  refine CI_z (lv := [(0, .ref (eA E 0)), (1, .int a1)]) (by decide) hj (Nat.le_of_ble_eq_true rfl) rfl (fun p e s m args below meth c ls Q hF hret hH hl => ?_)
  have w104 : ∀ (t0 : Int32) (σ : Sg) (H : Heap) (locs : List Loc) (ls : Array Slot), fX6_canClose_104 t0 σ = some r → HP kM E s σ H locs → lv_has ls 5 [(0, .ref (eA E 0))] → W p l e (rmk 0 0) s m args below meth c H locs 0 0 Q (F0 m 104 ls [.int t0]) := by
    intro t0 σ H locs ls h hH hl
    unfold fX6_canClose_104 at h
    exact hret _ _ _ _ _ _ hH h dX6_canClose_104
  have w103 : ∀ (σ : Sg) (H : Heap) (locs : List Loc) (ls : Array Slot), fX6_canClose_103 σ = some r → HP kM E s σ H locs → lv_has ls 5 [(0, .ref (eA E 0))] → W p l e (rmk 0 0) s m args below meth c H locs 0 0 Q (F0 m 103 ls []) := by
    intro σ H locs ls h hH hl
    unfold fX6_canClose_103 at h
    refine lv_iconst (v := 0) hF.x hF.b dX6_canClose_103 (by decide) ?_
    exact w104 _ _ _ _ _ h hH (lv_sub hl [0] rfl)
  have w85 : ∀ (x1 x4 : Int32) (σ : Sg) (H : Heap) (locs : List Loc) (ls : Array Slot), fX6_canClose_85 x1 x4 σ = some r → HP kM E s σ H locs → lv_has ls 5 [(0, .ref (eA E 0)), (1, .int x1), (4, .int x4)] → W p l e (rmk 0 0) s m args below meth c H locs 0 0 Q (F0 m 85 ls []) := by
    intro x1 x4 σ H locs ls h hH hl
    unfold fX6_canClose_85 at h
    refine lv_iload hF.x hF.b dX6_canClose_85 (lv_at hl 2 rfl) ?_
    refine lv_aload_n hF.x hF.b dX6_canClose_87 rfl (lv_at hl 0 rfl) ?_
    refine gfM_0_0 hF hH tk_478 dX6_canClose_88 ?_
    refine lv_bipush (v := 12) hF.x hF.b dX6_canClose_91 (by decide) ?_
    refine lv_iload_n hF.x hF.b dX6_canClose_93 rfl (lv_at hl 1 rfl) ?_
    refine lv_iadd hF.x hF.b dX6_canClose_94 ?_
    refine alM_1 hF hH (gd_some h).1 dX6_canClose_95 ?_
    replace h := (gd_some h).2
    refine lv_icmp_lt (tgt := 103) hF.x hF.b dX6_canClose_96 (by decide) (fun c1 => ?_) (fun c1 => ?_)
    · rw [if_pos c1] at h
      exact w103 _ _ _ _ h hH (lv_sub hl [0] rfl)
    · rw [if_neg c1] at h
      refine lv_iconst (v := 1) hF.x hF.b dX6_canClose_99 (by decide) ?_
      refine lv_goto (tgt := 104) hF.x hF.b dX6_canClose_100 (by decide) ?_
      exact w104 _ _ _ _ _ h hH (lv_sub hl [0] rfl)
  have w56 : ∀ (x1 x2 x3 t0 : Int32) (σ : Sg) (H : Heap) (locs : List Loc) (ls : Array Slot), fX6_canClose_56 x1 x2 x3 t0 σ = some r → HP kM E s σ H locs → lv_has ls 5 [(0, .ref (eA E 0)), (1, .int x1), (2, .int x2), (3, .int x3)] → W p l e (rmk 0 0) s m args below meth c H locs 0 0 Q (F0 m 56 ls [.int t0]) := by
    intro x1 x2 x3 t0 σ H locs ls h hH hl
    unfold fX6_canClose_56 at h
    refine lv_istore (lv' := [(4, .int t0), (0, .ref (eA E 0)), (1, .int x1), (2, .int x2), (3, .int x3)]) hF.x hF.b dX6_canClose_56 hl (by decide) rfl (fun ls hl => ?_)
    refine lv_aload_n hF.x hF.b dX6_canClose_58 rfl (lv_at hl 1 rfl) ?_
    refine gfM_0_3 hF hH tk_481 dX6_canClose_59 ?_
    refine lv_iload_n hF.x hF.b dX6_canClose_62 rfl (lv_at hl 2 rfl) ?_
    refine alM_4 hF hH (gd_some h).1 dX6_canClose_63 ?_
    replace h := (gd_some h).2
    refine lv_if_ne (tgt := 103) hF.x hF.b dX6_canClose_64 (by decide) (fun c2 => ?_) (fun c2 => ?_)
    · rw [if_neg c2] at h
      exact w103 _ _ _ _ h hH (lv_sub hl [1] rfl)
    · rw [if_pos c2] at h
      refine lv_aload_n hF.x hF.b dX6_canClose_67 rfl (lv_at hl 1 rfl) ?_
      refine gfM_0_7 hF hH tk_485 dX6_canClose_68 ?_
      refine lv_iload_n hF.x hF.b dX6_canClose_71 rfl (lv_at hl 3 rfl) ?_
      refine alM_8 hF hH (gd_some h).1 dX6_canClose_72 ?_
      replace h := (gd_some h).2
      refine lv_if_ne (tgt := 85) hF.x hF.b dX6_canClose_73 (by decide) (fun c3 => ?_) (fun c3 => ?_)
      · rw [if_neg c3] at h
        exact w85 _ _ _ _ _ _ h hH (lv_sub hl [1, 2, 0] rfl)
      · rw [if_pos c3] at h
        refine lv_aload_n hF.x hF.b dX6_canClose_76 rfl (lv_at hl 1 rfl) ?_
        refine gfM_0_7 hF hH tk_485 dX6_canClose_77 ?_
        refine lv_iload_n hF.x hF.b dX6_canClose_80 rfl (lv_at hl 4 rfl) ?_
        refine alM_8 hF hH (gd_some h).1 dX6_canClose_81 ?_
        replace h := (gd_some h).2
        refine lv_if_eq (tgt := 103) hF.x hF.b dX6_canClose_82 (by decide) (fun c4 => ?_) (fun c4 => ?_)
        · rw [if_pos c4] at h
          exact w103 _ _ _ _ h hH (lv_sub hl [1] rfl)
        · rw [if_neg c4] at h
          exact w85 _ _ _ _ _ _ h hH (lv_sub hl [1, 2, 0] rfl)
  unfold fX6_canClose at h
  refine lv_aload_n hF.x hF.b dX6_canClose_0 rfl (lv_at hl 0 rfl) ?_
  refine gfM_0_5 hF hH tk_483 dX6_canClose_1 ?_
  refine lv_aload_n hF.x hF.b dX6_canClose_4 rfl (lv_at hl 0 rfl) ?_
  refine gfM_0_0 hF hH tk_478 dX6_canClose_5 ?_
  refine lv_iconst (v := 0) hF.x hF.b dX6_canClose_8 (by decide) ?_
  refine lv_iload_n hF.x hF.b dX6_canClose_9 rfl (lv_at hl 1 rfl) ?_
  refine lv_iadd hF.x hF.b dX6_canClose_10 ?_
  refine alM_1 hF hH (gd_some h).1 dX6_canClose_11 ?_
  replace h := (gd_some h).2
  refine alM_6 hF hH (gd_some h).1 dX6_canClose_12 ?_
  replace h := (gd_some h).2
  refine lv_topi (fun y5 ey5 => ?_)
  replace h := sv_at h ey5
  clear ey5
  refine lv_istore_n (lv' := [(2, .int y5), (0, .ref (eA E 0)), (1, .int a1)]) hF.x hF.b dX6_canClose_13 rfl hl (by decide) rfl (fun ls hl => ?_)
  refine lv_aload_n hF.x hF.b dX6_canClose_14 rfl (lv_at hl 1 rfl) ?_
  refine gfM_0_5 hF hH tk_483 dX6_canClose_15 ?_
  refine lv_aload_n hF.x hF.b dX6_canClose_18 rfl (lv_at hl 1 rfl) ?_
  refine gfM_0_0 hF hH tk_478 dX6_canClose_19 ?_
  refine lv_bipush (v := 6) hF.x hF.b dX6_canClose_22 (by decide) ?_
  refine lv_iload_n hF.x hF.b dX6_canClose_24 rfl (lv_at hl 2 rfl) ?_
  refine lv_iadd hF.x hF.b dX6_canClose_25 ?_
  refine alM_1 hF hH (gd_some h).1 dX6_canClose_26 ?_
  replace h := (gd_some h).2
  refine alM_6 hF hH (gd_some h).1 dX6_canClose_27 ?_
  replace h := (gd_some h).2
  refine lv_topi (fun y6 ey6 => ?_)
  replace h := sv_at h ey6
  clear ey6
  refine lv_istore_n (lv' := [(3, .int y6), (2, .int y5), (0, .ref (eA E 0)), (1, .int a1)]) hF.x hF.b dX6_canClose_28 rfl hl (by decide) rfl (fun ls hl => ?_)
  refine lv_iload_n hF.x hF.b dX6_canClose_29 rfl (lv_at hl 1 rfl) ?_
  refine lv_iload_n hF.x hF.b dX6_canClose_30 rfl (lv_at hl 0 rfl) ?_
  refine lv_icmp_ne (tgt := 43) hF.x hF.b dX6_canClose_31 (by decide) (fun c7 => ?_) (fun c7 => ?_)
  · rw [if_neg c7] at h
    refine lv_aload_n hF.x hF.b dX6_canClose_43 rfl (lv_at hl 2 rfl) ?_
    refine gfM_0_6 hF hH tk_484 dX6_canClose_44 ?_
    refine lv_iload_n hF.x hF.b dX6_canClose_47 rfl (lv_at hl 1 rfl) ?_
    refine alM_7 hF hH (gd_some h).1 dX6_canClose_48 ?_
    replace h := (gd_some h).2
    refine lv_aload_n hF.x hF.b dX6_canClose_49 rfl (lv_at hl 2 rfl) ?_
    refine gfM_0_6 hF hH tk_484 dX6_canClose_50 ?_
    refine lv_iload_n hF.x hF.b dX6_canClose_53 rfl (lv_at hl 0 rfl) ?_
    refine alM_7 hF hH (gd_some h).1 dX6_canClose_54 ?_
    replace h := (gd_some h).2
    refine lv_iadd hF.x hF.b dX6_canClose_55 ?_
    exact w56 _ _ _ _ _ _ _ _ h hH (lv_sub hl [2, 3, 1, 0] rfl)
  · rw [if_pos c7] at h
    refine lv_aload_n hF.x hF.b dX6_canClose_34 rfl (lv_at hl 2 rfl) ?_
    refine gfM_0_6 hF hH tk_484 dX6_canClose_35 ?_
    refine lv_iload_n hF.x hF.b dX6_canClose_38 rfl (lv_at hl 1 rfl) ?_
    refine alM_7 hF hH (gd_some h).1 dX6_canClose_39 ?_
    replace h := (gd_some h).2
    refine lv_goto (tgt := 56) hF.x hF.b dX6_canClose_40 (by decide) ?_
    exact w56 _ _ _ _ _ _ _ _ h hH (lv_sub hl [2, 3, 1, 0] rfl)
