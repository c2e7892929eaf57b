theorem hdX1_hasLine : yX1_hasLine.cls = RX1 ∧ yX1_hasLine.cls ≠ "java/lang/invoke/MethodHandle" ∧ yX1_hasLine.cls ≠ "java/lang/invoke/VarHandle" ∧ (parseMethodDescriptor yX1_hasLine.desc).map (fun d => d.parameters.length) = some 1 := by decide +kernel
set_option maxHeartbeats 4000000 in
set_option maxRecDepth 100000 in
theorem tX1_hasLine (l : Launch) (E : Ev) (hj : Inj kC E) (a1 : Int32) (σ : Sg) (r : Int32 × Sg) (h : fX1_hasLine a1 σ = some r) : CI l yX1_hasLine cX1_hasLine 2 (some FieldType.boolean) (rmk 0 0) kC E [.ref (eA E 1), .int a1] σ r := by
  refine CI_z (lv := [(0, .ref (eA E 1)), (1, .int a1)]) (by decide) hj (Nat.le_of_ble_eq_true rfl) rfl (fun p e s m args below meth c ls Q hF hret hH hl => ?_)
  have w17 : ∀ (t0 : Int32) (σ : Sg) (H : Heap) (locs : List Loc) (ls : Array Slot), fX1_hasLine_17 t0 σ = some r → HP kC E s σ H locs → lv_has ls 2 [(0, .ref (eA E 1))] → W p l e (rmk 0 0) s m args below meth c H locs 0 0 Q (F0 m 17 ls [.int t0]) := by
    intro t0 σ H locs ls h hH hl
    unfold fX1_hasLine_17 at h
    exact hret _ _ _ _ _ _ hH h dX1_hasLine_17
  have w16 : ∀ (σ : Sg) (H : Heap) (locs : List Loc) (ls : Array Slot), fX1_hasLine_16 σ = some r → HP kC E s σ H locs → lv_has ls 2 [(0, .ref (eA E 1))] → W p l e (rmk 0 0) s m args below meth c H locs 0 0 Q (F0 m 16 ls []) := by
    intro σ H locs ls h hH hl
    unfold fX1_hasLine_16 at h
    refine lv_iconst (v := 0) hF.x hF.b dX1_hasLine_16 (by decide) ?_
    exact w17 _ _ _ _ _ h hH (lv_sub hl [0] rfl)
  unfold fX1_hasLine at h
  refine lv_iload_n hF.x hF.b dX1_hasLine_0 rfl (lv_at hl 1 rfl) ?_
  refine lv_if_lt (tgt := 16) hF.x hF.b dX1_hasLine_1 (by decide) (fun c1 => ?_) (fun c1 => ?_)
  · rw [if_pos c1] at h
    exact w16 _ _ _ _ h hH (lv_sub hl [0] rfl)
  · rw [if_neg c1] at h
    refine lv_iload_n hF.x hF.b dX1_hasLine_4 rfl (lv_at hl 1 rfl) ?_
    refine lv_aload_n hF.x hF.b dX1_hasLine_5 rfl (lv_at hl 0 rfl) ?_
    refine gfC_1_0 hF hH tk_65 dX1_hasLine_6 ?_
    refine lv_icmp_ge (tgt := 16) hF.x hF.b dX1_hasLine_9 (by decide) (fun c2 => ?_) (fun c2 => ?_)
    · rw [if_pos c2] at h
      exact w16 _ _ _ _ h hH (lv_sub hl [0] rfl)
    · rw [if_neg c2] at h
      refine lv_iconst (v := 1) hF.x hF.b dX1_hasLine_12 (by decide) ?_
      refine lv_goto (tgt := 17) hF.x hF.b dX1_hasLine_13 (by decide) ?_
      exact w17 _ _ _ _ _ h hH (lv_sub hl [0] rfl)
theorem hdX1_hasMachine : yX1_hasMachine.cls = RX1 ∧ yX1_hasMachine.cls ≠ "java/lang/invoke/MethodHandle" ∧ yX1_hasMachine.cls ≠ "java/lang/invoke/VarHandle" ∧ (parseMethodDescriptor yX1_hasMachine.desc).map (fun d => d.parameters.length) = some 1 := by decide +kernel
set_option maxHeartbeats 4000000 in
set_option maxRecDepth 100000 in
theorem tX1_hasMachine (l : Launch) (E : Ev) (hj : Inj kC E) (a1 : Int32) (σ : Sg) (r : Int32 × Sg) (h : fX1_hasMachine a1 σ = some r) : CI l yX1_hasMachine cX1_hasMachine 2 (some FieldType.boolean) (rmk 0 0) kC E [.ref (eA E 1), .int a1] σ r := by
  refine CI_z (lv := [(0, .ref (eA E 1)), (1, .int a1)]) (by decide) hj (Nat.le_of_ble_eq_true rfl) rfl (fun p e s m args below meth c ls Q hF hret hH hl => ?_)
  have w17 : ∀ (t0 : Int32) (σ : Sg) (H : Heap) (locs : List Loc) (ls : Array Slot), fX1_hasMachine_17 t0 σ = some r → HP kC E s σ H locs → lv_has ls 2 [(0, .ref (eA E 1))] → W p l e (rmk 0 0) s m args below meth c H locs 0 0 Q (F0 m 17 ls [.int t0]) := by
    intro t0 σ H locs ls h hH hl
    unfold fX1_hasMachine_17 at h
    exact hret _ _ _ _ _ _ hH h dX1_hasMachine_17
  have w16 : ∀ (σ : Sg) (H : Heap) (locs : List Loc) (ls : Array Slot), fX1_hasMachine_16 σ = some r → HP kC E s σ H locs → lv_has ls 2 [(0, .ref (eA E 1))] → W p l e (rmk 0 0) s m args below meth c H locs 0 0 Q (F0 m 16 ls []) := by
    intro σ H locs ls h hH hl
    unfold fX1_hasMachine_16 at h
    refine lv_iconst (v := 0) hF.x hF.b dX1_hasMachine_16 (by decide) ?_
    exact w17 _ _ _ _ _ h hH (lv_sub hl [0] rfl)
  unfold fX1_hasMachine at h
  refine lv_iload_n hF.x hF.b dX1_hasMachine_0 rfl (lv_at hl 1 rfl) ?_
  refine lv_if_lt (tgt := 16) hF.x hF.b dX1_hasMachine_1 (by decide) (fun c1 => ?_) (fun c1 => ?_)
  · rw [if_pos c1] at h
    exact w16 _ _ _ _ h hH (lv_sub hl [0] rfl)
  · rw [if_neg c1] at h
    refine lv_iload_n hF.x hF.b dX1_hasMachine_4 rfl (lv_at hl 1 rfl) ?_
    refine lv_aload_n hF.x hF.b dX1_hasMachine_5 rfl (lv_at hl 0 rfl) ?_
    refine gfC_1_4 hF hH tk_80 dX1_hasMachine_6 ?_
    refine lv_icmp_ge (tgt := 16) hF.x hF.b dX1_hasMachine_9 (by decide) (fun c2 => ?_) (fun c2 => ?_)
    · rw [if_pos c2] at h
      exact w16 _ _ _ _ h hH (lv_sub hl [0] rfl)
    · rw [if_neg c2] at h
      refine lv_iconst (v := 1) hF.x hF.b dX1_hasMachine_12 (by decide) ?_
      refine lv_goto (tgt := 17) hF.x hF.b dX1_hasMachine_13 (by decide) ?_
      exact w17 _ _ _ _ _ h hH (lv_sub hl [0] rfl)
theorem hdX1_addLine : yX1_addLine.cls = RX1 ∧ yX1_addLine.cls ≠ "java/lang/invoke/MethodHandle" ∧ yX1_addLine.cls ≠ "java/lang/invoke/VarHandle" ∧ (parseMethodDescriptor yX1_addLine.desc).map (fun d => d.parameters.length) = some 3 := by decide +kernel
set_option maxHeartbeats 4000000 in
set_option maxRecDepth 100000 in
theorem tX1_addLine (l : Launch) (E : Ev) (hj : Inj kC E) (a1 : Int32) (a2 : Int32) (a3 : Int32) (σ : Sg) (r : Int32 × Sg) (h : fX1_addLine a1 a2 a3 σ = some r) : CI l yX1_addLine cX1_addLine 5 (some FieldType.int) (rmk 0 0) kC E [.ref (eA E 1), .int a1, .int a2, .int a3] σ r := by
  refine CI_i (lv := [(0, .ref (eA E 1)), (1, .int a1), (2, .int a2), (3, .int a3)]) (by decide) hj (Nat.le_of_ble_eq_true rfl) rfl (fun p e s m args below meth c ls Q hF hret hH hl => ?_)
  unfold fX1_addLine at h
  refine lv_aload_n hF.x hF.b dX1_addLine_0 rfl (lv_at hl 0 rfl) ?_
  refine gfC_1_0 hF hH tk_65 dX1_addLine_1 ?_
  refine lv_topi (fun y1 ey1 => ?_)
  replace h := sv_at h ey1
  clear ey1
  refine lv_istore (lv' := [(4, .int y1), (0, .ref (eA E 1)), (1, .int a1), (2, .int a2), (3, .int a3)]) hF.x hF.b dX1_addLine_4 hl (by decide) rfl (fun ls hl => ?_)
  refine lv_aload_n hF.x hF.b dX1_addLine_6 rfl (lv_at hl 1 rfl) ?_
  refine gfC_1_1 hF hH tk_68 dX1_addLine_7 ?_
  refine lv_iload hF.x hF.b dX1_addLine_10 (lv_at hl 0 rfl) ?_
  refine lv_iload_n hF.x hF.b dX1_addLine_12 rfl (lv_at hl 2 rfl) ?_
  refine asC_2 hF hH (gd_some h).1 dX1_addLine_13 (fun σ2 H locs eσ2 hH => ?_)
  replace h := sv_at (gd_some h).2 eσ2
  clear eσ2
  refine lv_aload_n hF.x hF.b dX1_addLine_14 rfl (lv_at hl 1 rfl) ?_
  refine gfC_1_2 hF hH tk_72 dX1_addLine_15 ?_
  refine lv_iload hF.x hF.b dX1_addLine_18 (lv_at hl 0 rfl) ?_
  refine lv_iload_n hF.x hF.b dX1_addLine_20 rfl (lv_at hl 3 rfl) ?_
  refine asC_3 hF hH (gd_some h).1 dX1_addLine_21 (fun σ3 H locs eσ3 hH => ?_)
  replace h := sv_at (gd_some h).2 eσ3
  clear eσ3
  refine lv_aload_n hF.x hF.b dX1_addLine_22 rfl (lv_at hl 1 rfl) ?_
  refine gfC_1_3 hF hH tk_76 dX1_addLine_23 ?_
  refine lv_iload hF.x hF.b dX1_addLine_26 (lv_at hl 0 rfl) ?_
  refine lv_iload_n hF.x hF.b dX1_addLine_28 rfl (lv_at hl 4 rfl) ?_
  refine asC_4 hF hH (gd_some h).1 dX1_addLine_29 (fun σ4 H locs eσ4 hH => ?_)
  replace h := sv_at (gd_some h).2 eσ4
  clear eσ4
  refine lv_aload_n hF.x hF.b dX1_addLine_30 rfl (lv_at hl 1 rfl) ?_
  refine lv_dup hF.x hF.b dX1_addLine_31 rfl ?_
  refine gfC_1_0 hF hH tk_65 dX1_addLine_32 ?_
  refine lv_iconst (v := 1) hF.x hF.b dX1_addLine_35 (by decide) ?_
  refine lv_iadd hF.x hF.b dX1_addLine_36 ?_
  refine pfC_1_0 hF hH tk_65 dX1_addLine_37 (fun σ5 H locs eσ5 hH => ?_)
  replace h := sv_at h eσ5
  clear eσ5
  refine lv_iload hF.x hF.b dX1_addLine_40 (lv_at hl 0 rfl) ?_
  exact hret _ _ _ _ _ _ hH h dX1_addLine_42
theorem hdX1_addMachine : yX1_addMachine.cls = RX1 ∧ yX1_addMachine.cls ≠ "java/lang/invoke/MethodHandle" ∧ yX1_addMachine.cls ≠ "java/lang/invoke/VarHandle" ∧ (parseMethodDescriptor yX1_addMachine.desc).map (fun d => d.parameters.length) = some 4 := by decide +kernel
set_option maxHeartbeats 4000000 in
set_option maxRecDepth 100000 in
theorem tX1_addMachine (l : Launch) (E : Ev) (hj : Inj kC E) (a1 : Int32) (a2 : Int32) (a3 : Int32) (a4 : Int32) (σ : Sg) (r : Int32 × Sg) (h : fX1_addMachine a1 a2 a3 a4 σ = some r) : CI l yX1_addMachine cX1_addMachine 6 (some FieldType.int) (rmk 0 0) kC E [.ref (eA E 1), .int a1, .int a2, .int a3, .int a4] σ r := by
  refine CI_i (lv := [(0, .ref (eA E 1)), (1, .int a1), (2, .int a2), (3, .int a3), (4, .int a4)]) (by decide) hj (Nat.le_of_ble_eq_true rfl) rfl (fun p e s m args below meth c ls Q hF hret hH hl => ?_)
  unfold fX1_addMachine at h
  refine lv_aload_n hF.x hF.b dX1_addMachine_0 rfl (lv_at hl 0 rfl) ?_
  refine gfC_1_4 hF hH tk_80 dX1_addMachine_1 ?_
  refine lv_topi (fun y1 ey1 => ?_)
  replace h := sv_at h ey1
  clear ey1
  refine lv_istore (lv' := [(5, .int y1), (0, .ref (eA E 1)), (1, .int a1), (2, .int a2), (3, .int a3), (4, .int a4)]) hF.x hF.b dX1_addMachine_4 hl (by decide) rfl (fun ls hl => ?_)
  refine lv_aload_n hF.x hF.b dX1_addMachine_6 rfl (lv_at hl 1 rfl) ?_
  refine gfC_1_5 hF hH tk_82 dX1_addMachine_7 ?_
  refine lv_iload hF.x hF.b dX1_addMachine_10 (lv_at hl 0 rfl) ?_
  refine lv_iload_n hF.x hF.b dX1_addMachine_12 rfl (lv_at hl 2 rfl) ?_
  refine asC_5 hF hH (gd_some h).1 dX1_addMachine_13 (fun σ2 H locs eσ2 hH => ?_)
  replace h := sv_at (gd_some h).2 eσ2
  clear eσ2
  refine lv_aload_n hF.x hF.b dX1_addMachine_14 rfl (lv_at hl 1 rfl) ?_
  refine gfC_1_6 hF hH tk_85 dX1_addMachine_15 ?_
  refine lv_iload hF.x hF.b dX1_addMachine_18 (lv_at hl 0 rfl) ?_
  refine lv_iload_n hF.x hF.b dX1_addMachine_20 rfl (lv_at hl 3 rfl) ?_
  refine asC_6 hF hH (gd_some h).1 dX1_addMachine_21 (fun σ3 H locs eσ3 hH => ?_)
  replace h := sv_at (gd_some h).2 eσ3
  clear eσ3
  refine lv_aload_n hF.x hF.b dX1_addMachine_22 rfl (lv_at hl 1 rfl) ?_
  refine gfC_1_7 hF hH tk_88 dX1_addMachine_23 ?_
  refine lv_iload hF.x hF.b dX1_addMachine_26 (lv_at hl 0 rfl) ?_
  refine lv_iload_n hF.x hF.b dX1_addMachine_28 rfl (lv_at hl 4 rfl) ?_
  refine asC_7 hF hH (gd_some h).1 dX1_addMachine_29 (fun σ4 H locs eσ4 hH => ?_)
  replace h := sv_at (gd_some h).2 eσ4
  clear eσ4
  refine lv_aload_n hF.x hF.b dX1_addMachine_30 rfl (lv_at hl 1 rfl) ?_
  refine gfC_1_8 hF hH tk_91 dX1_addMachine_31 ?_
  refine lv_iload hF.x hF.b dX1_addMachine_34 (lv_at hl 0 rfl) ?_
  refine lv_iload hF.x hF.b dX1_addMachine_36 (lv_at hl 5 rfl) ?_
  refine asC_8 hF hH (gd_some h).1 dX1_addMachine_38 (fun σ5 H locs eσ5 hH => ?_)
  replace h := sv_at (gd_some h).2 eσ5
  clear eσ5
  refine lv_aload_n hF.x hF.b dX1_addMachine_39 rfl (lv_at hl 1 rfl) ?_
  refine lv_dup hF.x hF.b dX1_addMachine_40 rfl ?_
  refine gfC_1_4 hF hH tk_80 dX1_addMachine_41 ?_
  refine lv_iconst (v := 1) hF.x hF.b dX1_addMachine_44 (by decide) ?_
  refine lv_iadd hF.x hF.b dX1_addMachine_45 ?_
  refine pfC_1_4 hF hH tk_80 dX1_addMachine_46 (fun σ6 H locs eσ6 hH => ?_)
  replace h := sv_at h eσ6
  clear eσ6
  refine lv_iload hF.x hF.b dX1_addMachine_49 (lv_at hl 0 rfl) ?_
  exact hret _ _ _ _ _ _ hH h dX1_addMachine_51
theorem hdX1_copyFrom : yX1_copyFrom.cls = RX1 ∧ yX1_copyFrom.cls ≠ "java/lang/invoke/MethodHandle" ∧ yX1_copyFrom.cls ≠ "java/lang/invoke/VarHandle" ∧ (parseMethodDescriptor yX1_copyFrom.desc).map (fun d => d.parameters.length) = some 1 := by decide +kernel
set_option maxHeartbeats 4000000 in
set_option maxRecDepth 100000 in
theorem tX1_copyFrom_18_1 (l : Launch) (E : Ev) (hj : Inj kC E) (σ : Sg) (r : Int32 × Sg) (h : fX1_copyFrom_18_1 σ = some r) : CV l yX1_copyFrom cX1_copyFrom 2 (rmk 1 40) kC E [.ref (eA E 18), .ref (eA E 1)] σ r := by
  refine CV_v (lv := [(0, .ref (eA E 18)), (1, .ref (eA E 1))]) (by decide) hj (Nat.le_of_ble_eq_true rfl) rfl (fun p e s m args below meth c ls Q hF hret hH hl => ?_)
  unfold fX1_copyFrom_18_1 at h
  refine lv_aload_n hF.x hF.b dX1_copyFrom_0 rfl (lv_at hl 0 rfl) ?_
  refine lv_aload_n hF.x hF.b dX1_copyFrom_1 rfl (lv_at hl 1 rfl) ?_
  refine gfC_1_0 hF hH tk_65 dX1_copyFrom_2 ?_
  refine pfC_18_0 hF hH tk_65 dX1_copyFrom_5 (fun σ1 H locs eσ1 hH => ?_)
  replace h := sv_at h eσ1
  clear eσ1
  refine lv_aload_n hF.x hF.b dX1_copyFrom_8 rfl (lv_at hl 0 rfl) ?_
  refine lv_aload_n hF.x hF.b dX1_copyFrom_9 rfl (lv_at hl 1 rfl) ?_
  refine gfC_1_4 hF hH tk_80 dX1_copyFrom_10 ?_
  refine pfC_18_4 hF hH tk_80 dX1_copyFrom_13 (fun σ2 H locs eσ2 hH => ?_)
  replace h := sv_at h eσ2
  clear eσ2
  refine lv_aload_n hF.x hF.b dX1_copyFrom_16 rfl (lv_at hl 0 rfl) ?_
  refine lv_aload_n hF.x hF.b dX1_copyFrom_17 rfl (lv_at hl 1 rfl) ?_
  refine gfC_1_9 hF hH tk_94 dX1_copyFrom_18 ?_
  refine pfC_18_9 hF hH tk_94 dX1_copyFrom_21 (fun σ3 H locs eσ3 hH => ?_)
  replace h := sv_at h eσ3
  clear eσ3
  refine lv_aload_n hF.x hF.b dX1_copyFrom_24 rfl (lv_at hl 0 rfl) ?_
  refine lv_aload_n hF.x hF.b dX1_copyFrom_25 rfl (lv_at hl 1 rfl) ?_
  refine gfC_1_10 hF hH tk_97 dX1_copyFrom_26 ?_
  refine pfC_18_10 hF hH tk_97 dX1_copyFrom_29 (fun σ4 H locs eσ4 hH => ?_)
  replace h := sv_at h eσ4
  clear eσ4
  refine lv_aload_n hF.x hF.b dX1_copyFrom_32 rfl (lv_at hl 1 rfl) ?_
  refine gfC_1_1 hF hH tk_68 dX1_copyFrom_33 ?_
  refine lv_iconst (v := 0) hF.x hF.b dX1_copyFrom_36 (by decide) ?_
  refine lv_aload_n hF.x hF.b dX1_copyFrom_37 rfl (lv_at hl 0 rfl) ?_
  refine gfC_18_1 hF hH tk_68 dX1_copyFrom_38 ?_
  refine lv_iconst (v := 0) hF.x hF.b dX1_copyFrom_41 (by decide) ?_
  refine lv_bipush (v := 6) hF.x hF.b dX1_copyFrom_42 (by decide) ?_
  refine w_cpy (n := 6) hF hH hl 2 19 (by decide) (by decide) (fun _ => rfl) (fun _ => rfl) tk_455 tk_457 tk_456 tk_50 (by decide) (by decide) (by decide) (Nat.le_of_ble_eq_true rfl) (by decide +kernel) dX1_copyFrom_44 (fun σ5 H locs eσ5 hH => ?_)
  replace h := sv_at h eσ5
  clear eσ5
  refine lv_aload_n hF.x hF.b dX1_copyFrom_47 rfl (lv_at hl 1 rfl) ?_
  refine gfC_1_2 hF hH tk_72 dX1_copyFrom_48 ?_
  refine lv_iconst (v := 0) hF.x hF.b dX1_copyFrom_51 (by decide) ?_
  refine lv_aload_n hF.x hF.b dX1_copyFrom_52 rfl (lv_at hl 0 rfl) ?_
  refine gfC_18_2 hF hH tk_72 dX1_copyFrom_53 ?_
  refine lv_iconst (v := 0) hF.x hF.b dX1_copyFrom_56 (by decide) ?_
  refine lv_bipush (v := 6) hF.x hF.b dX1_copyFrom_57 (by decide) ?_
  refine w_cpy (n := 6) hF hH hl 3 20 (by decide) (by decide) (fun _ => rfl) (fun _ => rfl) tk_455 tk_457 tk_456 tk_50 (by decide) (by decide) (by decide) (Nat.le_of_ble_eq_true rfl) (by decide +kernel) dX1_copyFrom_59 (fun σ6 H locs eσ6 hH => ?_)
  replace h := sv_at h eσ6
  clear eσ6
  refine lv_aload_n hF.x hF.b dX1_copyFrom_62 rfl (lv_at hl 1 rfl) ?_
  refine gfC_1_3 hF hH tk_76 dX1_copyFrom_63 ?_
  refine lv_iconst (v := 0) hF.x hF.b dX1_copyFrom_66 (by decide) ?_
  refine lv_aload_n hF.x hF.b dX1_copyFrom_67 rfl (lv_at hl 0 rfl) ?_
  refine gfC_18_3 hF hH tk_76 dX1_copyFrom_68 ?_
  refine lv_iconst (v := 0) hF.x hF.b dX1_copyFrom_71 (by decide) ?_
  refine lv_bipush (v := 6) hF.x hF.b dX1_copyFrom_72 (by decide) ?_
  refine w_cpy (n := 6) hF hH hl 4 21 (by decide) (by decide) (fun _ => rfl) (fun _ => rfl) tk_455 tk_457 tk_456 tk_50 (by decide) (by decide) (by decide) (Nat.le_of_ble_eq_true rfl) (by decide +kernel) dX1_copyFrom_74 (fun σ7 H locs eσ7 hH => ?_)
  replace h := sv_at h eσ7
  clear eσ7
  refine lv_aload_n hF.x hF.b dX1_copyFrom_77 rfl (lv_at hl 1 rfl) ?_
  refine gfC_1_5 hF hH tk_82 dX1_copyFrom_78 ?_
  refine lv_iconst (v := 0) hF.x hF.b dX1_copyFrom_81 (by decide) ?_
  refine lv_aload_n hF.x hF.b dX1_copyFrom_82 rfl (lv_at hl 0 rfl) ?_
  refine gfC_18_5 hF hH tk_82 dX1_copyFrom_83 ?_
  refine lv_iconst (v := 0) hF.x hF.b dX1_copyFrom_86 (by decide) ?_
  refine lv_iconst (v := 3) hF.x hF.b dX1_copyFrom_87 (by decide) ?_
  refine w_cpy (n := 3) hF hH hl 5 22 (by decide) (by decide) (fun _ => rfl) (fun _ => rfl) tk_455 tk_457 tk_456 tk_50 (by decide) (by decide) (by decide) (Nat.le_of_ble_eq_true rfl) (by decide +kernel) dX1_copyFrom_88 (fun σ8 H locs eσ8 hH => ?_)
  replace h := sv_at h eσ8
  clear eσ8
  refine lv_aload_n hF.x hF.b dX1_copyFrom_91 rfl (lv_at hl 1 rfl) ?_
  refine gfC_1_6 hF hH tk_85 dX1_copyFrom_92 ?_
  refine lv_iconst (v := 0) hF.x hF.b dX1_copyFrom_95 (by decide) ?_
  refine lv_aload_n hF.x hF.b dX1_copyFrom_96 rfl (lv_at hl 0 rfl) ?_
  refine gfC_18_6 hF hH tk_85 dX1_copyFrom_97 ?_
  refine lv_iconst (v := 0) hF.x hF.b dX1_copyFrom_100 (by decide) ?_
  refine lv_iconst (v := 3) hF.x hF.b dX1_copyFrom_101 (by decide) ?_
  refine w_cpy (n := 3) hF hH hl 6 23 (by decide) (by decide) (fun _ => rfl) (fun _ => rfl) tk_455 tk_457 tk_456 tk_50 (by decide) (by decide) (by decide) (Nat.le_of_ble_eq_true rfl) (by decide +kernel) dX1_copyFrom_102 (fun σ9 H locs eσ9 hH => ?_)
  replace h := sv_at h eσ9
  clear eσ9
  refine lv_aload_n hF.x hF.b dX1_copyFrom_105 rfl (lv_at hl 1 rfl) ?_
  refine gfC_1_7 hF hH tk_88 dX1_copyFrom_106 ?_
  refine lv_iconst (v := 0) hF.x hF.b dX1_copyFrom_109 (by decide) ?_
  refine lv_aload_n hF.x hF.b dX1_copyFrom_110 rfl (lv_at hl 0 rfl) ?_
  refine gfC_18_7 hF hH tk_88 dX1_copyFrom_111 ?_
  refine lv_iconst (v := 0) hF.x hF.b dX1_copyFrom_114 (by decide) ?_
  refine lv_iconst (v := 3) hF.x hF.b dX1_copyFrom_115 (by decide) ?_
  refine w_cpy (n := 3) hF hH hl 7 24 (by decide) (by decide) (fun _ => rfl) (fun _ => rfl) tk_455 tk_457 tk_456 tk_50 (by decide) (by decide) (by decide) (Nat.le_of_ble_eq_true rfl) (by decide +kernel) dX1_copyFrom_116 (fun σ10 H locs eσ10 hH => ?_)
  replace h := sv_at h eσ10
  clear eσ10
  refine lv_aload_n hF.x hF.b dX1_copyFrom_119 rfl (lv_at hl 1 rfl) ?_
  refine gfC_1_8 hF hH tk_91 dX1_copyFrom_120 ?_
  refine lv_iconst (v := 0) hF.x hF.b dX1_copyFrom_123 (by decide) ?_
  refine lv_aload_n hF.x hF.b dX1_copyFrom_124 rfl (lv_at hl 0 rfl) ?_
  refine gfC_18_8 hF hH tk_91 dX1_copyFrom_125 ?_
  refine lv_iconst (v := 0) hF.x hF.b dX1_copyFrom_128 (by decide) ?_
  refine lv_iconst (v := 3) hF.x hF.b dX1_copyFrom_129 (by decide) ?_
  refine w_cpy (n := 3) hF hH hl 8 25 (by decide) (by decide) (fun _ => rfl) (fun _ => rfl) tk_455 tk_457 tk_456 tk_50 (by decide) (by decide) (by decide) (Nat.le_of_ble_eq_true rfl) (by decide +kernel) dX1_copyFrom_130 (fun σ11 H locs eσ11 hH => ?_)
  replace h := sv_at h eσ11
  clear eσ11
  exact hret _ _ _ _ _ hH h dX1_copyFrom_133
set_option maxHeartbeats 4000000 in
set_option maxRecDepth 100000 in
theorem tX1_copyFrom_26_1 (l : Launch) (E : Ev) (hj : Inj kC E) (σ : Sg) (r : Int32 × Sg) (h : fX1_copyFrom_26_1 σ = some r) : CV l yX1_copyFrom cX1_copyFrom 2 (rmk 1 40) kC E [.ref (eA E 26), .ref (eA E 1)] σ r := by
  refine CV_v (lv := [(0, .ref (eA E 26)), (1, .ref (eA E 1))]) (by decide) hj (Nat.le_of_ble_eq_true rfl) rfl (fun p e s m args below meth c ls Q hF hret hH hl => ?_)
  unfold fX1_copyFrom_26_1 at h
  refine lv_aload_n hF.x hF.b dX1_copyFrom_0 rfl (lv_at hl 0 rfl) ?_
  refine lv_aload_n hF.x hF.b dX1_copyFrom_1 rfl (lv_at hl 1 rfl) ?_
  refine gfC_1_0 hF hH tk_65 dX1_copyFrom_2 ?_
  refine pfC_26_0 hF hH tk_65 dX1_copyFrom_5 (fun σ1 H locs eσ1 hH => ?_)
  replace h := sv_at h eσ1
  clear eσ1
  refine lv_aload_n hF.x hF.b dX1_copyFrom_8 rfl (lv_at hl 0 rfl) ?_
  refine lv_aload_n hF.x hF.b dX1_copyFrom_9 rfl (lv_at hl 1 rfl) ?_
  refine gfC_1_4 hF hH tk_80 dX1_copyFrom_10 ?_
  refine pfC_26_4 hF hH tk_80 dX1_copyFrom_13 (fun σ2 H locs eσ2 hH => ?_)
  replace h := sv_at h eσ2
  clear eσ2
  refine lv_aload_n hF.x hF.b dX1_copyFrom_16 rfl (lv_at hl 0 rfl) ?_
  refine lv_aload_n hF.x hF.b dX1_copyFrom_17 rfl (lv_at hl 1 rfl) ?_
  refine gfC_1_9 hF hH tk_94 dX1_copyFrom_18 ?_
  refine pfC_26_9 hF hH tk_94 dX1_copyFrom_21 (fun σ3 H locs eσ3 hH => ?_)
  replace h := sv_at h eσ3
  clear eσ3
  refine lv_aload_n hF.x hF.b dX1_copyFrom_24 rfl (lv_at hl 0 rfl) ?_
  refine lv_aload_n hF.x hF.b dX1_copyFrom_25 rfl (lv_at hl 1 rfl) ?_
  refine gfC_1_10 hF hH tk_97 dX1_copyFrom_26 ?_
  refine pfC_26_10 hF hH tk_97 dX1_copyFrom_29 (fun σ4 H locs eσ4 hH => ?_)
  replace h := sv_at h eσ4
  clear eσ4
  refine lv_aload_n hF.x hF.b dX1_copyFrom_32 rfl (lv_at hl 1 rfl) ?_
  refine gfC_1_1 hF hH tk_68 dX1_copyFrom_33 ?_
  refine lv_iconst (v := 0) hF.x hF.b dX1_copyFrom_36 (by decide) ?_
  refine lv_aload_n hF.x hF.b dX1_copyFrom_37 rfl (lv_at hl 0 rfl) ?_
  refine gfC_26_1 hF hH tk_68 dX1_copyFrom_38 ?_
  refine lv_iconst (v := 0) hF.x hF.b dX1_copyFrom_41 (by decide) ?_
  refine lv_bipush (v := 6) hF.x hF.b dX1_copyFrom_42 (by decide) ?_
  refine w_cpy (n := 6) hF hH hl 2 27 (by decide) (by decide) (fun _ => rfl) (fun _ => rfl) tk_455 tk_457 tk_456 tk_50 (by decide) (by decide) (by decide) (Nat.le_of_ble_eq_true rfl) (by decide +kernel) dX1_copyFrom_44 (fun σ5 H locs eσ5 hH => ?_)
  replace h := sv_at h eσ5
  clear eσ5
  refine lv_aload_n hF.x hF.b dX1_copyFrom_47 rfl (lv_at hl 1 rfl) ?_
  refine gfC_1_2 hF hH tk_72 dX1_copyFrom_48 ?_
  refine lv_iconst (v := 0) hF.x hF.b dX1_copyFrom_51 (by decide) ?_
  refine lv_aload_n hF.x hF.b dX1_copyFrom_52 rfl (lv_at hl 0 rfl) ?_
  refine gfC_26_2 hF hH tk_72 dX1_copyFrom_53 ?_
  refine lv_iconst (v := 0) hF.x hF.b dX1_copyFrom_56 (by decide) ?_
  refine lv_bipush (v := 6) hF.x hF.b dX1_copyFrom_57 (by decide) ?_
  refine w_cpy (n := 6) hF hH hl 3 28 (by decide) (by decide) (fun _ => rfl) (fun _ => rfl) tk_455 tk_457 tk_456 tk_50 (by decide) (by decide) (by decide) (Nat.le_of_ble_eq_true rfl) (by decide +kernel) dX1_copyFrom_59 (fun σ6 H locs eσ6 hH => ?_)
  replace h := sv_at h eσ6
  clear eσ6
  refine lv_aload_n hF.x hF.b dX1_copyFrom_62 rfl (lv_at hl 1 rfl) ?_
  refine gfC_1_3 hF hH tk_76 dX1_copyFrom_63 ?_
  refine lv_iconst (v := 0) hF.x hF.b dX1_copyFrom_66 (by decide) ?_
  refine lv_aload_n hF.x hF.b dX1_copyFrom_67 rfl (lv_at hl 0 rfl) ?_
  refine gfC_26_3 hF hH tk_76 dX1_copyFrom_68 ?_
  refine lv_iconst (v := 0) hF.x hF.b dX1_copyFrom_71 (by decide) ?_
  refine lv_bipush (v := 6) hF.x hF.b dX1_copyFrom_72 (by decide) ?_
  refine w_cpy (n := 6) hF hH hl 4 29 (by decide) (by decide) (fun _ => rfl) (fun _ => rfl) tk_455 tk_457 tk_456 tk_50 (by decide) (by decide) (by decide) (Nat.le_of_ble_eq_true rfl) (by decide +kernel) dX1_copyFrom_74 (fun σ7 H locs eσ7 hH => ?_)
  replace h := sv_at h eσ7
  clear eσ7
  refine lv_aload_n hF.x hF.b dX1_copyFrom_77 rfl (lv_at hl 1 rfl) ?_
  refine gfC_1_5 hF hH tk_82 dX1_copyFrom_78 ?_
  refine lv_iconst (v := 0) hF.x hF.b dX1_copyFrom_81 (by decide) ?_
  refine lv_aload_n hF.x hF.b dX1_copyFrom_82 rfl (lv_at hl 0 rfl) ?_
  refine gfC_26_5 hF hH tk_82 dX1_copyFrom_83 ?_
  refine lv_iconst (v := 0) hF.x hF.b dX1_copyFrom_86 (by decide) ?_
  refine lv_iconst (v := 3) hF.x hF.b dX1_copyFrom_87 (by decide) ?_
  refine w_cpy (n := 3) hF hH hl 5 30 (by decide) (by decide) (fun _ => rfl) (fun _ => rfl) tk_455 tk_457 tk_456 tk_50 (by decide) (by decide) (by decide) (Nat.le_of_ble_eq_true rfl) (by decide +kernel) dX1_copyFrom_88 (fun σ8 H locs eσ8 hH => ?_)
  replace h := sv_at h eσ8
  clear eσ8
  refine lv_aload_n hF.x hF.b dX1_copyFrom_91 rfl (lv_at hl 1 rfl) ?_
  refine gfC_1_6 hF hH tk_85 dX1_copyFrom_92 ?_
  refine lv_iconst (v := 0) hF.x hF.b dX1_copyFrom_95 (by decide) ?_
  refine lv_aload_n hF.x hF.b dX1_copyFrom_96 rfl (lv_at hl 0 rfl) ?_
  refine gfC_26_6 hF hH tk_85 dX1_copyFrom_97 ?_
  refine lv_iconst (v := 0) hF.x hF.b dX1_copyFrom_100 (by decide) ?_
  refine lv_iconst (v := 3) hF.x hF.b dX1_copyFrom_101 (by decide) ?_
  refine w_cpy (n := 3) hF hH hl 6 31 (by decide) (by decide) (fun _ => rfl) (fun _ => rfl) tk_455 tk_457 tk_456 tk_50 (by decide) (by decide) (by decide) (Nat.le_of_ble_eq_true rfl) (by decide +kernel) dX1_copyFrom_102 (fun σ9 H locs eσ9 hH => ?_)
  replace h := sv_at h eσ9
  clear eσ9
  refine lv_aload_n hF.x hF.b dX1_copyFrom_105 rfl (lv_at hl 1 rfl) ?_
  refine gfC_1_7 hF hH tk_88 dX1_copyFrom_106 ?_
  refine lv_iconst (v := 0) hF.x hF.b dX1_copyFrom_109 (by decide) ?_
  refine lv_aload_n hF.x hF.b dX1_copyFrom_110 rfl (lv_at hl 0 rfl) ?_
  refine gfC_26_7 hF hH tk_88 dX1_copyFrom_111 ?_
  refine lv_iconst (v := 0) hF.x hF.b dX1_copyFrom_114 (by decide) ?_
  refine lv_iconst (v := 3) hF.x hF.b dX1_copyFrom_115 (by decide) ?_
  refine w_cpy (n := 3) hF hH hl 7 32 (by decide) (by decide) (fun _ => rfl) (fun _ => rfl) tk_455 tk_457 tk_456 tk_50 (by decide) (by decide) (by decide) (Nat.le_of_ble_eq_true rfl) (by decide +kernel) dX1_copyFrom_116 (fun σ10 H locs eσ10 hH => ?_)
  replace h := sv_at h eσ10
  clear eσ10
  refine lv_aload_n hF.x hF.b dX1_copyFrom_119 rfl (lv_at hl 1 rfl) ?_
  refine gfC_1_8 hF hH tk_91 dX1_copyFrom_120 ?_
  refine lv_iconst (v := 0) hF.x hF.b dX1_copyFrom_123 (by decide) ?_
  refine lv_aload_n hF.x hF.b dX1_copyFrom_124 rfl (lv_at hl 0 rfl) ?_
  refine gfC_26_8 hF hH tk_91 dX1_copyFrom_125 ?_
  refine lv_iconst (v := 0) hF.x hF.b dX1_copyFrom_128 (by decide) ?_
  refine lv_iconst (v := 3) hF.x hF.b dX1_copyFrom_129 (by decide) ?_
  refine w_cpy (n := 3) hF hH hl 8 33 (by decide) (by decide) (fun _ => rfl) (fun _ => rfl) tk_455 tk_457 tk_456 tk_50 (by decide) (by decide) (by decide) (Nat.le_of_ble_eq_true rfl) (by decide +kernel) dX1_copyFrom_130 (fun σ11 H locs eσ11 hH => ?_)
  replace h := sv_at h eσ11
  clear eσ11
  exact hret _ _ _ _ _ hH h dX1_copyFrom_133
set_option maxHeartbeats 4000000 in
set_option maxRecDepth 100000 in
theorem tX1_copyFrom_1_18 (l : Launch) (E : Ev) (hj : Inj kC E) (σ : Sg) (r : Int32 × Sg) (h : fX1_copyFrom_1_18 σ = some r) : CV l yX1_copyFrom cX1_copyFrom 2 (rmk 1 40) kC E [.ref (eA E 1), .ref (eA E 18)] σ r := by
  refine CV_v (lv := [(0, .ref (eA E 1)), (1, .ref (eA E 18))]) (by decide) hj (Nat.le_of_ble_eq_true rfl) rfl (fun p e s m args below meth c ls Q hF hret hH hl => ?_)
  unfold fX1_copyFrom_1_18 at h
  refine lv_aload_n hF.x hF.b dX1_copyFrom_0 rfl (lv_at hl 0 rfl) ?_
  refine lv_aload_n hF.x hF.b dX1_copyFrom_1 rfl (lv_at hl 1 rfl) ?_
  refine gfC_18_0 hF hH tk_65 dX1_copyFrom_2 ?_
  refine pfC_1_0 hF hH tk_65 dX1_copyFrom_5 (fun σ1 H locs eσ1 hH => ?_)
  replace h := sv_at h eσ1
  clear eσ1
  refine lv_aload_n hF.x hF.b dX1_copyFrom_8 rfl (lv_at hl 0 rfl) ?_
  refine lv_aload_n hF.x hF.b dX1_copyFrom_9 rfl (lv_at hl 1 rfl) ?_
  refine gfC_18_4 hF hH tk_80 dX1_copyFrom_10 ?_
  refine pfC_1_4 hF hH tk_80 dX1_copyFrom_13 (fun σ2 H locs eσ2 hH => ?_)
  replace h := sv_at h eσ2
  clear eσ2
  refine lv_aload_n hF.x hF.b dX1_copyFrom_16 rfl (lv_at hl 0 rfl) ?_
  refine lv_aload_n hF.x hF.b dX1_copyFrom_17 rfl (lv_at hl 1 rfl) ?_
  refine gfC_18_9 hF hH tk_94 dX1_copyFrom_18 ?_
  refine pfC_1_9 hF hH tk_94 dX1_copyFrom_21 (fun σ3 H locs eσ3 hH => ?_)
  replace h := sv_at h eσ3
  clear eσ3
  refine lv_aload_n hF.x hF.b dX1_copyFrom_24 rfl (lv_at hl 0 rfl) ?_
  refine lv_aload_n hF.x hF.b dX1_copyFrom_25 rfl (lv_at hl 1 rfl) ?_
  refine gfC_18_10 hF hH tk_97 dX1_copyFrom_26 ?_
  refine pfC_1_10 hF hH tk_97 dX1_copyFrom_29 (fun σ4 H locs eσ4 hH => ?_)
  replace h := sv_at h eσ4
  clear eσ4
  refine lv_aload_n hF.x hF.b dX1_copyFrom_32 rfl (lv_at hl 1 rfl) ?_
  refine gfC_18_1 hF hH tk_68 dX1_copyFrom_33 ?_
  refine lv_iconst (v := 0) hF.x hF.b dX1_copyFrom_36 (by decide) ?_
  refine lv_aload_n hF.x hF.b dX1_copyFrom_37 rfl (lv_at hl 0 rfl) ?_
  refine gfC_1_1 hF hH tk_68 dX1_copyFrom_38 ?_
  refine lv_iconst (v := 0) hF.x hF.b dX1_copyFrom_41 (by decide) ?_
  refine lv_bipush (v := 6) hF.x hF.b dX1_copyFrom_42 (by decide) ?_
  refine w_cpy (n := 6) hF hH hl 19 2 (by decide) (by decide) (fun _ => rfl) (fun _ => rfl) tk_455 tk_457 tk_456 tk_50 (by decide) (by decide) (by decide) (Nat.le_of_ble_eq_true rfl) (by decide +kernel) dX1_copyFrom_44 (fun σ5 H locs eσ5 hH => ?_)
  replace h := sv_at h eσ5
  clear eσ5
  refine lv_aload_n hF.x hF.b dX1_copyFrom_47 rfl (lv_at hl 1 rfl) ?_
  refine gfC_18_2 hF hH tk_72 dX1_copyFrom_48 ?_
  refine lv_iconst (v := 0) hF.x hF.b dX1_copyFrom_51 (by decide) ?_
  refine lv_aload_n hF.x hF.b dX1_copyFrom_52 rfl (lv_at hl 0 rfl) ?_
  refine gfC_1_2 hF hH tk_72 dX1_copyFrom_53 ?_
  refine lv_iconst (v := 0) hF.x hF.b dX1_copyFrom_56 (by decide) ?_
  refine lv_bipush (v := 6) hF.x hF.b dX1_copyFrom_57 (by decide) ?_
  refine w_cpy (n := 6) hF hH hl 20 3 (by decide) (by decide) (fun _ => rfl) (fun _ => rfl) tk_455 tk_457 tk_456 tk_50 (by decide) (by decide) (by decide) (Nat.le_of_ble_eq_true rfl) (by decide +kernel) dX1_copyFrom_59 (fun σ6 H locs eσ6 hH => ?_)
  replace h := sv_at h eσ6
  clear eσ6
  refine lv_aload_n hF.x hF.b dX1_copyFrom_62 rfl (lv_at hl 1 rfl) ?_
  refine gfC_18_3 hF hH tk_76 dX1_copyFrom_63 ?_
  refine lv_iconst (v := 0) hF.x hF.b dX1_copyFrom_66 (by decide) ?_
  refine lv_aload_n hF.x hF.b dX1_copyFrom_67 rfl (lv_at hl 0 rfl) ?_
  refine gfC_1_3 hF hH tk_76 dX1_copyFrom_68 ?_
  refine lv_iconst (v := 0) hF.x hF.b dX1_copyFrom_71 (by decide) ?_
  refine lv_bipush (v := 6) hF.x hF.b dX1_copyFrom_72 (by decide) ?_
  refine w_cpy (n := 6) hF hH hl 21 4 (by decide) (by decide) (fun _ => rfl) (fun _ => rfl) tk_455 tk_457 tk_456 tk_50 (by decide) (by decide) (by decide) (Nat.le_of_ble_eq_true rfl) (by decide +kernel) dX1_copyFrom_74 (fun σ7 H locs eσ7 hH => ?_)
  replace h := sv_at h eσ7
  clear eσ7
  refine lv_aload_n hF.x hF.b dX1_copyFrom_77 rfl (lv_at hl 1 rfl) ?_
  refine gfC_18_5 hF hH tk_82 dX1_copyFrom_78 ?_
  refine lv_iconst (v := 0) hF.x hF.b dX1_copyFrom_81 (by decide) ?_
  refine lv_aload_n hF.x hF.b dX1_copyFrom_82 rfl (lv_at hl 0 rfl) ?_
  refine gfC_1_5 hF hH tk_82 dX1_copyFrom_83 ?_
  refine lv_iconst (v := 0) hF.x hF.b dX1_copyFrom_86 (by decide) ?_
  refine lv_iconst (v := 3) hF.x hF.b dX1_copyFrom_87 (by decide) ?_
  refine w_cpy (n := 3) hF hH hl 22 5 (by decide) (by decide) (fun _ => rfl) (fun _ => rfl) tk_455 tk_457 tk_456 tk_50 (by decide) (by decide) (by decide) (Nat.le_of_ble_eq_true rfl) (by decide +kernel) dX1_copyFrom_88 (fun σ8 H locs eσ8 hH => ?_)
  replace h := sv_at h eσ8
  clear eσ8
  refine lv_aload_n hF.x hF.b dX1_copyFrom_91 rfl (lv_at hl 1 rfl) ?_
  refine gfC_18_6 hF hH tk_85 dX1_copyFrom_92 ?_
  refine lv_iconst (v := 0) hF.x hF.b dX1_copyFrom_95 (by decide) ?_
  refine lv_aload_n hF.x hF.b dX1_copyFrom_96 rfl (lv_at hl 0 rfl) ?_
  refine gfC_1_6 hF hH tk_85 dX1_copyFrom_97 ?_
  refine lv_iconst (v := 0) hF.x hF.b dX1_copyFrom_100 (by decide) ?_
  refine lv_iconst (v := 3) hF.x hF.b dX1_copyFrom_101 (by decide) ?_
  refine w_cpy (n := 3) hF hH hl 23 6 (by decide) (by decide) (fun _ => rfl) (fun _ => rfl) tk_455 tk_457 tk_456 tk_50 (by decide) (by decide) (by decide) (Nat.le_of_ble_eq_true rfl) (by decide +kernel) dX1_copyFrom_102 (fun σ9 H locs eσ9 hH => ?_)
  replace h := sv_at h eσ9
  clear eσ9
  refine lv_aload_n hF.x hF.b dX1_copyFrom_105 rfl (lv_at hl 1 rfl) ?_
  refine gfC_18_7 hF hH tk_88 dX1_copyFrom_106 ?_
  refine lv_iconst (v := 0) hF.x hF.b dX1_copyFrom_109 (by decide) ?_
  refine lv_aload_n hF.x hF.b dX1_copyFrom_110 rfl (lv_at hl 0 rfl) ?_
  refine gfC_1_7 hF hH tk_88 dX1_copyFrom_111 ?_
  refine lv_iconst (v := 0) hF.x hF.b dX1_copyFrom_114 (by decide) ?_
  refine lv_iconst (v := 3) hF.x hF.b dX1_copyFrom_115 (by decide) ?_
  refine w_cpy (n := 3) hF hH hl 24 7 (by decide) (by decide) (fun _ => rfl) (fun _ => rfl) tk_455 tk_457 tk_456 tk_50 (by decide) (by decide) (by decide) (Nat.le_of_ble_eq_true rfl) (by decide +kernel) dX1_copyFrom_116 (fun σ10 H locs eσ10 hH => ?_)
  replace h := sv_at h eσ10
  clear eσ10
  refine lv_aload_n hF.x hF.b dX1_copyFrom_119 rfl (lv_at hl 1 rfl) ?_
  refine gfC_18_8 hF hH tk_91 dX1_copyFrom_120 ?_
  refine lv_iconst (v := 0) hF.x hF.b dX1_copyFrom_123 (by decide) ?_
  refine lv_aload_n hF.x hF.b dX1_copyFrom_124 rfl (lv_at hl 0 rfl) ?_
  refine gfC_1_8 hF hH tk_91 dX1_copyFrom_125 ?_
  refine lv_iconst (v := 0) hF.x hF.b dX1_copyFrom_128 (by decide) ?_
  refine lv_iconst (v := 3) hF.x hF.b dX1_copyFrom_129 (by decide) ?_
  refine w_cpy (n := 3) hF hH hl 25 8 (by decide) (by decide) (fun _ => rfl) (fun _ => rfl) tk_455 tk_457 tk_456 tk_50 (by decide) (by decide) (by decide) (Nat.le_of_ble_eq_true rfl) (by decide +kernel) dX1_copyFrom_130 (fun σ11 H locs eσ11 hH => ?_)
  replace h := sv_at h eσ11
  clear eσ11
  exact hret _ _ _ _ _ hH h dX1_copyFrom_133
set_option maxHeartbeats 4000000 in
set_option maxRecDepth 100000 in
theorem tX1_copyFrom_1_26 (l : Launch) (E : Ev) (hj : Inj kC E) (σ : Sg) (r : Int32 × Sg) (h : fX1_copyFrom_1_26 σ = some r) : CV l yX1_copyFrom cX1_copyFrom 2 (rmk 1 40) kC E [.ref (eA E 1), .ref (eA E 26)] σ r := by
  refine CV_v (lv := [(0, .ref (eA E 1)), (1, .ref (eA E 26))]) (by decide) hj (Nat.le_of_ble_eq_true rfl) rfl (fun p e s m args below meth c ls Q hF hret hH hl => ?_)
  unfold fX1_copyFrom_1_26 at h
  refine lv_aload_n hF.x hF.b dX1_copyFrom_0 rfl (lv_at hl 0 rfl) ?_
  refine lv_aload_n hF.x hF.b dX1_copyFrom_1 rfl (lv_at hl 1 rfl) ?_
  refine gfC_26_0 hF hH tk_65 dX1_copyFrom_2 ?_
  refine pfC_1_0 hF hH tk_65 dX1_copyFrom_5 (fun σ1 H locs eσ1 hH => ?_)
  replace h := sv_at h eσ1
  clear eσ1
  refine lv_aload_n hF.x hF.b dX1_copyFrom_8 rfl (lv_at hl 0 rfl) ?_
  refine lv_aload_n hF.x hF.b dX1_copyFrom_9 rfl (lv_at hl 1 rfl) ?_
  refine gfC_26_4 hF hH tk_80 dX1_copyFrom_10 ?_
  refine pfC_1_4 hF hH tk_80 dX1_copyFrom_13 (fun σ2 H locs eσ2 hH => ?_)
  replace h := sv_at h eσ2
  clear eσ2
  refine lv_aload_n hF.x hF.b dX1_copyFrom_16 rfl (lv_at hl 0 rfl) ?_
  refine lv_aload_n hF.x hF.b dX1_copyFrom_17 rfl (lv_at hl 1 rfl) ?_
  refine gfC_26_9 hF hH tk_94 dX1_copyFrom_18 ?_
  refine pfC_1_9 hF hH tk_94 dX1_copyFrom_21 (fun σ3 H locs eσ3 hH => ?_)
  replace h := sv_at h eσ3
  clear eσ3
  refine lv_aload_n hF.x hF.b dX1_copyFrom_24 rfl (lv_at hl 0 rfl) ?_
  refine lv_aload_n hF.x hF.b dX1_copyFrom_25 rfl (lv_at hl 1 rfl) ?_
  refine gfC_26_10 hF hH tk_97 dX1_copyFrom_26 ?_
  refine pfC_1_10 hF hH tk_97 dX1_copyFrom_29 (fun σ4 H locs eσ4 hH => ?_)
  replace h := sv_at h eσ4
  clear eσ4
  refine lv_aload_n hF.x hF.b dX1_copyFrom_32 rfl (lv_at hl 1 rfl) ?_
  refine gfC_26_1 hF hH tk_68 dX1_copyFrom_33 ?_
  refine lv_iconst (v := 0) hF.x hF.b dX1_copyFrom_36 (by decide) ?_
  refine lv_aload_n hF.x hF.b dX1_copyFrom_37 rfl (lv_at hl 0 rfl) ?_
  refine gfC_1_1 hF hH tk_68 dX1_copyFrom_38 ?_
  refine lv_iconst (v := 0) hF.x hF.b dX1_copyFrom_41 (by decide) ?_
  refine lv_bipush (v := 6) hF.x hF.b dX1_copyFrom_42 (by decide) ?_
  refine w_cpy (n := 6) hF hH hl 27 2 (by decide) (by decide) (fun _ => rfl) (fun _ => rfl) tk_455 tk_457 tk_456 tk_50 (by decide) (by decide) (by decide) (Nat.le_of_ble_eq_true rfl) (by decide +kernel) dX1_copyFrom_44 (fun σ5 H locs eσ5 hH => ?_)
  replace h := sv_at h eσ5
  clear eσ5
  refine lv_aload_n hF.x hF.b dX1_copyFrom_47 rfl (lv_at hl 1 rfl) ?_
  refine gfC_26_2 hF hH tk_72 dX1_copyFrom_48 ?_
  refine lv_iconst (v := 0) hF.x hF.b dX1_copyFrom_51 (by decide) ?_
  refine lv_aload_n hF.x hF.b dX1_copyFrom_52 rfl (lv_at hl 0 rfl) ?_
  refine gfC_1_2 hF hH tk_72 dX1_copyFrom_53 ?_
  refine lv_iconst (v := 0) hF.x hF.b dX1_copyFrom_56 (by decide) ?_
  refine lv_bipush (v := 6) hF.x hF.b dX1_copyFrom_57 (by decide) ?_
  refine w_cpy (n := 6) hF hH hl 28 3 (by decide) (by decide) (fun _ => rfl) (fun _ => rfl) tk_455 tk_457 tk_456 tk_50 (by decide) (by decide) (by decide) (Nat.le_of_ble_eq_true rfl) (by decide +kernel) dX1_copyFrom_59 (fun σ6 H locs eσ6 hH => ?_)
  replace h := sv_at h eσ6
  clear eσ6
  refine lv_aload_n hF.x hF.b dX1_copyFrom_62 rfl (lv_at hl 1 rfl) ?_
  refine gfC_26_3 hF hH tk_76 dX1_copyFrom_63 ?_
  refine lv_iconst (v := 0) hF.x hF.b dX1_copyFrom_66 (by decide) ?_
  refine lv_aload_n hF.x hF.b dX1_copyFrom_67 rfl (lv_at hl 0 rfl) ?_
  refine gfC_1_3 hF hH tk_76 dX1_copyFrom_68 ?_
  refine lv_iconst (v := 0) hF.x hF.b dX1_copyFrom_71 (by decide) ?_
  refine lv_bipush (v := 6) hF.x hF.b dX1_copyFrom_72 (by decide) ?_
  refine w_cpy (n := 6) hF hH hl 29 4 (by decide) (by decide) (fun _ => rfl) (fun _ => rfl) tk_455 tk_457 tk_456 tk_50 (by decide) (by decide) (by decide) (Nat.le_of_ble_eq_true rfl) (by decide +kernel) dX1_copyFrom_74 (fun σ7 H locs eσ7 hH => ?_)
  replace h := sv_at h eσ7
  clear eσ7
  refine lv_aload_n hF.x hF.b dX1_copyFrom_77 rfl (lv_at hl 1 rfl) ?_
  refine gfC_26_5 hF hH tk_82 dX1_copyFrom_78 ?_
  refine lv_iconst (v := 0) hF.x hF.b dX1_copyFrom_81 (by decide) ?_
  refine lv_aload_n hF.x hF.b dX1_copyFrom_82 rfl (lv_at hl 0 rfl) ?_
  refine gfC_1_5 hF hH tk_82 dX1_copyFrom_83 ?_
  refine lv_iconst (v := 0) hF.x hF.b dX1_copyFrom_86 (by decide) ?_
  refine lv_iconst (v := 3) hF.x hF.b dX1_copyFrom_87 (by decide) ?_
  refine w_cpy (n := 3) hF hH hl 30 5 (by decide) (by decide) (fun _ => rfl) (fun _ => rfl) tk_455 tk_457 tk_456 tk_50 (by decide) (by decide) (by decide) (Nat.le_of_ble_eq_true rfl) (by decide +kernel) dX1_copyFrom_88 (fun σ8 H locs eσ8 hH => ?_)
  replace h := sv_at h eσ8
  clear eσ8
  refine lv_aload_n hF.x hF.b dX1_copyFrom_91 rfl (lv_at hl 1 rfl) ?_
  refine gfC_26_6 hF hH tk_85 dX1_copyFrom_92 ?_
  refine lv_iconst (v := 0) hF.x hF.b dX1_copyFrom_95 (by decide) ?_
  refine lv_aload_n hF.x hF.b dX1_copyFrom_96 rfl (lv_at hl 0 rfl) ?_
  refine gfC_1_6 hF hH tk_85 dX1_copyFrom_97 ?_
  refine lv_iconst (v := 0) hF.x hF.b dX1_copyFrom_100 (by decide) ?_
  refine lv_iconst (v := 3) hF.x hF.b dX1_copyFrom_101 (by decide) ?_
  refine w_cpy (n := 3) hF hH hl 31 6 (by decide) (by decide) (fun _ => rfl) (fun _ => rfl) tk_455 tk_457 tk_456 tk_50 (by decide) (by decide) (by decide) (Nat.le_of_ble_eq_true rfl) (by decide +kernel) dX1_copyFrom_102 (fun σ9 H locs eσ9 hH => ?_)
  replace h := sv_at h eσ9
  clear eσ9
  refine lv_aload_n hF.x hF.b dX1_copyFrom_105 rfl (lv_at hl 1 rfl) ?_
  refine gfC_26_7 hF hH tk_88 dX1_copyFrom_106 ?_
  refine lv_iconst (v := 0) hF.x hF.b dX1_copyFrom_109 (by decide) ?_
  refine lv_aload_n hF.x hF.b dX1_copyFrom_110 rfl (lv_at hl 0 rfl) ?_
  refine gfC_1_7 hF hH tk_88 dX1_copyFrom_111 ?_
  refine lv_iconst (v := 0) hF.x hF.b dX1_copyFrom_114 (by decide) ?_
  refine lv_iconst (v := 3) hF.x hF.b dX1_copyFrom_115 (by decide) ?_
  refine w_cpy (n := 3) hF hH hl 32 7 (by decide) (by decide) (fun _ => rfl) (fun _ => rfl) tk_455 tk_457 tk_456 tk_50 (by decide) (by decide) (by decide) (Nat.le_of_ble_eq_true rfl) (by decide +kernel) dX1_copyFrom_116 (fun σ10 H locs eσ10 hH => ?_)
  replace h := sv_at h eσ10
  clear eσ10
  refine lv_aload_n hF.x hF.b dX1_copyFrom_119 rfl (lv_at hl 1 rfl) ?_
  refine gfC_26_8 hF hH tk_91 dX1_copyFrom_120 ?_
  refine lv_iconst (v := 0) hF.x hF.b dX1_copyFrom_123 (by decide) ?_
  refine lv_aload_n hF.x hF.b dX1_copyFrom_124 rfl (lv_at hl 0 rfl) ?_
  refine gfC_1_8 hF hH tk_91 dX1_copyFrom_125 ?_
  refine lv_iconst (v := 0) hF.x hF.b dX1_copyFrom_128 (by decide) ?_
  refine lv_iconst (v := 3) hF.x hF.b dX1_copyFrom_129 (by decide) ?_
  refine w_cpy (n := 3) hF hH hl 33 8 (by decide) (by decide) (fun _ => rfl) (fun _ => rfl) tk_455 tk_457 tk_456 tk_50 (by decide) (by decide) (by decide) (Nat.le_of_ble_eq_true rfl) (by decide +kernel) dX1_copyFrom_130 (fun σ11 H locs eσ11 hH => ?_)
  replace h := sv_at h eσ11
  clear eσ11
  exact hret _ _ _ _ _ hH h dX1_copyFrom_133
theorem hdX2_busesWith : yX2_busesWith.cls = RX2 ∧ yX2_busesWith.cls ≠ "java/lang/invoke/MethodHandle" ∧ yX2_busesWith.cls ≠ "java/lang/invoke/VarHandle" ∧ (parseMethodDescriptor yX2_busesWith.desc).map (fun d => d.parameters.length) = some 2 := by decide +kernel
set_option maxHeartbeats 4000000 in
set_option maxRecDepth 100000 in
theorem tX2_busesWith (l : Launch) (E : Ev) (hj : Inj kC E) (a1 : Int32) (a2 : Int32) (σ : Sg) (r : Int32 × Sg) (h : fX2_busesWith a1 a2 σ = some r) : CI l yX2_busesWith cX2_busesWith 3 (some FieldType.int) (rmk 0 0) kC E [.ref (eA E 9), .int a1, .int a2] σ r := by
  refine CI_i (lv := [(0, .ref (eA E 9)), (1, .int a1), (2, .int a2)]) (by decide) hj (Nat.le_of_ble_eq_true rfl) rfl (fun p e s m args below meth c ls Q hF hret hH hl => ?_)
  unfold fX2_busesWith at h
  refine lv_aload_n hF.x hF.b dX2_busesWith_0 rfl (lv_at hl 0 rfl) ?_
  refine gfC_9_0 hF hH tk_128 dX2_busesWith_1 ?_
  refine lv_iload_n hF.x hF.b dX2_busesWith_4 rfl (lv_at hl 1 rfl) ?_
  refine lv_bipush (v := 6) hF.x hF.b dX2_busesWith_5 (by decide) ?_
  refine lv_imul hF.x hF.b dX2_busesWith_7 ?_
  refine lv_iload_n hF.x hF.b dX2_busesWith_8 rfl (lv_at hl 2 rfl) ?_
  refine lv_iadd hF.x hF.b dX2_busesWith_9 ?_
  refine alC_10 hF hH (gd_some h).1 dX2_busesWith_10 ?_
  replace h := (gd_some h).2
  exact hret _ _ _ _ _ _ hH h dX2_busesWith_11
theorem hdX2_drawAround : yX2_drawAround.cls = RX2 ∧ yX2_drawAround.cls ≠ "java/lang/invoke/MethodHandle" ∧ yX2_drawAround.cls ≠ "java/lang/invoke/VarHandle" ∧ (parseMethodDescriptor yX2_drawAround.desc).map (fun d => d.parameters.length) = some 2 := by decide +kernel
set_option maxHeartbeats 4000000 in
set_option maxRecDepth 100000 in
theorem tX2_drawAround (l : Launch) (E : Ev) (hj : Inj kC E) (a1 : Int32) (a2 : Int32) (σ : Sg) (r : Int32 × Sg) (h : fX2_drawAround a1 a2 σ = some r) : CI l yX2_drawAround cX2_drawAround 3 (some FieldType.int) (rmk 0 0) kC E [.ref (eA E 9), .int a1, .int a2] σ r := by
  refine CI_i (lv := [(0, .ref (eA E 9)), (1, .int a1), (2, .int a2)]) (by decide) hj (Nat.le_of_ble_eq_true rfl) rfl (fun p e s m args below meth c ls Q hF hret hH hl => ?_)
  unfold fX2_drawAround at h
  refine lv_aload_n hF.x hF.b dX2_drawAround_0 rfl (lv_at hl 0 rfl) ?_
  refine gfC_9_1 hF hH tk_129 dX2_drawAround_1 ?_
  refine lv_iload_n hF.x hF.b dX2_drawAround_4 rfl (lv_at hl 1 rfl) ?_
  refine lv_bipush (v := 6) hF.x hF.b dX2_drawAround_5 (by decide) ?_
  refine lv_imul hF.x hF.b dX2_drawAround_7 ?_
  refine lv_iload_n hF.x hF.b dX2_drawAround_8 rfl (lv_at hl 2 rfl) ?_
  refine lv_iadd hF.x hF.b dX2_drawAround_9 ?_
  refine alC_11 hF hH (gd_some h).1 dX2_drawAround_10 ?_
  replace h := (gd_some h).2
  exact hret _ _ _ _ _ _ hH h dX2_drawAround_11
theorem hdX2_join : yX2_join.cls = RX2 ∧ yX2_join.cls ≠ "java/lang/invoke/MethodHandle" ∧ yX2_join.cls ≠ "java/lang/invoke/VarHandle" ∧ (parseMethodDescriptor yX2_join.desc).map (fun d => d.parameters.length) = some 4 := by decide +kernel
set_option maxHeartbeats 4000000 in
set_option maxRecDepth 100000 in
theorem tX2_join (l : Launch) (E : Ev) (hj : Inj kC E) (a1 : Int32) (a2 : Int32) (a4 : Int32) (σ : Sg) (r : Int32 × Sg) (h : fX2_join a1 a2 a4 σ = some r) : CV l yX2_join cX2_join 11 (rmk 1 22) kC E [.ref (eA E 9), .int a1, .int a2, .ref (eA E 1), .int a4] σ r := by
  refine CV_v (lv := [(0, .ref (eA E 9)), (1, .int a1), (2, .int a2), (3, .ref (eA E 1)), (4, .int a4)]) (by decide) hj (Nat.le_of_ble_eq_true rfl) rfl (fun p e s m args below meth c ls Q hF hret hH hl => ?_)
  have w82 : ∀ (n : Nat) (x1 x2 x7 x8 x9 : Int32) (σ : Sg) (H : Heap) (locs : List Loc) (ls : Array Slot), it fX2_join_L82 (fun _ _ _ _ _ _ => none) n x1 x2 x7 x8 x9 σ = some r → HP kC E s σ H locs → lv_has ls 11 [(0, .ref (eA E 9)), (1, .int x1), (2, .int x2), (3, .ref (eA E 1)), (7, .int x7), (8, .int x8), (9, .int x9)] → W p l e (rmk 1 22) s m args below meth c H locs 0 0 Q (F0 m 82 ls []) := by
    intro n82
    induction n82 with
    | zero =>
      intro x1 x2 x7 x8 x9 σ H locs ls h hH hl
      cases (show (none : Rs) = some r from h)
    | succ n82 ih82 =>
      have w163 : ∀ (x1 x2 x7 x8 x9 t0 t1 : Int32) (σ : Sg) (H : Heap) (locs : List Loc) (ls : Array Slot), fX2_join_163 (it fX2_join_L82 (fun _ _ _ _ _ _ => none) n82) x1 x2 x7 x8 x9 t0 t1 σ = some r → HP kC E s σ H locs → lv_has ls 11 [(0, .ref (eA E 9)), (1, .int x1), (2, .int x2), (3, .ref (eA E 1)), (7, .int x7), (8, .int x8), (9, .int x9)] → W p l e (rmk 1 22) s m args below meth c H locs 0 0 Q (F0 m 163 ls [.int t0, .int t1, .ref (eA E 11)]) := by
        intro x1 x2 x7 x8 x9 t0 t1 σ H locs ls h hH hl
        unfold fX2_join_163 at h
        refine asC_11 hF hH (gd_some h).1 dX2_join_163 (fun σ1 H locs eσ1 hH => ?_)
        replace h := sv_at (gd_some h).2 eσ1
        clear eσ1
        obtain ⟨y2, ey2⟩ : ∃ z : Int32, z = (x9 + 1) := ⟨_, rfl⟩
        replace h := sv_at h ey2
        refine lv_iinc (v := y2) (lv' := [(9, .int y2), (0, .ref (eA E 9)), (1, .int x1), (2, .int x2), (3, .ref (eA E 1)), (7, .int x7), (8, .int x8)]) hF.x hF.b dX2_join_164 hl (k := 6) rfl (by rw [ey2]; rfl) (by decide) rfl (fun ls hl => ?_)
        clear ey2
        refine lv_goto (tgt := 82) hF.x hF.b dX2_join_167 (by decide) ?_
        exact ih82 _ _ _ _ _ _ _ _ _ h hH (lv_sub hl [1, 2, 3, 4, 5, 6, 0] rfl)
      have w134 : ∀ (x1 x2 x7 x8 x9 x10 t0 t1 : Int32) (σ : Sg) (H : Heap) (locs : List Loc) (ls : Array Slot), fX2_join_134 (it fX2_join_L82 (fun _ _ _ _ _ _ => none) n82) x1 x2 x7 x8 x9 x10 t0 t1 σ = some r → HP kC E s σ H locs → lv_has ls 11 [(0, .ref (eA E 9)), (1, .int x1), (2, .int x2), (3, .ref (eA E 1)), (7, .int x7), (8, .int x8), (9, .int x9), (10, .int x10)] → W p l e (rmk 1 22) s m args below meth c H locs 0 0 Q (F0 m 134 ls [.int t0, .int t1, .ref (eA E 10)]) := by
        intro x1 x2 x7 x8 x9 x10 t0 t1 σ H locs ls h hH hl
        unfold fX2_join_134 at h
        refine asC_10 hF hH (gd_some h).1 dX2_join_134 (fun σ3 H locs eσ3 hH => ?_)
        replace h := sv_at (gd_some h).2 eσ3
        clear eσ3
        refine lv_aload_n hF.x hF.b dX2_join_135 rfl (lv_at hl 0 rfl) ?_
        refine gfC_9_1 hF hH tk_129 dX2_join_136 ?_
        refine lv_iload_n hF.x hF.b dX2_join_139 rfl (lv_at hl 2 rfl) ?_
        refine lv_bipush (v := 6) hF.x hF.b dX2_join_140 (by decide) ?_
        refine lv_imul hF.x hF.b dX2_join_142 ?_
        refine lv_iload hF.x hF.b dX2_join_143 (lv_at hl 6 rfl) ?_
        refine lv_iadd hF.x hF.b dX2_join_145 ?_
        refine lv_iload hF.x hF.b dX2_join_146 (lv_at hl 7 rfl) ?_
        refine lv_if_eq (tgt := 156) hF.x hF.b dX2_join_148 (by decide) (fun c4 => ?_) (fun c4 => ?_)
        · rw [if_pos c4] at h
          refine lv_aload_n hF.x hF.b dX2_join_156 rfl (lv_at hl 0 rfl) ?_
          refine lv_iload_n hF.x hF.b dX2_join_157 rfl (lv_at hl 1 rfl) ?_
          refine lv_iload hF.x hF.b dX2_join_158 (lv_at hl 6 rfl) ?_
          replace h := bd_some h
          obtain ⟨v5, σ6, hv5, h⟩ := h
          refine w_cVi (As := [.int x1, .int x9]) (rest := [.int ((x2 * (6 : Int32)) + x9), .ref (eA E 11)]) hF hH hl 9 (by decide) rfl rfl (tX2_drawAround l E hF.j _ _ _ _ hv5) tk_222 tk_223 tk_224 tk_43 tk_225 rfl rfl hdX2_drawAround ⟨Nat.le_of_ble_eq_true rfl, Nat.le_of_ble_eq_true rfl⟩ rfl rfl (Nat.le_of_ble_eq_true rfl) dX2_join_160 (fun H locs hH => ?_)
          exact w163 _ _ _ _ _ _ _ _ _ _ _ h hH (lv_sub hl [0, 1, 2, 3, 4, 5, 6] rfl)
        · rw [if_neg c4] at h
          refine lv_iload hF.x hF.b dX2_join_151 (lv_at hl 5 rfl) ?_
          refine lv_goto (tgt := 163) hF.x hF.b dX2_join_153 (by decide) ?_
          exact w163 _ _ _ _ _ _ _ _ _ _ _ h hH (lv_sub hl [0, 1, 2, 3, 4, 5, 6] rfl)
      have w104 : ∀ (x1 x2 x7 x8 x9 t0 : Int32) (σ : Sg) (H : Heap) (locs : List Loc) (ls : Array Slot), fX2_join_104 (it fX2_join_L82 (fun _ _ _ _ _ _ => none) n82) x1 x2 x7 x8 x9 t0 σ = some r → HP kC E s σ H locs → lv_has ls 11 [(0, .ref (eA E 9)), (1, .int x1), (2, .int x2), (3, .ref (eA E 1)), (7, .int x7), (8, .int x8), (9, .int x9)] → W p l e (rmk 1 22) s m args below meth c H locs 0 0 Q (F0 m 104 ls [.int t0]) := by
        intro x1 x2 x7 x8 x9 t0 σ H locs ls h hH hl
        unfold fX2_join_104 at h
        refine lv_istore (lv' := [(10, .int t0), (0, .ref (eA E 9)), (1, .int x1), (2, .int x2), (3, .ref (eA E 1)), (7, .int x7), (8, .int x8), (9, .int x9)]) hF.x hF.b dX2_join_104 hl (by decide) rfl (fun ls hl => ?_)
        refine lv_aload_n hF.x hF.b dX2_join_106 rfl (lv_at hl 1 rfl) ?_
        refine gfC_9_0 hF hH tk_128 dX2_join_107 ?_
        refine lv_iload_n hF.x hF.b dX2_join_110 rfl (lv_at hl 3 rfl) ?_
        refine lv_bipush (v := 6) hF.x hF.b dX2_join_111 (by decide) ?_
        refine lv_imul hF.x hF.b dX2_join_113 ?_
        refine lv_iload hF.x hF.b dX2_join_114 (lv_at hl 7 rfl) ?_
        refine lv_iadd hF.x hF.b dX2_join_116 ?_
        refine lv_iload hF.x hF.b dX2_join_117 (lv_at hl 0 rfl) ?_
        refine lv_if_eq (tgt := 127) hF.x hF.b dX2_join_119 (by decide) (fun c7 => ?_) (fun c7 => ?_)
        · rw [if_pos c7] at h
          refine lv_aload_n hF.x hF.b dX2_join_127 rfl (lv_at hl 1 rfl) ?_
          refine lv_iload_n hF.x hF.b dX2_join_128 rfl (lv_at hl 2 rfl) ?_
          refine lv_iload hF.x hF.b dX2_join_129 (lv_at hl 7 rfl) ?_
          replace h := bd_some h
          obtain ⟨v8, σ9, hv8, h⟩ := h
          refine w_cVi (As := [.int x1, .int x9]) (rest := [.int ((x2 * (6 : Int32)) + x9), .ref (eA E 10)]) hF hH hl 9 (by decide) rfl rfl (tX2_busesWith l E hF.j _ _ _ _ hv8) tk_218 tk_219 tk_220 tk_43 tk_221 rfl rfl hdX2_busesWith ⟨Nat.le_of_ble_eq_true rfl, Nat.le_of_ble_eq_true rfl⟩ rfl rfl (Nat.le_of_ble_eq_true rfl) dX2_join_131 (fun H locs hH => ?_)
          exact w134 _ _ _ _ _ _ _ _ _ _ _ _ h hH (lv_sub hl [1, 2, 3, 4, 5, 6, 7, 0] rfl)
        · rw [if_neg c7] at h
          refine lv_iload hF.x hF.b dX2_join_122 (lv_at hl 5 rfl) ?_
          refine lv_goto (tgt := 134) hF.x hF.b dX2_join_124 (by decide) ?_
          exact w134 _ _ _ _ _ _ _ _ _ _ _ _ h hH (lv_sub hl [1, 2, 3, 4, 5, 6, 7, 0] rfl)
      intro x1 x2 x7 x8 x9 σ H locs ls h hH hl
      rw [it_eq] at h
      unfold fX2_join_L82 at h
      refine lv_iload hF.x hF.b dX2_join_82 (lv_at hl 6 rfl) ?_
      refine lv_bipush (v := 6) hF.x hF.b dX2_join_84 (by decide) ?_
      refine lv_icmp_ge (tgt := 170) hF.x hF.b dX2_join_86 (by decide) (fun c10 => ?_) (fun c10 => ?_)
      · rw [if_pos c10] at h
        exact hret _ _ _ _ _ hH h dX2_join_170
      · rw [if_neg c10] at h
        refine lv_iload hF.x hF.b dX2_join_89 (lv_at hl 4 rfl) ?_
        refine lv_iload hF.x hF.b dX2_join_91 (lv_at hl 6 rfl) ?_
        replace h := bd_some h
        obtain ⟨v11, σ12, hv11, h⟩ := h
        refine w_cNi (As := [.int x7, .int x9]) (rest := []) hF hH hl (tX5_bit l E hF.j _ _ _ _ hv11) (List.mem_of_getElem? (l := nestW) (i := 1) rfl) tk_227 tk_41 tk_228 rfl rfl hdX5_bit ⟨Nat.le_of_ble_eq_true rfl, Nat.le_of_ble_eq_true rfl⟩ rfl rfl (Nat.le_of_ble_eq_true rfl) dX2_join_93 (fun H locs hH => ?_)
        refine lv_if_eq (tgt := 103) hF.x hF.b dX2_join_96 (by decide) (fun c13 => ?_) (fun c13 => ?_)
        · rw [if_pos c13] at h
          refine lv_iconst (v := 0) hF.x hF.b dX2_join_103 (by decide) ?_
          exact w104 _ _ _ _ _ _ _ _ _ _ h hH (lv_sub hl [0, 1, 2, 3, 4, 5, 6] rfl)
        · rw [if_neg c13] at h
          refine lv_iconst (v := 1) hF.x hF.b dX2_join_99 (by decide) ?_
          refine lv_goto (tgt := 104) hF.x hF.b dX2_join_100 (by decide) ?_
          exact w104 _ _ _ _ _ _ _ _ _ _ h hH (lv_sub hl [0, 1, 2, 3, 4, 5, 6] rfl)
  have w79 : ∀ (x1 x2 x7 x8 : Int32) (σ : Sg) (H : Heap) (locs : List Loc) (ls : Array Slot), fX2_join_79 x1 x2 x7 x8 σ = some r → HP kC E s σ H locs → lv_has ls 11 [(0, .ref (eA E 9)), (1, .int x1), (2, .int x2), (3, .ref (eA E 1)), (7, .int x7), (8, .int x8)] → W p l e (rmk 1 22) s m args below meth c H locs 0 0 Q (F0 m 79 ls []) := by
    intro x1 x2 x7 x8 σ H locs ls h hH hl
    unfold fX2_join_79 at h
    refine lv_iconst (v := 0) hF.x hF.b dX2_join_79 (by decide) ?_
    refine lv_istore (lv' := [(9, .int 0), (0, .ref (eA E 9)), (1, .int x1), (2, .int x2), (3, .ref (eA E 1)), (7, .int x7), (8, .int x8)]) hF.x hF.b dX2_join_80 hl (by decide) rfl (fun ls hl => ?_)
    exact w82 _ _ _ _ _ _ _ _ _ _ h hH (lv_sub hl [1, 2, 3, 4, 5, 6, 0] rfl)
  unfold fX2_join at h
  refine lv_aload_n hF.x hF.b dX2_join_0 rfl (lv_at hl 3 rfl) ?_
  refine gfC_1_1 hF hH tk_69 dX2_join_1 ?_
  refine lv_iload hF.x hF.b dX2_join_4 (lv_at hl 4 rfl) ?_
  refine alC_2 hF hH (gd_some h).1 dX2_join_6 ?_
  replace h := (gd_some h).2
  refine lv_topi (fun y14 ey14 => ?_)
  replace h := sv_at h ey14
  clear ey14
  refine lv_istore (lv' := [(5, .int y14), (0, .ref (eA E 9)), (1, .int a1), (2, .int a2), (3, .ref (eA E 1)), (4, .int a4)]) hF.x hF.b dX2_join_7 hl (by decide) rfl (fun ls hl => ?_)
  refine lv_aload_n hF.x hF.b dX2_join_9 rfl (lv_at hl 4 rfl) ?_
  refine gfC_1_2 hF hH tk_73 dX2_join_10 ?_
  refine lv_iload hF.x hF.b dX2_join_13 (lv_at hl 5 rfl) ?_
  refine alC_3 hF hH (gd_some h).1 dX2_join_15 ?_
  replace h := (gd_some h).2
  refine lv_topi (fun y15 ey15 => ?_)
  replace h := sv_at h ey15
  clear ey15
  refine lv_istore (lv' := [(6, .int y15), (5, .int y14), (0, .ref (eA E 9)), (1, .int a1), (2, .int a2), (3, .ref (eA E 1)), (4, .int a4)]) hF.x hF.b dX2_join_16 hl (by decide) rfl (fun ls hl => ?_)
  refine lv_aload_n hF.x hF.b dX2_join_18 rfl (lv_at hl 2 rfl) ?_
  refine lv_iload_n hF.x hF.b dX2_join_19 rfl (lv_at hl 3 rfl) ?_
  refine lv_iload hF.x hF.b dX2_join_20 (lv_at hl 1 rfl) ?_
  replace h := bd_some h
  obtain ⟨v16, σ17, hv16, h⟩ := h
  refine w_cVi (As := [.int a1, .int y14]) (rest := []) hF hH hl 9 (by decide) rfl rfl (tX2_busesWith l E hF.j _ _ _ _ hv16) tk_218 tk_219 tk_220 tk_43 tk_221 rfl rfl hdX2_busesWith ⟨Nat.le_of_ble_eq_true rfl, Nat.le_of_ble_eq_true rfl⟩ rfl rfl (Nat.le_of_ble_eq_true rfl) dX2_join_22 (fun H locs hH => ?_)
  refine lv_aload_n hF.x hF.b dX2_join_25 rfl (lv_at hl 2 rfl) ?_
  refine lv_iload_n hF.x hF.b dX2_join_26 rfl (lv_at hl 3 rfl) ?_
  refine lv_iload hF.x hF.b dX2_join_27 (lv_at hl 0 rfl) ?_
  replace h := bd_some h
  obtain ⟨v18, σ19, hv18, h⟩ := h
  refine w_cVi (As := [.int a1, .int y15]) (rest := [.int v16]) hF hH hl 9 (by decide) rfl rfl (tX2_busesWith l E hF.j _ _ _ _ hv18) tk_218 tk_219 tk_220 tk_43 tk_221 rfl rfl hdX2_busesWith ⟨Nat.le_of_ble_eq_true rfl, Nat.le_of_ble_eq_true rfl⟩ rfl rfl (Nat.le_of_ble_eq_true rfl) dX2_join_29 (fun H locs hH => ?_)
  refine lv_ior hF.x hF.b dX2_join_32 ?_
  refine lv_topi (fun y20 ey20 => ?_)
  replace h := sv_at h ey20
  clear ey20
  refine lv_istore (lv' := [(7, .int y20), (6, .int y15), (5, .int y14), (0, .ref (eA E 9)), (1, .int a1), (2, .int a2), (3, .ref (eA E 1)), (4, .int a4)]) hF.x hF.b dX2_join_33 hl (by decide) rfl (fun ls hl => ?_)
  refine lv_aload_n hF.x hF.b dX2_join_35 rfl (lv_at hl 6 rfl) ?_
  refine gfC_1_3 hF hH tk_77 dX2_join_36 ?_
  refine lv_iload hF.x hF.b dX2_join_39 (lv_at hl 7 rfl) ?_
  refine alC_4 hF hH (gd_some h).1 dX2_join_41 ?_
  replace h := (gd_some h).2
  refine lv_aload_n hF.x hF.b dX2_join_42 rfl (lv_at hl 3 rfl) ?_
  refine lv_iload_n hF.x hF.b dX2_join_43 rfl (lv_at hl 4 rfl) ?_
  refine lv_iload hF.x hF.b dX2_join_44 (lv_at hl 2 rfl) ?_
  replace h := bd_some h
  obtain ⟨v21, σ22, hv21, h⟩ := h
  refine w_cVi (As := [.int a1, .int y14]) (rest := [.int (σ19 4 (Int32.toNatClampNeg a4))]) hF hH hl 9 (by decide) rfl rfl (tX2_drawAround l E hF.j _ _ _ _ hv21) tk_222 tk_223 tk_224 tk_43 tk_225 rfl rfl hdX2_drawAround ⟨Nat.le_of_ble_eq_true rfl, Nat.le_of_ble_eq_true rfl⟩ rfl rfl (Nat.le_of_ble_eq_true rfl) dX2_join_46 (fun H locs hH => ?_)
  refine lv_iadd hF.x hF.b dX2_join_49 ?_
  refine lv_topi (fun y23 ey23 => ?_)
  replace h := sv_at h ey23
  clear ey23
  refine lv_istore (lv' := [(8, .int y23), (7, .int y20), (6, .int y15), (5, .int y14), (0, .ref (eA E 9)), (1, .int a1), (2, .int a2), (3, .ref (eA E 1)), (4, .int a4)]) hF.x hF.b dX2_join_50 hl (by decide) rfl (fun ls hl => ?_)
  refine lv_aload_n hF.x hF.b dX2_join_52 rfl (lv_at hl 4 rfl) ?_
  refine lv_iload_n hF.x hF.b dX2_join_53 rfl (lv_at hl 5 rfl) ?_
  refine lv_iload hF.x hF.b dX2_join_54 (lv_at hl 3 rfl) ?_
  replace h := bd_some h
  obtain ⟨v24, σ25, hv24, h⟩ := h
  refine w_cVi (As := [.int a1, .int y14]) (rest := []) hF hH hl 9 (by decide) rfl rfl (tX2_busesWith l E hF.j _ _ _ _ hv24) tk_218 tk_219 tk_220 tk_43 tk_221 rfl rfl hdX2_busesWith ⟨Nat.le_of_ble_eq_true rfl, Nat.le_of_ble_eq_true rfl⟩ rfl rfl (Nat.le_of_ble_eq_true rfl) dX2_join_56 (fun H locs hH => ?_)
  refine lv_iload hF.x hF.b dX2_join_59 (lv_at hl 2 rfl) ?_
  replace h := bd_some h
  obtain ⟨v26, σ27, hv26, h⟩ := h
  refine w_cNi (As := [.int v24, .int y15]) (rest := []) hF hH hl (tX5_bit l E hF.j _ _ _ _ hv26) (List.mem_of_getElem? (l := nestW) (i := 1) rfl) tk_227 tk_41 tk_228 rfl rfl hdX5_bit ⟨Nat.le_of_ble_eq_true rfl, Nat.le_of_ble_eq_true rfl⟩ rfl rfl (Nat.le_of_ble_eq_true rfl) dX2_join_61 (fun H locs hH => ?_)
  refine lv_if_ne (tgt := 79) hF.x hF.b dX2_join_64 (by decide) (fun c28 => ?_) (fun c28 => ?_)
  · rw [if_neg c28] at h
    exact w79 _ _ _ _ _ _ _ _ h hH (lv_sub hl [4, 5, 6, 7, 1, 0] rfl)
  · rw [if_pos c28] at h
    refine lv_iload hF.x hF.b dX2_join_67 (lv_at hl 0 rfl) ?_
    refine lv_aload_n hF.x hF.b dX2_join_69 rfl (lv_at hl 4 rfl) ?_
    refine lv_iload_n hF.x hF.b dX2_join_70 rfl (lv_at hl 5 rfl) ?_
    refine lv_iload hF.x hF.b dX2_join_71 (lv_at hl 2 rfl) ?_
    replace h := bd_some h
    obtain ⟨v29, σ30, hv29, h⟩ := h
    refine w_cVi (As := [.int a1, .int y15]) (rest := [.int y23]) hF hH hl 9 (by decide) rfl rfl (tX2_drawAround l E hF.j _ _ _ _ hv29) tk_222 tk_223 tk_224 tk_43 tk_225 rfl rfl hdX2_drawAround ⟨Nat.le_of_ble_eq_true rfl, Nat.le_of_ble_eq_true rfl⟩ rfl rfl (Nat.le_of_ble_eq_true rfl) dX2_join_73 (fun H locs hH => ?_)
    refine lv_iadd hF.x hF.b dX2_join_76 ?_
    refine lv_topi (fun y31 ey31 => ?_)
    replace h := sv_at h ey31
    clear ey31
    refine lv_istore (lv' := [(8, .int y31), (7, .int y20), (6, .int y15), (5, .int y14), (0, .ref (eA E 9)), (1, .int a1), (2, .int a2), (3, .ref (eA E 1)), (4, .int a4)]) hF.x hF.b dX2_join_77 hl (by decide) rfl (fun ls hl => ?_)
    exact w79 _ _ _ _ _ _ _ _ h hH (lv_sub hl [4, 5, 6, 7, 1, 0] rfl)
theorem hdX2_learnLine : yX2_learnLine.cls = RX2 ∧ yX2_learnLine.cls ≠ "java/lang/invoke/MethodHandle" ∧ yX2_learnLine.cls ≠ "java/lang/invoke/VarHandle" ∧ (parseMethodDescriptor yX2_learnLine.desc).map (fun d => d.parameters.length) = some 2 := by decide +kernel
set_option maxHeartbeats 4000000 in
set_option maxRecDepth 100000 in
theorem tX2_learnLine (l : Launch) (E : Ev) (hj : Inj kC E) (a2 : Int32) (σ : Sg) (r : Int32 × Sg) (h : fX2_learnLine a2 σ = some r) : CV l yX2_learnLine cX2_learnLine 5 (rmk 2 52) kC E [.ref (eA E 9), .ref (eA E 1), .int a2] σ r := by
  refine CV_v (lv := [(0, .ref (eA E 9)), (1, .ref (eA E 1)), (2, .int a2)]) (by decide) hj (Nat.le_of_ble_eq_true rfl) rfl (fun p e s m args below meth c ls Q hF hret hH hl => ?_)
  have w9 : ∀ (n : Nat) (x2 x3 x4 : Int32) (σ : Sg) (H : Heap) (locs : List Loc) (ls : Array Slot), it fX2_learnLine_L9 (fun _ _ _ _ => none) n x2 x3 x4 σ = some r → HP kC E s σ H locs → lv_has ls 5 [(0, .ref (eA E 9)), (1, .ref (eA E 1)), (2, .int x2), (3, .int x3), (4, .int x4)] → W p l e (rmk 2 52) s m args below meth c H locs 0 0 Q (F0 m 9 ls []) := by
    intro n9
    induction n9 with
    | zero =>
      intro x2 x3 x4 σ H locs ls h hH hl
      cases (show (none : Rs) = some r from h)
    | succ n9 ih9 =>
      intro x2 x3 x4 σ H locs ls h hH hl
      rw [it_eq] at h
      unfold fX2_learnLine_L9 at h
      refine lv_iload hF.x hF.b dX2_learnLine_9 (lv_at hl 4 rfl) ?_
      refine lv_iload_n hF.x hF.b dX2_learnLine_11 rfl (lv_at hl 3 rfl) ?_
      refine lv_icmp_ge (tgt := 35) hF.x hF.b dX2_learnLine_12 (by decide) (fun c1 => ?_) (fun c1 => ?_)
      · rw [if_pos c1] at h
        exact hret _ _ _ _ _ hH h dX2_learnLine_35
      · rw [if_neg c1] at h
        refine lv_aload_n hF.x hF.b dX2_learnLine_15 rfl (lv_at hl 0 rfl) ?_
        refine lv_iload hF.x hF.b dX2_learnLine_16 (lv_at hl 4 rfl) ?_
        refine lv_iconst (v := 1) hF.x hF.b dX2_learnLine_18 (by decide) ?_
        refine lv_iload_n hF.x hF.b dX2_learnLine_19 rfl (lv_at hl 2 rfl) ?_
        refine lv_ishl hF.x hF.b dX2_learnLine_20 ?_
        refine lv_isub hF.x hF.b dX2_learnLine_21 ?_
        refine lv_iload hF.x hF.b dX2_learnLine_22 (lv_at hl 4 rfl) ?_
        refine lv_aload_n hF.x hF.b dX2_learnLine_24 rfl (lv_at hl 1 rfl) ?_
        refine lv_iload_n hF.x hF.b dX2_learnLine_25 rfl (lv_at hl 2 rfl) ?_
        replace h := bd_some h
        obtain ⟨v2, σ3, hv2, h⟩ := h
        refine w_cVv (As := [.int (x4 - ((1 : Int32) <<< (x2 &&& 31))), .int x4, .ref (eA E 1), .int x2]) (rest := []) hF hH hl 9 (by decide) rfl rfl (tX2_join l E hF.j _ _ _ _ _ hv2) tk_214 tk_216 tk_0 tk_43 tk_217 rfl rfl hdX2_join ⟨Nat.le_of_ble_eq_true rfl, Nat.le_of_ble_eq_true rfl⟩ rfl rfl (Nat.le_of_ble_eq_true rfl) dX2_learnLine_26 (fun H locs hH => ?_)
        obtain ⟨y4, ey4⟩ : ∃ z : Int32, z = (x4 + 1) := ⟨_, rfl⟩
        replace h := sv_at h ey4
        refine lv_iinc (v := y4) (lv' := [(4, .int y4), (0, .ref (eA E 9)), (1, .ref (eA E 1)), (2, .int x2), (3, .int x3)]) hF.x hF.b dX2_learnLine_29 hl (k := 4) rfl (by rw [ey4]; rfl) (by decide) rfl (fun ls hl => ?_)
        clear ey4
        refine lv_goto (tgt := 9) hF.x hF.b dX2_learnLine_32 (by decide) ?_
        exact ih9 _ _ _ _ _ _ _ h hH (lv_sub hl [1, 2, 3, 4, 0] rfl)
  unfold fX2_learnLine at h
  refine lv_iconst (v := 2) hF.x hF.b dX2_learnLine_0 (by decide) ?_
  refine lv_iload_n hF.x hF.b dX2_learnLine_1 rfl (lv_at hl 2 rfl) ?_
  refine lv_ishl hF.x hF.b dX2_learnLine_2 ?_
  refine lv_topi (fun y5 ey5 => ?_)
  replace h := sv_at h ey5
  clear ey5
  refine lv_istore_n (lv' := [(3, .int y5), (0, .ref (eA E 9)), (1, .ref (eA E 1)), (2, .int a2)]) hF.x hF.b dX2_learnLine_3 rfl hl (by decide) rfl (fun ls hl => ?_)
  refine lv_iconst (v := 1) hF.x hF.b dX2_learnLine_4 (by decide) ?_
  refine lv_iload_n hF.x hF.b dX2_learnLine_5 rfl (lv_at hl 3 rfl) ?_
  refine lv_ishl hF.x hF.b dX2_learnLine_6 ?_
  refine lv_topi (fun y6 ey6 => ?_)
  replace h := sv_at h ey6
  clear ey6
  refine lv_istore (lv' := [(4, .int y6), (3, .int y5), (0, .ref (eA E 9)), (1, .ref (eA E 1)), (2, .int a2)]) hF.x hF.b dX2_learnLine_7 hl (by decide) rfl (fun ls hl => ?_)
  exact w9 _ _ _ _ _ _ _ _ h hH (lv_sub hl [2, 3, 4, 1, 0] rfl)
