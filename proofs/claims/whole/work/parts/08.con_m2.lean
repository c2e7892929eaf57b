theorem hdX6_canStep : yX6_canStep.cls = RX6 ∧ yX6_canStep.cls ≠ "java/lang/invoke/MethodHandle" ∧ yX6_canStep.cls ≠ "java/lang/invoke/VarHandle" ∧ (parseMethodDescriptor yX6_canStep.desc).map (fun d => d.parameters.length) = some 1 := by decide +kernel
set_option maxHeartbeats 4000000 in
set_option maxRecDepth 100000 in
theorem tX6_canStep (l : Launch) (E : Ev) (hj : Inj kM E) (a1 : Int32) (σ : Sg) (r : Int32 × Sg) (h : fX6_canStep a1 σ = some r) : CI l yX6_canStep cX6_canStep 2 (some FieldType.boolean) (rmk 2 43) kM E [.ref (eA E 0), .int a1] σ r := by
  refine CI_z (lv := [(0, .ref (eA E 0)), (1, .int a1)]) (by decide) hj (Nat.le_of_ble_eq_true rfl) rfl (fun p e s m args below meth c ls Q hF hret hH hl => ?_)
  have w64 : ∀ (t0 : Int32) (σ : Sg) (H : Heap) (locs : List Loc) (ls : Array Slot), fX6_canStep_64 t0 σ = some r → HP kM E s σ H locs → lv_has ls 2 [(0, .ref (eA E 0))] → W p l e (rmk 2 43) s m args below meth c H locs 0 0 Q (F0 m 64 ls [.int t0]) := by
    intro t0 σ H locs ls h hH hl
    unfold fX6_canStep_64 at h
    exact hret _ _ _ _ _ _ hH h dX6_canStep_64
  have w35 : ∀ (σ : Sg) (H : Heap) (locs : List Loc) (ls : Array Slot), fX6_canStep_35 σ = some r → HP kM E s σ H locs → lv_has ls 2 [(0, .ref (eA E 0))] → W p l e (rmk 2 43) s m args below meth c H locs 0 0 Q (F0 m 35 ls []) := by
    intro σ H locs ls h hH hl
    unfold fX6_canStep_35 at h
    refine lv_iconst (v := 0) hF.x hF.b dX6_canStep_35 (by decide) ?_
    refine lv_goto (tgt := 64) hF.x hF.b dX6_canStep_36 (by decide) ?_
    exact w64 _ _ _ _ _ h hH (lv_sub hl [0] rfl)
  have w63 : ∀ (σ : Sg) (H : Heap) (locs : List Loc) (ls : Array Slot), fX6_canStep_63 σ = some r → HP kM E s σ H locs → lv_has ls 2 [(0, .ref (eA E 0))] → W p l e (rmk 2 43) s m args below meth c H locs 0 0 Q (F0 m 63 ls []) := by
    intro σ H locs ls h hH hl
    unfold fX6_canStep_63 at h
    refine lv_iconst (v := 0) hF.x hF.b dX6_canStep_63 (by decide) ?_
    exact w64 _ _ _ _ _ h hH (lv_sub hl [0] rfl)
  unfold fX6_canStep at h
  refine lv_iload_n hF.x hF.b dX6_canStep_0 rfl (lv_at hl 1 rfl) ?_
  refine lv_if_ne (tgt := 6) hF.x hF.b dX6_canStep_1 (by decide) (fun c1 => ?_) (fun c1 => ?_)
  · rw [if_neg c1] at h
    refine lv_iload_n hF.x hF.b dX6_canStep_6 rfl (lv_at hl 1 rfl) ?_
    refine lv_iconst (v := 4) hF.x hF.b dX6_canStep_7 (by decide) ?_
    refine lv_icmp_ge (tgt := 39) hF.x hF.b dX6_canStep_8 (by decide) (fun c2 => ?_) (fun c2 => ?_)
    · rw [if_pos c2] at h
      refine lv_aload_n hF.x hF.b dX6_canStep_39 rfl (lv_at hl 0 rfl) ?_
      refine lv_iload_n hF.x hF.b dX6_canStep_40 rfl (lv_at hl 1 rfl) ?_
      refine lv_iconst (v := 4) hF.x hF.b dX6_canStep_41 (by decide) ?_
      refine lv_isub hF.x hF.b dX6_canStep_42 ?_
      replace h := bd_some h
      obtain ⟨v3, σ4, hv3, h⟩ := h
      refine w_cVi (As := [.int (a1 - (4 : Int32))]) (rest := []) hF hH hl 0 (by decide) rfl rfl (tX6_isLine l E hF.j _ _ _ hv3) tk_538 tk_540 tk_9 tk_46 tk_541 rfl rfl hdX6_isLine ⟨Nat.le_of_ble_eq_true rfl, Nat.le_of_ble_eq_true rfl⟩ rfl rfl (Nat.le_of_ble_eq_true rfl) dX6_canStep_43 (fun H locs hH => ?_)
      refine lv_if_eq (tgt := 63) hF.x hF.b dX6_canStep_46 (by decide) (fun c5 => ?_) (fun c5 => ?_)
      · rw [if_pos c5] at h
        exact w63 _ _ _ _ h hH (lv_sub hl [0] rfl)
      · rw [if_neg c5] at h
        refine lv_aload_n hF.x hF.b dX6_canStep_49 rfl (lv_at hl 0 rfl) ?_
        refine lv_iload_n hF.x hF.b dX6_canStep_50 rfl (lv_at hl 1 rfl) ?_
        refine lv_iconst (v := 4) hF.x hF.b dX6_canStep_51 (by decide) ?_
        refine lv_isub hF.x hF.b dX6_canStep_52 ?_
        replace h := bd_some h
        obtain ⟨v6, σ7, hv6, h⟩ := h
        refine w_cVi (As := [.int (a1 - (4 : Int32))]) (rest := []) hF hH hl 0 (by decide) rfl rfl (tX6_canClose l E hF.j _ _ _ hv6) tk_586 tk_588 tk_18 tk_46 tk_589 rfl rfl hdX6_canClose ⟨Nat.le_of_ble_eq_true rfl, Nat.le_of_ble_eq_true rfl⟩ rfl rfl (Nat.le_of_ble_eq_true rfl) dX6_canStep_53 (fun H locs hH => ?_)
        refine lv_if_eq (tgt := 63) hF.x hF.b dX6_canStep_56 (by decide) (fun c8 => ?_) (fun c8 => ?_)
        · rw [if_pos c8] at h
          exact w63 _ _ _ _ h hH (lv_sub hl [0] rfl)
        · rw [if_neg c8] at h
          refine lv_iconst (v := 1) hF.x hF.b dX6_canStep_59 (by decide) ?_
          refine lv_goto (tgt := 64) hF.x hF.b dX6_canStep_60 (by decide) ?_
          exact w64 _ _ _ _ _ h hH (lv_sub hl [0] rfl)
    · rw [if_neg c2] at h
      refine lv_aload_n hF.x hF.b dX6_canStep_11 rfl (lv_at hl 0 rfl) ?_
      refine lv_iload_n hF.x hF.b dX6_canStep_12 rfl (lv_at hl 1 rfl) ?_
      refine lv_iconst (v := 1) hF.x hF.b dX6_canStep_13 (by decide) ?_
      refine lv_isub hF.x hF.b dX6_canStep_14 ?_
      replace h := bd_some h
      obtain ⟨v9, σ10, hv9, h⟩ := h
      refine w_cVi (As := [.int (a1 - (1 : Int32))]) (rest := []) hF hH hl 0 (by decide) rfl rfl (tX6_isMachine l E hF.j _ _ _ hv9) tk_546 tk_548 tk_10 tk_46 tk_549 rfl rfl hdX6_isMachine ⟨Nat.le_of_ble_eq_true rfl, Nat.le_of_ble_eq_true rfl⟩ rfl rfl (Nat.le_of_ble_eq_true rfl) dX6_canStep_15 (fun H locs hH => ?_)
      refine lv_if_eq (tgt := 35) hF.x hF.b dX6_canStep_18 (by decide) (fun c11 => ?_) (fun c11 => ?_)
      · rw [if_pos c11] at h
        exact w35 _ _ _ _ h hH (lv_sub hl [0] rfl)
      · rw [if_neg c11] at h
        refine lv_aload_n hF.x hF.b dX6_canStep_21 rfl (lv_at hl 0 rfl) ?_
        refine lv_iload_n hF.x hF.b dX6_canStep_22 rfl (lv_at hl 1 rfl) ?_
        refine lv_iconst (v := 1) hF.x hF.b dX6_canStep_23 (by decide) ?_
        refine lv_isub hF.x hF.b dX6_canStep_24 ?_
        replace h := bd_some h
        obtain ⟨v12, σ13, hv12, h⟩ := h
        refine w_cVi (As := [.int (a1 - (1 : Int32))]) (rest := []) hF hH hl 0 (by decide) rfl rfl (tX6_canStart l E hF.j _ _ _ hv12) tk_582 tk_584 tk_17 tk_46 tk_585 rfl rfl hdX6_canStart ⟨Nat.le_of_ble_eq_true rfl, Nat.le_of_ble_eq_true rfl⟩ rfl rfl (Nat.le_of_ble_eq_true rfl) dX6_canStep_25 (fun H locs hH => ?_)
        refine lv_if_eq (tgt := 35) hF.x hF.b dX6_canStep_28 (by decide) (fun c14 => ?_) (fun c14 => ?_)
        · rw [if_pos c14] at h
          exact w35 _ _ _ _ h hH (lv_sub hl [0] rfl)
        · rw [if_neg c14] at h
          refine lv_iconst (v := 1) hF.x hF.b dX6_canStep_31 (by decide) ?_
          refine lv_goto (tgt := 64) hF.x hF.b dX6_canStep_32 (by decide) ?_
          exact w64 _ _ _ _ _ h hH (lv_sub hl [0] rfl)
  · rw [if_pos c1] at h
    refine lv_iconst (v := 1) hF.x hF.b dX6_canStep_4 (by decide) ?_
    exact hret _ _ _ _ _ _ hH h dX6_canStep_5
theorem hdX6_can : yX6_can.cls = RX6 ∧ yX6_can.cls ≠ "java/lang/invoke/MethodHandle" ∧ yX6_can.cls ≠ "java/lang/invoke/VarHandle" ∧ (parseMethodDescriptor yX6_can.desc).map (fun d => d.parameters.length) = some 0 := by decide +kernel
set_option maxHeartbeats 4000000 in
set_option maxRecDepth 100000 in
theorem tX6_can (l : Launch) (E : Ev) (hj : Inj kM E) (σ : Sg) (r : Int32 × Sg) (h : fX6_can σ = some r) : CI l yX6_can cX6_can 3 (some FieldType.int) (rmk 3 69) kM E [.ref (eA E 0)] σ r := by
  refine CI_i (lv := [(0, .ref (eA E 0))]) (by decide) hj (Nat.le_of_ble_eq_true rfl) rfl (fun p e s m args below meth c ls Q hF hret hH hl => ?_)
  have w8 : ∀ (n : Nat) (x1 x2 : Int32) (σ : Sg) (H : Heap) (locs : List Loc) (ls : Array Slot), it fX6_can_L8 (fun _ _ _ => none) n x1 x2 σ = some r → HP kM E s σ H locs → lv_has ls 3 [(0, .ref (eA E 0)), (1, .int x1), (2, .int x2)] → W p l e (rmk 3 69) s m args below meth c H locs 0 0 Q (F0 m 8 ls []) := by
    intro n8
    induction n8 with
    | zero =>
      intro x1 x2 σ H locs ls h hH hl
      cases (show (none : Rs) = some r from h)
    | succ n8 ih8 =>
      have w30 : ∀ (x2 t0 t1 : Int32) (σ : Sg) (H : Heap) (locs : List Loc) (ls : Array Slot), fX6_can_30 (it fX6_can_L8 (fun _ _ _ => none) n8) x2 t0 t1 σ = some r → HP kM E s σ H locs → lv_has ls 3 [(0, .ref (eA E 0)), (2, .int x2)] → W p l e (rmk 3 69) s m args below meth c H locs 0 0 Q (F0 m 30 ls [.int t0, .int t1]) := by
        intro x2 t0 t1 σ H locs ls h hH hl
        unfold fX6_can_30 at h
        refine lv_ior hF.x hF.b dX6_can_30 ?_
        refine lv_topi (fun y1 ey1 => ?_)
        replace h := sv_at h ey1
        clear ey1
        refine lv_istore_n (lv' := [(1, .int y1), (0, .ref (eA E 0)), (2, .int x2)]) hF.x hF.b dX6_can_31 rfl hl (by decide) rfl (fun ls hl => ?_)
        obtain ⟨y2, ey2⟩ : ∃ z : Int32, z = (x2 + 1) := ⟨_, rfl⟩
        replace h := sv_at h ey2
        refine lv_iinc (v := y2) (lv' := [(2, .int y2), (1, .int y1), (0, .ref (eA E 0))]) hF.x hF.b dX6_can_32 hl (k := 2) rfl (by rw [ey2]; rfl) (by decide) rfl (fun ls hl => ?_)
        clear ey2
        refine lv_goto (tgt := 8) hF.x hF.b dX6_can_35 (by decide) ?_
        exact ih8 _ _ _ _ _ _ h hH (lv_sub hl [2, 1, 0] rfl)
      intro x1 x2 σ H locs ls h hH hl
      rw [it_eq] at h
      unfold fX6_can_L8 at h
      refine lv_iload_n hF.x hF.b dX6_can_8 rfl (lv_at hl 2 rfl) ?_
      refine lv_bipush (v := 10) hF.x hF.b dX6_can_9 (by decide) ?_
      refine lv_icmp_ge (tgt := 38) hF.x hF.b dX6_can_11 (by decide) (fun c3 => ?_) (fun c3 => ?_)
      · rw [if_pos c3] at h
        refine lv_iload_n hF.x hF.b dX6_can_38 rfl (lv_at hl 1 rfl) ?_
        exact hret _ _ _ _ _ _ hH h dX6_can_39
      · rw [if_neg c3] at h
        refine lv_iload_n hF.x hF.b dX6_can_14 rfl (lv_at hl 1 rfl) ?_
        refine lv_aload_n hF.x hF.b dX6_can_15 rfl (lv_at hl 0 rfl) ?_
        refine lv_iload_n hF.x hF.b dX6_can_16 rfl (lv_at hl 2 rfl) ?_
        replace h := bd_some h
        obtain ⟨v4, σ5, hv4, h⟩ := h
        refine w_cVi (As := [.int x2]) (rest := [.int x1]) hF hH hl 0 (by decide) rfl rfl (tX6_canStep l E hF.j _ _ _ hv4) tk_578 tk_580 tk_16 tk_46 tk_581 rfl rfl hdX6_canStep ⟨Nat.le_of_ble_eq_true rfl, Nat.le_of_ble_eq_true rfl⟩ rfl rfl (Nat.le_of_ble_eq_true rfl) dX6_can_17 (fun H locs hH => ?_)
        refine lv_if_eq (tgt := 29) hF.x hF.b dX6_can_20 (by decide) (fun c6 => ?_) (fun c6 => ?_)
        · rw [if_pos c6] at h
          refine lv_iconst (v := 0) hF.x hF.b dX6_can_29 (by decide) ?_
          exact w30 _ _ _ _ _ _ _ h hH (lv_sub hl [0, 2] rfl)
        · rw [if_neg c6] at h
          refine lv_iconst (v := 1) hF.x hF.b dX6_can_23 (by decide) ?_
          refine lv_iload_n hF.x hF.b dX6_can_24 rfl (lv_at hl 2 rfl) ?_
          refine lv_ishl hF.x hF.b dX6_can_25 ?_
          refine lv_goto (tgt := 30) hF.x hF.b dX6_can_26 (by decide) ?_
          exact w30 _ _ _ _ _ _ _ h hH (lv_sub hl [0, 2] rfl)
  unfold fX6_can at h
  refine lv_aload_n hF.x hF.b dX6_can_0 rfl (lv_at hl 0 rfl) ?_
  replace h := bd_some h
  obtain ⟨v7, σ8, hv7, h⟩ := h
  refine w_cVv (As := []) (rest := []) hF hH hl 0 (by decide) rfl rfl (tX6_layNow l E hF.j _ _ hv7) tk_554 tk_556 tk_11 tk_46 tk_557 rfl rfl hdX6_layNow ⟨Nat.le_of_ble_eq_true rfl, Nat.le_of_ble_eq_true rfl⟩ rfl rfl (Nat.le_of_ble_eq_true rfl) dX6_can_1 (fun H locs hH => ?_)
  refine lv_iconst (v := 0) hF.x hF.b dX6_can_4 (by decide) ?_
  refine lv_istore_n (lv' := [(1, .int 0), (0, .ref (eA E 0))]) hF.x hF.b dX6_can_5 rfl hl (by decide) rfl (fun ls hl => ?_)
  refine lv_iconst (v := 0) hF.x hF.b dX6_can_6 (by decide) ?_
  refine lv_istore_n (lv' := [(2, .int 0), (1, .int 0), (0, .ref (eA E 0))]) hF.x hF.b dX6_can_7 rfl hl (by decide) rfl (fun ls hl => ?_)
  exact w8 _ _ _ _ _ _ _ h hH (lv_sub hl [2, 1, 0] rfl)
theorem hdX6_ranOn : yX6_ranOn.cls = RX6 ∧ yX6_ranOn.cls ≠ "java/lang/invoke/MethodHandle" ∧ yX6_ranOn.cls ≠ "java/lang/invoke/VarHandle" ∧ (parseMethodDescriptor yX6_ranOn.desc).map (fun d => d.parameters.length) = some 2 := by decide +kernel
set_option maxHeartbeats 4000000 in
set_option maxRecDepth 100000 in
theorem tX6_ranOn (l : Launch) (E : Ev) (hj : Inj kM E) (a1 : Int32) (a2 : Int32) (σ : Sg) (r : Int32 × Sg) (h : fX6_ranOn a1 a2 σ = some r) : CI l yX6_ranOn cX6_ranOn 3 (some FieldType.int) (rmk 0 0) kM E [.ref (eA E 0), .int a1, .int a2] σ r := by
  refine CI_i (lv := [(0, .ref (eA E 0)), (1, .int a1), (2, .int a2)]) (by decide) hj (Nat.le_of_ble_eq_true rfl) rfl (fun p e s m args below meth c ls Q hF hret hH hl => ?_)
  have w48 : ∀ (t0 : Int32) (σ : Sg) (H : Heap) (locs : List Loc) (ls : Array Slot), fX6_ranOn_48 t0 σ = some r → HP kM E s σ H locs → lv_has ls 3 [(0, .ref (eA E 0))] → W p l e (rmk 0 0) s m args below meth c H locs 0 0 Q (F0 m 48 ls [.int t0]) := by
    intro t0 σ H locs ls h hH hl
    unfold fX6_ranOn_48 at h
    exact hret _ _ _ _ _ _ hH h dX6_ranOn_48
  unfold fX6_ranOn at h
  refine lv_iload_n hF.x hF.b dX6_ranOn_0 rfl (lv_at hl 2 rfl) ?_
  refine lv_iload_n hF.x hF.b dX6_ranOn_1 rfl (lv_at hl 1 rfl) ?_
  refine lv_iconst (v := 1) hF.x hF.b dX6_ranOn_2 (by decide) ?_
  refine lv_iadd hF.x hF.b dX6_ranOn_3 ?_
  refine lv_icmp_ne (tgt := 21) hF.x hF.b dX6_ranOn_4 (by decide) (fun c1 => ?_) (fun c1 => ?_)
  · rw [if_neg c1] at h
    refine lv_aload_n hF.x hF.b dX6_ranOn_21 rfl (lv_at hl 0 rfl) ?_
    refine gfM_0_4 hF hH tk_482 dX6_ranOn_22 ?_
    refine lv_iload_n hF.x hF.b dX6_ranOn_25 rfl (lv_at hl 1 rfl) ?_
    refine alM_5 hF hH (gd_some h).1 dX6_ranOn_26 ?_
    replace h := (gd_some h).2
    refine lv_iconst (v := 1) hF.x hF.b dX6_ranOn_27 (by decide) ?_
    refine lv_icmp_le (tgt := 42) hF.x hF.b dX6_ranOn_28 (by decide) (fun c2 => ?_) (fun c2 => ?_)
    · rw [if_pos c2] at h
      refine lv_aload_n hF.x hF.b dX6_ranOn_42 rfl (lv_at hl 0 rfl) ?_
      refine gfM_0_4 hF hH tk_482 dX6_ranOn_43 ?_
      refine lv_iload_n hF.x hF.b dX6_ranOn_46 rfl (lv_at hl 1 rfl) ?_
      refine alM_5 hF hH (gd_some h).1 dX6_ranOn_47 ?_
      replace h := (gd_some h).2
      exact w48 _ _ _ _ _ h hH (lv_sub hl [0] rfl)
    · rw [if_neg c2] at h
      refine lv_aload_n hF.x hF.b dX6_ranOn_31 rfl (lv_at hl 0 rfl) ?_
      refine gfM_0_4 hF hH tk_482 dX6_ranOn_32 ?_
      refine lv_iload_n hF.x hF.b dX6_ranOn_35 rfl (lv_at hl 1 rfl) ?_
      refine alM_5 hF hH (gd_some h).1 dX6_ranOn_36 ?_
      replace h := (gd_some h).2
      refine lv_iconst (v := 1) hF.x hF.b dX6_ranOn_37 (by decide) ?_
      refine lv_isub hF.x hF.b dX6_ranOn_38 ?_
      refine lv_goto (tgt := 48) hF.x hF.b dX6_ranOn_39 (by decide) ?_
      exact w48 _ _ _ _ _ h hH (lv_sub hl [0] rfl)
  · rw [if_pos c1] at h
    refine lv_aload_n hF.x hF.b dX6_ranOn_7 rfl (lv_at hl 0 rfl) ?_
    refine gfM_0_0 hF hH tk_478 dX6_ranOn_8 ?_
    refine lv_bipush (v := 33) hF.x hF.b dX6_ranOn_11 (by decide) ?_
    refine lv_iload_n hF.x hF.b dX6_ranOn_13 rfl (lv_at hl 1 rfl) ?_
    refine lv_iadd hF.x hF.b dX6_ranOn_14 ?_
    refine alM_1 hF hH (gd_some h).1 dX6_ranOn_15 ?_
    replace h := (gd_some h).2
    refine lv_iconst (v := 1) hF.x hF.b dX6_ranOn_16 (by decide) ?_
    refine lv_iadd hF.x hF.b dX6_ranOn_17 ?_
    refine lv_goto (tgt := 48) hF.x hF.b dX6_ranOn_18 (by decide) ?_
    exact w48 _ _ _ _ _ h hH (lv_sub hl [0] rfl)
theorem hdX6_numberBehind : yX6_numberBehind.cls = RX6 ∧ yX6_numberBehind.cls ≠ "java/lang/invoke/MethodHandle" ∧ yX6_numberBehind.cls ≠ "java/lang/invoke/VarHandle" ∧ (parseMethodDescriptor yX6_numberBehind.desc).map (fun d => d.parameters.length) = some 1 := by decide +kernel
set_option maxHeartbeats 4000000 in
set_option maxRecDepth 100000 in
theorem tX6_numberBehind (l : Launch) (E : Ev) (hj : Inj kM E) (a1 : Int32) (σ : Sg) (r : Int32 × Sg) (h : fX6_numberBehind a1 σ = some r) : CI l yX6_numberBehind cX6_numberBehind 4 (some FieldType.int) (rmk 1 22) kM E [.ref (eA E 0), .int a1] σ r := by
  refine CI_i (lv := [(0, .ref (eA E 0)), (1, .int a1)]) (by decide) hj (Nat.le_of_ble_eq_true rfl) rfl (fun p e s m args below meth c ls Q hF hret hH hl => ?_)
  have w4 : ∀ (n : Nat) (x1 x2 x3 : Int32) (σ : Sg) (H : Heap) (locs : List Loc) (ls : Array Slot), it fX6_numberBehind_L4 (fun _ _ _ _ => none) n x1 x2 x3 σ = some r → HP kM E s σ H locs → lv_has ls 4 [(0, .ref (eA E 0)), (1, .int x1), (2, .int x2), (3, .int x3)] → W p l e (rmk 1 22) s m args below meth c H locs 0 0 Q (F0 m 4 ls []) := by
    intro n4
    induction n4 with
    | zero =>
      intro x1 x2 x3 σ H locs ls h hH hl
      cases (show (none : Rs) = some r from h)
    | succ n4 ih4 =>
      have w35 : ∀ (x1 x3 t0 t1 : Int32) (σ : Sg) (H : Heap) (locs : List Loc) (ls : Array Slot), fX6_numberBehind_35 (it fX6_numberBehind_L4 (fun _ _ _ _ => none) n4) x1 x3 t0 t1 σ = some r → HP kM E s σ H locs → lv_has ls 4 [(0, .ref (eA E 0)), (1, .int x1), (3, .int x3)] → W p l e (rmk 1 22) s m args below meth c H locs 0 0 Q (F0 m 35 ls [.int t0, .int t1]) := by
        intro x1 x3 t0 t1 σ H locs ls h hH hl
        unfold fX6_numberBehind_35 at h
        refine lv_ior hF.x hF.b dX6_numberBehind_35 ?_
        refine lv_topi (fun y1 ey1 => ?_)
        replace h := sv_at h ey1
        clear ey1
        refine lv_istore_n (lv' := [(2, .int y1), (0, .ref (eA E 0)), (1, .int x1), (3, .int x3)]) hF.x hF.b dX6_numberBehind_36 rfl hl (by decide) rfl (fun ls hl => ?_)
        obtain ⟨y2, ey2⟩ : ∃ z : Int32, z = (x3 + 1) := ⟨_, rfl⟩
        replace h := sv_at h ey2
        refine lv_iinc (v := y2) (lv' := [(3, .int y2), (2, .int y1), (0, .ref (eA E 0)), (1, .int x1)]) hF.x hF.b dX6_numberBehind_37 hl (k := 3) rfl (by rw [ey2]; rfl) (by decide) rfl (fun ls hl => ?_)
        clear ey2
        refine lv_goto (tgt := 4) hF.x hF.b dX6_numberBehind_40 (by decide) ?_
        exact ih4 _ _ _ _ _ _ _ h hH (lv_sub hl [2, 3, 1, 0] rfl)
      have w28 : ∀ (x1 x3 t0 : Int32) (σ : Sg) (H : Heap) (locs : List Loc) (ls : Array Slot), fX6_numberBehind_28 (it fX6_numberBehind_L4 (fun _ _ _ _ => none) n4) x1 x3 t0 σ = some r → HP kM E s σ H locs → lv_has ls 4 [(0, .ref (eA E 0)), (1, .int x1), (3, .int x3)] → W p l e (rmk 1 22) s m args below meth c H locs 0 0 Q (F0 m 28 ls [.int t0]) := by
        intro x1 x3 t0 σ H locs ls h hH hl
        unfold fX6_numberBehind_28 at h
        refine lv_iconst (v := 1) hF.x hF.b dX6_numberBehind_28 (by decide) ?_
        refine lv_iload_n hF.x hF.b dX6_numberBehind_29 rfl (lv_at hl 2 rfl) ?_
        refine lv_ishl hF.x hF.b dX6_numberBehind_30 ?_
        refine lv_goto (tgt := 35) hF.x hF.b dX6_numberBehind_31 (by decide) ?_
        exact w35 _ _ _ _ _ _ _ _ h hH (lv_sub hl [0, 1, 2] rfl)
      intro x1 x2 x3 σ H locs ls h hH hl
      rw [it_eq] at h
      unfold fX6_numberBehind_L4 at h
      refine lv_iload_n hF.x hF.b dX6_numberBehind_4 rfl (lv_at hl 3 rfl) ?_
      refine lv_bipush (v := 6) hF.x hF.b dX6_numberBehind_5 (by decide) ?_
      refine lv_icmp_ge (tgt := 43) hF.x hF.b dX6_numberBehind_7 (by decide) (fun c3 => ?_) (fun c3 => ?_)
      · rw [if_pos c3] at h
        refine lv_iload_n hF.x hF.b dX6_numberBehind_43 rfl (lv_at hl 2 rfl) ?_
        refine lv_bipush (v := 64) hF.x hF.b dX6_numberBehind_44 (by decide) ?_
        refine lv_aload_n hF.x hF.b dX6_numberBehind_46 rfl (lv_at hl 0 rfl) ?_
        refine lv_iconst (v := 0) hF.x hF.b dX6_numberBehind_47 (by decide) ?_
        refine lv_iload_n hF.x hF.b dX6_numberBehind_48 rfl (lv_at hl 1 rfl) ?_
        replace h := bd_some h
        obtain ⟨v4, σ5, hv4, h⟩ := h
        refine w_cVi (As := [.int 0, .int x1]) (rest := [.int 64, .int x2]) hF hH hl 0 (by decide) rfl rfl (tX6_ranOn l E hF.j _ _ _ _ hv4) tk_598 tk_600 tk_20 tk_46 tk_601 rfl rfl hdX6_ranOn ⟨Nat.le_of_ble_eq_true rfl, Nat.le_of_ble_eq_true rfl⟩ rfl rfl (Nat.le_of_ble_eq_true rfl) dX6_numberBehind_49 (fun H locs hH => ?_)
        refine lv_iconst (v := 5) hF.x hF.b dX6_numberBehind_52 (by decide) ?_
        refine lv_aload_n hF.x hF.b dX6_numberBehind_53 rfl (lv_at hl 0 rfl) ?_
        refine lv_iconst (v := 1) hF.x hF.b dX6_numberBehind_54 (by decide) ?_
        refine lv_iload_n hF.x hF.b dX6_numberBehind_55 rfl (lv_at hl 1 rfl) ?_
        replace h := bd_some h
        obtain ⟨v6, σ7, hv6, h⟩ := h
        refine w_cVi (As := [.int 1, .int x1]) (rest := [.int 5, .int v4, .int 64, .int x2]) hF hH hl 0 (by decide) rfl rfl (tX6_ranOn l E hF.j _ _ _ _ hv6) tk_598 tk_600 tk_20 tk_46 tk_601 rfl rfl hdX6_ranOn ⟨Nat.le_of_ble_eq_true rfl, Nat.le_of_ble_eq_true rfl⟩ rfl rfl (Nat.le_of_ble_eq_true rfl) dX6_numberBehind_56 (fun H locs hH => ?_)
        refine lv_imul hF.x hF.b dX6_numberBehind_59 ?_
        refine lv_iadd hF.x hF.b dX6_numberBehind_60 ?_
        refine lv_bipush (v := 25) hF.x hF.b dX6_numberBehind_61 (by decide) ?_
        refine lv_aload_n hF.x hF.b dX6_numberBehind_63 rfl (lv_at hl 0 rfl) ?_
        refine lv_iconst (v := 2) hF.x hF.b dX6_numberBehind_64 (by decide) ?_
        refine lv_iload_n hF.x hF.b dX6_numberBehind_65 rfl (lv_at hl 1 rfl) ?_
        replace h := bd_some h
        obtain ⟨v8, σ9, hv8, h⟩ := h
        refine w_cVi (As := [.int 2, .int x1]) (rest := [.int 25, .int (v4 + ((5 : Int32) * v6)), .int 64, .int x2]) hF hH hl 0 (by decide) rfl rfl (tX6_ranOn l E hF.j _ _ _ _ hv8) tk_598 tk_600 tk_20 tk_46 tk_601 rfl rfl hdX6_ranOn ⟨Nat.le_of_ble_eq_true rfl, Nat.le_of_ble_eq_true rfl⟩ rfl rfl (Nat.le_of_ble_eq_true rfl) dX6_numberBehind_66 (fun H locs hH => ?_)
        refine lv_imul hF.x hF.b dX6_numberBehind_69 ?_
        refine lv_iadd hF.x hF.b dX6_numberBehind_70 ?_
        refine lv_imul hF.x hF.b dX6_numberBehind_71 ?_
        refine lv_iadd hF.x hF.b dX6_numberBehind_72 ?_
        exact hret _ _ _ _ _ _ hH h dX6_numberBehind_73
      · rw [if_neg c3] at h
        refine lv_iload_n hF.x hF.b dX6_numberBehind_10 rfl (lv_at hl 2 rfl) ?_
        refine lv_aload_n hF.x hF.b dX6_numberBehind_11 rfl (lv_at hl 0 rfl) ?_
        refine gfM_0_3 hF hH tk_481 dX6_numberBehind_12 ?_
        refine lv_iload_n hF.x hF.b dX6_numberBehind_15 rfl (lv_at hl 3 rfl) ?_
        refine alM_4 hF hH (gd_some h).1 dX6_numberBehind_16 ?_
        replace h := (gd_some h).2
        refine lv_iconst (v := 1) hF.x hF.b dX6_numberBehind_17 (by decide) ?_
        refine lv_icmp_eq (tgt := 28) hF.x hF.b dX6_numberBehind_18 (by decide) (fun c10 => ?_) (fun c10 => ?_)
        · rw [if_pos c10] at h
          exact w28 _ _ _ _ _ _ _ h hH (lv_sub hl [0, 1, 3] rfl)
        · rw [if_neg c10] at h
          refine lv_iload_n hF.x hF.b dX6_numberBehind_21 rfl (lv_at hl 1 rfl) ?_
          refine lv_iload_n hF.x hF.b dX6_numberBehind_22 rfl (lv_at hl 3 rfl) ?_
          refine lv_iconst (v := 4) hF.x hF.b dX6_numberBehind_23 (by decide) ?_
          refine lv_iadd hF.x hF.b dX6_numberBehind_24 ?_
          refine lv_icmp_ne (tgt := 34) hF.x hF.b dX6_numberBehind_25 (by decide) (fun c11 => ?_) (fun c11 => ?_)
          · rw [if_neg c11] at h
            refine lv_iconst (v := 0) hF.x hF.b dX6_numberBehind_34 (by decide) ?_
            exact w35 _ _ _ _ _ _ _ _ h hH (lv_sub hl [0, 1, 3] rfl)
          · rw [if_pos c11] at h
            exact w28 _ _ _ _ _ _ _ h hH (lv_sub hl [0, 1, 3] rfl)
  unfold fX6_numberBehind at h
  refine lv_iconst (v := 0) hF.x hF.b dX6_numberBehind_0 (by decide) ?_
  refine lv_istore_n (lv' := [(2, .int 0), (0, .ref (eA E 0)), (1, .int a1)]) hF.x hF.b dX6_numberBehind_1 rfl hl (by decide) rfl (fun ls hl => ?_)
  refine lv_iconst (v := 0) hF.x hF.b dX6_numberBehind_2 (by decide) ?_
  refine lv_istore_n (lv' := [(3, .int 0), (2, .int 0), (0, .ref (eA E 0)), (1, .int a1)]) hF.x hF.b dX6_numberBehind_3 rfl hl (by decide) rfl (fun ls hl => ?_)
  exact w4 _ _ _ _ _ _ _ _ h hH (lv_sub hl [2, 3, 1, 0] rfl)
theorem hdX6_numberNow : yX6_numberNow.cls = RX6 ∧ yX6_numberNow.cls ≠ "java/lang/invoke/MethodHandle" ∧ yX6_numberNow.cls ≠ "java/lang/invoke/VarHandle" ∧ (parseMethodDescriptor yX6_numberNow.desc).map (fun d => d.parameters.length) = some 0 := by decide +kernel
set_option maxHeartbeats 4000000 in
set_option maxRecDepth 100000 in
theorem tX6_numberNow (l : Launch) (E : Ev) (hj : Inj kM E) (σ : Sg) (r : Int32 × Sg) (h : fX6_numberNow σ = some r) : CI l yX6_numberNow cX6_numberNow 3 (some FieldType.int) (rmk 0 0) kM E [.ref (eA E 0)] σ r := by
  refine CI_i (lv := [(0, .ref (eA E 0))]) (by decide) hj (Nat.le_of_ble_eq_true rfl) rfl (fun p e s m args below meth c ls Q hF hret hH hl => ?_)
  have w4 : ∀ (n : Nat) (x1 x2 : Int32) (σ : Sg) (H : Heap) (locs : List Loc) (ls : Array Slot), it fX6_numberNow_L4 (fun _ _ _ => none) n x1 x2 σ = some r → HP kM E s σ H locs → lv_has ls 3 [(0, .ref (eA E 0)), (1, .int x1), (2, .int x2)] → W p l e (rmk 0 0) s m args below meth c H locs 0 0 Q (F0 m 4 ls []) := by
    intro n4
    induction n4 with
    | zero =>
      intro x1 x2 σ H locs ls h hH hl
      cases (show (none : Rs) = some r from h)
    | succ n4 ih4 =>
      intro x1 x2 σ H locs ls h hH hl
      rw [it_eq] at h
      unfold fX6_numberNow_L4 at h
      refine lv_iload_n hF.x hF.b dX6_numberNow_4 rfl (lv_at hl 2 rfl) ?_
      refine lv_bipush (v := 6) hF.x hF.b dX6_numberNow_5 (by decide) ?_
      refine lv_icmp_ge (tgt := 30) hF.x hF.b dX6_numberNow_7 (by decide) (fun c1 => ?_) (fun c1 => ?_)
      · rw [if_pos c1] at h
        refine lv_iload_n hF.x hF.b dX6_numberNow_30 rfl (lv_at hl 1 rfl) ?_
        refine lv_bipush (v := 64) hF.x hF.b dX6_numberNow_31 (by decide) ?_
        refine lv_aload_n hF.x hF.b dX6_numberNow_33 rfl (lv_at hl 0 rfl) ?_
        refine gfM_0_0 hF hH tk_478 dX6_numberNow_34 ?_
        refine lv_bipush (v := 36) hF.x hF.b dX6_numberNow_37 (by decide) ?_
        refine alM_1 hF hH (gd_some h).1 dX6_numberNow_39 ?_
        replace h := (gd_some h).2
        refine lv_iconst (v := 5) hF.x hF.b dX6_numberNow_40 (by decide) ?_
        refine lv_aload_n hF.x hF.b dX6_numberNow_41 rfl (lv_at hl 0 rfl) ?_
        refine gfM_0_0 hF hH tk_478 dX6_numberNow_42 ?_
        refine lv_bipush (v := 37) hF.x hF.b dX6_numberNow_45 (by decide) ?_
        refine alM_1 hF hH (gd_some h).1 dX6_numberNow_47 ?_
        replace h := (gd_some h).2
        refine lv_imul hF.x hF.b dX6_numberNow_48 ?_
        refine lv_iadd hF.x hF.b dX6_numberNow_49 ?_
        refine lv_bipush (v := 25) hF.x hF.b dX6_numberNow_50 (by decide) ?_
        refine lv_aload_n hF.x hF.b dX6_numberNow_52 rfl (lv_at hl 0 rfl) ?_
        refine gfM_0_0 hF hH tk_478 dX6_numberNow_53 ?_
        refine lv_bipush (v := 38) hF.x hF.b dX6_numberNow_56 (by decide) ?_
        refine alM_1 hF hH (gd_some h).1 dX6_numberNow_58 ?_
        replace h := (gd_some h).2
        refine lv_imul hF.x hF.b dX6_numberNow_59 ?_
        refine lv_iadd hF.x hF.b dX6_numberNow_60 ?_
        refine lv_imul hF.x hF.b dX6_numberNow_61 ?_
        refine lv_iadd hF.x hF.b dX6_numberNow_62 ?_
        exact hret _ _ _ _ _ _ hH h dX6_numberNow_63
      · rw [if_neg c1] at h
        refine lv_iload_n hF.x hF.b dX6_numberNow_10 rfl (lv_at hl 1 rfl) ?_
        refine lv_aload_n hF.x hF.b dX6_numberNow_11 rfl (lv_at hl 0 rfl) ?_
        refine gfM_0_0 hF hH tk_478 dX6_numberNow_12 ?_
        refine lv_bipush (v := 18) hF.x hF.b dX6_numberNow_15 (by decide) ?_
        refine lv_iload_n hF.x hF.b dX6_numberNow_17 rfl (lv_at hl 2 rfl) ?_
        refine lv_iadd hF.x hF.b dX6_numberNow_18 ?_
        refine alM_1 hF hH (gd_some h).1 dX6_numberNow_19 ?_
        replace h := (gd_some h).2
        refine lv_iload_n hF.x hF.b dX6_numberNow_20 rfl (lv_at hl 2 rfl) ?_
        refine lv_ishl hF.x hF.b dX6_numberNow_21 ?_
        refine lv_ior hF.x hF.b dX6_numberNow_22 ?_
        refine lv_topi (fun y2 ey2 => ?_)
        replace h := sv_at h ey2
        clear ey2
        refine lv_istore_n (lv' := [(1, .int y2), (0, .ref (eA E 0)), (2, .int x2)]) hF.x hF.b dX6_numberNow_23 rfl hl (by decide) rfl (fun ls hl => ?_)
        obtain ⟨y3, ey3⟩ : ∃ z : Int32, z = (x2 + 1) := ⟨_, rfl⟩
        replace h := sv_at h ey3
        refine lv_iinc (v := y3) (lv' := [(2, .int y3), (1, .int y2), (0, .ref (eA E 0))]) hF.x hF.b dX6_numberNow_24 hl (k := 2) rfl (by rw [ey3]; rfl) (by decide) rfl (fun ls hl => ?_)
        clear ey3
        refine lv_goto (tgt := 4) hF.x hF.b dX6_numberNow_27 (by decide) ?_
        exact ih4 _ _ _ _ _ _ h hH (lv_sub hl [2, 1, 0] rfl)
  unfold fX6_numberNow at h
  refine lv_iconst (v := 0) hF.x hF.b dX6_numberNow_0 (by decide) ?_
  refine lv_istore_n (lv' := [(1, .int 0), (0, .ref (eA E 0))]) hF.x hF.b dX6_numberNow_1 rfl hl (by decide) rfl (fun ls hl => ?_)
  refine lv_iconst (v := 0) hF.x hF.b dX6_numberNow_2 (by decide) ?_
  refine lv_istore_n (lv' := [(2, .int 0), (1, .int 0), (0, .ref (eA E 0))]) hF.x hF.b dX6_numberNow_3 rfl hl (by decide) rfl (fun ls hl => ?_)
  exact w4 _ _ _ _ _ _ _ h hH (lv_sub hl [2, 1, 0] rfl)
theorem hdX6_layNumber : yX6_layNumber.cls = RX6 ∧ yX6_layNumber.cls ≠ "java/lang/invoke/MethodHandle" ∧ yX6_layNumber.cls ≠ "java/lang/invoke/VarHandle" ∧ (parseMethodDescriptor yX6_layNumber.desc).map (fun d => d.parameters.length) = some 1 := by decide +kernel
set_option maxHeartbeats 4000000 in
set_option maxRecDepth 100000 in
theorem tX6_layNumber (l : Launch) (E : Ev) (hj : Inj kM E) (a1 : Int32) (σ : Sg) (r : Int32 × Sg) (h : fX6_layNumber a1 σ = some r) : CV l yX6_layNumber cX6_layNumber 4 (rmk 2 48) kM E [.ref (eA E 0), .int a1] σ r := by
  refine CV_v (lv := [(0, .ref (eA E 0)), (1, .int a1)]) (by decide) hj (Nat.le_of_ble_eq_true rfl) rfl (fun p e s m args below meth c ls Q hF hret hH hl => ?_)
  have w32 : ∀ (n : Nat) (x2 x3 : Int32) (σ : Sg) (H : Heap) (locs : List Loc) (ls : Array Slot), it fX6_layNumber_L32 (fun _ _ _ => none) n x2 x3 σ = some r → HP kM E s σ H locs → lv_has ls 4 [(0, .ref (eA E 0)), (2, .int x2), (3, .int x3)] → W p l e (rmk 2 48) s m args below meth c H locs 0 0 Q (F0 m 32 ls []) := by
    intro n32
    induction n32 with
    | zero =>
      intro x2 x3 σ H locs ls h hH hl
      cases (show (none : Rs) = some r from h)
    | succ n32 ih32 =>
      intro x2 x3 σ H locs ls h hH hl
      rw [it_eq] at h
      unfold fX6_layNumber_L32 at h
      refine lv_iload_n hF.x hF.b dX6_layNumber_32 rfl (lv_at hl 2 rfl) ?_
      refine lv_iconst (v := 3) hF.x hF.b dX6_layNumber_33 (by decide) ?_
      refine lv_icmp_ge (tgt := 56) hF.x hF.b dX6_layNumber_34 (by decide) (fun c1 => ?_) (fun c1 => ?_)
      · rw [if_pos c1] at h
        refine lv_aload_n hF.x hF.b dX6_layNumber_56 rfl (lv_at hl 0 rfl) ?_
        replace h := bd_some h
        obtain ⟨v2, σ3, hv2, h⟩ := h
        refine w_cVv (As := []) (rest := []) hF hH hl 0 (by decide) rfl rfl (tX6_layIslands l E hF.j _ _ hv2) tk_558 tk_560 tk_12 tk_46 tk_561 rfl rfl hdX6_layIslands ⟨Nat.le_of_ble_eq_true rfl, Nat.le_of_ble_eq_true rfl⟩ rfl rfl (Nat.le_of_ble_eq_true rfl) dX6_layNumber_57 (fun H locs hH => ?_)
        exact hret _ _ _ _ _ hH h dX6_layNumber_60
      · rw [if_neg c1] at h
        refine lv_aload_n hF.x hF.b dX6_layNumber_37 rfl (lv_at hl 0 rfl) ?_
        refine gfM_0_4 hF hH tk_482 dX6_layNumber_38 ?_
        refine lv_iload_n hF.x hF.b dX6_layNumber_41 rfl (lv_at hl 2 rfl) ?_
        refine lv_iload_n hF.x hF.b dX6_layNumber_42 rfl (lv_at hl 1 rfl) ?_
        refine lv_iconst (v := 5) hF.x hF.b dX6_layNumber_43 (by decide) ?_
        refine lv_irem hF.x hF.b dX6_layNumber_44 (by decide) ?_
        refine asM_5 hF hH (gd_some h).1 dX6_layNumber_45 (fun σ4 H locs eσ4 hH => ?_)
        replace h := sv_at (gd_some h).2 eσ4
        clear eσ4
        refine lv_iload_n hF.x hF.b dX6_layNumber_46 rfl (lv_at hl 1 rfl) ?_
        refine lv_iconst (v := 5) hF.x hF.b dX6_layNumber_47 (by decide) ?_
        refine lv_idiv hF.x hF.b dX6_layNumber_48 (by decide) ?_
        refine lv_topi (fun y5 ey5 => ?_)
        replace h := sv_at h ey5
        clear ey5
        refine lv_istore_n (lv' := [(2, .int y5), (0, .ref (eA E 0)), (3, .int x3)]) hF.x hF.b dX6_layNumber_49 rfl hl (by decide) rfl (fun ls hl => ?_)
        obtain ⟨y6, ey6⟩ : ∃ z : Int32, z = (x3 + 1) := ⟨_, rfl⟩
        replace h := sv_at h ey6
        refine lv_iinc (v := y6) (lv' := [(3, .int y6), (2, .int y5), (0, .ref (eA E 0))]) hF.x hF.b dX6_layNumber_50 hl (k := 2) rfl (by rw [ey6]; rfl) (by decide) rfl (fun ls hl => ?_)
        clear ey6
        refine lv_goto (tgt := 32) hF.x hF.b dX6_layNumber_53 (by decide) ?_
        exact ih32 _ _ _ _ _ _ h hH (lv_sub hl [2, 1, 0] rfl)
  have w2 : ∀ (n : Nat) (x1 x2 : Int32) (σ : Sg) (H : Heap) (locs : List Loc) (ls : Array Slot), it fX6_layNumber_L2 (fun _ _ _ => none) n x1 x2 σ = some r → HP kM E s σ H locs → lv_has ls 4 [(0, .ref (eA E 0)), (1, .int x1), (2, .int x2)] → W p l e (rmk 2 48) s m args below meth c H locs 0 0 Q (F0 m 2 ls []) := by
    intro n2
    induction n2 with
    | zero =>
      intro x1 x2 σ H locs ls h hH hl
      cases (show (none : Rs) = some r from h)
    | succ n2 ih2 =>
      intro x1 x2 σ H locs ls h hH hl
      rw [it_eq] at h
      unfold fX6_layNumber_L2 at h
      refine lv_iload_n hF.x hF.b dX6_layNumber_2 rfl (lv_at hl 2 rfl) ?_
      refine lv_bipush (v := 6) hF.x hF.b dX6_layNumber_3 (by decide) ?_
      refine lv_icmp_ge (tgt := 25) hF.x hF.b dX6_layNumber_5 (by decide) (fun c7 => ?_) (fun c7 => ?_)
      · rw [if_pos c7] at h
        refine lv_iload_n hF.x hF.b dX6_layNumber_25 rfl (lv_at hl 1 rfl) ?_
        refine lv_bipush (v := 64) hF.x hF.b dX6_layNumber_26 (by decide) ?_
        refine lv_idiv hF.x hF.b dX6_layNumber_28 (by decide) ?_
        refine lv_topi (fun y8 ey8 => ?_)
        replace h := sv_at h ey8
        clear ey8
        refine lv_istore_n (lv' := [(2, .int y8), (0, .ref (eA E 0)), (1, .int x1)]) hF.x hF.b dX6_layNumber_29 rfl hl (by decide) rfl (fun ls hl => ?_)
        refine lv_iconst (v := 0) hF.x hF.b dX6_layNumber_30 (by decide) ?_
        refine lv_istore_n (lv' := [(3, .int 0), (2, .int y8), (0, .ref (eA E 0)), (1, .int x1)]) hF.x hF.b dX6_layNumber_31 rfl hl (by decide) rfl (fun ls hl => ?_)
        exact w32 _ _ _ _ _ _ _ h hH (lv_sub hl [2, 1, 0] rfl)
      · rw [if_neg c7] at h
        refine lv_aload_n hF.x hF.b dX6_layNumber_8 rfl (lv_at hl 0 rfl) ?_
        refine gfM_0_3 hF hH tk_481 dX6_layNumber_9 ?_
        refine lv_iload_n hF.x hF.b dX6_layNumber_12 rfl (lv_at hl 2 rfl) ?_
        refine lv_iload_n hF.x hF.b dX6_layNumber_13 rfl (lv_at hl 1 rfl) ?_
        refine lv_iload_n hF.x hF.b dX6_layNumber_14 rfl (lv_at hl 2 rfl) ?_
        refine lv_ishr hF.x hF.b dX6_layNumber_15 ?_
        refine lv_iconst (v := 1) hF.x hF.b dX6_layNumber_16 (by decide) ?_
        refine lv_iand hF.x hF.b dX6_layNumber_17 ?_
        refine asM_4 hF hH (gd_some h).1 dX6_layNumber_18 (fun σ9 H locs eσ9 hH => ?_)
        replace h := sv_at (gd_some h).2 eσ9
        clear eσ9
        obtain ⟨y10, ey10⟩ : ∃ z : Int32, z = (x2 + 1) := ⟨_, rfl⟩
        replace h := sv_at h ey10
        refine lv_iinc (v := y10) (lv' := [(2, .int y10), (0, .ref (eA E 0)), (1, .int x1)]) hF.x hF.b dX6_layNumber_19 hl (k := 2) rfl (by rw [ey10]; rfl) (by decide) rfl (fun ls hl => ?_)
        clear ey10
        refine lv_goto (tgt := 2) hF.x hF.b dX6_layNumber_22 (by decide) ?_
        exact ih2 _ _ _ _ _ _ h hH (lv_sub hl [1, 2, 0] rfl)
  unfold fX6_layNumber at h
  refine lv_iconst (v := 0) hF.x hF.b dX6_layNumber_0 (by decide) ?_
  refine lv_istore_n (lv' := [(2, .int 0), (0, .ref (eA E 0)), (1, .int a1)]) hF.x hF.b dX6_layNumber_1 rfl hl (by decide) rfl (fun ls hl => ?_)
  exact w2 _ _ _ _ _ _ _ h hH (lv_sub hl [1, 2, 0] rfl)
theorem hdX6_become : yX6_become.cls = RX6 ∧ yX6_become.cls ≠ "java/lang/invoke/MethodHandle" ∧ yX6_become.cls ≠ "java/lang/invoke/VarHandle" ∧ (parseMethodDescriptor yX6_become.desc).map (fun d => d.parameters.length) = some 1 := by decide +kernel
set_option maxHeartbeats 4000000 in
set_option maxRecDepth 100000 in
theorem tX6_become (l : Launch) (E : Ev) (hj : Inj kM E) (a1 : Int32) (σ : Sg) (r : Int32 × Sg) (h : fX6_become a1 σ = some r) : CV l yX6_become cX6_become 4 (rmk 0 0) kM E [.ref (eA E 0), .int a1] σ r := by
  refine CV_v (lv := [(0, .ref (eA E 0)), (1, .int a1)]) (by decide) hj (Nat.le_of_ble_eq_true rfl) rfl (fun p e s m args below meth c ls Q hF hret hH hl => ?_)
  have w35 : ∀ (n : Nat) (x2 x3 : Int32) (σ : Sg) (H : Heap) (locs : List Loc) (ls : Array Slot), it fX6_become_L35 (fun _ _ _ => none) n x2 x3 σ = some r → HP kM E s σ H locs → lv_has ls 4 [(0, .ref (eA E 0)), (2, .int x2), (3, .int x3)] → W p l e (rmk 0 0) s m args below meth c H locs 0 0 Q (F0 m 35 ls []) := by
    intro n35
    induction n35 with
    | zero =>
      intro x2 x3 σ H locs ls h hH hl
      cases (show (none : Rs) = some r from h)
    | succ n35 ih35 =>
      intro x2 x3 σ H locs ls h hH hl
      rw [it_eq] at h
      unfold fX6_become_L35 at h
      refine lv_iload_n hF.x hF.b dX6_become_35 rfl (lv_at hl 2 rfl) ?_
      refine lv_iconst (v := 3) hF.x hF.b dX6_become_36 (by decide) ?_
      refine lv_icmp_ge (tgt := 62) hF.x hF.b dX6_become_37 (by decide) (fun c1 => ?_) (fun c1 => ?_)
      · rw [if_pos c1] at h
        exact hret _ _ _ _ _ hH h dX6_become_62
      · rw [if_neg c1] at h
        refine lv_aload_n hF.x hF.b dX6_become_40 rfl (lv_at hl 0 rfl) ?_
        refine gfM_0_0 hF hH tk_478 dX6_become_41 ?_
        refine lv_bipush (v := 36) hF.x hF.b dX6_become_44 (by decide) ?_
        refine lv_iload_n hF.x hF.b dX6_become_46 rfl (lv_at hl 2 rfl) ?_
        refine lv_iadd hF.x hF.b dX6_become_47 ?_
        refine lv_iload_n hF.x hF.b dX6_become_48 rfl (lv_at hl 1 rfl) ?_
        refine lv_iconst (v := 5) hF.x hF.b dX6_become_49 (by decide) ?_
        refine lv_irem hF.x hF.b dX6_become_50 (by decide) ?_
        refine asM_1 hF hH (gd_some h).1 dX6_become_51 (fun σ2 H locs eσ2 hH => ?_)
        replace h := sv_at (gd_some h).2 eσ2
        clear eσ2
        refine lv_iload_n hF.x hF.b dX6_become_52 rfl (lv_at hl 1 rfl) ?_
        refine lv_iconst (v := 5) hF.x hF.b dX6_become_53 (by decide) ?_
        refine lv_idiv hF.x hF.b dX6_become_54 (by decide) ?_
        refine lv_topi (fun y3 ey3 => ?_)
        replace h := sv_at h ey3
        clear ey3
        refine lv_istore_n (lv' := [(2, .int y3), (0, .ref (eA E 0)), (3, .int x3)]) hF.x hF.b dX6_become_55 rfl hl (by decide) rfl (fun ls hl => ?_)
        obtain ⟨y4, ey4⟩ : ∃ z : Int32, z = (x3 + 1) := ⟨_, rfl⟩
        replace h := sv_at h ey4
        refine lv_iinc (v := y4) (lv' := [(3, .int y4), (2, .int y3), (0, .ref (eA E 0))]) hF.x hF.b dX6_become_56 hl (k := 2) rfl (by rw [ey4]; rfl) (by decide) rfl (fun ls hl => ?_)
        clear ey4
        refine lv_goto (tgt := 35) hF.x hF.b dX6_become_59 (by decide) ?_
        exact ih35 _ _ _ _ _ _ h hH (lv_sub hl [2, 1, 0] rfl)
  have w2 : ∀ (n : Nat) (x1 x2 : Int32) (σ : Sg) (H : Heap) (locs : List Loc) (ls : Array Slot), it fX6_become_L2 (fun _ _ _ => none) n x1 x2 σ = some r → HP kM E s σ H locs → lv_has ls 4 [(0, .ref (eA E 0)), (1, .int x1), (2, .int x2)] → W p l e (rmk 0 0) s m args below meth c H locs 0 0 Q (F0 m 2 ls []) := by
    intro n2
    induction n2 with
    | zero =>
      intro x1 x2 σ H locs ls h hH hl
      cases (show (none : Rs) = some r from h)
    | succ n2 ih2 =>
      intro x1 x2 σ H locs ls h hH hl
      rw [it_eq] at h
      unfold fX6_become_L2 at h
      refine lv_iload_n hF.x hF.b dX6_become_2 rfl (lv_at hl 2 rfl) ?_
      refine lv_bipush (v := 6) hF.x hF.b dX6_become_3 (by decide) ?_
      refine lv_icmp_ge (tgt := 28) hF.x hF.b dX6_become_5 (by decide) (fun c5 => ?_) (fun c5 => ?_)
      · rw [if_pos c5] at h
        refine lv_iload_n hF.x hF.b dX6_become_28 rfl (lv_at hl 1 rfl) ?_
        refine lv_bipush (v := 64) hF.x hF.b dX6_become_29 (by decide) ?_
        refine lv_idiv hF.x hF.b dX6_become_31 (by decide) ?_
        refine lv_topi (fun y6 ey6 => ?_)
        replace h := sv_at h ey6
        clear ey6
        refine lv_istore_n (lv' := [(2, .int y6), (0, .ref (eA E 0)), (1, .int x1)]) hF.x hF.b dX6_become_32 rfl hl (by decide) rfl (fun ls hl => ?_)
        refine lv_iconst (v := 0) hF.x hF.b dX6_become_33 (by decide) ?_
        refine lv_istore_n (lv' := [(3, .int 0), (2, .int y6), (0, .ref (eA E 0)), (1, .int x1)]) hF.x hF.b dX6_become_34 rfl hl (by decide) rfl (fun ls hl => ?_)
        exact w35 _ _ _ _ _ _ _ h hH (lv_sub hl [2, 1, 0] rfl)
      · rw [if_neg c5] at h
        refine lv_aload_n hF.x hF.b dX6_become_8 rfl (lv_at hl 0 rfl) ?_
        refine gfM_0_0 hF hH tk_478 dX6_become_9 ?_
        refine lv_bipush (v := 18) hF.x hF.b dX6_become_12 (by decide) ?_
        refine lv_iload_n hF.x hF.b dX6_become_14 rfl (lv_at hl 2 rfl) ?_
        refine lv_iadd hF.x hF.b dX6_become_15 ?_
        refine lv_iload_n hF.x hF.b dX6_become_16 rfl (lv_at hl 1 rfl) ?_
        refine lv_iload_n hF.x hF.b dX6_become_17 rfl (lv_at hl 2 rfl) ?_
        refine lv_ishr hF.x hF.b dX6_become_18 ?_
        refine lv_iconst (v := 1) hF.x hF.b dX6_become_19 (by decide) ?_
        refine lv_iand hF.x hF.b dX6_become_20 ?_
        refine asM_1 hF hH (gd_some h).1 dX6_become_21 (fun σ7 H locs eσ7 hH => ?_)
        replace h := sv_at (gd_some h).2 eσ7
        clear eσ7
        obtain ⟨y8, ey8⟩ : ∃ z : Int32, z = (x2 + 1) := ⟨_, rfl⟩
        replace h := sv_at h ey8
        refine lv_iinc (v := y8) (lv' := [(2, .int y8), (0, .ref (eA E 0)), (1, .int x1)]) hF.x hF.b dX6_become_22 hl (k := 2) rfl (by rw [ey8]; rfl) (by decide) rfl (fun ls hl => ?_)
        clear ey8
        refine lv_goto (tgt := 2) hF.x hF.b dX6_become_25 (by decide) ?_
        exact ih2 _ _ _ _ _ _ h hH (lv_sub hl [1, 2, 0] rfl)
  unfold fX6_become at h
  refine lv_iconst (v := 0) hF.x hF.b dX6_become_0 (by decide) ?_
  refine lv_istore_n (lv' := [(2, .int 0), (0, .ref (eA E 0)), (1, .int a1)]) hF.x hF.b dX6_become_1 rfl hl (by decide) rfl (fun ls hl => ?_)
  exact w2 _ _ _ _ _ _ _ h hH (lv_sub hl [1, 2, 0] rfl)
theorem hdX6_tick : yX6_tick.cls = RX6 ∧ yX6_tick.cls ≠ "java/lang/invoke/MethodHandle" ∧ yX6_tick.cls ≠ "java/lang/invoke/VarHandle" ∧ (parseMethodDescriptor yX6_tick.desc).map (fun d => d.parameters.length) = some 1 := by decide +kernel
set_option maxHeartbeats 4000000 in
set_option maxRecDepth 100000 in
theorem tX6_tick (l : Launch) (E : Ev) (hj : Inj kM E) (a1 : Int32) (σ : Sg) (r : Int32 × Sg) (h : fX6_tick a1 σ = some r) : CI l yX6_tick cX6_tick 2 (some FieldType.int) (rmk 3 69) kM E [.ref (eA E 0), .int a1] σ r := by
  refine CI_i (lv := [(0, .ref (eA E 0)), (1, .int a1)]) (by decide) hj (Nat.le_of_ble_eq_true rfl) rfl (fun p e s m args below meth c ls Q hF hret hH hl => ?_)
  have w45 : ∀ (σ : Sg) (H : Heap) (locs : List Loc) (ls : Array Slot), fX6_tick_45 σ = some r → HP kM E s σ H locs → lv_has ls 2 [(0, .ref (eA E 0))] → W p l e (rmk 3 69) s m args below meth c H locs 0 0 Q (F0 m 45 ls []) := by
    intro σ H locs ls h hH hl
    unfold fX6_tick_45 at h
    refine lv_iconst (v := (-1)) hF.x hF.b dX6_tick_45 (by decide) ?_
    exact hret _ _ _ _ _ _ hH h dX6_tick_46
  have w47 : ∀ (x1 : Int32) (σ : Sg) (H : Heap) (locs : List Loc) (ls : Array Slot), fX6_tick_47 x1 σ = some r → HP kM E s σ H locs → lv_has ls 2 [(0, .ref (eA E 0)), (1, .int x1)] → W p l e (rmk 3 69) s m args below meth c H locs 0 0 Q (F0 m 47 ls []) := by
    intro x1 σ H locs ls h hH hl
    unfold fX6_tick_47 at h
    refine lv_aload_n hF.x hF.b dX6_tick_47 rfl (lv_at hl 0 rfl) ?_
    replace h := bd_some h
    obtain ⟨v1, σ2, hv1, h⟩ := h
    refine w_cVv (As := []) (rest := []) hF hH hl 0 (by decide) rfl rfl (tX6_layNow l E hF.j _ _ hv1) tk_554 tk_556 tk_11 tk_46 tk_557 rfl rfl hdX6_layNow ⟨Nat.le_of_ble_eq_true rfl, Nat.le_of_ble_eq_true rfl⟩ rfl rfl (Nat.le_of_ble_eq_true rfl) dX6_tick_48 (fun H locs hH => ?_)
    refine lv_aload_n hF.x hF.b dX6_tick_51 rfl (lv_at hl 0 rfl) ?_
    refine lv_iload_n hF.x hF.b dX6_tick_52 rfl (lv_at hl 1 rfl) ?_
    replace h := bd_some h
    obtain ⟨v3, σ4, hv3, h⟩ := h
    refine w_cVi (As := [.int x1]) (rest := []) hF hH hl 0 (by decide) rfl rfl (tX6_canStep l E hF.j _ _ _ hv3) tk_578 tk_580 tk_16 tk_46 tk_581 rfl rfl hdX6_canStep ⟨Nat.le_of_ble_eq_true rfl, Nat.le_of_ble_eq_true rfl⟩ rfl rfl (Nat.le_of_ble_eq_true rfl) dX6_tick_53 (fun H locs hH => ?_)
    refine lv_if_ne (tgt := 62) hF.x hF.b dX6_tick_56 (by decide) (fun c5 => ?_) (fun c5 => ?_)
    · rw [if_neg c5] at h
      refine lv_aload_n hF.x hF.b dX6_tick_62 rfl (lv_at hl 0 rfl) ?_
      refine lv_aload_n hF.x hF.b dX6_tick_63 rfl (lv_at hl 0 rfl) ?_
      refine lv_iload_n hF.x hF.b dX6_tick_64 rfl (lv_at hl 1 rfl) ?_
      replace h := bd_some h
      obtain ⟨v6, σ7, hv6, h⟩ := h
      refine w_cVi (As := [.int x1]) (rest := [.ref (eA E 0)]) hF hH hl 0 (by decide) rfl rfl (tX6_numberBehind l E hF.j _ _ _ hv6) tk_594 tk_596 tk_19 tk_46 tk_597 rfl rfl hdX6_numberBehind ⟨Nat.le_of_ble_eq_true rfl, Nat.le_of_ble_eq_true rfl⟩ rfl rfl (Nat.le_of_ble_eq_true rfl) dX6_tick_65 (fun H locs hH => ?_)
      replace h := bd_some h
      obtain ⟨v8, σ9, hv8, h⟩ := h
      refine w_cVv (As := [.int v6]) (rest := []) hF hH hl 0 (by decide) rfl rfl (tX6_become l E hF.j _ _ _ hv8) tk_602 tk_604 tk_21 tk_46 tk_605 rfl rfl hdX6_become ⟨Nat.le_of_ble_eq_true rfl, Nat.le_of_ble_eq_true rfl⟩ rfl rfl (Nat.le_of_ble_eq_true rfl) dX6_tick_68 (fun H locs hH => ?_)
      refine lv_aload_n hF.x hF.b dX6_tick_71 rfl (lv_at hl 0 rfl) ?_
      refine gfM_0_0 hF hH tk_478 dX6_tick_72 ?_
      refine lv_bipush (v := 41) hF.x hF.b dX6_tick_75 (by decide) ?_
      refine lv_dup2_11 hF.x hF.b dX6_tick_77 rfl rfl ?_
      refine alM_1 hF hH (gd_some h).1 dX6_tick_78 ?_
      replace h := (gd_some h).2
      refine lv_iconst (v := 1) hF.x hF.b dX6_tick_79 (by decide) ?_
      refine lv_iadd hF.x hF.b dX6_tick_80 ?_
      refine asM_1 hF hH (gd_some h).1 dX6_tick_81 (fun σ10 H locs eσ10 hH => ?_)
      replace h := sv_at (gd_some h).2 eσ10
      clear eσ10
      refine lv_aload_n hF.x hF.b dX6_tick_82 rfl (lv_at hl 0 rfl) ?_
      refine gfM_0_0 hF hH tk_478 dX6_tick_83 ?_
      refine lv_bipush (v := 41) hF.x hF.b dX6_tick_86 (by decide) ?_
      refine alM_1 hF hH (gd_some h).1 dX6_tick_88 ?_
      replace h := (gd_some h).2
      exact hret _ _ _ _ _ _ hH h dX6_tick_89
    · rw [if_pos c5] at h
      refine lv_bipush (v := (-5)) hF.x hF.b dX6_tick_59 (by decide) ?_
      exact hret _ _ _ _ _ _ hH h dX6_tick_61
  unfold fX6_tick at h
  refine lv_iload_n hF.x hF.b dX6_tick_0 rfl (lv_at hl 1 rfl) ?_
  refine lv_iconst (v := 0) hF.x hF.b dX6_tick_1 (by decide) ?_
  refine lv_bipush (v := 9) hF.x hF.b dX6_tick_2 (by decide) ?_
  replace h := bd_some h
  obtain ⟨v11, σ12, hv11, h⟩ := h
  refine w_cSi (As := [.int a1, .int 0, .int 9]) (rest := []) hF hH hl (tX6_in l E hF.j _ _ _ _ _ hv11) tk_523 tk_524 tk_46 tk_525 rfl rfl hdX6_in ⟨Nat.le_of_ble_eq_true rfl, Nat.le_of_ble_eq_true rfl⟩ rfl rfl (Nat.le_of_ble_eq_true rfl) dX6_tick_4 (fun H locs hH => ?_)
  refine lv_if_ne (tgt := 13) hF.x hF.b dX6_tick_7 (by decide) (fun c13 => ?_) (fun c13 => ?_)
  · rw [if_neg c13] at h
    refine lv_iload_n hF.x hF.b dX6_tick_13 rfl (lv_at hl 1 rfl) ?_
    refine lv_if_le (tgt := 47) hF.x hF.b dX6_tick_14 (by decide) (fun c14 => ?_) (fun c14 => ?_)
    · rw [if_pos c14] at h
      exact w47 _ _ _ _ _ h hH (lv_sub hl [0, 1] rfl)
    · rw [if_neg c14] at h
      refine lv_iload_n hF.x hF.b dX6_tick_17 rfl (lv_at hl 1 rfl) ?_
      refine lv_iconst (v := 4) hF.x hF.b dX6_tick_18 (by decide) ?_
      refine lv_icmp_ge (tgt := 35) hF.x hF.b dX6_tick_19 (by decide) (fun c15 => ?_) (fun c15 => ?_)
      · rw [if_pos c15] at h
        refine lv_aload_n hF.x hF.b dX6_tick_35 rfl (lv_at hl 0 rfl) ?_
        refine lv_iload_n hF.x hF.b dX6_tick_36 rfl (lv_at hl 1 rfl) ?_
        refine lv_iconst (v := 4) hF.x hF.b dX6_tick_37 (by decide) ?_
        refine lv_isub hF.x hF.b dX6_tick_38 ?_
        replace h := bd_some h
        obtain ⟨v16, σ17, hv16, h⟩ := h
        refine w_cVi (As := [.int (a1 - (4 : Int32))]) (rest := []) hF hH hl 0 (by decide) rfl rfl (tX6_isLine l E hF.j _ _ _ hv16) tk_538 tk_540 tk_9 tk_46 tk_541 rfl rfl hdX6_isLine ⟨Nat.le_of_ble_eq_true rfl, Nat.le_of_ble_eq_true rfl⟩ rfl rfl (Nat.le_of_ble_eq_true rfl) dX6_tick_39 (fun H locs hH => ?_)
        refine lv_if_ne (tgt := 47) hF.x hF.b dX6_tick_42 (by decide) (fun c18 => ?_) (fun c18 => ?_)
        · rw [if_neg c18] at h
          exact w47 _ _ _ _ _ h hH (lv_sub hl [0, 1] rfl)
        · rw [if_pos c18] at h
          exact w45 _ _ _ _ h hH (lv_sub hl [0] rfl)
      · rw [if_neg c15] at h
        refine lv_aload_n hF.x hF.b dX6_tick_22 rfl (lv_at hl 0 rfl) ?_
        refine lv_iload_n hF.x hF.b dX6_tick_23 rfl (lv_at hl 1 rfl) ?_
        refine lv_iconst (v := 1) hF.x hF.b dX6_tick_24 (by decide) ?_
        refine lv_isub hF.x hF.b dX6_tick_25 ?_
        replace h := bd_some h
        obtain ⟨v19, σ20, hv19, h⟩ := h
        refine w_cVi (As := [.int (a1 - (1 : Int32))]) (rest := []) hF hH hl 0 (by decide) rfl rfl (tX6_isMachine l E hF.j _ _ _ hv19) tk_546 tk_548 tk_10 tk_46 tk_549 rfl rfl hdX6_isMachine ⟨Nat.le_of_ble_eq_true rfl, Nat.le_of_ble_eq_true rfl⟩ rfl rfl (Nat.le_of_ble_eq_true rfl) dX6_tick_26 (fun H locs hH => ?_)
        refine lv_if_eq (tgt := 45) hF.x hF.b dX6_tick_29 (by decide) (fun c21 => ?_) (fun c21 => ?_)
        · rw [if_pos c21] at h
          exact w45 _ _ _ _ h hH (lv_sub hl [0] rfl)
        · rw [if_neg c21] at h
          refine lv_goto (tgt := 47) hF.x hF.b dX6_tick_32 (by decide) ?_
          exact w47 _ _ _ _ _ h hH (lv_sub hl [0, 1] rfl)
  · rw [if_pos c13] at h
    refine lv_bipush (v := (-2)) hF.x hF.b dX6_tick_10 (by decide) ?_
    exact hret _ _ _ _ _ _ hH h dX6_tick_12
theorem hdX6_openAll : yX6_openAll.cls = RX6 ∧ yX6_openAll.cls ≠ "java/lang/invoke/MethodHandle" ∧ yX6_openAll.cls ≠ "java/lang/invoke/VarHandle" ∧ (parseMethodDescriptor yX6_openAll.desc).map (fun d => d.parameters.length) = some 0 := by decide +kernel
set_option maxHeartbeats 4000000 in
set_option maxRecDepth 100000 in
theorem tX6_openAll (l : Launch) (E : Ev) (hj : Inj kM E) (σ : Sg) (r : Int32 × Sg) (h : fX6_openAll σ = some r) : CI l yX6_openAll cX6_openAll 4 (some FieldType.int) (rmk 3 69) kM E [.ref (eA E 0)] σ r := by
  refine CI_i (lv := [(0, .ref (eA E 0))]) (by decide) hj (Nat.le_of_ble_eq_true rfl) rfl (fun p e s m args below meth c ls Q hF hret hH hl => ?_)
  have w8 : ∀ (n : Nat) (x1 x2 : Int32) (σ : Sg) (H : Heap) (locs : List Loc) (ls : Array Slot), it fX6_openAll_L8 (fun _ _ _ => none) n x1 x2 σ = some r → HP kM E s σ H locs → lv_has ls 4 [(0, .ref (eA E 0)), (1, .int x1), (2, .int x2)] → W p l e (rmk 3 69) s m args below meth c H locs 0 0 Q (F0 m 8 ls []) := by
    intro n8
    induction n8 with
    | zero =>
      intro x1 x2 σ H locs ls h hH hl
      cases (show (none : Rs) = some r from h)
    | succ n8 ih8 =>
      have w74 : ∀ (x1 x2 : Int32) (σ : Sg) (H : Heap) (locs : List Loc) (ls : Array Slot), fX6_openAll_74 (it fX6_openAll_L8 (fun _ _ _ => none) n8) x1 x2 σ = some r → HP kM E s σ H locs → lv_has ls 4 [(0, .ref (eA E 0)), (1, .int x1), (2, .int x2)] → W p l e (rmk 3 69) s m args below meth c H locs 0 0 Q (F0 m 74 ls []) := by
        intro x1 x2 σ H locs ls h hH hl
        unfold fX6_openAll_74 at h
        obtain ⟨y1, ey1⟩ : ∃ z : Int32, z = (x2 + 1) := ⟨_, rfl⟩
        replace h := sv_at h ey1
        refine lv_iinc (v := y1) (lv' := [(2, .int y1), (0, .ref (eA E 0)), (1, .int x1)]) hF.x hF.b dX6_openAll_74 hl (k := 2) rfl (by rw [ey1]; rfl) (by decide) rfl (fun ls hl => ?_)
        clear ey1
        refine lv_goto (tgt := 8) hF.x hF.b dX6_openAll_77 (by decide) ?_
        exact ih8 _ _ _ _ _ _ h hH (lv_sub hl [1, 2, 0] rfl)
      have w61 : ∀ (x1 x2 : Int32) (σ : Sg) (H : Heap) (locs : List Loc) (ls : Array Slot), fX6_openAll_61 (it fX6_openAll_L8 (fun _ _ _ => none) n8) x1 x2 σ = some r → HP kM E s σ H locs → lv_has ls 4 [(0, .ref (eA E 0)), (1, .int x1), (2, .int x2)] → W p l e (rmk 3 69) s m args below meth c H locs 0 0 Q (F0 m 61 ls []) := by
        intro x1 x2 σ H locs ls h hH hl
        unfold fX6_openAll_61 at h
        refine lv_aload_n hF.x hF.b dX6_openAll_61 rfl (lv_at hl 0 rfl) ?_
        refine gfM_0_0 hF hH tk_478 dX6_openAll_62 ?_
        refine lv_bipush (v := 18) hF.x hF.b dX6_openAll_65 (by decide) ?_
        refine lv_iload_n hF.x hF.b dX6_openAll_67 rfl (lv_at hl 2 rfl) ?_
        refine lv_iadd hF.x hF.b dX6_openAll_68 ?_
        refine lv_iconst (v := 0) hF.x hF.b dX6_openAll_69 (by decide) ?_
        refine asM_1 hF hH (gd_some h).1 dX6_openAll_70 (fun σ2 H locs eσ2 hH => ?_)
        replace h := sv_at (gd_some h).2 eσ2
        clear eσ2
        obtain ⟨y3, ey3⟩ : ∃ z : Int32, z = (x1 + 1) := ⟨_, rfl⟩
        replace h := sv_at h ey3
        refine lv_iinc (v := y3) (lv' := [(1, .int y3), (0, .ref (eA E 0)), (2, .int x2)]) hF.x hF.b dX6_openAll_71 hl (k := 1) rfl (by rw [ey3]; rfl) (by decide) rfl (fun ls hl => ?_)
        clear ey3
        exact w74 _ _ _ _ _ _ h hH (lv_sub hl [1, 0, 2] rfl)
      intro x1 x2 σ H locs ls h hH hl
      rw [it_eq] at h
      unfold fX6_openAll_L8 at h
      refine lv_iload_n hF.x hF.b dX6_openAll_8 rfl (lv_at hl 2 rfl) ?_
      refine lv_aload_n hF.x hF.b dX6_openAll_9 rfl (lv_at hl 0 rfl) ?_
      refine gfM_0_0 hF hH tk_478 dX6_openAll_10 ?_
      refine lv_bipush (v := 39) hF.x hF.b dX6_openAll_13 (by decide) ?_
      refine alM_1 hF hH (gd_some h).1 dX6_openAll_15 ?_
      replace h := (gd_some h).2
      refine lv_icmp_ge (tgt := 80) hF.x hF.b dX6_openAll_16 (by decide) (fun c4 => ?_) (fun c4 => ?_)
      · rw [if_pos c4] at h
        refine lv_iload_n hF.x hF.b dX6_openAll_80 rfl (lv_at hl 1 rfl) ?_
        exact hret _ _ _ _ _ _ hH h dX6_openAll_81
      · rw [if_neg c4] at h
        refine lv_aload_n hF.x hF.b dX6_openAll_19 rfl (lv_at hl 0 rfl) ?_
        refine gfM_0_5 hF hH tk_483 dX6_openAll_20 ?_
        refine lv_aload_n hF.x hF.b dX6_openAll_23 rfl (lv_at hl 0 rfl) ?_
        refine gfM_0_0 hF hH tk_478 dX6_openAll_24 ?_
        refine lv_iconst (v := 0) hF.x hF.b dX6_openAll_27 (by decide) ?_
        refine lv_iload_n hF.x hF.b dX6_openAll_28 rfl (lv_at hl 2 rfl) ?_
        refine lv_iadd hF.x hF.b dX6_openAll_29 ?_
        refine alM_1 hF hH (gd_some h).1 dX6_openAll_30 ?_
        replace h := (gd_some h).2
        refine alM_6 hF hH (gd_some h).1 dX6_openAll_31 ?_
        replace h := (gd_some h).2
        refine lv_topi (fun y5 ey5 => ?_)
        replace h := sv_at h ey5
        clear ey5
        refine lv_istore_n (lv' := [(3, .int y5), (0, .ref (eA E 0)), (1, .int x1), (2, .int x2)]) hF.x hF.b dX6_openAll_32 rfl hl (by decide) rfl (fun ls hl => ?_)
        refine lv_aload_n hF.x hF.b dX6_openAll_33 rfl (lv_at hl 1 rfl) ?_
        refine gfM_0_3 hF hH tk_481 dX6_openAll_34 ?_
        refine lv_iload_n hF.x hF.b dX6_openAll_37 rfl (lv_at hl 3 rfl) ?_
        refine alM_4 hF hH (gd_some h).1 dX6_openAll_38 ?_
        replace h := (gd_some h).2
        refine lv_iconst (v := 1) hF.x hF.b dX6_openAll_39 (by decide) ?_
        refine lv_icmp_ne (tgt := 74) hF.x hF.b dX6_openAll_40 (by decide) (fun c6 => ?_) (fun c6 => ?_)
        · rw [if_neg c6] at h
          exact w74 _ _ _ _ _ _ h hH (lv_sub hl [1, 2, 3] rfl)
        · rw [if_pos c6] at h
          refine lv_aload_n hF.x hF.b dX6_openAll_43 rfl (lv_at hl 1 rfl) ?_
          refine gfM_0_7 hF hH tk_485 dX6_openAll_44 ?_
          refine lv_iload_n hF.x hF.b dX6_openAll_47 rfl (lv_at hl 0 rfl) ?_
          refine alM_8 hF hH (gd_some h).1 dX6_openAll_48 ?_
          replace h := (gd_some h).2
          refine lv_if_eq (tgt := 61) hF.x hF.b dX6_openAll_49 (by decide) (fun c7 => ?_) (fun c7 => ?_)
          · rw [if_pos c7] at h
            exact w61 _ _ _ _ _ _ h hH (lv_sub hl [1, 2, 3] rfl)
          · rw [if_neg c7] at h
            refine lv_aload_n hF.x hF.b dX6_openAll_52 rfl (lv_at hl 1 rfl) ?_
            refine gfM_0_6 hF hH tk_484 dX6_openAll_53 ?_
            refine lv_iload_n hF.x hF.b dX6_openAll_56 rfl (lv_at hl 0 rfl) ?_
            refine alM_7 hF hH (gd_some h).1 dX6_openAll_57 ?_
            replace h := (gd_some h).2
            refine lv_if_ge (tgt := 74) hF.x hF.b dX6_openAll_58 (by decide) (fun c8 => ?_) (fun c8 => ?_)
            · rw [if_pos c8] at h
              exact w74 _ _ _ _ _ _ h hH (lv_sub hl [1, 2, 3] rfl)
            · rw [if_neg c8] at h
              exact w61 _ _ _ _ _ _ h hH (lv_sub hl [1, 2, 3] rfl)
  unfold fX6_openAll at h
  refine lv_aload_n hF.x hF.b dX6_openAll_0 rfl (lv_at hl 0 rfl) ?_
  replace h := bd_some h
  obtain ⟨v9, σ10, hv9, h⟩ := h
  refine w_cVv (As := []) (rest := []) hF hH hl 0 (by decide) rfl rfl (tX6_layNow l E hF.j _ _ hv9) tk_554 tk_556 tk_11 tk_46 tk_557 rfl rfl hdX6_layNow ⟨Nat.le_of_ble_eq_true rfl, Nat.le_of_ble_eq_true rfl⟩ rfl rfl (Nat.le_of_ble_eq_true rfl) dX6_openAll_1 (fun H locs hH => ?_)
  refine lv_iconst (v := 0) hF.x hF.b dX6_openAll_4 (by decide) ?_
  refine lv_istore_n (lv' := [(1, .int 0), (0, .ref (eA E 0))]) hF.x hF.b dX6_openAll_5 rfl hl (by decide) rfl (fun ls hl => ?_)
  refine lv_iconst (v := 0) hF.x hF.b dX6_openAll_6 (by decide) ?_
  refine lv_istore_n (lv' := [(2, .int 0), (1, .int 0), (0, .ref (eA E 0))]) hF.x hF.b dX6_openAll_7 rfl hl (by decide) rfl (fun ls hl => ?_)
  exact w8 _ _ _ _ _ _ _ h hH (lv_sub hl [2, 1, 0] rfl)
theorem hdX6_fail : yX6_fail.cls = RX6 ∧ yX6_fail.cls ≠ "java/lang/invoke/MethodHandle" ∧ yX6_fail.cls ≠ "java/lang/invoke/VarHandle" ∧ (parseMethodDescriptor yX6_fail.desc).map (fun d => d.parameters.length) = some 1 := by decide +kernel
set_option maxHeartbeats 4000000 in
set_option maxRecDepth 100000 in
theorem tX6_fail (l : Launch) (E : Ev) (hj : Inj kM E) (a1 : Int32) (σ : Sg) (r : Int32 × Sg) (h : fX6_fail a1 σ = some r) : CI l yX6_fail cX6_fail 2 (some FieldType.int) (rmk 4 92) kM E [.ref (eA E 0), .int a1] σ r := by
  refine CI_i (lv := [(0, .ref (eA E 0)), (1, .int a1)]) (by decide) hj (Nat.le_of_ble_eq_true rfl) rfl (fun p e s m args below meth c ls Q hF hret hH hl => ?_)
  unfold fX6_fail at h
  refine lv_aload_n hF.x hF.b dX6_fail_0 rfl (lv_at hl 0 rfl) ?_
  refine lv_iload_n hF.x hF.b dX6_fail_1 rfl (lv_at hl 1 rfl) ?_
  replace h := bd_some h
  obtain ⟨v1, σ2, hv1, h⟩ := h
  refine w_cVi (As := [.int a1]) (rest := []) hF hH hl 0 (by decide) rfl rfl (tX6_isMachine l E hF.j _ _ _ hv1) tk_546 tk_548 tk_10 tk_46 tk_549 rfl rfl hdX6_isMachine ⟨Nat.le_of_ble_eq_true rfl, Nat.le_of_ble_eq_true rfl⟩ rfl rfl (Nat.le_of_ble_eq_true rfl) dX6_fail_2 (fun H locs hH => ?_)
  refine lv_if_ne (tgt := 10) hF.x hF.b dX6_fail_5 (by decide) (fun c3 => ?_) (fun c3 => ?_)
  · rw [if_neg c3] at h
    refine lv_aload_n hF.x hF.b dX6_fail_10 rfl (lv_at hl 0 rfl) ?_
    refine gfM_0_0 hF hH tk_478 dX6_fail_11 ?_
    refine lv_bipush (v := 36) hF.x hF.b dX6_fail_14 (by decide) ?_
    refine lv_iload_n hF.x hF.b dX6_fail_16 rfl (lv_at hl 1 rfl) ?_
    refine lv_iadd hF.x hF.b dX6_fail_17 ?_
    refine alM_1 hF hH (gd_some h).1 dX6_fail_18 ?_
    replace h := (gd_some h).2
    refine lv_if_ne (tgt := 25) hF.x hF.b dX6_fail_19 (by decide) (fun c4 => ?_) (fun c4 => ?_)
    · rw [if_neg c4] at h
      refine lv_aload_n hF.x hF.b dX6_fail_25 rfl (lv_at hl 0 rfl) ?_
      refine gfM_0_0 hF hH tk_478 dX6_fail_26 ?_
      refine lv_bipush (v := 36) hF.x hF.b dX6_fail_29 (by decide) ?_
      refine lv_iload_n hF.x hF.b dX6_fail_31 rfl (lv_at hl 1 rfl) ?_
      refine lv_iadd hF.x hF.b dX6_fail_32 ?_
      refine lv_iconst (v := 0) hF.x hF.b dX6_fail_33 (by decide) ?_
      refine asM_1 hF hH (gd_some h).1 dX6_fail_34 (fun σ5 H locs eσ5 hH => ?_)
      replace h := sv_at (gd_some h).2 eσ5
      clear eσ5
      refine lv_aload_n hF.x hF.b dX6_fail_35 rfl (lv_at hl 0 rfl) ?_
      replace h := bd_some h
      obtain ⟨v6, σ7, hv6, h⟩ := h
      refine w_cVi (As := []) (rest := []) hF hH hl 0 (by decide) rfl rfl (tX6_openAll l E hF.j _ _ hv6) tk_610 tk_612 tk_22 tk_46 tk_613 rfl rfl hdX6_openAll ⟨Nat.le_of_ble_eq_true rfl, Nat.le_of_ble_eq_true rfl⟩ rfl rfl (Nat.le_of_ble_eq_true rfl) dX6_fail_36 (fun H locs hH => ?_)
      exact hret _ _ _ _ _ _ hH h dX6_fail_39
    · rw [if_pos c4] at h
      refine lv_bipush (v := (-3)) hF.x hF.b dX6_fail_22 (by decide) ?_
      exact hret _ _ _ _ _ _ hH h dX6_fail_24
  · rw [if_pos c3] at h
    refine lv_iconst (v := (-1)) hF.x hF.b dX6_fail_8 (by decide) ?_
    exact hret _ _ _ _ _ _ hH h dX6_fail_9
theorem hdX6_trip : yX6_trip.cls = RX6 ∧ yX6_trip.cls ≠ "java/lang/invoke/MethodHandle" ∧ yX6_trip.cls ≠ "java/lang/invoke/VarHandle" ∧ (parseMethodDescriptor yX6_trip.desc).map (fun d => d.parameters.length) = some 1 := by decide +kernel
set_option maxHeartbeats 4000000 in
set_option maxRecDepth 100000 in
theorem tX6_trip (l : Launch) (E : Ev) (hj : Inj kM E) (a1 : Int32) (σ : Sg) (r : Int32 × Sg) (h : fX6_trip a1 σ = some r) : CI l yX6_trip cX6_trip 2 (some FieldType.int) (rmk 4 92) kM E [.ref (eA E 0), .int a1] σ r := by
  refine CI_i (lv := [(0, .ref (eA E 0)), (1, .int a1)]) (by decide) hj (Nat.le_of_ble_eq_true rfl) rfl (fun p e s m args below meth c ls Q hF hret hH hl => ?_)
  unfold fX6_trip at h
  refine lv_aload_n hF.x hF.b dX6_trip_0 rfl (lv_at hl 0 rfl) ?_
  refine lv_iload_n hF.x hF.b dX6_trip_1 rfl (lv_at hl 1 rfl) ?_
  replace h := bd_some h
  obtain ⟨v1, σ2, hv1, h⟩ := h
  refine w_cVi (As := [.int a1]) (rest := []) hF hH hl 0 (by decide) rfl rfl (tX6_isLine l E hF.j _ _ _ hv1) tk_538 tk_540 tk_9 tk_46 tk_541 rfl rfl hdX6_isLine ⟨Nat.le_of_ble_eq_true rfl, Nat.le_of_ble_eq_true rfl⟩ rfl rfl (Nat.le_of_ble_eq_true rfl) dX6_trip_2 (fun H locs hH => ?_)
  refine lv_if_ne (tgt := 10) hF.x hF.b dX6_trip_5 (by decide) (fun c3 => ?_) (fun c3 => ?_)
  · rw [if_neg c3] at h
    refine lv_aload_n hF.x hF.b dX6_trip_10 rfl (lv_at hl 0 rfl) ?_
    refine gfM_0_0 hF hH tk_478 dX6_trip_11 ?_
    refine lv_bipush (v := 18) hF.x hF.b dX6_trip_14 (by decide) ?_
    refine lv_iload_n hF.x hF.b dX6_trip_16 rfl (lv_at hl 1 rfl) ?_
    refine lv_iadd hF.x hF.b dX6_trip_17 ?_
    refine alM_1 hF hH (gd_some h).1 dX6_trip_18 ?_
    replace h := (gd_some h).2
    refine lv_if_ne (tgt := 25) hF.x hF.b dX6_trip_19 (by decide) (fun c4 => ?_) (fun c4 => ?_)
    · rw [if_neg c4] at h
      refine lv_aload_n hF.x hF.b dX6_trip_25 rfl (lv_at hl 0 rfl) ?_
      refine gfM_0_0 hF hH tk_478 dX6_trip_26 ?_
      refine lv_bipush (v := 18) hF.x hF.b dX6_trip_29 (by decide) ?_
      refine lv_iload_n hF.x hF.b dX6_trip_31 rfl (lv_at hl 1 rfl) ?_
      refine lv_iadd hF.x hF.b dX6_trip_32 ?_
      refine lv_iconst (v := 0) hF.x hF.b dX6_trip_33 (by decide) ?_
      refine asM_1 hF hH (gd_some h).1 dX6_trip_34 (fun σ5 H locs eσ5 hH => ?_)
      replace h := sv_at (gd_some h).2 eσ5
      clear eσ5
      refine lv_aload_n hF.x hF.b dX6_trip_35 rfl (lv_at hl 0 rfl) ?_
      replace h := bd_some h
      obtain ⟨v6, σ7, hv6, h⟩ := h
      refine w_cVi (As := []) (rest := []) hF hH hl 0 (by decide) rfl rfl (tX6_openAll l E hF.j _ _ hv6) tk_610 tk_612 tk_22 tk_46 tk_613 rfl rfl hdX6_openAll ⟨Nat.le_of_ble_eq_true rfl, Nat.le_of_ble_eq_true rfl⟩ rfl rfl (Nat.le_of_ble_eq_true rfl) dX6_trip_36 (fun H locs hH => ?_)
      refine lv_iconst (v := 1) hF.x hF.b dX6_trip_39 (by decide) ?_
      refine lv_iadd hF.x hF.b dX6_trip_40 ?_
      exact hret _ _ _ _ _ _ hH h dX6_trip_41
    · rw [if_pos c4] at h
      refine lv_bipush (v := (-3)) hF.x hF.b dX6_trip_22 (by decide) ?_
      exact hret _ _ _ _ _ _ hH h dX6_trip_24
  · rw [if_pos c3] at h
    refine lv_iconst (v := (-1)) hF.x hF.b dX6_trip_8 (by decide) ?_
    exact hret _ _ _ _ _ _ hH h dX6_trip_9
theorem hdX6_goOn : yX6_goOn.cls = RX6 ∧ yX6_goOn.cls ≠ "java/lang/invoke/MethodHandle" ∧ yX6_goOn.cls ≠ "java/lang/invoke/VarHandle" ∧ (parseMethodDescriptor yX6_goOn.desc).map (fun d => d.parameters.length) = some 2 := by decide +kernel
set_option maxHeartbeats 4000000 in
set_option maxRecDepth 100000 in
theorem tX6_goOn (l : Launch) (E : Ev) (hj : Inj kM E) (a1 : Int32) (a2 : Int32) (σ : Sg) (r : Int32 × Sg) (h : fX6_goOn a1 a2 σ = some r) : CI l yX6_goOn cX6_goOn 7 (some FieldType.boolean) (rmk 3 71) kM E [.ref (eA E 0), .int a1, .int a2] σ r := by
  refine CI_z (lv := [(0, .ref (eA E 0)), (1, .int a1), (2, .int a2)]) (by decide) hj (Nat.le_of_ble_eq_true rfl) rfl (fun p e s m args below meth c ls Q hF hret hH hl => ?_)
  have w5 : ∀ (n : Nat) (x1 x2 x3 x4 : Int32) (σ : Sg) (H : Heap) (locs : List Loc) (ls : Array Slot), it fX6_goOn_L5 (fun _ _ _ _ _ => none) n x1 x2 x3 x4 σ = some r → HP kM E s σ H locs → lv_has ls 7 [(0, .ref (eA E 0)), (1, .int x1), (2, .int x2), (3, .int x3), (4, .int x4)] → W p l e (rmk 3 71) s m args below meth c H locs 0 0 Q (F0 m 5 ls []) := by
    intro n5
    induction n5 with
    | zero =>
      intro x1 x2 x3 x4 σ H locs ls h hH hl
      cases (show (none : Rs) = some r from h)
    | succ n5 ih5 =>
      have w119 : ∀ (x1 x2 x3 x4 : Int32) (σ : Sg) (H : Heap) (locs : List Loc) (ls : Array Slot), fX6_goOn_119 (it fX6_goOn_L5 (fun _ _ _ _ _ => none) n5) x1 x2 x3 x4 σ = some r → HP kM E s σ H locs → lv_has ls 7 [(0, .ref (eA E 0)), (1, .int x1), (2, .int x2), (3, .int x3), (4, .int x4)] → W p l e (rmk 3 71) s m args below meth c H locs 0 0 Q (F0 m 119 ls []) := by
        intro x1 x2 x3 x4 σ H locs ls h hH hl
        unfold fX6_goOn_119 at h
        obtain ⟨y1, ey1⟩ : ∃ z : Int32, z = (x4 + 1) := ⟨_, rfl⟩
        replace h := sv_at h ey1
        refine lv_iinc (v := y1) (lv' := [(4, .int y1), (0, .ref (eA E 0)), (1, .int x1), (2, .int x2), (3, .int x3)]) hF.x hF.b dX6_goOn_119 hl (k := 4) rfl (by rw [ey1]; rfl) (by decide) rfl (fun ls hl => ?_)
        clear ey1
        refine lv_goto (tgt := 5) hF.x hF.b dX6_goOn_122 (by decide) ?_
        exact ih5 _ _ _ _ _ _ _ _ h hH (lv_sub hl [1, 2, 3, 4, 0] rfl)
      have w33 : ∀ (n : Nat) (x1 x2 x3 x4 x5 : Int32) (σ : Sg) (H : Heap) (locs : List Loc) (ls : Array Slot), it (fX6_goOn_L33 (it fX6_goOn_L5 (fun _ _ _ _ _ => none) n5)) (fun _ _ _ _ _ _ => none) n x1 x2 x3 x4 x5 σ = some r → HP kM E s σ H locs → lv_has ls 7 [(0, .ref (eA E 0)), (1, .int x1), (2, .int x2), (3, .int x3), (4, .int x4), (5, .int x5)] → W p l e (rmk 3 71) s m args below meth c H locs 0 0 Q (F0 m 33 ls []) := by
        intro n33
        induction n33 with
        | zero =>
          intro x1 x2 x3 x4 x5 σ H locs ls h hH hl
          cases (show (none : Rs) = some r from h)
        | succ n33 ih33 =>
          have w113 : ∀ (x1 x2 x3 x4 x5 : Int32) (σ : Sg) (H : Heap) (locs : List Loc) (ls : Array Slot), fX6_goOn_113 (it fX6_goOn_L5 (fun _ _ _ _ _ => none) n5) (it (fX6_goOn_L33 (it fX6_goOn_L5 (fun _ _ _ _ _ => none) n5)) (fun _ _ _ _ _ _ => none) n33) x1 x2 x3 x4 x5 σ = some r → HP kM E s σ H locs → lv_has ls 7 [(0, .ref (eA E 0)), (1, .int x1), (2, .int x2), (3, .int x3), (4, .int x4), (5, .int x5)] → W p l e (rmk 3 71) s m args below meth c H locs 0 0 Q (F0 m 113 ls []) := by
            intro x1 x2 x3 x4 x5 σ H locs ls h hH hl
            unfold fX6_goOn_113 at h
            obtain ⟨y2, ey2⟩ : ∃ z : Int32, z = (x5 + 1) := ⟨_, rfl⟩
            replace h := sv_at h ey2
            refine lv_iinc (v := y2) (lv' := [(5, .int y2), (0, .ref (eA E 0)), (1, .int x1), (2, .int x2), (3, .int x3), (4, .int x4)]) hF.x hF.b dX6_goOn_113 hl (k := 5) rfl (by rw [ey2]; rfl) (by decide) rfl (fun ls hl => ?_)
            clear ey2
            refine lv_goto (tgt := 33) hF.x hF.b dX6_goOn_116 (by decide) ?_
            exact ih33 _ _ _ _ _ _ _ _ _ h hH (lv_sub hl [1, 2, 3, 4, 5, 0] rfl)
          have w112 : ∀ (x1 x2 x3 x4 x5 t0 t1 : Int32) (σ : Sg) (H : Heap) (locs : List Loc) (ls : Array Slot), fX6_goOn_112 (it fX6_goOn_L5 (fun _ _ _ _ _ => none) n5) (it (fX6_goOn_L33 (it fX6_goOn_L5 (fun _ _ _ _ _ => none) n5)) (fun _ _ _ _ _ _ => none) n33) x1 x2 x3 x4 x5 t0 t1 σ = some r → HP kM E s σ H locs → lv_has ls 7 [(0, .ref (eA E 0)), (1, .int x1), (2, .int x2), (3, .int x3), (4, .int x4), (5, .int x5)] → W p l e (rmk 3 71) s m args below meth c H locs 0 0 Q (F0 m 112 ls [.int t0, .int t1, .ref (eA E 9)]) := by
            intro x1 x2 x3 x4 x5 t0 t1 σ H locs ls h hH hl
            unfold fX6_goOn_112 at h
            refine asM_9 hF hH (gd_some h).1 dX6_goOn_112 (fun σ3 H locs eσ3 hH => ?_)
            replace h := sv_at (gd_some h).2 eσ3
            clear eσ3
            exact w113 _ _ _ _ _ _ _ _ _ h hH (lv_sub hl [0, 1, 2, 3, 4, 5] rfl)
          have w82 : ∀ (x1 x2 x4 x5 x6 t0 : Int32) (σ : Sg) (H : Heap) (locs : List Loc) (ls : Array Slot), fX6_goOn_82 (it fX6_goOn_L5 (fun _ _ _ _ _ => none) n5) (it (fX6_goOn_L33 (it fX6_goOn_L5 (fun _ _ _ _ _ => none) n5)) (fun _ _ _ _ _ _ => none) n33) x1 x2 x4 x5 x6 t0 σ = some r → HP kM E s σ H locs → lv_has ls 7 [(0, .ref (eA E 0)), (1, .int x1), (2, .int x2), (4, .int x4), (5, .int x5), (6, .int x6)] → W p l e (rmk 3 71) s m args below meth c H locs 0 0 Q (F0 m 82 ls [.int t0]) := by
            intro x1 x2 x4 x5 x6 t0 σ H locs ls h hH hl
            unfold fX6_goOn_82 at h
            refine lv_istore_n (lv' := [(3, .int t0), (0, .ref (eA E 0)), (1, .int x1), (2, .int x2), (4, .int x4), (5, .int x5), (6, .int x6)]) hF.x hF.b dX6_goOn_82 rfl hl (by decide) rfl (fun ls hl => ?_)
            refine lv_aload_n hF.x hF.b dX6_goOn_83 rfl (lv_at hl 1 rfl) ?_
            refine gfM_0_8 hF hH tk_486 dX6_goOn_84 ?_
            refine lv_iload hF.x hF.b dX6_goOn_87 (lv_at hl 6 rfl) ?_
            refine lv_aload_n hF.x hF.b dX6_goOn_89 rfl (lv_at hl 1 rfl) ?_
            refine gfM_0_8 hF hH tk_486 dX6_goOn_90 ?_
            refine lv_iload hF.x hF.b dX6_goOn_93 (lv_at hl 6 rfl) ?_
            refine alM_9 hF hH (gd_some h).1 dX6_goOn_95 ?_
            replace h := (gd_some h).2
            refine lv_if_ge (tgt := 105) hF.x hF.b dX6_goOn_96 (by decide) (fun c4 => ?_) (fun c4 => ?_)
            · rw [if_pos c4] at h
              refine lv_aload_n hF.x hF.b dX6_goOn_105 rfl (lv_at hl 1 rfl) ?_
              refine gfM_0_8 hF hH tk_486 dX6_goOn_106 ?_
              refine lv_iload hF.x hF.b dX6_goOn_109 (lv_at hl 6 rfl) ?_
              refine alM_9 hF hH (gd_some h).1 dX6_goOn_111 ?_
              replace h := (gd_some h).2
              exact w112 _ _ _ _ _ _ _ _ _ _ _ h hH (lv_sub hl [1, 2, 3, 0, 4, 5] rfl)
            · rw [if_neg c4] at h
              refine lv_iload_n hF.x hF.b dX6_goOn_99 rfl (lv_at hl 2 rfl) ?_
              refine lv_iconst (v := 1) hF.x hF.b dX6_goOn_100 (by decide) ?_
              refine lv_iadd hF.x hF.b dX6_goOn_101 ?_
              refine lv_goto (tgt := 112) hF.x hF.b dX6_goOn_102 (by decide) ?_
              exact w112 _ _ _ _ _ _ _ _ _ _ _ h hH (lv_sub hl [1, 2, 3, 0, 4, 5] rfl)
          have w77 : ∀ (x1 x2 x4 x5 x6 : Int32) (σ : Sg) (H : Heap) (locs : List Loc) (ls : Array Slot), fX6_goOn_77 (it fX6_goOn_L5 (fun _ _ _ _ _ => none) n5) (it (fX6_goOn_L33 (it fX6_goOn_L5 (fun _ _ _ _ _ => none) n5)) (fun _ _ _ _ _ _ => none) n33) x1 x2 x4 x5 x6 σ = some r → HP kM E s σ H locs → lv_has ls 7 [(0, .ref (eA E 0)), (1, .int x1), (2, .int x2), (4, .int x4), (5, .int x5), (6, .int x6)] → W p l e (rmk 3 71) s m args below meth c H locs 0 0 Q (F0 m 77 ls []) := by
            intro x1 x2 x4 x5 x6 σ H locs ls h hH hl
            unfold fX6_goOn_77 at h
            refine lv_iconst (v := 1) hF.x hF.b dX6_goOn_77 (by decide) ?_
            refine lv_goto (tgt := 82) hF.x hF.b dX6_goOn_78 (by decide) ?_
            exact w82 _ _ _ _ _ _ _ _ _ _ h hH (lv_sub hl [0, 1, 2, 3, 4, 5] rfl)
          intro x1 x2 x3 x4 x5 σ H locs ls h hH hl
          rw [it_eq] at h
          unfold fX6_goOn_L33 at h
          refine lv_iload hF.x hF.b dX6_goOn_33 (lv_at hl 5 rfl) ?_
          refine lv_bipush (v := 10) hF.x hF.b dX6_goOn_35 (by decide) ?_
          refine lv_icmp_ge (tgt := 119) hF.x hF.b dX6_goOn_37 (by decide) (fun c5 => ?_) (fun c5 => ?_)
          · rw [if_pos c5] at h
            exact w119 _ _ _ _ _ _ _ _ h hH (lv_sub hl [0, 1, 2, 3, 4] rfl)
          · rw [if_neg c5] at h
            refine lv_iload hF.x hF.b dX6_goOn_40 (lv_at hl 5 rfl) ?_
            refine lv_iload_n hF.x hF.b dX6_goOn_42 rfl (lv_at hl 2 rfl) ?_
            refine lv_icmp_eq (tgt := 113) hF.x hF.b dX6_goOn_43 (by decide) (fun c6 => ?_) (fun c6 => ?_)
            · rw [if_pos c6] at h
              exact w113 _ _ _ _ _ _ _ _ _ h hH (lv_sub hl [0, 1, 2, 3, 4, 5] rfl)
            · rw [if_neg c6] at h
              refine lv_aload_n hF.x hF.b dX6_goOn_46 rfl (lv_at hl 0 rfl) ?_
              refine lv_iload hF.x hF.b dX6_goOn_47 (lv_at hl 5 rfl) ?_
              replace h := bd_some h
              obtain ⟨v7, σ8, hv7, h⟩ := h
              refine w_cVi (As := [.int x5]) (rest := []) hF hH hl 0 (by decide) rfl rfl (tX6_canStep l E hF.j _ _ _ hv7) tk_578 tk_580 tk_16 tk_46 tk_581 rfl rfl hdX6_canStep ⟨Nat.le_of_ble_eq_true rfl, Nat.le_of_ble_eq_true rfl⟩ rfl rfl (Nat.le_of_ble_eq_true rfl) dX6_goOn_49 (fun H locs hH => ?_)
              refine lv_if_eq (tgt := 113) hF.x hF.b dX6_goOn_52 (by decide) (fun c9 => ?_) (fun c9 => ?_)
              · rw [if_pos c9] at h
                exact w113 _ _ _ _ _ _ _ _ _ h hH (lv_sub hl [0, 1, 2, 3, 4, 5] rfl)
              · rw [if_neg c9] at h
                refine lv_aload_n hF.x hF.b dX6_goOn_55 rfl (lv_at hl 0 rfl) ?_
                refine lv_iload hF.x hF.b dX6_goOn_56 (lv_at hl 5 rfl) ?_
                replace h := bd_some h
                obtain ⟨v10, σ11, hv10, h⟩ := h
                refine w_cVi (As := [.int x5]) (rest := []) hF hH hl 0 (by decide) rfl rfl (tX6_numberBehind l E hF.j _ _ _ hv10) tk_594 tk_596 tk_19 tk_46 tk_597 rfl rfl hdX6_numberBehind ⟨Nat.le_of_ble_eq_true rfl, Nat.le_of_ble_eq_true rfl⟩ rfl rfl (Nat.le_of_ble_eq_true rfl) dX6_goOn_58 (fun H locs hH => ?_)
                refine lv_istore (lv' := [(6, .int v10), (0, .ref (eA E 0)), (1, .int x1), (2, .int x2), (3, .int x3), (4, .int x4), (5, .int x5)]) hF.x hF.b dX6_goOn_61 hl (by decide) rfl (fun ls hl => ?_)
                refine lv_iload_n hF.x hF.b dX6_goOn_63 rfl (lv_at hl 4 rfl) ?_
                refine lv_if_ne (tgt := 77) hF.x hF.b dX6_goOn_64 (by decide) (fun c12 => ?_) (fun c12 => ?_)
                · rw [if_neg c12] at h
                  exact w77 _ _ _ _ _ _ _ _ _ h hH (lv_sub hl [1, 2, 3, 5, 6, 0] rfl)
                · rw [if_pos c12] at h
                  refine lv_aload_n hF.x hF.b dX6_goOn_67 rfl (lv_at hl 1 rfl) ?_
                  refine gfM_0_8 hF hH tk_486 dX6_goOn_68 ?_
                  refine lv_iload hF.x hF.b dX6_goOn_71 (lv_at hl 0 rfl) ?_
                  refine alM_9 hF hH (gd_some h).1 dX6_goOn_73 ?_
                  replace h := (gd_some h).2
                  refine lv_if_ge (tgt := 81) hF.x hF.b dX6_goOn_74 (by decide) (fun c13 => ?_) (fun c13 => ?_)
                  · rw [if_pos c13] at h
                    refine lv_iconst (v := 0) hF.x hF.b dX6_goOn_81 (by decide) ?_
                    exact w82 _ _ _ _ _ _ _ _ _ _ h hH (lv_sub hl [1, 2, 3, 5, 6, 0] rfl)
                  · rw [if_neg c13] at h
                    exact w77 _ _ _ _ _ _ _ _ _ h hH (lv_sub hl [1, 2, 3, 5, 6, 0] rfl)
      intro x1 x2 x3 x4 σ H locs ls h hH hl
      rw [it_eq] at h
      unfold fX6_goOn_L5 at h
      refine lv_iload hF.x hF.b dX6_goOn_5 (lv_at hl 4 rfl) ?_
      refine lv_sipush (v := 8000) hF.x hF.b dX6_goOn_7 (by decide) ?_
      refine lv_icmp_ge (tgt := 125) hF.x hF.b dX6_goOn_10 (by decide) (fun c14 => ?_) (fun c14 => ?_)
      · rw [if_pos c14] at h
        refine lv_iload_n hF.x hF.b dX6_goOn_125 rfl (lv_at hl 3 rfl) ?_
        exact hret _ _ _ _ _ _ hH h dX6_goOn_126
      · rw [if_neg c14] at h
        refine lv_aload_n hF.x hF.b dX6_goOn_13 rfl (lv_at hl 0 rfl) ?_
        refine gfM_0_8 hF hH tk_486 dX6_goOn_14 ?_
        refine lv_iload hF.x hF.b dX6_goOn_17 (lv_at hl 4 rfl) ?_
        refine alM_9 hF hH (gd_some h).1 dX6_goOn_19 ?_
        replace h := (gd_some h).2
        refine lv_iload_n hF.x hF.b dX6_goOn_20 rfl (lv_at hl 1 rfl) ?_
        refine lv_icmp_ne (tgt := 119) hF.x hF.b dX6_goOn_21 (by decide) (fun c15 => ?_) (fun c15 => ?_)
        · rw [if_neg c15] at h
          exact w119 _ _ _ _ _ _ _ _ h hH (lv_sub hl [0, 1, 2, 3, 4] rfl)
        · rw [if_pos c15] at h
          refine lv_aload_n hF.x hF.b dX6_goOn_24 rfl (lv_at hl 0 rfl) ?_
          refine lv_iload hF.x hF.b dX6_goOn_25 (lv_at hl 4 rfl) ?_
          replace h := bd_some h
          obtain ⟨v16, σ17, hv16, h⟩ := h
          refine w_cVv (As := [.int x4]) (rest := []) hF hH hl 0 (by decide) rfl rfl (tX6_layNumber l E hF.j _ _ _ hv16) tk_642 tk_644 tk_28 tk_46 tk_645 rfl rfl hdX6_layNumber ⟨Nat.le_of_ble_eq_true rfl, Nat.le_of_ble_eq_true rfl⟩ rfl rfl (Nat.le_of_ble_eq_true rfl) dX6_goOn_27 (fun H locs hH => ?_)
          refine lv_iconst (v := 0) hF.x hF.b dX6_goOn_30 (by decide) ?_
          refine lv_istore (lv' := [(5, .int 0), (0, .ref (eA E 0)), (1, .int x1), (2, .int x2), (3, .int x3), (4, .int x4)]) hF.x hF.b dX6_goOn_31 hl (by decide) rfl (fun ls hl => ?_)
          exact w33 _ _ _ _ _ _ _ _ _ _ h hH (lv_sub hl [1, 2, 3, 4, 5, 0] rfl)
  unfold fX6_goOn at h
  refine lv_iconst (v := 0) hF.x hF.b dX6_goOn_0 (by decide) ?_
  refine lv_istore_n (lv' := [(3, .int 0), (0, .ref (eA E 0)), (1, .int a1), (2, .int a2)]) hF.x hF.b dX6_goOn_1 rfl hl (by decide) rfl (fun ls hl => ?_)
  refine lv_iconst (v := 0) hF.x hF.b dX6_goOn_2 (by decide) ?_
  refine lv_istore (lv' := [(4, .int 0), (3, .int 0), (0, .ref (eA E 0)), (1, .int a1), (2, .int a2)]) hF.x hF.b dX6_goOn_3 hl (by decide) rfl (fun ls hl => ?_)
  exact w5 _ _ _ _ _ _ _ _ _ h hH (lv_sub hl [2, 3, 4, 1, 0] rfl)
theorem hdX6_layAll : yX6_layAll.cls = RX6 ∧ yX6_layAll.cls ≠ "java/lang/invoke/MethodHandle" ∧ yX6_layAll.cls ≠ "java/lang/invoke/VarHandle" ∧ (parseMethodDescriptor yX6_layAll.desc).map (fun d => d.parameters.length) = some 1 := by decide +kernel
set_option maxHeartbeats 4000000 in
set_option maxRecDepth 100000 in
theorem tX6_layAll (l : Launch) (E : Ev) (hj : Inj kM E) (a1 : Int32) (σ : Sg) (r : Int32 × Sg) (h : fX6_layAll a1 σ = some r) : CV l yX6_layAll cX6_layAll 4 (rmk 4 97) kM E [.ref (eA E 0), .int a1] σ r := by
  refine CV_v (lv := [(0, .ref (eA E 0)), (1, .int a1)]) (by decide) hj (Nat.le_of_ble_eq_true rfl) rfl (fun p e s m args below meth c ls Q hF hret hH hl => ?_)
  have w37 : ∀ (n : Nat) (x1 x2 x3 : Int32) (σ : Sg) (H : Heap) (locs : List Loc) (ls : Array Slot), it fX6_layAll_L37 (fun _ _ _ _ => none) n x1 x2 x3 σ = some r → HP kM E s σ H locs → lv_has ls 4 [(0, .ref (eA E 0)), (1, .int x1), (2, .int x2), (3, .int x3)] → W p l e (rmk 4 97) s m args below meth c H locs 0 0 Q (F0 m 37 ls []) := by
    intro n37
    induction n37 with
    | zero =>
      intro x1 x2 x3 σ H locs ls h hH hl
      cases (show (none : Rs) = some r from h)
    | succ n37 ih37 =>
      intro x1 x2 x3 σ H locs ls h hH hl
      rw [it_eq] at h
      unfold fX6_layAll_L37 at h
      refine lv_iload_n hF.x hF.b dX6_layAll_37 rfl (lv_at hl 3 rfl) ?_
      refine lv_if_eq (tgt := 54) hF.x hF.b dX6_layAll_38 (by decide) (fun c1 => ?_) (fun c1 => ?_)
      · rw [if_pos c1] at h
        exact hret _ _ _ _ _ hH h dX6_layAll_54
      · rw [if_neg c1] at h
        refine lv_aload_n hF.x hF.b dX6_layAll_41 rfl (lv_at hl 0 rfl) ?_
        refine lv_iload_n hF.x hF.b dX6_layAll_42 rfl (lv_at hl 2 rfl) ?_
        refine lv_iload_n hF.x hF.b dX6_layAll_43 rfl (lv_at hl 1 rfl) ?_
        replace h := bd_some h
        obtain ⟨v2, σ3, hv2, h⟩ := h
        refine w_cVi (As := [.int x2, .int x1]) (rest := []) hF hH hl 0 (by decide) rfl rfl (tX6_goOn l E hF.j _ _ _ _ hv2) tk_638 tk_640 tk_27 tk_46 tk_641 rfl rfl hdX6_goOn ⟨Nat.le_of_ble_eq_true rfl, Nat.le_of_ble_eq_true rfl⟩ rfl rfl (Nat.le_of_ble_eq_true rfl) dX6_layAll_44 (fun H locs hH => ?_)
        refine lv_istore_n (lv' := [(3, .int v2), (0, .ref (eA E 0)), (1, .int x1), (2, .int x2)]) hF.x hF.b dX6_layAll_47 rfl hl (by decide) rfl (fun ls hl => ?_)
        obtain ⟨y4, ey4⟩ : ∃ z : Int32, z = (x2 + 1) := ⟨_, rfl⟩
        replace h := sv_at h ey4
        refine lv_iinc (v := y4) (lv' := [(2, .int y4), (3, .int v2), (0, .ref (eA E 0)), (1, .int x1)]) hF.x hF.b dX6_layAll_48 hl (k := 3) rfl (by rw [ey4]; rfl) (by decide) rfl (fun ls hl => ?_)
        clear ey4
        refine lv_goto (tgt := 37) hF.x hF.b dX6_layAll_51 (by decide) ?_
        exact ih37 _ _ _ _ _ _ _ h hH (lv_sub hl [2, 3, 0, 1] rfl)
  have w2 : ∀ (n : Nat) (x1 x2 : Int32) (σ : Sg) (H : Heap) (locs : List Loc) (ls : Array Slot), it fX6_layAll_L2 (fun _ _ _ => none) n x1 x2 σ = some r → HP kM E s σ H locs → lv_has ls 4 [(0, .ref (eA E 0)), (1, .int x1), (2, .int x2)] → W p l e (rmk 4 97) s m args below meth c H locs 0 0 Q (F0 m 2 ls []) := by
    intro n2
    induction n2 with
    | zero =>
      intro x1 x2 σ H locs ls h hH hl
      cases (show (none : Rs) = some r from h)
    | succ n2 ih2 =>
      intro x1 x2 σ H locs ls h hH hl
      rw [it_eq] at h
      unfold fX6_layAll_L2 at h
      refine lv_iload_n hF.x hF.b dX6_layAll_2 rfl (lv_at hl 2 rfl) ?_
      refine lv_sipush (v := 8000) hF.x hF.b dX6_layAll_3 (by decide) ?_
      refine lv_icmp_ge (tgt := 23) hF.x hF.b dX6_layAll_6 (by decide) (fun c5 => ?_) (fun c5 => ?_)
      · rw [if_pos c5] at h
        refine lv_aload_n hF.x hF.b dX6_layAll_23 rfl (lv_at hl 0 rfl) ?_
        refine gfM_0_8 hF hH tk_486 dX6_layAll_24 ?_
        refine lv_aload_n hF.x hF.b dX6_layAll_27 rfl (lv_at hl 0 rfl) ?_
        replace h := bd_some h
        obtain ⟨v6, σ7, hv6, h⟩ := h
        refine w_cVi (As := []) (rest := [.ref (eA E 9)]) hF hH hl 0 (by decide) rfl rfl (tX6_numberNow l E hF.j _ _ hv6) tk_634 tk_636 tk_26 tk_46 tk_637 rfl rfl hdX6_numberNow ⟨Nat.le_of_ble_eq_true rfl, Nat.le_of_ble_eq_true rfl⟩ rfl rfl (Nat.le_of_ble_eq_true rfl) dX6_layAll_28 (fun H locs hH => ?_)
        refine lv_iconst (v := 0) hF.x hF.b dX6_layAll_31 (by decide) ?_
        refine asM_9 hF hH (gd_some h).1 dX6_layAll_32 (fun σ8 H locs eσ8 hH => ?_)
        replace h := sv_at (gd_some h).2 eσ8
        clear eσ8
        refine lv_iconst (v := 0) hF.x hF.b dX6_layAll_33 (by decide) ?_
        refine lv_istore_n (lv' := [(2, .int 0), (0, .ref (eA E 0)), (1, .int x1)]) hF.x hF.b dX6_layAll_34 rfl hl (by decide) rfl (fun ls hl => ?_)
        refine lv_iconst (v := 1) hF.x hF.b dX6_layAll_35 (by decide) ?_
        refine lv_istore_n (lv' := [(3, .int 1), (2, .int 0), (0, .ref (eA E 0)), (1, .int x1)]) hF.x hF.b dX6_layAll_36 rfl hl (by decide) rfl (fun ls hl => ?_)
        exact w37 _ _ _ _ _ _ _ _ h hH (lv_sub hl [2, 3, 1, 0] rfl)
      · rw [if_neg c5] at h
        refine lv_aload_n hF.x hF.b dX6_layAll_9 rfl (lv_at hl 0 rfl) ?_
        refine gfM_0_8 hF hH tk_486 dX6_layAll_10 ?_
        refine lv_iload_n hF.x hF.b dX6_layAll_13 rfl (lv_at hl 2 rfl) ?_
        refine lv_bipush (v := (-6)) hF.x hF.b dX6_layAll_14 (by decide) ?_
        refine asM_9 hF hH (gd_some h).1 dX6_layAll_16 (fun σ9 H locs eσ9 hH => ?_)
        replace h := sv_at (gd_some h).2 eσ9
        clear eσ9
        obtain ⟨y10, ey10⟩ : ∃ z : Int32, z = (x2 + 1) := ⟨_, rfl⟩
        replace h := sv_at h ey10
        refine lv_iinc (v := y10) (lv' := [(2, .int y10), (0, .ref (eA E 0)), (1, .int x1)]) hF.x hF.b dX6_layAll_17 hl (k := 2) rfl (by rw [ey10]; rfl) (by decide) rfl (fun ls hl => ?_)
        clear ey10
        refine lv_goto (tgt := 2) hF.x hF.b dX6_layAll_20 (by decide) ?_
        exact ih2 _ _ _ _ _ _ h hH (lv_sub hl [1, 2, 0] rfl)
  unfold fX6_layAll at h
  refine lv_iconst (v := 0) hF.x hF.b dX6_layAll_0 (by decide) ?_
  refine lv_istore_n (lv' := [(2, .int 0), (0, .ref (eA E 0)), (1, .int a1)]) hF.x hF.b dX6_layAll_1 rfl hl (by decide) rfl (fun ls hl => ?_)
  exact w2 _ _ _ _ _ _ _ h hH (lv_sub hl [1, 2, 0] rfl)
theorem hdX6_readySet : yX6_readySet.cls = RX6 ∧ yX6_readySet.cls ≠ "java/lang/invoke/MethodHandle" ∧ yX6_readySet.cls ≠ "java/lang/invoke/VarHandle" ∧ (parseMethodDescriptor yX6_readySet.desc).map (fun d => d.parameters.length) = some 0 := by decide +kernel
set_option maxHeartbeats 4000000 in
set_option maxRecDepth 100000 in
theorem tX6_readySet (l : Launch) (E : Ev) (hj : Inj kM E) (σ : Sg) (r : Int32 × Sg) (h : fX6_readySet σ = some r) : CI l yX6_readySet cX6_readySet 3 (some FieldType.int) (rmk 0 0) kM E [.ref (eA E 0)] σ r := by
  refine CI_i (lv := [(0, .ref (eA E 0))]) (by decide) hj (Nat.le_of_ble_eq_true rfl) rfl (fun p e s m args below meth c ls Q hF hret hH hl => ?_)
  have w4 : ∀ (n : Nat) (x1 x2 : Int32) (σ : Sg) (H : Heap) (locs : List Loc) (ls : Array Slot), it fX6_readySet_L4 (fun _ _ _ => none) n x1 x2 σ = some r → HP kM E s σ H locs → lv_has ls 3 [(0, .ref (eA E 0)), (1, .int x1), (2, .int x2)] → W p l e (rmk 0 0) s m args below meth c H locs 0 0 Q (F0 m 4 ls []) := by
    intro n4
    induction n4 with
    | zero =>
      intro x1 x2 σ H locs ls h hH hl
      cases (show (none : Rs) = some r from h)
    | succ n4 ih4 =>
      have w33 : ∀ (x2 t0 t1 : Int32) (σ : Sg) (H : Heap) (locs : List Loc) (ls : Array Slot), fX6_readySet_33 (it fX6_readySet_L4 (fun _ _ _ => none) n4) x2 t0 t1 σ = some r → HP kM E s σ H locs → lv_has ls 3 [(0, .ref (eA E 0)), (2, .int x2)] → W p l e (rmk 0 0) s m args below meth c H locs 0 0 Q (F0 m 33 ls [.int t0, .int t1]) := by
        intro x2 t0 t1 σ H locs ls h hH hl
        unfold fX6_readySet_33 at h
        refine lv_ior hF.x hF.b dX6_readySet_33 ?_
        refine lv_topi (fun y1 ey1 => ?_)
        replace h := sv_at h ey1
        clear ey1
        refine lv_istore_n (lv' := [(1, .int y1), (0, .ref (eA E 0)), (2, .int x2)]) hF.x hF.b dX6_readySet_34 rfl hl (by decide) rfl (fun ls hl => ?_)
        obtain ⟨y2, ey2⟩ : ∃ z : Int32, z = (x2 + 1) := ⟨_, rfl⟩
        replace h := sv_at h ey2
        refine lv_iinc (v := y2) (lv' := [(2, .int y2), (1, .int y1), (0, .ref (eA E 0))]) hF.x hF.b dX6_readySet_35 hl (k := 2) rfl (by rw [ey2]; rfl) (by decide) rfl (fun ls hl => ?_)
        clear ey2
        refine lv_goto (tgt := 4) hF.x hF.b dX6_readySet_38 (by decide) ?_
        exact ih4 _ _ _ _ _ _ h hH (lv_sub hl [2, 1, 0] rfl)
      intro x1 x2 σ H locs ls h hH hl
      rw [it_eq] at h
      unfold fX6_readySet_L4 at h
      refine lv_iload_n hF.x hF.b dX6_readySet_4 rfl (lv_at hl 2 rfl) ?_
      refine lv_aload_n hF.x hF.b dX6_readySet_5 rfl (lv_at hl 0 rfl) ?_
      refine gfM_0_0 hF hH tk_478 dX6_readySet_6 ?_
      refine lv_bipush (v := 40) hF.x hF.b dX6_readySet_9 (by decide) ?_
      refine alM_1 hF hH (gd_some h).1 dX6_readySet_11 ?_
      replace h := (gd_some h).2
      refine lv_icmp_ge (tgt := 41) hF.x hF.b dX6_readySet_12 (by decide) (fun c3 => ?_) (fun c3 => ?_)
      · rw [if_pos c3] at h
        refine lv_iload_n hF.x hF.b dX6_readySet_41 rfl (lv_at hl 1 rfl) ?_
        exact hret _ _ _ _ _ _ hH h dX6_readySet_42
      · rw [if_neg c3] at h
        refine lv_iload_n hF.x hF.b dX6_readySet_15 rfl (lv_at hl 1 rfl) ?_
        refine lv_aload_n hF.x hF.b dX6_readySet_16 rfl (lv_at hl 0 rfl) ?_
        refine gfM_0_4 hF hH tk_482 dX6_readySet_17 ?_
        refine lv_iload_n hF.x hF.b dX6_readySet_20 rfl (lv_at hl 2 rfl) ?_
        refine alM_5 hF hH (gd_some h).1 dX6_readySet_21 ?_
        replace h := (gd_some h).2
        refine lv_iconst (v := 1) hF.x hF.b dX6_readySet_22 (by decide) ?_
        refine lv_icmp_ne (tgt := 32) hF.x hF.b dX6_readySet_23 (by decide) (fun c4 => ?_) (fun c4 => ?_)
        · rw [if_neg c4] at h
          refine lv_iconst (v := 0) hF.x hF.b dX6_readySet_32 (by decide) ?_
          exact w33 _ _ _ _ _ _ _ h hH (lv_sub hl [0, 2] rfl)
        · rw [if_pos c4] at h
          refine lv_iconst (v := 1) hF.x hF.b dX6_readySet_26 (by decide) ?_
          refine lv_iload_n hF.x hF.b dX6_readySet_27 rfl (lv_at hl 2 rfl) ?_
          refine lv_ishl hF.x hF.b dX6_readySet_28 ?_
          refine lv_goto (tgt := 33) hF.x hF.b dX6_readySet_29 (by decide) ?_
          exact w33 _ _ _ _ _ _ _ h hH (lv_sub hl [0, 2] rfl)
  unfold fX6_readySet at h
  refine lv_iconst (v := 0) hF.x hF.b dX6_readySet_0 (by decide) ?_
  refine lv_istore_n (lv' := [(1, .int 0), (0, .ref (eA E 0))]) hF.x hF.b dX6_readySet_1 rfl hl (by decide) rfl (fun ls hl => ?_)
  refine lv_iconst (v := 0) hF.x hF.b dX6_readySet_2 (by decide) ?_
  refine lv_istore_n (lv' := [(2, .int 0), (1, .int 0), (0, .ref (eA E 0))]) hF.x hF.b dX6_readySet_3 rfl hl (by decide) rfl (fun ls hl => ?_)
  exact w4 _ _ _ _ _ _ _ h hH (lv_sub hl [2, 1, 0] rfl)
theorem hdX6_liveSet : yX6_liveSet.cls = RX6 ∧ yX6_liveSet.cls ≠ "java/lang/invoke/MethodHandle" ∧ yX6_liveSet.cls ≠ "java/lang/invoke/VarHandle" ∧ (parseMethodDescriptor yX6_liveSet.desc).map (fun d => d.parameters.length) = some 0 := by decide +kernel
set_option maxHeartbeats 4000000 in
set_option maxRecDepth 100000 in
theorem tX6_liveSet (l : Launch) (E : Ev) (hj : Inj kM E) (σ : Sg) (r : Int32 × Sg) (h : fX6_liveSet σ = some r) : CI l yX6_liveSet cX6_liveSet 3 (some FieldType.int) (rmk 1 21) kM E [.ref (eA E 0)] σ r := by
  refine CI_i (lv := [(0, .ref (eA E 0))]) (by decide) hj (Nat.le_of_ble_eq_true rfl) rfl (fun p e s m args below meth c ls Q hF hret hH hl => ?_)
  have w4 : ∀ (n : Nat) (x1 x2 : Int32) (σ : Sg) (H : Heap) (locs : List Loc) (ls : Array Slot), it fX6_liveSet_L4 (fun _ _ _ => none) n x1 x2 σ = some r → HP kM E s σ H locs → lv_has ls 3 [(0, .ref (eA E 0)), (1, .int x1), (2, .int x2)] → W p l e (rmk 1 21) s m args below meth c H locs 0 0 Q (F0 m 4 ls []) := by
    intro n4
    induction n4 with
    | zero =>
      intro x1 x2 σ H locs ls h hH hl
      cases (show (none : Rs) = some r from h)
    | succ n4 ih4 =>
      have w26 : ∀ (x2 t0 t1 : Int32) (σ : Sg) (H : Heap) (locs : List Loc) (ls : Array Slot), fX6_liveSet_26 (it fX6_liveSet_L4 (fun _ _ _ => none) n4) x2 t0 t1 σ = some r → HP kM E s σ H locs → lv_has ls 3 [(0, .ref (eA E 0)), (2, .int x2)] → W p l e (rmk 1 21) s m args below meth c H locs 0 0 Q (F0 m 26 ls [.int t0, .int t1]) := by
        intro x2 t0 t1 σ H locs ls h hH hl
        unfold fX6_liveSet_26 at h
        refine lv_ior hF.x hF.b dX6_liveSet_26 ?_
        refine lv_topi (fun y1 ey1 => ?_)
        replace h := sv_at h ey1
        clear ey1
        refine lv_istore_n (lv' := [(1, .int y1), (0, .ref (eA E 0)), (2, .int x2)]) hF.x hF.b dX6_liveSet_27 rfl hl (by decide) rfl (fun ls hl => ?_)
        obtain ⟨y2, ey2⟩ : ∃ z : Int32, z = (x2 + 1) := ⟨_, rfl⟩
        replace h := sv_at h ey2
        refine lv_iinc (v := y2) (lv' := [(2, .int y2), (1, .int y1), (0, .ref (eA E 0))]) hF.x hF.b dX6_liveSet_28 hl (k := 2) rfl (by rw [ey2]; rfl) (by decide) rfl (fun ls hl => ?_)
        clear ey2
        refine lv_goto (tgt := 4) hF.x hF.b dX6_liveSet_31 (by decide) ?_
        exact ih4 _ _ _ _ _ _ h hH (lv_sub hl [2, 1, 0] rfl)
      intro x1 x2 σ H locs ls h hH hl
      rw [it_eq] at h
      unfold fX6_liveSet_L4 at h
      refine lv_iload_n hF.x hF.b dX6_liveSet_4 rfl (lv_at hl 2 rfl) ?_
      refine lv_bipush (v := 6) hF.x hF.b dX6_liveSet_5 (by decide) ?_
      refine lv_icmp_ge (tgt := 34) hF.x hF.b dX6_liveSet_7 (by decide) (fun c3 => ?_) (fun c3 => ?_)
      · rw [if_pos c3] at h
        refine lv_iload_n hF.x hF.b dX6_liveSet_34 rfl (lv_at hl 1 rfl) ?_
        exact hret _ _ _ _ _ _ hH h dX6_liveSet_35
      · rw [if_neg c3] at h
        refine lv_iload_n hF.x hF.b dX6_liveSet_10 rfl (lv_at hl 1 rfl) ?_
        refine lv_aload_n hF.x hF.b dX6_liveSet_11 rfl (lv_at hl 0 rfl) ?_
        refine lv_iload_n hF.x hF.b dX6_liveSet_12 rfl (lv_at hl 2 rfl) ?_
        replace h := bd_some h
        obtain ⟨v4, σ5, hv4, h⟩ := h
        refine w_cVi (As := [.int x2]) (rest := [.int x1]) hF hH hl 0 (by decide) rfl rfl (tX6_isLive l E hF.j _ _ _ hv4) tk_570 tk_572 tk_15 tk_46 tk_573 rfl rfl hdX6_isLive ⟨Nat.le_of_ble_eq_true rfl, Nat.le_of_ble_eq_true rfl⟩ rfl rfl (Nat.le_of_ble_eq_true rfl) dX6_liveSet_13 (fun H locs hH => ?_)
        refine lv_if_eq (tgt := 25) hF.x hF.b dX6_liveSet_16 (by decide) (fun c6 => ?_) (fun c6 => ?_)
        · rw [if_pos c6] at h
          refine lv_iconst (v := 0) hF.x hF.b dX6_liveSet_25 (by decide) ?_
          exact w26 _ _ _ _ _ _ _ h hH (lv_sub hl [0, 2] rfl)
        · rw [if_neg c6] at h
          refine lv_iconst (v := 1) hF.x hF.b dX6_liveSet_19 (by decide) ?_
          refine lv_iload_n hF.x hF.b dX6_liveSet_20 rfl (lv_at hl 2 rfl) ?_
          refine lv_ishl hF.x hF.b dX6_liveSet_21 ?_
          refine lv_goto (tgt := 26) hF.x hF.b dX6_liveSet_22 (by decide) ?_
          exact w26 _ _ _ _ _ _ _ h hH (lv_sub hl [0, 2] rfl)
  unfold fX6_liveSet at h
  refine lv_iconst (v := 0) hF.x hF.b dX6_liveSet_0 (by decide) ?_
  refine lv_istore_n (lv' := [(1, .int 0), (0, .ref (eA E 0))]) hF.x hF.b dX6_liveSet_1 rfl hl (by decide) rfl (fun ls hl => ?_)
  refine lv_iconst (v := 0) hF.x hF.b dX6_liveSet_2 (by decide) ?_
  refine lv_istore_n (lv' := [(2, .int 0), (1, .int 0), (0, .ref (eA E 0))]) hF.x hF.b dX6_liveSet_3 rfl hl (by decide) rfl (fun ls hl => ?_)
  exact w4 _ _ _ _ _ _ _ h hH (lv_sub hl [2, 1, 0] rfl)
theorem hdX6_isGoal : yX6_isGoal.cls = RX6 ∧ yX6_isGoal.cls ≠ "java/lang/invoke/MethodHandle" ∧ yX6_isGoal.cls ≠ "java/lang/invoke/VarHandle" ∧ (parseMethodDescriptor yX6_isGoal.desc).map (fun d => d.parameters.length) = some 3 := by decide +kernel
set_option maxHeartbeats 4000000 in
set_option maxRecDepth 100000 in
theorem tX6_isGoal (l : Launch) (E : Ev) (hj : Inj kM E) (a1 : Int32) (a2 : Int32) (a3 : Int32) (σ : Sg) (r : Int32 × Sg) (h : fX6_isGoal a1 a2 a3 σ = some r) : CI l yX6_isGoal cX6_isGoal 4 (some FieldType.boolean) (rmk 3 71) kM E [.ref (eA E 0), .int a1, .int a2, .int a3] σ r := by
  refine CI_z (lv := [(0, .ref (eA E 0)), (1, .int a1), (2, .int a2), (3, .int a3)]) (by decide) hj (Nat.le_of_ble_eq_true rfl) rfl (fun p e s m args below meth c ls Q hF hret hH hl => ?_)
  have w32 : ∀ (t0 : Int32) (σ : Sg) (H : Heap) (locs : List Loc) (ls : Array Slot), fX6_isGoal_32 t0 σ = some r → HP kM E s σ H locs → lv_has ls 4 [(0, .ref (eA E 0))] → W p l e (rmk 3 71) s m args below meth c H locs 0 0 Q (F0 m 32 ls [.int t0]) := by
    intro t0 σ H locs ls h hH hl
    unfold fX6_isGoal_32 at h
    exact hret _ _ _ _ _ _ hH h dX6_isGoal_32
  have w31 : ∀ (σ : Sg) (H : Heap) (locs : List Loc) (ls : Array Slot), fX6_isGoal_31 σ = some r → HP kM E s σ H locs → lv_has ls 4 [(0, .ref (eA E 0))] → W p l e (rmk 3 71) s m args below meth c H locs 0 0 Q (F0 m 31 ls []) := by
    intro σ H locs ls h hH hl
    unfold fX6_isGoal_31 at h
    refine lv_iconst (v := 0) hF.x hF.b dX6_isGoal_31 (by decide) ?_
    exact w32 _ _ _ _ _ h hH (lv_sub hl [0] rfl)
  unfold fX6_isGoal at h
  refine lv_aload_n hF.x hF.b dX6_isGoal_0 rfl (lv_at hl 0 rfl) ?_
  refine lv_iload_n hF.x hF.b dX6_isGoal_1 rfl (lv_at hl 1 rfl) ?_
  replace h := bd_some h
  obtain ⟨v1, σ2, hv1, h⟩ := h
  refine w_cVv (As := [.int a1]) (rest := []) hF hH hl 0 (by decide) rfl rfl (tX6_layNumber l E hF.j _ _ _ hv1) tk_642 tk_644 tk_28 tk_46 tk_645 rfl rfl hdX6_layNumber ⟨Nat.le_of_ble_eq_true rfl, Nat.le_of_ble_eq_true rfl⟩ rfl rfl (Nat.le_of_ble_eq_true rfl) dX6_isGoal_2 (fun H locs hH => ?_)
  refine lv_iload_n hF.x hF.b dX6_isGoal_5 rfl (lv_at hl 2 rfl) ?_
  refine lv_aload_n hF.x hF.b dX6_isGoal_6 rfl (lv_at hl 0 rfl) ?_
  replace h := bd_some h
  obtain ⟨v3, σ4, hv3, h⟩ := h
  refine w_cVi (As := []) (rest := [.int a2]) hF hH hl 0 (by decide) rfl rfl (tX6_readySet l E hF.j _ _ hv3) tk_654 tk_656 tk_31 tk_46 tk_657 rfl rfl hdX6_readySet ⟨Nat.le_of_ble_eq_true rfl, Nat.le_of_ble_eq_true rfl⟩ rfl rfl (Nat.le_of_ble_eq_true rfl) dX6_isGoal_7 (fun H locs hH => ?_)
  refine lv_iconst (v := (-1)) hF.x hF.b dX6_isGoal_10 (by decide) ?_
  refine lv_ixor hF.x hF.b dX6_isGoal_11 ?_
  refine lv_iand hF.x hF.b dX6_isGoal_12 ?_
  refine lv_if_ne (tgt := 31) hF.x hF.b dX6_isGoal_13 (by decide) (fun c5 => ?_) (fun c5 => ?_)
  · rw [if_neg c5] at h
    exact w31 _ _ _ _ h hH (lv_sub hl [0] rfl)
  · rw [if_pos c5] at h
    refine lv_iload_n hF.x hF.b dX6_isGoal_16 rfl (lv_at hl 3 rfl) ?_
    refine lv_aload_n hF.x hF.b dX6_isGoal_17 rfl (lv_at hl 0 rfl) ?_
    replace h := bd_some h
    obtain ⟨v6, σ7, hv6, h⟩ := h
    refine w_cVi (As := []) (rest := [.int a3]) hF hH hl 0 (by decide) rfl rfl (tX6_liveSet l E hF.j _ _ hv6) tk_658 tk_660 tk_32 tk_46 tk_661 rfl rfl hdX6_liveSet ⟨Nat.le_of_ble_eq_true rfl, Nat.le_of_ble_eq_true rfl⟩ rfl rfl (Nat.le_of_ble_eq_true rfl) dX6_isGoal_18 (fun H locs hH => ?_)
    refine lv_iconst (v := (-1)) hF.x hF.b dX6_isGoal_21 (by decide) ?_
    refine lv_ixor hF.x hF.b dX6_isGoal_22 ?_
    refine lv_iand hF.x hF.b dX6_isGoal_23 ?_
    refine lv_if_ne (tgt := 31) hF.x hF.b dX6_isGoal_24 (by decide) (fun c8 => ?_) (fun c8 => ?_)
    · rw [if_neg c8] at h
      exact w31 _ _ _ _ h hH (lv_sub hl [0] rfl)
    · rw [if_pos c8] at h
      refine lv_iconst (v := 1) hF.x hF.b dX6_isGoal_27 (by decide) ?_
      refine lv_goto (tgt := 32) hF.x hF.b dX6_isGoal_28 (by decide) ?_
      exact w32 _ _ _ _ _ h hH (lv_sub hl [0] rfl)
theorem hdX6_reached : yX6_reached.cls = RX6 ∧ yX6_reached.cls ≠ "java/lang/invoke/MethodHandle" ∧ yX6_reached.cls ≠ "java/lang/invoke/VarHandle" ∧ (parseMethodDescriptor yX6_reached.desc).map (fun d => d.parameters.length) = some 2 := by decide +kernel
set_option maxHeartbeats 4000000 in
set_option maxRecDepth 100000 in
theorem tX6_reached (l : Launch) (E : Ev) (hj : Inj kM E) (a1 : Int32) (a2 : Int32) (σ : Sg) (r : Int32 × Sg) (h : fX6_reached a1 a2 σ = some r) : CI l yX6_reached cX6_reached 5 (some FieldType.int) (rmk 4 94) kM E [.ref (eA E 0), .int a1, .int a2] σ r := by
  refine CI_i (lv := [(0, .ref (eA E 0)), (1, .int a1), (2, .int a2)]) (by decide) hj (Nat.le_of_ble_eq_true rfl) rfl (fun p e s m args below meth c ls Q hF hret hH hl => ?_)
  have w6 : ∀ (n : Nat) (x1 x2 x3 x4 : Int32) (σ : Sg) (H : Heap) (locs : List Loc) (ls : Array Slot), it fX6_reached_L6 (fun _ _ _ _ _ => none) n x1 x2 x3 x4 σ = some r → HP kM E s σ H locs → lv_has ls 5 [(0, .ref (eA E 0)), (1, .int x1), (2, .int x2), (3, .int x3), (4, .int x4)] → W p l e (rmk 4 94) s m args below meth c H locs 0 0 Q (F0 m 6 ls []) := by
    intro n6
    induction n6 with
    | zero =>
      intro x1 x2 x3 x4 σ H locs ls h hH hl
      cases (show (none : Rs) = some r from h)
    | succ n6 ih6 =>
      have w58 : ∀ (x1 x2 x3 x4 : Int32) (σ : Sg) (H : Heap) (locs : List Loc) (ls : Array Slot), fX6_reached_58 (it fX6_reached_L6 (fun _ _ _ _ _ => none) n6) x1 x2 x3 x4 σ = some r → HP kM E s σ H locs → lv_has ls 5 [(0, .ref (eA E 0)), (1, .int x1), (2, .int x2), (3, .int x3), (4, .int x4)] → W p l e (rmk 4 94) s m args below meth c H locs 0 0 Q (F0 m 58 ls []) := by
        intro x1 x2 x3 x4 σ H locs ls h hH hl
        unfold fX6_reached_58 at h
        obtain ⟨y1, ey1⟩ : ∃ z : Int32, z = (x4 + 1) := ⟨_, rfl⟩
        replace h := sv_at h ey1
        refine lv_iinc (v := y1) (lv' := [(4, .int y1), (0, .ref (eA E 0)), (1, .int x1), (2, .int x2), (3, .int x3)]) hF.x hF.b dX6_reached_58 hl (k := 4) rfl (by rw [ey1]; rfl) (by decide) rfl (fun ls hl => ?_)
        clear ey1
        refine lv_goto (tgt := 6) hF.x hF.b dX6_reached_61 (by decide) ?_
        exact ih6 _ _ _ _ _ _ _ _ h hH (lv_sub hl [1, 2, 3, 4, 0] rfl)
      have w39 : ∀ (x1 x2 x3 x4 : Int32) (σ : Sg) (H : Heap) (locs : List Loc) (ls : Array Slot), fX6_reached_39 (it fX6_reached_L6 (fun _ _ _ _ _ => none) n6) x1 x2 x3 x4 σ = some r → HP kM E s σ H locs → lv_has ls 5 [(0, .ref (eA E 0)), (1, .int x1), (2, .int x2), (3, .int x3), (4, .int x4)] → W p l e (rmk 4 94) s m args below meth c H locs 0 0 Q (F0 m 39 ls []) := by
        intro x1 x2 x3 x4 σ H locs ls h hH hl
        unfold fX6_reached_39 at h
        refine lv_aload_n hF.x hF.b dX6_reached_39 rfl (lv_at hl 0 rfl) ?_
        refine lv_iload hF.x hF.b dX6_reached_40 (lv_at hl 4 rfl) ?_
        refine lv_iload_n hF.x hF.b dX6_reached_42 rfl (lv_at hl 1 rfl) ?_
        refine lv_iload_n hF.x hF.b dX6_reached_43 rfl (lv_at hl 2 rfl) ?_
        replace h := bd_some h
        obtain ⟨v2, σ3, hv2, h⟩ := h
        refine w_cVi (As := [.int x4, .int x1, .int x2]) (rest := []) hF hH hl 0 (by decide) rfl rfl (tX6_isGoal l E hF.j _ _ _ _ _ hv2) tk_650 tk_652 tk_30 tk_46 tk_653 rfl rfl hdX6_isGoal ⟨Nat.le_of_ble_eq_true rfl, Nat.le_of_ble_eq_true rfl⟩ rfl rfl (Nat.le_of_ble_eq_true rfl) dX6_reached_44 (fun H locs hH => ?_)
        refine lv_if_eq (tgt := 58) hF.x hF.b dX6_reached_47 (by decide) (fun c4 => ?_) (fun c4 => ?_)
        · rw [if_pos c4] at h
          exact w58 _ _ _ _ _ _ _ _ h hH (lv_sub hl [0, 1, 2, 3, 4] rfl)
        · rw [if_neg c4] at h
          refine lv_aload_n hF.x hF.b dX6_reached_50 rfl (lv_at hl 0 rfl) ?_
          refine gfM_0_8 hF hH tk_486 dX6_reached_51 ?_
          refine lv_iload hF.x hF.b dX6_reached_54 (lv_at hl 4 rfl) ?_
          refine alM_9 hF hH (gd_some h).1 dX6_reached_56 ?_
          replace h := (gd_some h).2
          refine lv_topi (fun y5 ey5 => ?_)
          replace h := sv_at h ey5
          clear ey5
          refine lv_istore_n (lv' := [(3, .int y5), (0, .ref (eA E 0)), (1, .int x1), (2, .int x2), (4, .int x4)]) hF.x hF.b dX6_reached_57 rfl hl (by decide) rfl (fun ls hl => ?_)
          exact w58 _ _ _ _ _ _ _ _ h hH (lv_sub hl [1, 2, 3, 0, 4] rfl)
      intro x1 x2 x3 x4 σ H locs ls h hH hl
      rw [it_eq] at h
      unfold fX6_reached_L6 at h
      refine lv_iload hF.x hF.b dX6_reached_6 (lv_at hl 4 rfl) ?_
      refine lv_sipush (v := 8000) hF.x hF.b dX6_reached_8 (by decide) ?_
      refine lv_icmp_ge (tgt := 64) hF.x hF.b dX6_reached_11 (by decide) (fun c6 => ?_) (fun c6 => ?_)
      · rw [if_pos c6] at h
        refine lv_iload_n hF.x hF.b dX6_reached_64 rfl (lv_at hl 3 rfl) ?_
        exact hret _ _ _ _ _ _ hH h dX6_reached_65
      · rw [if_neg c6] at h
        refine lv_aload_n hF.x hF.b dX6_reached_14 rfl (lv_at hl 0 rfl) ?_
        refine gfM_0_8 hF hH tk_486 dX6_reached_15 ?_
        refine lv_iload hF.x hF.b dX6_reached_18 (lv_at hl 4 rfl) ?_
        refine alM_9 hF hH (gd_some h).1 dX6_reached_20 ?_
        replace h := (gd_some h).2
        refine lv_if_lt (tgt := 58) hF.x hF.b dX6_reached_21 (by decide) (fun c7 => ?_) (fun c7 => ?_)
        · rw [if_pos c7] at h
          exact w58 _ _ _ _ _ _ _ _ h hH (lv_sub hl [0, 1, 2, 3, 4] rfl)
        · rw [if_neg c7] at h
          refine lv_iload_n hF.x hF.b dX6_reached_24 rfl (lv_at hl 3 rfl) ?_
          refine lv_if_lt (tgt := 39) hF.x hF.b dX6_reached_25 (by decide) (fun c8 => ?_) (fun c8 => ?_)
          · rw [if_pos c8] at h
            exact w39 _ _ _ _ _ _ _ _ h hH (lv_sub hl [0, 1, 2, 3, 4] rfl)
          · rw [if_neg c8] at h
            refine lv_aload_n hF.x hF.b dX6_reached_28 rfl (lv_at hl 0 rfl) ?_
            refine gfM_0_8 hF hH tk_486 dX6_reached_29 ?_
            refine lv_iload hF.x hF.b dX6_reached_32 (lv_at hl 4 rfl) ?_
            refine alM_9 hF hH (gd_some h).1 dX6_reached_34 ?_
            replace h := (gd_some h).2
            refine lv_iload_n hF.x hF.b dX6_reached_35 rfl (lv_at hl 3 rfl) ?_
            refine lv_icmp_ge (tgt := 58) hF.x hF.b dX6_reached_36 (by decide) (fun c9 => ?_) (fun c9 => ?_)
            · rw [if_pos c9] at h
              exact w58 _ _ _ _ _ _ _ _ h hH (lv_sub hl [0, 1, 2, 3, 4] rfl)
            · rw [if_neg c9] at h
              exact w39 _ _ _ _ _ _ _ _ h hH (lv_sub hl [0, 1, 2, 3, 4] rfl)
  unfold fX6_reached at h
  refine lv_bipush (v := (-6)) hF.x hF.b dX6_reached_0 (by decide) ?_
  refine lv_istore_n (lv' := [(3, .int (-6)), (0, .ref (eA E 0)), (1, .int a1), (2, .int a2)]) hF.x hF.b dX6_reached_2 rfl hl (by decide) rfl (fun ls hl => ?_)
  refine lv_iconst (v := 0) hF.x hF.b dX6_reached_3 (by decide) ?_
  refine lv_istore (lv' := [(4, .int 0), (3, .int (-6)), (0, .ref (eA E 0)), (1, .int a1), (2, .int a2)]) hF.x hF.b dX6_reached_4 hl (by decide) rfl (fun ls hl => ?_)
  exact w6 _ _ _ _ _ _ _ _ _ h hH (lv_sub hl [2, 3, 4, 1, 0] rfl)
