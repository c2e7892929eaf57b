theorem hdX0_closed : yX0_closed.cls ≠ "java/lang/invoke/MethodHandle" ∧ yX0_closed.cls ≠ "java/lang/invoke/VarHandle" ∧ (parseMethodDescriptor yX0_closed.desc).map (fun d => d.parameters.length) = some 1 := by decide +kernel
set_option maxHeartbeats 4000000 in
set_option maxRecDepth 100000 in
theorem tX0_closed (l : Launch) (E : Ev) (hj : Inj kC E) (a0 : Int32) (σ : Sg) (r : Int32 × Sg) (h : fX0_closed a0 σ = some r) : CI l yX0_closed cX0_closed 1 (some FieldType.int) (rmk 0 0) kC E [.int a0] σ r := by
  refine CI_i (lv := [(0, .int a0)]) (by decide) hj (Nat.le_of_ble_eq_true rfl) rfl (fun p e s m args below meth c ls Q hF hret hH hl => ?_)
  unfold fX0_closed at h
  refine lv_iload_n hF.x hF.b dX0_closed_0 rfl (lv_at hl 0 rfl) ?_
  refine lv_bipush (v := 63) hF.x hF.b dX0_closed_1 (by decide) ?_
  refine lv_iand hF.x hF.b dX0_closed_3 ?_
  exact hret _ _ _ _ _ _ hH h dX0_closed_4
theorem hdX0_running : yX0_running.cls ≠ "java/lang/invoke/MethodHandle" ∧ yX0_running.cls ≠ "java/lang/invoke/VarHandle" ∧ (parseMethodDescriptor yX0_running.desc).map (fun d => d.parameters.length) = some 1 := by decide +kernel
set_option maxHeartbeats 4000000 in
set_option maxRecDepth 100000 in
theorem tX0_running (l : Launch) (E : Ev) (hj : Inj kC E) (a0 : Int32) (σ : Sg) (r : Int32 × Sg) (h : fX0_running a0 σ = some r) : CI l yX0_running cX0_running 1 (some FieldType.int) (rmk 0 0) kC E [.int a0] σ r := by
  refine CI_i (lv := [(0, .int a0)]) (by decide) hj (Nat.le_of_ble_eq_true rfl) rfl (fun p e s m args below meth c ls Q hF hret hH hl => ?_)
  unfold fX0_running at h
  refine lv_iload_n hF.x hF.b dX0_running_0 rfl (lv_at hl 0 rfl) ?_
  refine lv_bipush (v := 6) hF.x hF.b dX0_running_1 (by decide) ?_
  refine lv_ishr hF.x hF.b dX0_running_3 ?_
  refine lv_bipush (v := 7) hF.x hF.b dX0_running_4 (by decide) ?_
  refine lv_iand hF.x hF.b dX0_running_6 ?_
  exact hret _ _ _ _ _ _ hH h dX0_running_7
theorem hdX5_bit : yX5_bit.cls ≠ "java/lang/invoke/MethodHandle" ∧ yX5_bit.cls ≠ "java/lang/invoke/VarHandle" ∧ (parseMethodDescriptor yX5_bit.desc).map (fun d => d.parameters.length) = some 2 := by decide +kernel
set_option maxHeartbeats 4000000 in
set_option maxRecDepth 100000 in
theorem tX5_bit (l : Launch) (E : Ev) (hj : Inj kC E) (a0 : Int32) (a1 : Int32) (σ : Sg) (r : Int32 × Sg) (h : fX5_bit a0 a1 σ = some r) : CI l yX5_bit cX5_bit 2 (some FieldType.int) (rmk 0 0) kC E [.int a0, .int a1] σ r := by
  refine CI_i (lv := [(0, .int a0), (1, .int a1)]) (by decide) hj (Nat.le_of_ble_eq_true rfl) rfl (fun p e s m args below meth c ls Q hF hret hH hl => ?_)
  unfold fX5_bit at h
  refine lv_iload_n hF.x hF.b dX5_bit_0 rfl (lv_at hl 0 rfl) ?_
  refine lv_iload_n hF.x hF.b dX5_bit_1 rfl (lv_at hl 1 rfl) ?_
  refine lv_ishr hF.x hF.b dX5_bit_2 ?_
  refine lv_iconst (v := 1) hF.x hF.b dX5_bit_3 (by decide) ?_
  refine lv_iand hF.x hF.b dX5_bit_4 ?_
  exact hret _ _ _ _ _ _ hH h dX5_bit_5
theorem hdX0_isRunning : yX0_isRunning.cls ≠ "java/lang/invoke/MethodHandle" ∧ yX0_isRunning.cls ≠ "java/lang/invoke/VarHandle" ∧ (parseMethodDescriptor yX0_isRunning.desc).map (fun d => d.parameters.length) = some 2 := by decide +kernel
set_option maxHeartbeats 4000000 in
set_option maxRecDepth 100000 in
theorem tX0_isRunning (l : Launch) (E : Ev) (hj : Inj kC E) (a0 : Int32) (a1 : Int32) (σ : Sg) (r : Int32 × Sg) (h : fX0_isRunning a0 a1 σ = some r) : CI l yX0_isRunning cX0_isRunning 2 (some FieldType.boolean) (rmk 1 21) kC E [.int a0, .int a1] σ r := by
  refine CI_z (lv := [(0, .int a0), (1, .int a1)]) (by decide) hj (Nat.le_of_ble_eq_true rfl) rfl (fun p e s m args below meth c ls Q hF hret hH hl => ?_)
  have w16 : ∀ (t0 : Int32) (σ : Sg) (H : Heap) (locs : List Loc) (ls : Array Slot), fX0_isRunning_16 t0 σ = some r → HP kC E s σ H locs → lv_has ls 2 [] → W p l e (rmk 1 21) s m args below meth c H locs 0 0 Q (F0 m 16 ls [.int t0]) := by
    intro t0 σ H locs ls h hH hl
    unfold fX0_isRunning_16 at h
    exact hret _ _ _ _ _ _ hH h dX0_isRunning_16
  unfold fX0_isRunning at h
  refine lv_iload_n hF.x hF.b dX0_isRunning_0 rfl (lv_at hl 0 rfl) ?_
  replace h := bd_some h
  obtain ⟨v1, σ2, hv1, h⟩ := h
  refine w_cSi (As := [.int a0]) (rest := []) hF hH hl (tX0_running l E hF.j _ _ _ hv1) tk_273 tk_242 tk_48 tk_243 rfl rfl hdX0_running ⟨Nat.le_of_ble_eq_true rfl, Nat.le_of_ble_eq_true rfl⟩ rfl rfl (Nat.le_of_ble_eq_true rfl) dX0_isRunning_1 (fun H locs hH => ?_)
  refine lv_iload_n hF.x hF.b dX0_isRunning_4 rfl (lv_at hl 1 rfl) ?_
  replace h := bd_some h
  obtain ⟨v3, σ4, hv3, h⟩ := h
  refine w_cNi (As := [.int v1, .int a1]) (rest := []) hF hH hl (tX5_bit l E hF.j _ _ _ _ hv3) (List.mem_of_getElem? (l := nestW) (i := 2) rfl) tk_227 tk_41 tk_228 rfl rfl hdX5_bit ⟨Nat.le_of_ble_eq_true rfl, Nat.le_of_ble_eq_true rfl⟩ rfl rfl (Nat.le_of_ble_eq_true rfl) dX0_isRunning_5 (fun H locs hH => ?_)
  refine lv_if_eq (tgt := 15) hF.x hF.b dX0_isRunning_8 (by decide) (fun c5 => ?_) (fun c5 => ?_)
  · rw [if_pos c5] at h
    refine lv_iconst (v := 0) hF.x hF.b dX0_isRunning_15 (by decide) ?_
    exact w16 _ _ _ _ _ h hH (lv_sub hl [] rfl)
  · rw [if_neg c5] at h
    refine lv_iconst (v := 1) hF.x hF.b dX0_isRunning_11 (by decide) ?_
    refine lv_goto (tgt := 16) hF.x hF.b dX0_isRunning_12 (by decide) ?_
    exact w16 _ _ _ _ _ h hH (lv_sub hl [] rfl)
theorem hdX0_leftAt : yX0_leftAt.cls ≠ "java/lang/invoke/MethodHandle" ∧ yX0_leftAt.cls ≠ "java/lang/invoke/VarHandle" ∧ (parseMethodDescriptor yX0_leftAt.desc).map (fun d => d.parameters.length) = some 1 := by decide +kernel
set_option maxHeartbeats 4000000 in
set_option maxRecDepth 100000 in
theorem tX0_leftAt (l : Launch) (E : Ev) (hj : Inj kC E) (a0 : Int32) (σ : Sg) (r : Int32 × Sg) (h : fX0_leftAt a0 σ = some r) : CI l yX0_leftAt cX0_leftAt 1 (some FieldType.int) (rmk 0 0) kC E [.int a0] σ r := by
  refine CI_i (lv := [(0, .int a0)]) (by decide) hj (Nat.le_of_ble_eq_true rfl) rfl (fun p e s m args below meth c ls Q hF hret hH hl => ?_)
  unfold fX0_leftAt at h
  refine lv_bipush (v := 9) hF.x hF.b dX0_leftAt_0 (by decide) ?_
  refine lv_iconst (v := 2) hF.x hF.b dX0_leftAt_2 (by decide) ?_
  refine lv_iload_n hF.x hF.b dX0_leftAt_3 rfl (lv_at hl 0 rfl) ?_
  refine lv_imul hF.x hF.b dX0_leftAt_4 ?_
  refine lv_iadd hF.x hF.b dX0_leftAt_5 ?_
  exact hret _ _ _ _ _ _ hH h dX0_leftAt_6
theorem hdX0_left : yX0_left.cls ≠ "java/lang/invoke/MethodHandle" ∧ yX0_left.cls ≠ "java/lang/invoke/VarHandle" ∧ (parseMethodDescriptor yX0_left.desc).map (fun d => d.parameters.length) = some 2 := by decide +kernel
set_option maxHeartbeats 4000000 in
set_option maxRecDepth 100000 in
theorem tX0_left (l : Launch) (E : Ev) (hj : Inj kC E) (a0 : Int32) (a1 : Int32) (σ : Sg) (r : Int32 × Sg) (h : fX0_left a0 a1 σ = some r) : CI l yX0_left cX0_left 2 (some FieldType.int) (rmk 1 20) kC E [.int a0, .int a1] σ r := by
  refine CI_i (lv := [(0, .int a0), (1, .int a1)]) (by decide) hj (Nat.le_of_ble_eq_true rfl) rfl (fun p e s m args below meth c ls Q hF hret hH hl => ?_)
  unfold fX0_left at h
  refine lv_iload_n hF.x hF.b dX0_left_0 rfl (lv_at hl 0 rfl) ?_
  refine lv_iload_n hF.x hF.b dX0_left_1 rfl (lv_at hl 1 rfl) ?_
  replace h := bd_some h
  obtain ⟨v1, σ2, hv1, h⟩ := h
  refine w_cSi (As := [.int a1]) (rest := [.int a0]) hF hH hl (tX0_leftAt l E hF.j _ _ _ hv1) tk_278 tk_279 tk_48 tk_280 rfl rfl hdX0_leftAt ⟨Nat.le_of_ble_eq_true rfl, Nat.le_of_ble_eq_true rfl⟩ rfl rfl (Nat.le_of_ble_eq_true rfl) dX0_left_2 (fun H locs hH => ?_)
  refine lv_ishr hF.x hF.b dX0_left_5 ?_
  refine lv_iconst (v := 3) hF.x hF.b dX0_left_6 (by decide) ?_
  refine lv_iand hF.x hF.b dX0_left_7 ?_
  exact hret _ _ _ _ _ _ hH h dX0_left_8
theorem hdX0_ready : yX0_ready.cls ≠ "java/lang/invoke/MethodHandle" ∧ yX0_ready.cls ≠ "java/lang/invoke/VarHandle" ∧ (parseMethodDescriptor yX0_ready.desc).map (fun d => d.parameters.length) = some 1 := by decide +kernel
set_option maxHeartbeats 4000000 in
set_option maxRecDepth 100000 in
theorem tX0_ready (l : Launch) (E : Ev) (hj : Inj kC E) (a0 : Int32) (σ : Sg) (r : Int32 × Sg) (h : fX0_ready a0 σ = some r) : CI l yX0_ready cX0_ready 3 (some FieldType.int) (rmk 2 41) kC E [.int a0] σ r := by
  refine CI_i (lv := [(0, .int a0)]) (by decide) hj (Nat.le_of_ble_eq_true rfl) rfl (fun p e s m args below meth c ls Q hF hret hH hl => ?_)
  have w7 : ∀ (n : Nat) (x0 x1 x2 : Int32) (σ : Sg) (H : Heap) (locs : List Loc) (ls : Array Slot), it fX0_ready_L7 (fun _ _ _ _ => none) n x0 x1 x2 σ = some r → HP kC E s σ H locs → lv_has ls 3 [(0, .int x0), (1, .int x1), (2, .int x2)] → W p l e (rmk 2 41) s m args below meth c H locs 0 0 Q (F0 m 7 ls []) := by
    intro n7
    induction n7 with
    | zero =>
      intro x0 x1 x2 σ H locs ls h hH hl
      cases (show (none : Rs) = some r from h)
    | succ n7 ih7 =>
      have w28 : ∀ (x0 x1 x2 : Int32) (σ : Sg) (H : Heap) (locs : List Loc) (ls : Array Slot), fX0_ready_28 (it fX0_ready_L7 (fun _ _ _ _ => none) n7) x0 x1 x2 σ = some r → HP kC E s σ H locs → lv_has ls 3 [(0, .int x0), (1, .int x1), (2, .int x2)] → W p l e (rmk 2 41) s m args below meth c H locs 0 0 Q (F0 m 28 ls []) := by
        intro x0 x1 x2 σ H locs ls h hH hl
        unfold fX0_ready_28 at h
        obtain ⟨y1, ey1⟩ : ∃ z : Int32, z = (x2 + 1) := ⟨_, rfl⟩
        replace h := sv_at h ey1
        refine lv_iinc (v := y1) (lv' := [(2, .int y1), (0, .int x0), (1, .int x1)]) hF.x hF.b dX0_ready_28 hl (k := 2) rfl (by rw [ey1]; rfl) (by decide) rfl (fun ls hl => ?_)
        clear ey1
        refine lv_goto (tgt := 7) hF.x hF.b dX0_ready_31 (by decide) ?_
        exact ih7 _ _ _ _ _ _ _ h hH (lv_sub hl [1, 2, 0] rfl)
      intro x0 x1 x2 σ H locs ls h hH hl
      rw [it_eq] at h
      unfold fX0_ready_L7 at h
      refine lv_iload_n hF.x hF.b dX0_ready_7 rfl (lv_at hl 2 rfl) ?_
      refine lv_iconst (v := 3) hF.x hF.b dX0_ready_8 (by decide) ?_
      refine lv_icmp_ge (tgt := 34) hF.x hF.b dX0_ready_9 (by decide) (fun c2 => ?_) (fun c2 => ?_)
      · rw [if_pos c2] at h
        refine lv_iload_n hF.x hF.b dX0_ready_34 rfl (lv_at hl 1 rfl) ?_
        exact hret _ _ _ _ _ _ hH h dX0_ready_35
      · rw [if_neg c2] at h
        refine lv_iload_n hF.x hF.b dX0_ready_12 rfl (lv_at hl 0 rfl) ?_
        refine lv_iload_n hF.x hF.b dX0_ready_13 rfl (lv_at hl 2 rfl) ?_
        replace h := bd_some h
        obtain ⟨v3, σ4, hv3, h⟩ := h
        refine w_cSi (As := [.int x0, .int x2]) (rest := []) hF hH hl (tX0_left l E hF.j _ _ _ _ hv3) tk_300 tk_276 tk_48 tk_277 rfl rfl hdX0_left ⟨Nat.le_of_ble_eq_true rfl, Nat.le_of_ble_eq_true rfl⟩ rfl rfl (Nat.le_of_ble_eq_true rfl) dX0_ready_14 (fun H locs hH => ?_)
        refine lv_if_le (tgt := 28) hF.x hF.b dX0_ready_17 (by decide) (fun c5 => ?_) (fun c5 => ?_)
        · rw [if_pos c5] at h
          exact w28 _ _ _ _ _ _ _ h hH (lv_sub hl [0, 1, 2] rfl)
        · rw [if_neg c5] at h
          refine lv_iload_n hF.x hF.b dX0_ready_20 rfl (lv_at hl 1 rfl) ?_
          refine lv_iconst (v := 1) hF.x hF.b dX0_ready_21 (by decide) ?_
          refine lv_iload_n hF.x hF.b dX0_ready_22 rfl (lv_at hl 2 rfl) ?_
          refine lv_ishl hF.x hF.b dX0_ready_23 ?_
          refine lv_iconst (v := (-1)) hF.x hF.b dX0_ready_24 (by decide) ?_
          refine lv_ixor hF.x hF.b dX0_ready_25 ?_
          refine lv_iand hF.x hF.b dX0_ready_26 ?_
          refine lv_topi (fun y6 ey6 => ?_)
          replace h := sv_at h ey6
          clear ey6
          refine lv_istore_n (lv' := [(1, .int y6), (0, .int x0), (2, .int x2)]) hF.x hF.b dX0_ready_27 rfl hl (by decide) rfl (fun ls hl => ?_)
          exact w28 _ _ _ _ _ _ _ h hH (lv_sub hl [1, 0, 2] rfl)
  unfold fX0_ready at h
  refine lv_iload_n hF.x hF.b dX0_ready_0 rfl (lv_at hl 0 rfl) ?_
  replace h := bd_some h
  obtain ⟨v7, σ8, hv7, h⟩ := h
  refine w_cSi (As := [.int a0]) (rest := []) hF hH hl (tX0_running l E hF.j _ _ _ hv7) tk_273 tk_242 tk_48 tk_243 rfl rfl hdX0_running ⟨Nat.le_of_ble_eq_true rfl, Nat.le_of_ble_eq_true rfl⟩ rfl rfl (Nat.le_of_ble_eq_true rfl) dX0_ready_1 (fun H locs hH => ?_)
  refine lv_istore_n (lv' := [(1, .int v7), (0, .int a0)]) hF.x hF.b dX0_ready_4 rfl hl (by decide) rfl (fun ls hl => ?_)
  refine lv_iconst (v := 0) hF.x hF.b dX0_ready_5 (by decide) ?_
  refine lv_istore_n (lv' := [(2, .int 0), (1, .int v7), (0, .int a0)]) hF.x hF.b dX0_ready_6 rfl hl (by decide) rfl (fun ls hl => ?_)
  exact w7 _ _ _ _ _ _ _ _ h hH (lv_sub hl [2, 1, 0] rfl)
theorem hdX0_ticked : yX0_ticked.cls ≠ "java/lang/invoke/MethodHandle" ∧ yX0_ticked.cls ≠ "java/lang/invoke/VarHandle" ∧ (parseMethodDescriptor yX0_ticked.desc).map (fun d => d.parameters.length) = some 1 := by decide +kernel
set_option maxHeartbeats 4000000 in
set_option maxRecDepth 100000 in
theorem tX0_ticked (l : Launch) (E : Ev) (hj : Inj kC E) (a0 : Int32) (σ : Sg) (r : Int32 × Sg) (h : fX0_ticked a0 σ = some r) : CI l yX0_ticked cX0_ticked 3 (some FieldType.int) (rmk 2 41) kC E [.int a0] σ r := by
  refine CI_i (lv := [(0, .int a0)]) (by decide) hj (Nat.le_of_ble_eq_true rfl) rfl (fun p e s m args below meth c ls Q hF hret hH hl => ?_)
  have w4 : ∀ (n : Nat) (x0 x1 x2 : Int32) (σ : Sg) (H : Heap) (locs : List Loc) (ls : Array Slot), it fX0_ticked_L4 (fun _ _ _ _ => none) n x0 x1 x2 σ = some r → HP kC E s σ H locs → lv_has ls 3 [(0, .int x0), (1, .int x1), (2, .int x2)] → W p l e (rmk 2 41) s m args below meth c H locs 0 0 Q (F0 m 4 ls []) := by
    intro n4
    induction n4 with
    | zero =>
      intro x0 x1 x2 σ H locs ls h hH hl
      cases (show (none : Rs) = some r from h)
    | succ n4 ih4 =>
      have w26 : ∀ (x0 x1 x2 : Int32) (σ : Sg) (H : Heap) (locs : List Loc) (ls : Array Slot), fX0_ticked_26 (it fX0_ticked_L4 (fun _ _ _ _ => none) n4) x0 x1 x2 σ = some r → HP kC E s σ H locs → lv_has ls 3 [(0, .int x0), (1, .int x1), (2, .int x2)] → W p l e (rmk 2 41) s m args below meth c H locs 0 0 Q (F0 m 26 ls []) := by
        intro x0 x1 x2 σ H locs ls h hH hl
        unfold fX0_ticked_26 at h
        obtain ⟨y1, ey1⟩ : ∃ z : Int32, z = (x2 + 1) := ⟨_, rfl⟩
        replace h := sv_at h ey1
        refine lv_iinc (v := y1) (lv' := [(2, .int y1), (0, .int x0), (1, .int x1)]) hF.x hF.b dX0_ticked_26 hl (k := 2) rfl (by rw [ey1]; rfl) (by decide) rfl (fun ls hl => ?_)
        clear ey1
        refine lv_goto (tgt := 4) hF.x hF.b dX0_ticked_29 (by decide) ?_
        exact ih4 _ _ _ _ _ _ _ h hH (lv_sub hl [1, 2, 0] rfl)
      intro x0 x1 x2 σ H locs ls h hH hl
      rw [it_eq] at h
      unfold fX0_ticked_L4 at h
      refine lv_iload_n hF.x hF.b dX0_ticked_4 rfl (lv_at hl 2 rfl) ?_
      refine lv_iconst (v := 3) hF.x hF.b dX0_ticked_5 (by decide) ?_
      refine lv_icmp_ge (tgt := 32) hF.x hF.b dX0_ticked_6 (by decide) (fun c2 => ?_) (fun c2 => ?_)
      · rw [if_pos c2] at h
        refine lv_iload_n hF.x hF.b dX0_ticked_32 rfl (lv_at hl 1 rfl) ?_
        exact hret _ _ _ _ _ _ hH h dX0_ticked_33
      · rw [if_neg c2] at h
        refine lv_iload_n hF.x hF.b dX0_ticked_9 rfl (lv_at hl 0 rfl) ?_
        refine lv_iload_n hF.x hF.b dX0_ticked_10 rfl (lv_at hl 2 rfl) ?_
        replace h := bd_some h
        obtain ⟨v3, σ4, hv3, h⟩ := h
        refine w_cSi (As := [.int x0, .int x2]) (rest := []) hF hH hl (tX0_left l E hF.j _ _ _ _ hv3) tk_300 tk_276 tk_48 tk_277 rfl rfl hdX0_left ⟨Nat.le_of_ble_eq_true rfl, Nat.le_of_ble_eq_true rfl⟩ rfl rfl (Nat.le_of_ble_eq_true rfl) dX0_ticked_11 (fun H locs hH => ?_)
        refine lv_if_le (tgt := 26) hF.x hF.b dX0_ticked_14 (by decide) (fun c5 => ?_) (fun c5 => ?_)
        · rw [if_pos c5] at h
          exact w26 _ _ _ _ _ _ _ h hH (lv_sub hl [0, 1, 2] rfl)
        · rw [if_neg c5] at h
          refine lv_iload_n hF.x hF.b dX0_ticked_17 rfl (lv_at hl 1 rfl) ?_
          refine lv_iconst (v := 1) hF.x hF.b dX0_ticked_18 (by decide) ?_
          refine lv_iload_n hF.x hF.b dX0_ticked_19 rfl (lv_at hl 2 rfl) ?_
          replace h := bd_some h
          obtain ⟨v6, σ7, hv6, h⟩ := h
          refine w_cSi (As := [.int x2]) (rest := [.int 1, .int x1]) hF hH hl (tX0_leftAt l E hF.j _ _ _ hv6) tk_278 tk_279 tk_48 tk_280 rfl rfl hdX0_leftAt ⟨Nat.le_of_ble_eq_true rfl, Nat.le_of_ble_eq_true rfl⟩ rfl rfl (Nat.le_of_ble_eq_true rfl) dX0_ticked_20 (fun H locs hH => ?_)
          refine lv_ishl hF.x hF.b dX0_ticked_23 ?_
          refine lv_isub hF.x hF.b dX0_ticked_24 ?_
          refine lv_topi (fun y8 ey8 => ?_)
          replace h := sv_at h ey8
          clear ey8
          refine lv_istore_n (lv' := [(1, .int y8), (0, .int x0), (2, .int x2)]) hF.x hF.b dX0_ticked_25 rfl hl (by decide) rfl (fun ls hl => ?_)
          exact w26 _ _ _ _ _ _ _ h hH (lv_sub hl [1, 0, 2] rfl)
  unfold fX0_ticked at h
  refine lv_iload_n hF.x hF.b dX0_ticked_0 rfl (lv_at hl 0 rfl) ?_
  refine lv_istore_n (lv' := [(1, .int a0), (0, .int a0)]) hF.x hF.b dX0_ticked_1 rfl hl (by decide) rfl (fun ls hl => ?_)
  refine lv_iconst (v := 0) hF.x hF.b dX0_ticked_2 (by decide) ?_
  refine lv_istore_n (lv' := [(2, .int 0), (1, .int a0), (0, .int a0)]) hF.x hF.b dX0_ticked_3 rfl hl (by decide) rfl (fun ls hl => ?_)
  exact w4 _ _ _ _ _ _ _ _ h hH (lv_sub hl [2, 1, 0] rfl)
theorem hdX0_withStarted : yX0_withStarted.cls ≠ "java/lang/invoke/MethodHandle" ∧ yX0_withStarted.cls ≠ "java/lang/invoke/VarHandle" ∧ (parseMethodDescriptor yX0_withStarted.desc).map (fun d => d.parameters.length) = some 3 := by decide +kernel
set_option maxHeartbeats 4000000 in
set_option maxRecDepth 100000 in
theorem tX0_withStarted (l : Launch) (E : Ev) (hj : Inj kC E) (a0 : Int32) (a1 : Int32) (a2 : Int32) (σ : Sg) (r : Int32 × Sg) (h : fX0_withStarted a0 a1 a2 σ = some r) : CI l yX0_withStarted cX0_withStarted 3 (some FieldType.int) (rmk 1 20) kC E [.int a0, .int a1, .int a2] σ r := by
  refine CI_i (lv := [(0, .int a0), (1, .int a1), (2, .int a2)]) (by decide) hj (Nat.le_of_ble_eq_true rfl) rfl (fun p e s m args below meth c ls Q hF hret hH hl => ?_)
  unfold fX0_withStarted at h
  refine lv_iload_n hF.x hF.b dX0_withStarted_0 rfl (lv_at hl 0 rfl) ?_
  refine lv_iconst (v := 1) hF.x hF.b dX0_withStarted_1 (by decide) ?_
  refine lv_bipush (v := 6) hF.x hF.b dX0_withStarted_2 (by decide) ?_
  refine lv_iload_n hF.x hF.b dX0_withStarted_4 rfl (lv_at hl 1 rfl) ?_
  refine lv_iadd hF.x hF.b dX0_withStarted_5 ?_
  refine lv_ishl hF.x hF.b dX0_withStarted_6 ?_
  refine lv_ior hF.x hF.b dX0_withStarted_7 ?_
  refine lv_iload_n hF.x hF.b dX0_withStarted_8 rfl (lv_at hl 2 rfl) ?_
  refine lv_iload_n hF.x hF.b dX0_withStarted_9 rfl (lv_at hl 1 rfl) ?_
  replace h := bd_some h
  obtain ⟨v1, σ2, hv1, h⟩ := h
  refine w_cSi (As := [.int a1]) (rest := [.int a2, .int (a0 ||| ((1 : Int32) <<< (((6 : Int32) + a1) &&& 31)))]) hF hH hl (tX0_leftAt l E hF.j _ _ _ hv1) tk_278 tk_279 tk_48 tk_280 rfl rfl hdX0_leftAt ⟨Nat.le_of_ble_eq_true rfl, Nat.le_of_ble_eq_true rfl⟩ rfl rfl (Nat.le_of_ble_eq_true rfl) dX0_withStarted_10 (fun H locs hH => ?_)
  refine lv_ishl hF.x hF.b dX0_withStarted_13 ?_
  refine lv_ior hF.x hF.b dX0_withStarted_14 ?_
  exact hret _ _ _ _ _ _ hH h dX0_withStarted_15
theorem hdX0_withStopped : yX0_withStopped.cls ≠ "java/lang/invoke/MethodHandle" ∧ yX0_withStopped.cls ≠ "java/lang/invoke/VarHandle" ∧ (parseMethodDescriptor yX0_withStopped.desc).map (fun d => d.parameters.length) = some 2 := by decide +kernel
set_option maxHeartbeats 4000000 in
set_option maxRecDepth 100000 in
theorem tX0_withStopped (l : Launch) (E : Ev) (hj : Inj kC E) (a0 : Int32) (a1 : Int32) (σ : Sg) (r : Int32 × Sg) (h : fX0_withStopped a0 a1 σ = some r) : CI l yX0_withStopped cX0_withStopped 2 (some FieldType.int) (rmk 1 20) kC E [.int a0, .int a1] σ r := by
  refine CI_i (lv := [(0, .int a0), (1, .int a1)]) (by decide) hj (Nat.le_of_ble_eq_true rfl) rfl (fun p e s m args below meth c ls Q hF hret hH hl => ?_)
  unfold fX0_withStopped at h
  refine lv_iload_n hF.x hF.b dX0_withStopped_0 rfl (lv_at hl 0 rfl) ?_
  refine lv_iconst (v := 1) hF.x hF.b dX0_withStopped_1 (by decide) ?_
  refine lv_bipush (v := 6) hF.x hF.b dX0_withStopped_2 (by decide) ?_
  refine lv_iload_n hF.x hF.b dX0_withStopped_4 rfl (lv_at hl 1 rfl) ?_
  refine lv_iadd hF.x hF.b dX0_withStopped_5 ?_
  refine lv_ishl hF.x hF.b dX0_withStopped_6 ?_
  refine lv_iconst (v := (-1)) hF.x hF.b dX0_withStopped_7 (by decide) ?_
  refine lv_ixor hF.x hF.b dX0_withStopped_8 ?_
  refine lv_iand hF.x hF.b dX0_withStopped_9 ?_
  refine lv_iconst (v := 3) hF.x hF.b dX0_withStopped_10 (by decide) ?_
  refine lv_iload_n hF.x hF.b dX0_withStopped_11 rfl (lv_at hl 1 rfl) ?_
  replace h := bd_some h
  obtain ⟨v1, σ2, hv1, h⟩ := h
  refine w_cSi (As := [.int a1]) (rest := [.int 3, .int (a0 &&& (((1 : Int32) <<< (((6 : Int32) + a1) &&& 31)) ^^^ (-1 : Int32)))]) hF hH hl (tX0_leftAt l E hF.j _ _ _ hv1) tk_278 tk_279 tk_48 tk_280 rfl rfl hdX0_leftAt ⟨Nat.le_of_ble_eq_true rfl, Nat.le_of_ble_eq_true rfl⟩ rfl rfl (Nat.le_of_ble_eq_true rfl) dX0_withStopped_12 (fun H locs hH => ?_)
  refine lv_ishl hF.x hF.b dX0_withStopped_15 ?_
  refine lv_iconst (v := (-1)) hF.x hF.b dX0_withStopped_16 (by decide) ?_
  refine lv_ixor hF.x hF.b dX0_withStopped_17 ?_
  refine lv_iand hF.x hF.b dX0_withStopped_18 ?_
  exact hret _ _ _ _ _ _ hH h dX0_withStopped_19
theorem hdX0_withClosed : yX0_withClosed.cls ≠ "java/lang/invoke/MethodHandle" ∧ yX0_withClosed.cls ≠ "java/lang/invoke/VarHandle" ∧ (parseMethodDescriptor yX0_withClosed.desc).map (fun d => d.parameters.length) = some 2 := by decide +kernel
set_option maxHeartbeats 4000000 in
set_option maxRecDepth 100000 in
theorem tX0_withClosed (l : Launch) (E : Ev) (hj : Inj kC E) (a0 : Int32) (a1 : Int32) (σ : Sg) (r : Int32 × Sg) (h : fX0_withClosed a0 a1 σ = some r) : CI l yX0_withClosed cX0_withClosed 2 (some FieldType.int) (rmk 0 0) kC E [.int a0, .int a1] σ r := by
  refine CI_i (lv := [(0, .int a0), (1, .int a1)]) (by decide) hj (Nat.le_of_ble_eq_true rfl) rfl (fun p e s m args below meth c ls Q hF hret hH hl => ?_)
  unfold fX0_withClosed at h
  refine lv_iload_n hF.x hF.b dX0_withClosed_0 rfl (lv_at hl 0 rfl) ?_
  refine lv_iconst (v := 1) hF.x hF.b dX0_withClosed_1 (by decide) ?_
  refine lv_iload_n hF.x hF.b dX0_withClosed_2 rfl (lv_at hl 1 rfl) ?_
  refine lv_ishl hF.x hF.b dX0_withClosed_3 ?_
  refine lv_ior hF.x hF.b dX0_withClosed_4 ?_
  exact hret _ _ _ _ _ _ hH h dX0_withClosed_5
theorem hdX0_withOpened : yX0_withOpened.cls ≠ "java/lang/invoke/MethodHandle" ∧ yX0_withOpened.cls ≠ "java/lang/invoke/VarHandle" ∧ (parseMethodDescriptor yX0_withOpened.desc).map (fun d => d.parameters.length) = some 2 := by decide +kernel
set_option maxHeartbeats 4000000 in
set_option maxRecDepth 100000 in
theorem tX0_withOpened (l : Launch) (E : Ev) (hj : Inj kC E) (a0 : Int32) (a1 : Int32) (σ : Sg) (r : Int32 × Sg) (h : fX0_withOpened a0 a1 σ = some r) : CI l yX0_withOpened cX0_withOpened 2 (some FieldType.int) (rmk 0 0) kC E [.int a0, .int a1] σ r := by
  refine CI_i (lv := [(0, .int a0), (1, .int a1)]) (by decide) hj (Nat.le_of_ble_eq_true rfl) rfl (fun p e s m args below meth c ls Q hF hret hH hl => ?_)
  unfold fX0_withOpened at h
  refine lv_iload_n hF.x hF.b dX0_withOpened_0 rfl (lv_at hl 0 rfl) ?_
  refine lv_iload_n hF.x hF.b dX0_withOpened_1 rfl (lv_at hl 1 rfl) ?_
  refine lv_iconst (v := (-1)) hF.x hF.b dX0_withOpened_2 (by decide) ?_
  refine lv_ixor hF.x hF.b dX0_withOpened_3 ?_
  refine lv_iand hF.x hF.b dX0_withOpened_4 ?_
  exact hret _ _ _ _ _ _ hH h dX0_withOpened_5
theorem hdX5_setOfFirst : yX5_setOfFirst.cls ≠ "java/lang/invoke/MethodHandle" ∧ yX5_setOfFirst.cls ≠ "java/lang/invoke/VarHandle" ∧ (parseMethodDescriptor yX5_setOfFirst.desc).map (fun d => d.parameters.length) = some 1 := by decide +kernel
set_option maxHeartbeats 4000000 in
set_option maxRecDepth 100000 in
theorem tX5_setOfFirst (l : Launch) (E : Ev) (hj : Inj kC E) (a0 : Int32) (σ : Sg) (r : Int32 × Sg) (h : fX5_setOfFirst a0 σ = some r) : CI l yX5_setOfFirst cX5_setOfFirst 1 (some FieldType.int) (rmk 0 0) kC E [.int a0] σ r := by
  refine CI_i (lv := [(0, .int a0)]) (by decide) hj (Nat.le_of_ble_eq_true rfl) rfl (fun p e s m args below meth c ls Q hF hret hH hl => ?_)
  unfold fX5_setOfFirst at h
  refine lv_iconst (v := 1) hF.x hF.b dX5_setOfFirst_0 (by decide) ?_
  refine lv_iload_n hF.x hF.b dX5_setOfFirst_1 rfl (lv_at hl 0 rfl) ?_
  refine lv_ishl hF.x hF.b dX5_setOfFirst_2 ?_
  refine lv_iconst (v := 1) hF.x hF.b dX5_setOfFirst_3 (by decide) ?_
  refine lv_isub hF.x hF.b dX5_setOfFirst_4 ?_
  exact hret _ _ _ _ _ _ hH h dX5_setOfFirst_5
theorem hdX5_isWithin : yX5_isWithin.cls ≠ "java/lang/invoke/MethodHandle" ∧ yX5_isWithin.cls ≠ "java/lang/invoke/VarHandle" ∧ (parseMethodDescriptor yX5_isWithin.desc).map (fun d => d.parameters.length) = some 2 := by decide +kernel
set_option maxHeartbeats 4000000 in
set_option maxRecDepth 100000 in
theorem tX5_isWithin (l : Launch) (E : Ev) (hj : Inj kC E) (a0 : Int32) (a1 : Int32) (σ : Sg) (r : Int32 × Sg) (h : fX5_isWithin a0 a1 σ = some r) : CI l yX5_isWithin cX5_isWithin 2 (some FieldType.boolean) (rmk 0 0) kC E [.int a0, .int a1] σ r := by
  refine CI_z (lv := [(0, .int a0), (1, .int a1)]) (by decide) hj (Nat.le_of_ble_eq_true rfl) rfl (fun p e s m args below meth c ls Q hF hret hH hl => ?_)
  have w14 : ∀ (t0 : Int32) (σ : Sg) (H : Heap) (locs : List Loc) (ls : Array Slot), fX5_isWithin_14 t0 σ = some r → HP kC E s σ H locs → lv_has ls 2 [] → W p l e (rmk 0 0) s m args below meth c H locs 0 0 Q (F0 m 14 ls [.int t0]) := by
    intro t0 σ H locs ls h hH hl
    unfold fX5_isWithin_14 at h
    exact hret _ _ _ _ _ _ hH h dX5_isWithin_14
  have w13 : ∀ (σ : Sg) (H : Heap) (locs : List Loc) (ls : Array Slot), fX5_isWithin_13 σ = some r → HP kC E s σ H locs → lv_has ls 2 [] → W p l e (rmk 0 0) s m args below meth c H locs 0 0 Q (F0 m 13 ls []) := by
    intro σ H locs ls h hH hl
    unfold fX5_isWithin_13 at h
    refine lv_iconst (v := 0) hF.x hF.b dX5_isWithin_13 (by decide) ?_
    exact w14 _ _ _ _ _ h hH (lv_sub hl [] rfl)
  unfold fX5_isWithin at h
  refine lv_iload_n hF.x hF.b dX5_isWithin_0 rfl (lv_at hl 0 rfl) ?_
  refine lv_if_lt (tgt := 13) hF.x hF.b dX5_isWithin_1 (by decide) (fun c1 => ?_) (fun c1 => ?_)
  · rw [if_pos c1] at h
    exact w13 _ _ _ _ h hH (lv_sub hl [] rfl)
  · rw [if_neg c1] at h
    refine lv_iload_n hF.x hF.b dX5_isWithin_4 rfl (lv_at hl 0 rfl) ?_
    refine lv_iload_n hF.x hF.b dX5_isWithin_5 rfl (lv_at hl 1 rfl) ?_
    refine lv_icmp_gt (tgt := 13) hF.x hF.b dX5_isWithin_6 (by decide) (fun c2 => ?_) (fun c2 => ?_)
    · rw [if_pos c2] at h
      exact w13 _ _ _ _ h hH (lv_sub hl [] rfl)
    · rw [if_neg c2] at h
      refine lv_iconst (v := 1) hF.x hF.b dX5_isWithin_9 (by decide) ?_
      refine lv_goto (tgt := 14) hF.x hF.b dX5_isWithin_10 (by decide) ?_
      exact w14 _ _ _ _ _ h hH (lv_sub hl [] rfl)
theorem hdX5_isBus : yX5_isBus.cls ≠ "java/lang/invoke/MethodHandle" ∧ yX5_isBus.cls ≠ "java/lang/invoke/VarHandle" ∧ (parseMethodDescriptor yX5_isBus.desc).map (fun d => d.parameters.length) = some 1 := by decide +kernel
set_option maxHeartbeats 4000000 in
set_option maxRecDepth 100000 in
theorem tX5_isBus (l : Launch) (E : Ev) (hj : Inj kC E) (a0 : Int32) (σ : Sg) (r : Int32 × Sg) (h : fX5_isBus a0 σ = some r) : CI l yX5_isBus cX5_isBus 1 (some FieldType.boolean) (rmk 1 21) kC E [.int a0] σ r := by
  refine CI_z (lv := [(0, .int a0)]) (by decide) hj (Nat.le_of_ble_eq_true rfl) rfl (fun p e s m args below meth c ls Q hF hret hH hl => ?_)
  unfold fX5_isBus at h
  refine lv_iload_n hF.x hF.b dX5_isBus_0 rfl (lv_at hl 0 rfl) ?_
  refine lv_iconst (v := 5) hF.x hF.b dX5_isBus_1 (by decide) ?_
  replace h := bd_some h
  obtain ⟨v1, σ2, hv1, h⟩ := h
  refine w_cSi (As := [.int a0, .int 5]) (rest := []) hF hH hl (tX5_isWithin l E hF.j _ _ _ _ hv1) tk_197 tk_198 tk_41 tk_199 rfl rfl hdX5_isWithin ⟨Nat.le_of_ble_eq_true rfl, Nat.le_of_ble_eq_true rfl⟩ rfl rfl (Nat.le_of_ble_eq_true rfl) dX5_isBus_2 (fun H locs hH => ?_)
  exact hret _ _ _ _ _ _ hH h dX5_isBus_5
theorem hdJ6_bitCount_0f7a4 : yJ6_bitCount_0f7a4.cls ≠ "java/lang/invoke/MethodHandle" ∧ yJ6_bitCount_0f7a4.cls ≠ "java/lang/invoke/VarHandle" ∧ (parseMethodDescriptor yJ6_bitCount_0f7a4.desc).map (fun d => d.parameters.length) = some 1 := by decide +kernel
set_option maxHeartbeats 4000000 in
set_option maxRecDepth 100000 in
theorem tJ6_bitCount_0f7a4 (l : Launch) (E : Ev) (hj : Inj kC E) (a0 : Int32) (σ : Sg) (r : Int32 × Sg) (h : fJ6_bitCount_0f7a4 a0 σ = some r) : CI l yJ6_bitCount_0f7a4 cJ6_bitCount_0f7a4 1 (some FieldType.int) (rmk 0 0) kC E [.int a0] σ r := by
  refine CI_i (lv := [(0, .int a0)]) (by decide) hj (Nat.le_of_ble_eq_true rfl) rfl (fun p e s m args below meth c ls Q hF hret hH hl => ?_)
  unfold fJ6_bitCount_0f7a4 at h
  refine lv_iload_n hF.x hF.b dJ6_bitCount_0f7a4_0 rfl (lv_at hl 0 rfl) ?_
  refine lv_iload_n hF.x hF.b dJ6_bitCount_0f7a4_1 rfl (lv_at hl 0 rfl) ?_
  refine lv_iconst (v := 1) hF.x hF.b dJ6_bitCount_0f7a4_2 (by decide) ?_
  refine lv_iushr hF.x hF.b dJ6_bitCount_0f7a4_3 rfl ?_
  refine lv_ldcw (v := 1431655765) hF.x hF.b hF.o (hF.t _ tk_247) dJ6_bitCount_0f7a4_4 ?_
  refine lv_iand hF.x hF.b dJ6_bitCount_0f7a4_7 ?_
  refine lv_isub hF.x hF.b dJ6_bitCount_0f7a4_8 ?_
  refine lv_topi (fun y1 ey1 => ?_)
  replace h := sv_at h ey1
  clear ey1
  refine lv_istore_n (lv' := [(0, .int y1)]) hF.x hF.b dJ6_bitCount_0f7a4_9 rfl hl (by decide) rfl (fun ls hl => ?_)
  refine lv_iload_n hF.x hF.b dJ6_bitCount_0f7a4_10 rfl (lv_at hl 0 rfl) ?_
  refine lv_ldcw (v := 858993459) hF.x hF.b hF.o (hF.t _ tk_248) dJ6_bitCount_0f7a4_11 ?_
  refine lv_iand hF.x hF.b dJ6_bitCount_0f7a4_14 ?_
  refine lv_iload_n hF.x hF.b dJ6_bitCount_0f7a4_15 rfl (lv_at hl 0 rfl) ?_
  refine lv_iconst (v := 2) hF.x hF.b dJ6_bitCount_0f7a4_16 (by decide) ?_
  refine lv_iushr hF.x hF.b dJ6_bitCount_0f7a4_17 rfl ?_
  refine lv_ldcw (v := 858993459) hF.x hF.b hF.o (hF.t _ tk_248) dJ6_bitCount_0f7a4_18 ?_
  refine lv_iand hF.x hF.b dJ6_bitCount_0f7a4_21 ?_
  refine lv_iadd hF.x hF.b dJ6_bitCount_0f7a4_22 ?_
  refine lv_topi (fun y2 ey2 => ?_)
  replace h := sv_at h ey2
  clear ey2
  refine lv_istore_n (lv' := [(0, .int y2)]) hF.x hF.b dJ6_bitCount_0f7a4_23 rfl hl (by decide) rfl (fun ls hl => ?_)
  refine lv_iload_n hF.x hF.b dJ6_bitCount_0f7a4_24 rfl (lv_at hl 0 rfl) ?_
  refine lv_iload_n hF.x hF.b dJ6_bitCount_0f7a4_25 rfl (lv_at hl 0 rfl) ?_
  refine lv_iconst (v := 4) hF.x hF.b dJ6_bitCount_0f7a4_26 (by decide) ?_
  refine lv_iushr hF.x hF.b dJ6_bitCount_0f7a4_27 rfl ?_
  refine lv_iadd hF.x hF.b dJ6_bitCount_0f7a4_28 ?_
  refine lv_ldcw (v := 252645135) hF.x hF.b hF.o (hF.t _ tk_249) dJ6_bitCount_0f7a4_29 ?_
  refine lv_iand hF.x hF.b dJ6_bitCount_0f7a4_32 ?_
  refine lv_topi (fun y3 ey3 => ?_)
  replace h := sv_at h ey3
  clear ey3
  refine lv_istore_n (lv' := [(0, .int y3)]) hF.x hF.b dJ6_bitCount_0f7a4_33 rfl hl (by decide) rfl (fun ls hl => ?_)
  refine lv_iload_n hF.x hF.b dJ6_bitCount_0f7a4_34 rfl (lv_at hl 0 rfl) ?_
  refine lv_iload_n hF.x hF.b dJ6_bitCount_0f7a4_35 rfl (lv_at hl 0 rfl) ?_
  refine lv_bipush (v := 8) hF.x hF.b dJ6_bitCount_0f7a4_36 (by decide) ?_
  refine lv_iushr hF.x hF.b dJ6_bitCount_0f7a4_38 rfl ?_
  refine lv_iadd hF.x hF.b dJ6_bitCount_0f7a4_39 ?_
  refine lv_topi (fun y4 ey4 => ?_)
  replace h := sv_at h ey4
  clear ey4
  refine lv_istore_n (lv' := [(0, .int y4)]) hF.x hF.b dJ6_bitCount_0f7a4_40 rfl hl (by decide) rfl (fun ls hl => ?_)
  refine lv_iload_n hF.x hF.b dJ6_bitCount_0f7a4_41 rfl (lv_at hl 0 rfl) ?_
  refine lv_iload_n hF.x hF.b dJ6_bitCount_0f7a4_42 rfl (lv_at hl 0 rfl) ?_
  refine lv_bipush (v := 16) hF.x hF.b dJ6_bitCount_0f7a4_43 (by decide) ?_
  refine lv_iushr hF.x hF.b dJ6_bitCount_0f7a4_45 rfl ?_
  refine lv_iadd hF.x hF.b dJ6_bitCount_0f7a4_46 ?_
  refine lv_topi (fun y5 ey5 => ?_)
  replace h := sv_at h ey5
  clear ey5
  refine lv_istore_n (lv' := [(0, .int y5)]) hF.x hF.b dJ6_bitCount_0f7a4_47 rfl hl (by decide) rfl (fun ls hl => ?_)
  refine lv_iload_n hF.x hF.b dJ6_bitCount_0f7a4_48 rfl (lv_at hl 0 rfl) ?_
  refine lv_bipush (v := 63) hF.x hF.b dJ6_bitCount_0f7a4_49 (by decide) ?_
  refine lv_iand hF.x hF.b dJ6_bitCount_0f7a4_51 ?_
  exact hret _ _ _ _ _ _ hH h dJ6_bitCount_0f7a4_52
