theorem hdX5_line : yX5_line.cls = RX5 ∧ yX5_line.cls ≠ "java/lang/invoke/MethodHandle" ∧ yX5_line.cls ≠ "java/lang/invoke/VarHandle" ∧ (parseMethodDescriptor yX5_line.desc).map (fun d => d.parameters.length) = some 3 := by decide +kernel
set_option maxHeartbeats 4000000 in
set_option maxRecDepth 100000 in
theorem tX5_line (l : Launch) (E : Ev) (hj : Inj kC E) (a1 : Int32) (a2 : Int32) (a3 : Int32) (σ : Sg) (r : Int32 × Sg) (h : fX5_line a1 a2 a3 σ = some r) : CI l yX5_line cX5_line 5 (some FieldType.int) (rmk 3 76) kC E [.ref (eA E 0), .int a1, .int a2, .int a3] σ r := by
  refine CI_i (lv := [(0, .ref (eA E 0)), (1, .int a1), (2, .int a2), (3, .int a3)]) (by decide) hj (Nat.le_of_ble_eq_true rfl) rfl (fun p e s m args below meth c ls Q hF hret hH hl => ?_)
  have w19 : ∀ (σ : Sg) (H : Heap) (locs : List Loc) (ls : Array Slot), fX5_line_19 σ = some r → HP kC E s σ H locs → lv_has ls 5 [(0, .ref (eA E 0))] → W p l e (rmk 3 76) s m args below meth c H locs 0 0 Q (F0 m 19 ls []) := by
    intro σ H locs ls h hH hl
    unfold fX5_line_19 at h
    refine lv_iconst (v := (-1)) hF.x hF.b dX5_line_19 (by decide) ?_
    exact hret _ _ _ _ _ _ hH h dX5_line_20
  unfold fX5_line at h
  refine lv_iload_n hF.x hF.b dX5_line_0 rfl (lv_at hl 1 rfl) ?_
  replace h := bd_some h
  obtain ⟨v1, σ2, hv1, h⟩ := h
  refine w_cSi (As := [.int a1]) (rest := []) hF hH hl (tX5_isBus l E hF.j _ _ _ hv1) tk_194 tk_195 tk_41 tk_196 rfl rfl hdX5_isBus ⟨Nat.le_of_ble_eq_true rfl, Nat.le_of_ble_eq_true rfl⟩ rfl rfl (Nat.le_of_ble_eq_true rfl) dX5_line_1 (fun H locs hH => ?_)
  refine lv_if_eq (tgt := 19) hF.x hF.b dX5_line_4 (by decide) (fun c3 => ?_) (fun c3 => ?_)
  · rw [if_pos c3] at h
    exact w19 _ _ _ _ h hH (lv_sub hl [0] rfl)
  · rw [if_neg c3] at h
    refine lv_iload_n hF.x hF.b dX5_line_7 rfl (lv_at hl 2 rfl) ?_
    replace h := bd_some h
    obtain ⟨v4, σ5, hv4, h⟩ := h
    refine w_cSi (As := [.int a2]) (rest := []) hF hH hl (tX5_isBus l E hF.j _ _ _ hv4) tk_194 tk_195 tk_41 tk_196 rfl rfl hdX5_isBus ⟨Nat.le_of_ble_eq_true rfl, Nat.le_of_ble_eq_true rfl⟩ rfl rfl (Nat.le_of_ble_eq_true rfl) dX5_line_8 (fun H locs hH => ?_)
    refine lv_if_eq (tgt := 19) hF.x hF.b dX5_line_11 (by decide) (fun c6 => ?_) (fun c6 => ?_)
    · rw [if_pos c6] at h
      exact w19 _ _ _ _ h hH (lv_sub hl [0] rfl)
    · rw [if_neg c6] at h
      refine lv_iload_n hF.x hF.b dX5_line_14 rfl (lv_at hl 1 rfl) ?_
      refine lv_iload_n hF.x hF.b dX5_line_15 rfl (lv_at hl 2 rfl) ?_
      refine lv_icmp_ne (tgt := 21) hF.x hF.b dX5_line_16 (by decide) (fun c7 => ?_) (fun c7 => ?_)
      · rw [if_neg c7] at h
        refine lv_iload_n hF.x hF.b dX5_line_21 rfl (lv_at hl 3 rfl) ?_
        refine lv_bipush (v := 9) hF.x hF.b dX5_line_22 (by decide) ?_
        replace h := bd_some h
        obtain ⟨v8, σ9, hv8, h⟩ := h
        refine w_cSi (As := [.int a3, .int 9]) (rest := []) hF hH hl (tX5_isWithin l E hF.j _ _ _ _ hv8) tk_197 tk_198 tk_41 tk_199 rfl rfl hdX5_isWithin ⟨Nat.le_of_ble_eq_true rfl, Nat.le_of_ble_eq_true rfl⟩ rfl rfl (Nat.le_of_ble_eq_true rfl) dX5_line_24 (fun H locs hH => ?_)
        refine lv_if_ne (tgt := 33) hF.x hF.b dX5_line_27 (by decide) (fun c10 => ?_) (fun c10 => ?_)
        · rw [if_neg c10] at h
          refine lv_aload_n hF.x hF.b dX5_line_33 rfl (lv_at hl 0 rfl) ?_
          refine gfC_0_0 hF hH tk_171 dX5_line_34 ?_
          refine gfC_1_0 hF hH tk_66 dX5_line_37 ?_
          refine lv_bipush (v := 6) hF.x hF.b dX5_line_40 (by decide) ?_
          refine lv_icmp_lt (tgt := 48) hF.x hF.b dX5_line_42 (by decide) (fun c11 => ?_) (fun c11 => ?_)
          · rw [if_pos c11] at h
            refine lv_aload_n hF.x hF.b dX5_line_48 rfl (lv_at hl 0 rfl) ?_
            refine gfC_0_0 hF hH tk_171 dX5_line_49 ?_
            refine lv_iload_n hF.x hF.b dX5_line_52 rfl (lv_at hl 1 rfl) ?_
            refine lv_iload_n hF.x hF.b dX5_line_53 rfl (lv_at hl 2 rfl) ?_
            refine va_mmin hF.x hF.b (hF.ml.trans hl.1.symm) hF.o (hF.t _ tk_200) (hF.t _ tk_201) (hF.t _ tk_47) (hF.t _ tk_202) (Nat.le_of_ble_eq_true rfl) (Nat.le_of_ble_eq_true rfl) (Nat.zero_le _) (Nat.zero_le _) dX5_line_54 ?_
            refine lv_iload_n hF.x hF.b dX5_line_57 rfl (lv_at hl 1 rfl) ?_
            refine lv_iload_n hF.x hF.b dX5_line_58 rfl (lv_at hl 2 rfl) ?_
            refine va_mmax hF.x hF.b (hF.ml.trans hl.1.symm) hF.o (hF.t _ tk_203) (hF.t _ tk_204) (hF.t _ tk_47) (hF.t _ tk_205) (Nat.le_of_ble_eq_true rfl) (Nat.le_of_ble_eq_true rfl) (Nat.zero_le _) (Nat.zero_le _) dX5_line_59 ?_
            refine lv_iload_n hF.x hF.b dX5_line_62 rfl (lv_at hl 3 rfl) ?_
            replace h := bd_some h
            obtain ⟨v12, σ13, hv12, h⟩ := h
            refine w_cVi (As := [.int (if a2 < a1 then a2 else a1), .int (if a1 < a2 then a2 else a1), .int a3]) (rest := []) hF hH hl 1 (by decide) rfl rfl (tX1_addLine l E hF.j _ _ _ _ _ hv12) tk_206 tk_207 tk_208 tk_42 tk_209 rfl rfl hdX1_addLine ⟨Nat.le_of_ble_eq_true rfl, Nat.le_of_ble_eq_true rfl⟩ rfl rfl (Nat.le_of_ble_eq_true rfl) dX5_line_63 (fun H locs hH => ?_)
            refine lv_istore (lv' := [(4, .int v12), (0, .ref (eA E 0)), (1, .int a1), (2, .int a2), (3, .int a3)]) hF.x hF.b dX5_line_66 hl (by decide) rfl (fun ls hl => ?_)
            refine lv_aload_n hF.x hF.b dX5_line_68 rfl (lv_at hl 1 rfl) ?_
            refine gfC_0_1 hF hH tk_172 dX5_line_69 ?_
            refine lv_aload_n hF.x hF.b dX5_line_72 rfl (lv_at hl 1 rfl) ?_
            refine gfC_0_0 hF hH tk_171 dX5_line_73 ?_
            refine lv_iload hF.x hF.b dX5_line_76 (lv_at hl 0 rfl) ?_
            replace h := bd_some h
            obtain ⟨v14, σ15, hv14, h⟩ := h
            refine w_cVv (As := [.ref (eA E 1), .int v12]) (rest := []) hF hH hl 9 (by decide) rfl rfl (tX2_learnLine l E hF.j _ _ _ hv14) tk_210 tk_211 tk_212 tk_43 tk_213 rfl rfl hdX2_learnLine ⟨Nat.le_of_ble_eq_true rfl, Nat.le_of_ble_eq_true rfl⟩ rfl rfl (Nat.le_of_ble_eq_true rfl) dX5_line_78 (fun H locs hH => ?_)
            refine lv_iload hF.x hF.b dX5_line_81 (lv_at hl 0 rfl) ?_
            exact hret _ _ _ _ _ _ hH h dX5_line_83
          · rw [if_neg c11] at h
            refine lv_bipush (v := (-4)) hF.x hF.b dX5_line_45 (by decide) ?_
            exact hret _ _ _ _ _ _ hH h dX5_line_47
        · rw [if_pos c10] at h
          refine lv_bipush (v := (-2)) hF.x hF.b dX5_line_30 (by decide) ?_
          exact hret _ _ _ _ _ _ hH h dX5_line_32
      · rw [if_pos c7] at h
        exact w19 _ _ _ _ h hH (lv_sub hl [0] rfl)
theorem hdX5_machine : yX5_machine.cls = RX5 ∧ yX5_machine.cls ≠ "java/lang/invoke/MethodHandle" ∧ yX5_machine.cls ≠ "java/lang/invoke/VarHandle" ∧ (parseMethodDescriptor yX5_machine.desc).map (fun d => d.parameters.length) = some 4 := by decide +kernel
set_option maxHeartbeats 4000000 in
set_option maxRecDepth 100000 in
theorem tX5_machine (l : Launch) (E : Ev) (hj : Inj kC E) (a1 : Int32) (a2 : Int32) (a3 : Int32) (a4 : Int32) (σ : Sg) (r : Int32 × Sg) (h : fX5_machine a1 a2 a3 a4 σ = some r) : CI l yX5_machine cX5_machine 5 (some FieldType.int) (rmk 2 41) kC E [.ref (eA E 0), .int a1, .int a2, .int a3, .int a4] σ r := by
  refine CI_i (lv := [(0, .ref (eA E 0)), (1, .int a1), (2, .int a2), (3, .int a3), (4, .int a4)]) (by decide) hj (Nat.le_of_ble_eq_true rfl) rfl (fun p e s m args below meth c ls Q hF hret hH hl => ?_)
  have w36 : ∀ (σ : Sg) (H : Heap) (locs : List Loc) (ls : Array Slot), fX5_machine_36 σ = some r → HP kC E s σ H locs → lv_has ls 5 [(0, .ref (eA E 0))] → W p l e (rmk 2 41) s m args below meth c H locs 0 0 Q (F0 m 36 ls []) := by
    intro σ H locs ls h hH hl
    unfold fX5_machine_36 at h
    refine lv_bipush (v := (-2)) hF.x hF.b dX5_machine_36 (by decide) ?_
    exact hret _ _ _ _ _ _ hH h dX5_machine_38
  unfold fX5_machine at h
  refine lv_iload_n hF.x hF.b dX5_machine_0 rfl (lv_at hl 1 rfl) ?_
  replace h := bd_some h
  obtain ⟨v1, σ2, hv1, h⟩ := h
  refine w_cSi (As := [.int a1]) (rest := []) hF hH hl (tX5_isBus l E hF.j _ _ _ hv1) tk_194 tk_195 tk_41 tk_196 rfl rfl hdX5_isBus ⟨Nat.le_of_ble_eq_true rfl, Nat.le_of_ble_eq_true rfl⟩ rfl rfl (Nat.le_of_ble_eq_true rfl) dX5_machine_1 (fun H locs hH => ?_)
  refine lv_if_ne (tgt := 9) hF.x hF.b dX5_machine_4 (by decide) (fun c3 => ?_) (fun c3 => ?_)
  · rw [if_neg c3] at h
    refine lv_iload_n hF.x hF.b dX5_machine_9 rfl (lv_at hl 2 rfl) ?_
    refine lv_bipush (v := 20) hF.x hF.b dX5_machine_10 (by decide) ?_
    replace h := bd_some h
    obtain ⟨v4, σ5, hv4, h⟩ := h
    refine w_cSi (As := [.int a2, .int 20]) (rest := []) hF hH hl (tX5_isWithin l E hF.j _ _ _ _ hv4) tk_197 tk_198 tk_41 tk_199 rfl rfl hdX5_isWithin ⟨Nat.le_of_ble_eq_true rfl, Nat.le_of_ble_eq_true rfl⟩ rfl rfl (Nat.le_of_ble_eq_true rfl) dX5_machine_12 (fun H locs hH => ?_)
    refine lv_if_eq (tgt := 36) hF.x hF.b dX5_machine_15 (by decide) (fun c6 => ?_) (fun c6 => ?_)
    · rw [if_pos c6] at h
      exact w36 _ _ _ _ h hH (lv_sub hl [0] rfl)
    · rw [if_neg c6] at h
      refine lv_iload_n hF.x hF.b dX5_machine_18 rfl (lv_at hl 3 rfl) ?_
      refine lv_bipush (v := 40) hF.x hF.b dX5_machine_19 (by decide) ?_
      replace h := bd_some h
      obtain ⟨v7, σ8, hv7, h⟩ := h
      refine w_cSi (As := [.int a3, .int 40]) (rest := []) hF hH hl (tX5_isWithin l E hF.j _ _ _ _ hv7) tk_197 tk_198 tk_41 tk_199 rfl rfl hdX5_isWithin ⟨Nat.le_of_ble_eq_true rfl, Nat.le_of_ble_eq_true rfl⟩ rfl rfl (Nat.le_of_ble_eq_true rfl) dX5_machine_21 (fun H locs hH => ?_)
      refine lv_if_eq (tgt := 36) hF.x hF.b dX5_machine_24 (by decide) (fun c9 => ?_) (fun c9 => ?_)
      · rw [if_pos c9] at h
        exact w36 _ _ _ _ h hH (lv_sub hl [0] rfl)
      · rw [if_neg c9] at h
        refine lv_iload hF.x hF.b dX5_machine_27 (lv_at hl 4 rfl) ?_
        refine lv_iconst (v := 3) hF.x hF.b dX5_machine_29 (by decide) ?_
        replace h := bd_some h
        obtain ⟨v10, σ11, hv10, h⟩ := h
        refine w_cSi (As := [.int a4, .int 3]) (rest := []) hF hH hl (tX5_isWithin l E hF.j _ _ _ _ hv10) tk_197 tk_198 tk_41 tk_199 rfl rfl hdX5_isWithin ⟨Nat.le_of_ble_eq_true rfl, Nat.le_of_ble_eq_true rfl⟩ rfl rfl (Nat.le_of_ble_eq_true rfl) dX5_machine_30 (fun H locs hH => ?_)
        refine lv_if_ne (tgt := 39) hF.x hF.b dX5_machine_33 (by decide) (fun c12 => ?_) (fun c12 => ?_)
        · rw [if_neg c12] at h
          refine lv_aload_n hF.x hF.b dX5_machine_39 rfl (lv_at hl 0 rfl) ?_
          refine gfC_0_0 hF hH tk_171 dX5_machine_40 ?_
          refine gfC_1_4 hF hH tk_81 dX5_machine_43 ?_
          refine lv_iconst (v := 3) hF.x hF.b dX5_machine_46 (by decide) ?_
          refine lv_icmp_lt (tgt := 53) hF.x hF.b dX5_machine_47 (by decide) (fun c13 => ?_) (fun c13 => ?_)
          · rw [if_pos c13] at h
            refine lv_aload_n hF.x hF.b dX5_machine_53 rfl (lv_at hl 0 rfl) ?_
            refine gfC_0_0 hF hH tk_171 dX5_machine_54 ?_
            refine lv_iload_n hF.x hF.b dX5_machine_57 rfl (lv_at hl 1 rfl) ?_
            refine lv_iload_n hF.x hF.b dX5_machine_58 rfl (lv_at hl 2 rfl) ?_
            refine lv_iload_n hF.x hF.b dX5_machine_59 rfl (lv_at hl 3 rfl) ?_
            refine lv_iload hF.x hF.b dX5_machine_60 (lv_at hl 4 rfl) ?_
            replace h := bd_some h
            obtain ⟨v14, σ15, hv14, h⟩ := h
            refine w_cVi (As := [.int a1, .int a2, .int a3, .int a4]) (rest := []) hF hH hl 1 (by decide) rfl rfl (tX1_addMachine l E hF.j _ _ _ _ _ _ hv14) tk_233 tk_234 tk_235 tk_42 tk_236 rfl rfl hdX1_addMachine ⟨Nat.le_of_ble_eq_true rfl, Nat.le_of_ble_eq_true rfl⟩ rfl rfl (Nat.le_of_ble_eq_true rfl) dX5_machine_62 (fun H locs hH => ?_)
            exact hret _ _ _ _ _ _ hH h dX5_machine_65
          · rw [if_neg c13] at h
            refine lv_bipush (v := (-4)) hF.x hF.b dX5_machine_50 (by decide) ?_
            exact hret _ _ _ _ _ _ hH h dX5_machine_52
        · rw [if_pos c12] at h
          exact w36 _ _ _ _ h hH (lv_sub hl [0] rfl)
  · rw [if_pos c3] at h
    refine lv_iconst (v := (-1)) hF.x hF.b dX5_machine_7 (by decide) ?_
    exact hret _ _ _ _ _ _ hH h dX5_machine_8
theorem hdX5_dark : yX5_dark.cls = RX5 ∧ yX5_dark.cls ≠ "java/lang/invoke/MethodHandle" ∧ yX5_dark.cls ≠ "java/lang/invoke/VarHandle" ∧ (parseMethodDescriptor yX5_dark.desc).map (fun d => d.parameters.length) = some 0 := by decide +kernel
set_option maxHeartbeats 4000000 in
set_option maxRecDepth 100000 in
theorem tX5_dark (l : Launch) (E : Ev) (hj : Inj kC E) (σ : Sg) (r : Int32 × Sg) (h : fX5_dark σ = some r) : CI l yX5_dark cX5_dark 2 (some FieldType.int) (rmk 1 20) kC E [.ref (eA E 0)] σ r := by
  refine CI_i (lv := [(0, .ref (eA E 0))]) (by decide) hj (Nat.le_of_ble_eq_true rfl) rfl (fun p e s m args below meth c ls Q hF hret hH hl => ?_)
  unfold fX5_dark at h
  refine lv_aload_n hF.x hF.b dX5_dark_0 rfl (lv_at hl 0 rfl) ?_
  refine gfC_0_0 hF hH tk_171 dX5_dark_1 ?_
  refine gfC_1_9 hF hH tk_95 dX5_dark_4 ?_
  replace h := bd_some h
  obtain ⟨v1, σ2, hv1, h⟩ := h
  refine w_cSi (As := [.int (σ 1 9)]) (rest := []) hF hH hl (tX0_running l E hF.j _ _ _ hv1) tk_241 tk_242 tk_48 tk_243 rfl rfl hdX0_running ⟨Nat.le_of_ble_eq_true rfl, Nat.le_of_ble_eq_true rfl⟩ rfl rfl (Nat.le_of_ble_eq_true rfl) dX5_dark_7 (fun H locs hH => ?_)
  replace h := bd_some h
  obtain ⟨v3, σ4, hv3, h⟩ := h
  refine w_cSi (As := [.int v1]) (rest := []) hF hH hl (tJ6_bitCount_0f7a4 l E hF.j _ _ _ hv3) tk_244 tk_245 tk_49 tk_246 rfl rfl hdJ6_bitCount_0f7a4 ⟨Nat.le_of_ble_eq_true rfl, Nat.le_of_ble_eq_true rfl⟩ rfl rfl (Nat.le_of_ble_eq_true rfl) dX5_dark_10 (fun H locs hH => ?_)
  refine lv_istore_n (lv' := [(1, .int v3), (0, .ref (eA E 0))]) hF.x hF.b dX5_dark_13 rfl hl (by decide) rfl (fun ls hl => ?_)
  refine lv_aload_n hF.x hF.b dX5_dark_14 rfl (lv_at hl 1 rfl) ?_
  refine gfC_0_0 hF hH tk_171 dX5_dark_15 ?_
  refine lv_iconst (v := 0) hF.x hF.b dX5_dark_18 (by decide) ?_
  refine pfC_1_9 hF hH tk_95 dX5_dark_19 (fun σ5 H locs eσ5 hH => ?_)
  replace h := sv_at h eσ5
  clear eσ5
  refine lv_aload_n hF.x hF.b dX5_dark_22 rfl (lv_at hl 1 rfl) ?_
  refine gfC_0_0 hF hH tk_171 dX5_dark_23 ?_
  refine lv_iconst (v := 0) hF.x hF.b dX5_dark_26 (by decide) ?_
  refine pfC_1_10 hF hH tk_96 dX5_dark_27 (fun σ6 H locs eσ6 hH => ?_)
  replace h := sv_at h eσ6
  clear eσ6
  refine lv_iload_n hF.x hF.b dX5_dark_30 rfl (lv_at hl 0 rfl) ?_
  exact hret _ _ _ _ _ _ hH h dX5_dark_31
theorem hdX5_of : yX5_of.cls = RX5 ∧ yX5_of.cls ≠ "java/lang/invoke/MethodHandle" ∧ yX5_of.cls ≠ "java/lang/invoke/VarHandle" ∧ (parseMethodDescriptor yX5_of.desc).map (fun d => d.parameters.length) = some 2 := by decide +kernel
set_option maxHeartbeats 4000000 in
set_option maxRecDepth 100000 in
theorem tX5_of (l : Launch) (E : Ev) (hj : Inj kC E) (a1 : Int32) (a2 : Int32) (σ : Sg) (r : Int32 × Sg) (h : fX5_of a1 a2 σ = some r) : CI l yX5_of cX5_of 3 (some FieldType.int) (rmk 1 21) kC E [.ref (eA E 0), .int a1, .int a2] σ r := by
  refine CI_i (lv := [(0, .ref (eA E 0)), (1, .int a1), (2, .int a2)]) (by decide) hj (Nat.le_of_ble_eq_true rfl) rfl (fun p e s m args below meth c ls Q hF hret hH hl => ?_)
  unfold fX5_of at h
  refine lv_aload_n hF.x hF.b dX5_of_0 rfl (lv_at hl 0 rfl) ?_
  refine gfC_0_0 hF hH tk_171 dX5_of_1 ?_
  refine lv_iload_n hF.x hF.b dX5_of_4 rfl (lv_at hl 1 rfl) ?_
  replace h := bd_some h
  obtain ⟨v1, σ2, hv1, h⟩ := h
  refine w_cVi (As := [.int a1]) (rest := []) hF hH hl 1 (by decide) rfl rfl (tX1_hasLine l E hF.j _ _ _ hv1) tk_254 tk_255 tk_256 tk_42 tk_257 rfl rfl hdX1_hasLine ⟨Nat.le_of_ble_eq_true rfl, Nat.le_of_ble_eq_true rfl⟩ rfl rfl (Nat.le_of_ble_eq_true rfl) dX5_of_5 (fun H locs hH => ?_)
  refine lv_if_ne (tgt := 13) hF.x hF.b dX5_of_8 (by decide) (fun c3 => ?_) (fun c3 => ?_)
  · rw [if_neg c3] at h
    refine lv_iload_n hF.x hF.b dX5_of_13 rfl (lv_at hl 2 rfl) ?_
    by_cases c4 : a2 = 0
    · rw [if_pos c4] at h
      refine lv_tableIn (off := 30) (tgt := 44) hF.x hF.b dX5_of_14 (by rw [c4]; decide) (by rw [c4]; decide) (by rw [c4]; rfl) (by decide) ?_
      refine lv_aload_n hF.x hF.b dX5_of_44 rfl (lv_at hl 0 rfl) ?_
      refine gfC_0_0 hF hH tk_171 dX5_of_45 ?_
      refine gfC_1_1 hF hH tk_70 dX5_of_48 ?_
      refine lv_iload_n hF.x hF.b dX5_of_51 rfl (lv_at hl 1 rfl) ?_
      refine alC_2 hF hH (gd_some h).1 dX5_of_52 ?_
      replace h := (gd_some h).2
      exact hret _ _ _ _ _ _ hH h dX5_of_53
    rw [if_neg c4] at h
    by_cases c5 : a2 = 1
    · rw [if_pos c5] at h
      refine lv_tableIn (off := 40) (tgt := 54) hF.x hF.b dX5_of_14 (by rw [c5]; decide) (by rw [c5]; decide) (by rw [c5]; rfl) (by decide) ?_
      refine lv_aload_n hF.x hF.b dX5_of_54 rfl (lv_at hl 0 rfl) ?_
      refine gfC_0_0 hF hH tk_171 dX5_of_55 ?_
      refine gfC_1_2 hF hH tk_74 dX5_of_58 ?_
      refine lv_iload_n hF.x hF.b dX5_of_61 rfl (lv_at hl 1 rfl) ?_
      refine alC_3 hF hH (gd_some h).1 dX5_of_62 ?_
      replace h := (gd_some h).2
      exact hret _ _ _ _ _ _ hH h dX5_of_63
    rw [if_neg c5] at h
    by_cases c6 : a2 = 2
    · rw [if_pos c6] at h
      refine lv_tableIn (off := 50) (tgt := 64) hF.x hF.b dX5_of_14 (by rw [c6]; decide) (by rw [c6]; decide) (by rw [c6]; rfl) (by decide) ?_
      refine lv_aload_n hF.x hF.b dX5_of_64 rfl (lv_at hl 0 rfl) ?_
      refine gfC_0_0 hF hH tk_171 dX5_of_65 ?_
      refine gfC_1_3 hF hH tk_78 dX5_of_68 ?_
      refine lv_iload_n hF.x hF.b dX5_of_71 rfl (lv_at hl 1 rfl) ?_
      refine alC_4 hF hH (gd_some h).1 dX5_of_72 ?_
      replace h := (gd_some h).2
      exact hret _ _ _ _ _ _ hH h dX5_of_73
    rw [if_neg c6] at h
    by_cases c7 : a2 = 3
    · rw [if_pos c7] at h
      refine lv_tableIn (off := 60) (tgt := 74) hF.x hF.b dX5_of_14 (by rw [c7]; decide) (by rw [c7]; decide) (by rw [c7]; rfl) (by decide) ?_
      refine lv_aload_n hF.x hF.b dX5_of_74 rfl (lv_at hl 0 rfl) ?_
      refine gfC_0_0 hF hH tk_171 dX5_of_75 ?_
      refine gfC_1_9 hF hH tk_95 dX5_of_78 ?_
      replace h := bd_some h
      obtain ⟨v8, σ9, hv8, h⟩ := h
      refine w_cSi (As := [.int (σ2 1 9)]) (rest := []) hF hH hl (tX0_closed l E hF.j _ _ _ hv8) tk_258 tk_259 tk_48 tk_260 rfl rfl hdX0_closed ⟨Nat.le_of_ble_eq_true rfl, Nat.le_of_ble_eq_true rfl⟩ rfl rfl (Nat.le_of_ble_eq_true rfl) dX5_of_81 (fun H locs hH => ?_)
      refine lv_iload_n hF.x hF.b dX5_of_84 rfl (lv_at hl 1 rfl) ?_
      replace h := bd_some h
      obtain ⟨v10, σ11, hv10, h⟩ := h
      refine w_cSi (As := [.int v8, .int a1]) (rest := []) hF hH hl (tX5_bit l E hF.j _ _ _ _ hv10) tk_261 tk_227 tk_41 tk_228 rfl rfl hdX5_bit ⟨Nat.le_of_ble_eq_true rfl, Nat.le_of_ble_eq_true rfl⟩ rfl rfl (Nat.le_of_ble_eq_true rfl) dX5_of_85 (fun H locs hH => ?_)
      exact hret _ _ _ _ _ _ hH h dX5_of_88
    rw [if_neg c7] at h
    have zc4 := lv_neT c4 (show (0 : Int32).toInt = 0 by decide)
    have zc5 := lv_neT c5 (show (1 : Int32).toInt = 1 by decide)
    have zc6 := lv_neT c6 (show (2 : Int32).toInt = 2 by decide)
    have zc7 := lv_neT c7 (show (3 : Int32).toInt = 3 by decide)
    refine lv_tableOut (tgt := 89) hF.x hF.b dX5_of_14 (by omega) (by decide) ?_
    refine lv_bipush (v := (-2)) hF.x hF.b dX5_of_89 (by decide) ?_
    exact hret _ _ _ _ _ _ hH h dX5_of_91
  · rw [if_pos c3] at h
    refine lv_iconst (v := (-1)) hF.x hF.b dX5_of_11 (by decide) ?_
    exact hret _ _ _ _ _ _ hH h dX5_of_12
theorem hdX5_at : yX5_at.cls = RX5 ∧ yX5_at.cls ≠ "java/lang/invoke/MethodHandle" ∧ yX5_at.cls ≠ "java/lang/invoke/VarHandle" ∧ (parseMethodDescriptor yX5_at.desc).map (fun d => d.parameters.length) = some 2 := by decide +kernel
set_option maxHeartbeats 4000000 in
set_option maxRecDepth 100000 in
theorem tX5_at (l : Launch) (E : Ev) (hj : Inj kC E) (a1 : Int32) (a2 : Int32) (σ : Sg) (r : Int32 × Sg) (h : fX5_at a1 a2 σ = some r) : CI l yX5_at cX5_at 3 (some FieldType.int) (rmk 2 42) kC E [.ref (eA E 0), .int a1, .int a2] σ r := by
  refine CI_i (lv := [(0, .ref (eA E 0)), (1, .int a1), (2, .int a2)]) (by decide) hj (Nat.le_of_ble_eq_true rfl) rfl (fun p e s m args below meth c ls Q hF hret hH hl => ?_)
  have w118 : ∀ (t0 : Int32) (σ : Sg) (H : Heap) (locs : List Loc) (ls : Array Slot), fX5_at_118 t0 σ = some r → HP kC E s σ H locs → lv_has ls 3 [(0, .ref (eA E 0))] → W p l e (rmk 2 42) s m args below meth c H locs 0 0 Q (F0 m 118 ls [.int t0]) := by
    intro t0 σ H locs ls h hH hl
    unfold fX5_at_118 at h
    exact hret _ _ _ _ _ _ hH h dX5_at_118
  unfold fX5_at at h
  refine lv_aload_n hF.x hF.b dX5_at_0 rfl (lv_at hl 0 rfl) ?_
  refine gfC_0_0 hF hH tk_171 dX5_at_1 ?_
  refine lv_iload_n hF.x hF.b dX5_at_4 rfl (lv_at hl 1 rfl) ?_
  replace h := bd_some h
  obtain ⟨v1, σ2, hv1, h⟩ := h
  refine w_cVi (As := [.int a1]) (rest := []) hF hH hl 1 (by decide) rfl rfl (tX1_hasMachine l E hF.j _ _ _ hv1) tk_266 tk_267 tk_268 tk_42 tk_269 rfl rfl hdX1_hasMachine ⟨Nat.le_of_ble_eq_true rfl, Nat.le_of_ble_eq_true rfl⟩ rfl rfl (Nat.le_of_ble_eq_true rfl) dX5_at_5 (fun H locs hH => ?_)
  refine lv_if_ne (tgt := 13) hF.x hF.b dX5_at_8 (by decide) (fun c3 => ?_) (fun c3 => ?_)
  · rw [if_neg c3] at h
    refine lv_iload_n hF.x hF.b dX5_at_13 rfl (lv_at hl 2 rfl) ?_
    by_cases c4 : a2 = 0
    · rw [if_pos c4] at h
      refine lv_tableIn (off := 34) (tgt := 48) hF.x hF.b dX5_at_14 (by rw [c4]; decide) (by rw [c4]; decide) (by rw [c4]; rfl) (by decide) ?_
      refine lv_aload_n hF.x hF.b dX5_at_48 rfl (lv_at hl 0 rfl) ?_
      refine gfC_0_0 hF hH tk_171 dX5_at_49 ?_
      refine gfC_1_5 hF hH tk_84 dX5_at_52 ?_
      refine lv_iload_n hF.x hF.b dX5_at_55 rfl (lv_at hl 1 rfl) ?_
      refine alC_5 hF hH (gd_some h).1 dX5_at_56 ?_
      replace h := (gd_some h).2
      exact hret _ _ _ _ _ _ hH h dX5_at_57
    rw [if_neg c4] at h
    by_cases c5 : a2 = 1
    · rw [if_pos c5] at h
      refine lv_tableIn (off := 44) (tgt := 58) hF.x hF.b dX5_at_14 (by rw [c5]; decide) (by rw [c5]; decide) (by rw [c5]; rfl) (by decide) ?_
      refine lv_aload_n hF.x hF.b dX5_at_58 rfl (lv_at hl 0 rfl) ?_
      refine gfC_0_0 hF hH tk_171 dX5_at_59 ?_
      refine gfC_1_6 hF hH tk_86 dX5_at_62 ?_
      refine lv_iload_n hF.x hF.b dX5_at_65 rfl (lv_at hl 1 rfl) ?_
      refine alC_6 hF hH (gd_some h).1 dX5_at_66 ?_
      replace h := (gd_some h).2
      exact hret _ _ _ _ _ _ hH h dX5_at_67
    rw [if_neg c5] at h
    by_cases c6 : a2 = 2
    · rw [if_pos c6] at h
      refine lv_tableIn (off := 54) (tgt := 68) hF.x hF.b dX5_at_14 (by rw [c6]; decide) (by rw [c6]; decide) (by rw [c6]; rfl) (by decide) ?_
      refine lv_aload_n hF.x hF.b dX5_at_68 rfl (lv_at hl 0 rfl) ?_
      refine gfC_0_0 hF hH tk_171 dX5_at_69 ?_
      refine gfC_1_7 hF hH tk_90 dX5_at_72 ?_
      refine lv_iload_n hF.x hF.b dX5_at_75 rfl (lv_at hl 1 rfl) ?_
      refine alC_7 hF hH (gd_some h).1 dX5_at_76 ?_
      replace h := (gd_some h).2
      exact hret _ _ _ _ _ _ hH h dX5_at_77
    rw [if_neg c6] at h
    by_cases c7 : a2 = 3
    · rw [if_pos c7] at h
      refine lv_tableIn (off := 64) (tgt := 78) hF.x hF.b dX5_at_14 (by rw [c7]; decide) (by rw [c7]; decide) (by rw [c7]; rfl) (by decide) ?_
      refine lv_aload_n hF.x hF.b dX5_at_78 rfl (lv_at hl 0 rfl) ?_
      refine gfC_0_0 hF hH tk_171 dX5_at_79 ?_
      refine gfC_1_8 hF hH tk_92 dX5_at_82 ?_
      refine lv_iload_n hF.x hF.b dX5_at_85 rfl (lv_at hl 1 rfl) ?_
      refine alC_8 hF hH (gd_some h).1 dX5_at_86 ?_
      replace h := (gd_some h).2
      exact hret _ _ _ _ _ _ hH h dX5_at_87
    rw [if_neg c7] at h
    by_cases c8 : a2 = 4
    · rw [if_pos c8] at h
      refine lv_tableIn (off := 74) (tgt := 88) hF.x hF.b dX5_at_14 (by rw [c8]; decide) (by rw [c8]; decide) (by rw [c8]; rfl) (by decide) ?_
      refine lv_aload_n hF.x hF.b dX5_at_88 rfl (lv_at hl 0 rfl) ?_
      refine gfC_0_0 hF hH tk_171 dX5_at_89 ?_
      refine gfC_1_9 hF hH tk_95 dX5_at_92 ?_
      refine lv_iload_n hF.x hF.b dX5_at_95 rfl (lv_at hl 1 rfl) ?_
      replace h := bd_some h
      obtain ⟨v9, σ10, hv9, h⟩ := h
      refine w_cSi (As := [.int (σ2 1 9), .int a1]) (rest := []) hF hH hl (tX0_isRunning l E hF.j _ _ _ _ hv9) tk_270 tk_271 tk_48 tk_272 rfl rfl hdX0_isRunning ⟨Nat.le_of_ble_eq_true rfl, Nat.le_of_ble_eq_true rfl⟩ rfl rfl (Nat.le_of_ble_eq_true rfl) dX5_at_96 (fun H locs hH => ?_)
      refine lv_if_eq (tgt := 116) hF.x hF.b dX5_at_99 (by decide) (fun c11 => ?_) (fun c11 => ?_)
      · rw [if_pos c11] at h
        refine lv_bipush (v := (-6)) hF.x hF.b dX5_at_116 (by decide) ?_
        exact w118 _ _ _ _ _ h hH (lv_sub hl [0] rfl)
      · rw [if_neg c11] at h
        refine lv_aload_n hF.x hF.b dX5_at_102 rfl (lv_at hl 0 rfl) ?_
        refine gfC_0_0 hF hH tk_171 dX5_at_103 ?_
        refine gfC_1_9 hF hH tk_95 dX5_at_106 ?_
        refine lv_iload_n hF.x hF.b dX5_at_109 rfl (lv_at hl 1 rfl) ?_
        replace h := bd_some h
        obtain ⟨v12, σ13, hv12, h⟩ := h
        refine w_cSi (As := [.int (σ10 1 9), .int a1]) (rest := []) hF hH hl (tX0_left l E hF.j _ _ _ _ hv12) tk_275 tk_276 tk_48 tk_277 rfl rfl hdX0_left ⟨Nat.le_of_ble_eq_true rfl, Nat.le_of_ble_eq_true rfl⟩ rfl rfl (Nat.le_of_ble_eq_true rfl) dX5_at_110 (fun H locs hH => ?_)
        refine lv_goto (tgt := 118) hF.x hF.b dX5_at_113 (by decide) ?_
        exact w118 _ _ _ _ _ h hH (lv_sub hl [0] rfl)
    rw [if_neg c8] at h
    have zc4 := lv_neT c4 (show (0 : Int32).toInt = 0 by decide)
    have zc5 := lv_neT c5 (show (1 : Int32).toInt = 1 by decide)
    have zc6 := lv_neT c6 (show (2 : Int32).toInt = 2 by decide)
    have zc7 := lv_neT c7 (show (3 : Int32).toInt = 3 by decide)
    have zc8 := lv_neT c8 (show (4 : Int32).toInt = 4 by decide)
    refine lv_tableOut (tgt := 119) hF.x hF.b dX5_at_14 (by omega) (by decide) ?_
    refine lv_bipush (v := (-2)) hF.x hF.b dX5_at_119 (by decide) ?_
    exact hret _ _ _ _ _ _ hH h dX5_at_121
  · rw [if_pos c3] at h
    refine lv_iconst (v := (-1)) hF.x hF.b dX5_at_11 (by decide) ?_
    exact hret _ _ _ _ _ _ hH h dX5_at_12
theorem hdX5_bus : yX5_bus.cls = RX5 ∧ yX5_bus.cls ≠ "java/lang/invoke/MethodHandle" ∧ yX5_bus.cls ≠ "java/lang/invoke/VarHandle" ∧ (parseMethodDescriptor yX5_bus.desc).map (fun d => d.parameters.length) = some 2 := by decide +kernel
set_option maxHeartbeats 4000000 in
set_option maxRecDepth 100000 in
theorem tX5_bus (l : Launch) (E : Ev) (hj : Inj kC E) (a1 : Int32) (a2 : Int32) (σ : Sg) (r : Int32 × Sg) (h : fX5_bus a1 a2 σ = some r) : CI l yX5_bus cX5_bus 3 (some FieldType.int) (rmk 4 85) kC E [.ref (eA E 0), .int a1, .int a2] σ r := by
  refine CI_i (lv := [(0, .ref (eA E 0)), (1, .int a1), (2, .int a2)]) (by decide) hj (Nat.le_of_ble_eq_true rfl) rfl (fun p e s m args below meth c ls Q hF hret hH hl => ?_)
  unfold fX5_bus at h
  refine lv_iload_n hF.x hF.b dX5_bus_0 rfl (lv_at hl 1 rfl) ?_
  replace h := bd_some h
  obtain ⟨v1, σ2, hv1, h⟩ := h
  refine w_cSi (As := [.int a1]) (rest := []) hF hH hl (tX5_isBus l E hF.j _ _ _ hv1) tk_194 tk_195 tk_41 tk_196 rfl rfl hdX5_isBus ⟨Nat.le_of_ble_eq_true rfl, Nat.le_of_ble_eq_true rfl⟩ rfl rfl (Nat.le_of_ble_eq_true rfl) dX5_bus_1 (fun H locs hH => ?_)
  refine lv_if_ne (tgt := 9) hF.x hF.b dX5_bus_4 (by decide) (fun c3 => ?_) (fun c3 => ?_)
  · rw [if_neg c3] at h
    refine lv_iload_n hF.x hF.b dX5_bus_9 rfl (lv_at hl 2 rfl) ?_
    by_cases c4 : a2 = 0
    · rw [if_pos c4] at h
      refine lv_tableIn (off := 26) (tgt := 36) hF.x hF.b dX5_bus_10 (by rw [c4]; decide) (by rw [c4]; decide) (by rw [c4]; rfl) (by decide) ?_
      refine lv_aload_n hF.x hF.b dX5_bus_36 rfl (lv_at hl 0 rfl) ?_
      refine gfC_0_1 hF hH tk_172 dX5_bus_37 ?_
      refine lv_aload_n hF.x hF.b dX5_bus_40 rfl (lv_at hl 0 rfl) ?_
      refine gfC_0_0 hF hH tk_171 dX5_bus_41 ?_
      refine gfC_1_9 hF hH tk_95 dX5_bus_44 ?_
      replace h := bd_some h
      obtain ⟨v5, σ6, hv5, h⟩ := h
      refine w_cSi (As := [.int (σ2 1 9)]) (rest := [.ref (eA E 9)]) hF hH hl (tX0_closed l E hF.j _ _ _ hv5) tk_258 tk_259 tk_48 tk_260 rfl rfl hdX0_closed ⟨Nat.le_of_ble_eq_true rfl, Nat.le_of_ble_eq_true rfl⟩ rfl rfl (Nat.le_of_ble_eq_true rfl) dX5_bus_47 (fun H locs hH => ?_)
      refine lv_iload_n hF.x hF.b dX5_bus_50 rfl (lv_at hl 1 rfl) ?_
      replace h := bd_some h
      obtain ⟨v7, σ8, hv7, h⟩ := h
      refine w_cVi (As := [.int v5, .int a1]) (rest := []) hF hH hl 9 (by decide) rfl rfl (tX2_busesWith l E hF.j _ _ _ _ hv7) tk_285 tk_219 tk_220 tk_43 tk_221 rfl rfl hdX2_busesWith ⟨Nat.le_of_ble_eq_true rfl, Nat.le_of_ble_eq_true rfl⟩ rfl rfl (Nat.le_of_ble_eq_true rfl) dX5_bus_51 (fun H locs hH => ?_)
      exact hret _ _ _ _ _ _ hH h dX5_bus_54
    rw [if_neg c4] at h
    by_cases c9 : a2 = 1
    · rw [if_pos c9] at h
      refine lv_tableIn (off := 45) (tgt := 55) hF.x hF.b dX5_bus_10 (by rw [c9]; decide) (by rw [c9]; decide) (by rw [c9]; rfl) (by decide) ?_
      refine lv_aload_n hF.x hF.b dX5_bus_55 rfl (lv_at hl 0 rfl) ?_
      refine gfC_0_2 hF hH tk_173 dX5_bus_56 ?_
      refine lv_aload_n hF.x hF.b dX5_bus_59 rfl (lv_at hl 0 rfl) ?_
      refine gfC_0_0 hF hH tk_171 dX5_bus_60 ?_
      refine gfC_1_9 hF hH tk_95 dX5_bus_63 ?_
      replace h := bd_some h
      obtain ⟨v10, σ11, hv10, h⟩ := h
      refine w_cVi (As := [.int (σ2 1 9)]) (rest := []) hF hH hl 12 (by decide) rfl rfl (tX3_liveBuses l E hF.j _ _ _ hv10) tk_286 tk_287 tk_288 tk_44 tk_289 rfl rfl hdX3_liveBuses ⟨Nat.le_of_ble_eq_true rfl, Nat.le_of_ble_eq_true rfl⟩ rfl rfl (Nat.le_of_ble_eq_true rfl) dX5_bus_66 (fun H locs hH => ?_)
      refine lv_iload_n hF.x hF.b dX5_bus_69 rfl (lv_at hl 1 rfl) ?_
      replace h := bd_some h
      obtain ⟨v12, σ13, hv12, h⟩ := h
      refine w_cSi (As := [.int v10, .int a1]) (rest := []) hF hH hl (tX5_bit l E hF.j _ _ _ _ hv12) tk_261 tk_227 tk_41 tk_228 rfl rfl hdX5_bit ⟨Nat.le_of_ble_eq_true rfl, Nat.le_of_ble_eq_true rfl⟩ rfl rfl (Nat.le_of_ble_eq_true rfl) dX5_bus_70 (fun H locs hH => ?_)
      exact hret _ _ _ _ _ _ hH h dX5_bus_73
    rw [if_neg c9] at h
    by_cases c14 : a2 = 2
    · rw [if_pos c14] at h
      refine lv_tableIn (off := 64) (tgt := 74) hF.x hF.b dX5_bus_10 (by rw [c14]; decide) (by rw [c14]; decide) (by rw [c14]; rfl) (by decide) ?_
      refine lv_aload_n hF.x hF.b dX5_bus_74 rfl (lv_at hl 0 rfl) ?_
      refine gfC_0_2 hF hH tk_173 dX5_bus_75 ?_
      refine lv_aload_n hF.x hF.b dX5_bus_78 rfl (lv_at hl 0 rfl) ?_
      refine gfC_0_0 hF hH tk_171 dX5_bus_79 ?_
      refine gfC_1_9 hF hH tk_95 dX5_bus_82 ?_
      refine lv_iload_n hF.x hF.b dX5_bus_85 rfl (lv_at hl 1 rfl) ?_
      replace h := bd_some h
      obtain ⟨v15, σ16, hv15, h⟩ := h
      refine w_cVi (As := [.int (σ2 1 9), .int a1]) (rest := []) hF hH hl 12 (by decide) rfl rfl (tX3_spare l E hF.j _ _ _ _ hv15) tk_293 tk_294 tk_295 tk_44 tk_296 rfl rfl hdX3_spare ⟨Nat.le_of_ble_eq_true rfl, Nat.le_of_ble_eq_true rfl⟩ rfl rfl (Nat.le_of_ble_eq_true rfl) dX5_bus_86 (fun H locs hH => ?_)
      refine lv_bipush (v := 100) hF.x hF.b dX5_bus_89 (by decide) ?_
      refine lv_iadd hF.x hF.b dX5_bus_91 ?_
      exact hret _ _ _ _ _ _ hH h dX5_bus_92
    rw [if_neg c14] at h
    have zc4 := lv_neT c4 (show (0 : Int32).toInt = 0 by decide)
    have zc9 := lv_neT c9 (show (1 : Int32).toInt = 1 by decide)
    have zc14 := lv_neT c14 (show (2 : Int32).toInt = 2 by decide)
    refine lv_tableOut (tgt := 93) hF.x hF.b dX5_bus_10 (by omega) (by decide) ?_
    refine lv_bipush (v := (-2)) hF.x hF.b dX5_bus_93 (by decide) ?_
    exact hret _ _ _ _ _ _ hH h dX5_bus_95
  · rw [if_pos c3] at h
    refine lv_iconst (v := (-1)) hF.x hF.b dX5_bus_7 (by decide) ?_
    exact hret _ _ _ _ _ _ hH h dX5_bus_8
theorem hdX5_can : yX5_can.cls = RX5 ∧ yX5_can.cls ≠ "java/lang/invoke/MethodHandle" ∧ yX5_can.cls ≠ "java/lang/invoke/VarHandle" ∧ (parseMethodDescriptor yX5_can.desc).map (fun d => d.parameters.length) = some 0 := by decide +kernel
set_option maxHeartbeats 4000000 in
set_option maxRecDepth 100000 in
theorem tX5_can (l : Launch) (E : Ev) (hj : Inj kC E) (σ : Sg) (r : Int32 × Sg) (h : fX5_can σ = some r) : CI l yX5_can cX5_can 1 (some FieldType.int) (rmk 4 101) kC E [.ref (eA E 0)] σ r := by
  refine CI_i (lv := [(0, .ref (eA E 0))]) (by decide) hj (Nat.le_of_ble_eq_true rfl) rfl (fun p e s m args below meth c ls Q hF hret hH hl => ?_)
  unfold fX5_can at h
  refine lv_aload_n hF.x hF.b dX5_can_0 rfl (lv_at hl 0 rfl) ?_
  refine gfC_0_2 hF hH tk_173 dX5_can_1 ?_
  refine lv_aload_n hF.x hF.b dX5_can_4 rfl (lv_at hl 0 rfl) ?_
  refine gfC_0_0 hF hH tk_171 dX5_can_5 ?_
  refine gfC_1_9 hF hH tk_95 dX5_can_8 ?_
  replace h := bd_some h
  obtain ⟨v1, σ2, hv1, h⟩ := h
  refine w_cVi (As := [.int (σ 1 9)]) (rest := []) hF hH hl 12 (by decide) rfl rfl (tX3_stepsFrom l E hF.j _ _ _ hv1) tk_311 tk_312 tk_313 tk_44 tk_314 rfl rfl hdX3_stepsFrom ⟨Nat.le_of_ble_eq_true rfl, Nat.le_of_ble_eq_true rfl⟩ rfl rfl (Nat.le_of_ble_eq_true rfl) dX5_can_11 (fun H locs hH => ?_)
  exact hret _ _ _ _ _ _ hH h dX5_can_14
theorem hdX5_tick : yX5_tick.cls = RX5 ∧ yX5_tick.cls ≠ "java/lang/invoke/MethodHandle" ∧ yX5_tick.cls ≠ "java/lang/invoke/VarHandle" ∧ (parseMethodDescriptor yX5_tick.desc).map (fun d => d.parameters.length) = some 1 := by decide +kernel
set_option maxHeartbeats 4000000 in
set_option maxRecDepth 100000 in
theorem tX5_tick (l : Launch) (E : Ev) (hj : Inj kC E) (a1 : Int32) (σ : Sg) (r : Int32 × Sg) (h : fX5_tick a1 σ = some r) : CI l yX5_tick cX5_tick 2 (some FieldType.int) (rmk 4 101) kC E [.ref (eA E 0), .int a1] σ r := by
  refine CI_i (lv := [(0, .ref (eA E 0)), (1, .int a1)]) (by decide) hj (Nat.le_of_ble_eq_true rfl) rfl (fun p e s m args below meth c ls Q hF hret hH hl => ?_)
  unfold fX5_tick at h
  refine lv_iload_n hF.x hF.b dX5_tick_0 rfl (lv_at hl 1 rfl) ?_
  refine lv_bipush (v := 9) hF.x hF.b dX5_tick_1 (by decide) ?_
  replace h := bd_some h
  obtain ⟨v1, σ2, hv1, h⟩ := h
  refine w_cSi (As := [.int a1, .int 9]) (rest := []) hF hH hl (tX5_isWithin l E hF.j _ _ _ _ hv1) tk_197 tk_198 tk_41 tk_199 rfl rfl hdX5_isWithin ⟨Nat.le_of_ble_eq_true rfl, Nat.le_of_ble_eq_true rfl⟩ rfl rfl (Nat.le_of_ble_eq_true rfl) dX5_tick_3 (fun H locs hH => ?_)
  refine lv_if_ne (tgt := 12) hF.x hF.b dX5_tick_6 (by decide) (fun c3 => ?_) (fun c3 => ?_)
  · rw [if_neg c3] at h
    refine lv_aload_n hF.x hF.b dX5_tick_12 rfl (lv_at hl 0 rfl) ?_
    refine gfC_0_2 hF hH tk_173 dX5_tick_13 ?_
    refine lv_iload_n hF.x hF.b dX5_tick_16 rfl (lv_at hl 1 rfl) ?_
    replace h := bd_some h
    obtain ⟨v4, σ5, hv4, h⟩ := h
    refine w_cVi (As := [.int a1]) (rest := []) hF hH hl 12 (by decide) rfl rfl (tX3_isTold l E hF.j _ _ _ hv4) tk_329 tk_330 tk_331 tk_44 tk_332 rfl rfl hdX3_isTold ⟨Nat.le_of_ble_eq_true rfl, Nat.le_of_ble_eq_true rfl⟩ rfl rfl (Nat.le_of_ble_eq_true rfl) dX5_tick_17 (fun H locs hH => ?_)
    refine lv_if_ne (tgt := 25) hF.x hF.b dX5_tick_20 (by decide) (fun c6 => ?_) (fun c6 => ?_)
    · rw [if_neg c6] at h
      refine lv_aload_n hF.x hF.b dX5_tick_25 rfl (lv_at hl 0 rfl) ?_
      refine gfC_0_2 hF hH tk_173 dX5_tick_26 ?_
      refine lv_aload_n hF.x hF.b dX5_tick_29 rfl (lv_at hl 0 rfl) ?_
      refine gfC_0_0 hF hH tk_171 dX5_tick_30 ?_
      refine gfC_1_9 hF hH tk_95 dX5_tick_33 ?_
      replace h := bd_some h
      obtain ⟨v7, σ8, hv7, h⟩ := h
      refine w_cVi (As := [.int (σ5 1 9)]) (rest := []) hF hH hl 12 (by decide) rfl rfl (tX3_stepsFrom l E hF.j _ _ _ hv7) tk_311 tk_312 tk_313 tk_44 tk_314 rfl rfl hdX3_stepsFrom ⟨Nat.le_of_ble_eq_true rfl, Nat.le_of_ble_eq_true rfl⟩ rfl rfl (Nat.le_of_ble_eq_true rfl) dX5_tick_36 (fun H locs hH => ?_)
      refine lv_iload_n hF.x hF.b dX5_tick_39 rfl (lv_at hl 1 rfl) ?_
      replace h := bd_some h
      obtain ⟨v9, σ10, hv9, h⟩ := h
      refine w_cSi (As := [.int v7, .int a1]) (rest := []) hF hH hl (tX5_bit l E hF.j _ _ _ _ hv9) tk_261 tk_227 tk_41 tk_228 rfl rfl hdX5_bit ⟨Nat.le_of_ble_eq_true rfl, Nat.le_of_ble_eq_true rfl⟩ rfl rfl (Nat.le_of_ble_eq_true rfl) dX5_tick_40 (fun H locs hH => ?_)
      refine lv_if_ne (tgt := 49) hF.x hF.b dX5_tick_43 (by decide) (fun c11 => ?_) (fun c11 => ?_)
      · rw [if_neg c11] at h
        refine lv_aload_n hF.x hF.b dX5_tick_49 rfl (lv_at hl 0 rfl) ?_
        refine gfC_0_0 hF hH tk_171 dX5_tick_50 ?_
        refine lv_aload_n hF.x hF.b dX5_tick_53 rfl (lv_at hl 0 rfl) ?_
        refine gfC_0_2 hF hH tk_173 dX5_tick_54 ?_
        refine lv_aload_n hF.x hF.b dX5_tick_57 rfl (lv_at hl 0 rfl) ?_
        refine gfC_0_0 hF hH tk_171 dX5_tick_58 ?_
        refine gfC_1_9 hF hH tk_95 dX5_tick_61 ?_
        replace h := bd_some h
        obtain ⟨v12, σ13, hv12, h⟩ := h
        refine w_cSi (As := [.int (σ10 1 9)]) (rest := [.ref (eA E 12), .ref (eA E 1)]) hF hH hl (tX0_ticked l E hF.j _ _ _ hv12) tk_335 tk_336 tk_48 tk_337 rfl rfl hdX0_ticked ⟨Nat.le_of_ble_eq_true rfl, Nat.le_of_ble_eq_true rfl⟩ rfl rfl (Nat.le_of_ble_eq_true rfl) dX5_tick_64 (fun H locs hH => ?_)
        refine lv_iload_n hF.x hF.b dX5_tick_67 rfl (lv_at hl 1 rfl) ?_
        replace h := bd_some h
        obtain ⟨v14, σ15, hv14, h⟩ := h
        refine w_cVi (As := [.int v12, .int a1]) (rest := [.ref (eA E 1)]) hF hH hl 12 (by decide) rfl rfl (tX3_withStep l E hF.j _ _ _ _ hv14) tk_338 tk_339 tk_340 tk_44 tk_341 rfl rfl hdX3_withStep ⟨Nat.le_of_ble_eq_true rfl, Nat.le_of_ble_eq_true rfl⟩ rfl rfl (Nat.le_of_ble_eq_true rfl) dX5_tick_68 (fun H locs hH => ?_)
        refine pfC_1_9 hF hH tk_95 dX5_tick_71 (fun σ16 H locs eσ16 hH => ?_)
        replace h := sv_at h eσ16
        clear eσ16
        refine lv_aload_n hF.x hF.b dX5_tick_74 rfl (lv_at hl 0 rfl) ?_
        refine gfC_0_0 hF hH tk_171 dX5_tick_75 ?_
        refine lv_dup hF.x hF.b dX5_tick_78 rfl ?_
        refine gfC_1_10 hF hH tk_96 dX5_tick_79 ?_
        refine lv_iconst (v := 1) hF.x hF.b dX5_tick_82 (by decide) ?_
        refine lv_iadd hF.x hF.b dX5_tick_83 ?_
        refine pfC_1_10 hF hH tk_96 dX5_tick_84 (fun σ17 H locs eσ17 hH => ?_)
        replace h := sv_at h eσ17
        clear eσ17
        refine lv_aload_n hF.x hF.b dX5_tick_87 rfl (lv_at hl 0 rfl) ?_
        refine gfC_0_0 hF hH tk_171 dX5_tick_88 ?_
        refine gfC_1_10 hF hH tk_96 dX5_tick_91 ?_
        exact hret _ _ _ _ _ _ hH h dX5_tick_94
      · rw [if_pos c11] at h
        refine lv_bipush (v := (-5)) hF.x hF.b dX5_tick_46 (by decide) ?_
        exact hret _ _ _ _ _ _ hH h dX5_tick_48
    · rw [if_pos c6] at h
      refine lv_iconst (v := (-1)) hF.x hF.b dX5_tick_23 (by decide) ?_
      exact hret _ _ _ _ _ _ hH h dX5_tick_24
  · rw [if_pos c3] at h
    refine lv_bipush (v := (-2)) hF.x hF.b dX5_tick_9 (by decide) ?_
    exact hret _ _ _ _ _ _ hH h dX5_tick_11
theorem hdX5_openLost : yX5_openLost.cls = RX5 ∧ yX5_openLost.cls ≠ "java/lang/invoke/MethodHandle" ∧ yX5_openLost.cls ≠ "java/lang/invoke/VarHandle" ∧ (parseMethodDescriptor yX5_openLost.desc).map (fun d => d.parameters.length) = some 0 := by decide +kernel
set_option maxHeartbeats 4000000 in
set_option maxRecDepth 100000 in
theorem tX5_openLost (l : Launch) (E : Ev) (hj : Inj kC E) (σ : Sg) (r : Int32 × Sg) (h : fX5_openLost σ = some r) : CI l yX5_openLost cX5_openLost 2 (some FieldType.int) (rmk 5 111) kC E [.ref (eA E 0)] σ r := by
  refine CI_i (lv := [(0, .ref (eA E 0))]) (by decide) hj (Nat.le_of_ble_eq_true rfl) rfl (fun p e s m args below meth c ls Q hF hret hH hl => ?_)
  unfold fX5_openLost at h
  refine lv_aload_n hF.x hF.b dX5_openLost_0 rfl (lv_at hl 0 rfl) ?_
  refine gfC_0_2 hF hH tk_173 dX5_openLost_1 ?_
  refine lv_aload_n hF.x hF.b dX5_openLost_4 rfl (lv_at hl 0 rfl) ?_
  refine gfC_0_0 hF hH tk_171 dX5_openLost_5 ?_
  refine gfC_1_9 hF hH tk_95 dX5_openLost_8 ?_
  replace h := bd_some h
  obtain ⟨v1, σ2, hv1, h⟩ := h
  refine w_cVi (As := [.int (σ 1 9)]) (rest := []) hF hH hl 12 (by decide) rfl rfl (tX3_lostLines l E hF.j _ _ _ hv1) tk_359 tk_360 tk_361 tk_44 tk_362 rfl rfl hdX3_lostLines ⟨Nat.le_of_ble_eq_true rfl, Nat.le_of_ble_eq_true rfl⟩ rfl rfl (Nat.le_of_ble_eq_true rfl) dX5_openLost_11 (fun H locs hH => ?_)
  refine lv_istore_n (lv' := [(1, .int v1), (0, .ref (eA E 0))]) hF.x hF.b dX5_openLost_14 rfl hl (by decide) rfl (fun ls hl => ?_)
  refine lv_aload_n hF.x hF.b dX5_openLost_15 rfl (lv_at hl 1 rfl) ?_
  refine gfC_0_0 hF hH tk_171 dX5_openLost_16 ?_
  refine lv_aload_n hF.x hF.b dX5_openLost_19 rfl (lv_at hl 1 rfl) ?_
  refine gfC_0_0 hF hH tk_171 dX5_openLost_20 ?_
  refine gfC_1_9 hF hH tk_95 dX5_openLost_23 ?_
  refine lv_iload_n hF.x hF.b dX5_openLost_26 rfl (lv_at hl 0 rfl) ?_
  replace h := bd_some h
  obtain ⟨v3, σ4, hv3, h⟩ := h
  refine w_cSi (As := [.int (σ2 1 9), .int v1]) (rest := [.ref (eA E 1)]) hF hH hl (tX0_withOpened l E hF.j _ _ _ _ hv3) tk_364 tk_365 tk_48 tk_366 rfl rfl hdX0_withOpened ⟨Nat.le_of_ble_eq_true rfl, Nat.le_of_ble_eq_true rfl⟩ rfl rfl (Nat.le_of_ble_eq_true rfl) dX5_openLost_27 (fun H locs hH => ?_)
  refine pfC_1_9 hF hH tk_95 dX5_openLost_30 (fun σ5 H locs eσ5 hH => ?_)
  replace h := sv_at h eσ5
  clear eσ5
  refine lv_iload_n hF.x hF.b dX5_openLost_33 rfl (lv_at hl 0 rfl) ?_
  replace h := bd_some h
  obtain ⟨v6, σ7, hv6, h⟩ := h
  refine w_cSi (As := [.int v1]) (rest := []) hF hH hl (tJ6_bitCount_0f7a4 l E hF.j _ _ _ hv6) tk_244 tk_245 tk_49 tk_246 rfl rfl hdJ6_bitCount_0f7a4 ⟨Nat.le_of_ble_eq_true rfl, Nat.le_of_ble_eq_true rfl⟩ rfl rfl (Nat.le_of_ble_eq_true rfl) dX5_openLost_34 (fun H locs hH => ?_)
  exact hret _ _ _ _ _ _ hH h dX5_openLost_37
theorem hdX5_fail : yX5_fail.cls = RX5 ∧ yX5_fail.cls ≠ "java/lang/invoke/MethodHandle" ∧ yX5_fail.cls ≠ "java/lang/invoke/VarHandle" ∧ (parseMethodDescriptor yX5_fail.desc).map (fun d => d.parameters.length) = some 1 := by decide +kernel
set_option maxHeartbeats 4000000 in
set_option maxRecDepth 100000 in
theorem tX5_fail (l : Launch) (E : Ev) (hj : Inj kC E) (a1 : Int32) (σ : Sg) (r : Int32 × Sg) (h : fX5_fail a1 σ = some r) : CI l yX5_fail cX5_fail 2 (some FieldType.int) (rmk 6 132) kC E [.ref (eA E 0), .int a1] σ r := by
  refine CI_i (lv := [(0, .ref (eA E 0)), (1, .int a1)]) (by decide) hj (Nat.le_of_ble_eq_true rfl) rfl (fun p e s m args below meth c ls Q hF hret hH hl => ?_)
  unfold fX5_fail at h
  refine lv_aload_n hF.x hF.b dX5_fail_0 rfl (lv_at hl 0 rfl) ?_
  refine gfC_0_0 hF hH tk_171 dX5_fail_1 ?_
  refine lv_iload_n hF.x hF.b dX5_fail_4 rfl (lv_at hl 1 rfl) ?_
  replace h := bd_some h
  obtain ⟨v1, σ2, hv1, h⟩ := h
  refine w_cVi (As := [.int a1]) (rest := []) hF hH hl 1 (by decide) rfl rfl (tX1_hasMachine l E hF.j _ _ _ hv1) tk_266 tk_267 tk_268 tk_42 tk_269 rfl rfl hdX1_hasMachine ⟨Nat.le_of_ble_eq_true rfl, Nat.le_of_ble_eq_true rfl⟩ rfl rfl (Nat.le_of_ble_eq_true rfl) dX5_fail_5 (fun H locs hH => ?_)
  refine lv_if_ne (tgt := 13) hF.x hF.b dX5_fail_8 (by decide) (fun c3 => ?_) (fun c3 => ?_)
  · rw [if_neg c3] at h
    refine lv_aload_n hF.x hF.b dX5_fail_13 rfl (lv_at hl 0 rfl) ?_
    refine gfC_0_0 hF hH tk_171 dX5_fail_14 ?_
    refine gfC_1_9 hF hH tk_95 dX5_fail_17 ?_
    refine lv_iload_n hF.x hF.b dX5_fail_20 rfl (lv_at hl 1 rfl) ?_
    replace h := bd_some h
    obtain ⟨v4, σ5, hv4, h⟩ := h
    refine w_cSi (As := [.int (σ2 1 9), .int a1]) (rest := []) hF hH hl (tX0_isRunning l E hF.j _ _ _ _ hv4) tk_270 tk_271 tk_48 tk_272 rfl rfl hdX0_isRunning ⟨Nat.le_of_ble_eq_true rfl, Nat.le_of_ble_eq_true rfl⟩ rfl rfl (Nat.le_of_ble_eq_true rfl) dX5_fail_21 (fun H locs hH => ?_)
    refine lv_if_ne (tgt := 30) hF.x hF.b dX5_fail_24 (by decide) (fun c6 => ?_) (fun c6 => ?_)
    · rw [if_neg c6] at h
      refine lv_aload_n hF.x hF.b dX5_fail_30 rfl (lv_at hl 0 rfl) ?_
      refine gfC_0_0 hF hH tk_171 dX5_fail_31 ?_
      refine lv_aload_n hF.x hF.b dX5_fail_34 rfl (lv_at hl 0 rfl) ?_
      refine gfC_0_0 hF hH tk_171 dX5_fail_35 ?_
      refine gfC_1_9 hF hH tk_95 dX5_fail_38 ?_
      refine lv_iload_n hF.x hF.b dX5_fail_41 rfl (lv_at hl 1 rfl) ?_
      replace h := bd_some h
      obtain ⟨v7, σ8, hv7, h⟩ := h
      refine w_cSi (As := [.int (σ5 1 9), .int a1]) (rest := [.ref (eA E 1)]) hF hH hl (tX0_withStopped l E hF.j _ _ _ _ hv7) tk_352 tk_353 tk_48 tk_354 rfl rfl hdX0_withStopped ⟨Nat.le_of_ble_eq_true rfl, Nat.le_of_ble_eq_true rfl⟩ rfl rfl (Nat.le_of_ble_eq_true rfl) dX5_fail_42 (fun H locs hH => ?_)
      refine pfC_1_9 hF hH tk_95 dX5_fail_45 (fun σ9 H locs eσ9 hH => ?_)
      replace h := sv_at h eσ9
      clear eσ9
      refine lv_aload_n hF.x hF.b dX5_fail_48 rfl (lv_at hl 0 rfl) ?_
      replace h := bd_some h
      obtain ⟨v10, σ11, hv10, h⟩ := h
      refine w_cVi (As := []) (rest := []) hF hH hl 0 (by decide) rfl rfl (tX5_openLost l E hF.j _ _ hv10) tk_355 tk_357 tk_4 tk_41 tk_358 rfl rfl hdX5_openLost ⟨Nat.le_of_ble_eq_true rfl, Nat.le_of_ble_eq_true rfl⟩ rfl rfl (Nat.le_of_ble_eq_true rfl) dX5_fail_49 (fun H locs hH => ?_)
      exact hret _ _ _ _ _ _ hH h dX5_fail_52
    · rw [if_pos c6] at h
      refine lv_bipush (v := (-3)) hF.x hF.b dX5_fail_27 (by decide) ?_
      exact hret _ _ _ _ _ _ hH h dX5_fail_29
  · rw [if_pos c3] at h
    refine lv_iconst (v := (-1)) hF.x hF.b dX5_fail_11 (by decide) ?_
    exact hret _ _ _ _ _ _ hH h dX5_fail_12
theorem hdX5_trip : yX5_trip.cls = RX5 ∧ yX5_trip.cls ≠ "java/lang/invoke/MethodHandle" ∧ yX5_trip.cls ≠ "java/lang/invoke/VarHandle" ∧ (parseMethodDescriptor yX5_trip.desc).map (fun d => d.parameters.length) = some 1 := by decide +kernel
set_option maxHeartbeats 4000000 in
set_option maxRecDepth 100000 in
theorem tX5_trip (l : Launch) (E : Ev) (hj : Inj kC E) (a1 : Int32) (σ : Sg) (r : Int32 × Sg) (h : fX5_trip a1 σ = some r) : CI l yX5_trip cX5_trip 2 (some FieldType.int) (rmk 6 132) kC E [.ref (eA E 0), .int a1] σ r := by
  refine CI_i (lv := [(0, .ref (eA E 0)), (1, .int a1)]) (by decide) hj (Nat.le_of_ble_eq_true rfl) rfl (fun p e s m args below meth c ls Q hF hret hH hl => ?_)
  unfold fX5_trip at h
  refine lv_aload_n hF.x hF.b dX5_trip_0 rfl (lv_at hl 0 rfl) ?_
  refine gfC_0_0 hF hH tk_171 dX5_trip_1 ?_
  refine lv_iload_n hF.x hF.b dX5_trip_4 rfl (lv_at hl 1 rfl) ?_
  replace h := bd_some h
  obtain ⟨v1, σ2, hv1, h⟩ := h
  refine w_cVi (As := [.int a1]) (rest := []) hF hH hl 1 (by decide) rfl rfl (tX1_hasLine l E hF.j _ _ _ hv1) tk_254 tk_255 tk_256 tk_42 tk_257 rfl rfl hdX1_hasLine ⟨Nat.le_of_ble_eq_true rfl, Nat.le_of_ble_eq_true rfl⟩ rfl rfl (Nat.le_of_ble_eq_true rfl) dX5_trip_5 (fun H locs hH => ?_)
  refine lv_if_ne (tgt := 13) hF.x hF.b dX5_trip_8 (by decide) (fun c3 => ?_) (fun c3 => ?_)
  · rw [if_neg c3] at h
    refine lv_aload_n hF.x hF.b dX5_trip_13 rfl (lv_at hl 0 rfl) ?_
    refine gfC_0_0 hF hH tk_171 dX5_trip_14 ?_
    refine gfC_1_9 hF hH tk_95 dX5_trip_17 ?_
    replace h := bd_some h
    obtain ⟨v4, σ5, hv4, h⟩ := h
    refine w_cSi (As := [.int (σ2 1 9)]) (rest := []) hF hH hl (tX0_closed l E hF.j _ _ _ hv4) tk_258 tk_259 tk_48 tk_260 rfl rfl hdX0_closed ⟨Nat.le_of_ble_eq_true rfl, Nat.le_of_ble_eq_true rfl⟩ rfl rfl (Nat.le_of_ble_eq_true rfl) dX5_trip_20 (fun H locs hH => ?_)
    refine lv_iload_n hF.x hF.b dX5_trip_23 rfl (lv_at hl 1 rfl) ?_
    replace h := bd_some h
    obtain ⟨v6, σ7, hv6, h⟩ := h
    refine w_cSi (As := [.int v4, .int a1]) (rest := []) hF hH hl (tX5_bit l E hF.j _ _ _ _ hv6) tk_261 tk_227 tk_41 tk_228 rfl rfl hdX5_bit ⟨Nat.le_of_ble_eq_true rfl, Nat.le_of_ble_eq_true rfl⟩ rfl rfl (Nat.le_of_ble_eq_true rfl) dX5_trip_24 (fun H locs hH => ?_)
    refine lv_if_ne (tgt := 33) hF.x hF.b dX5_trip_27 (by decide) (fun c8 => ?_) (fun c8 => ?_)
    · rw [if_neg c8] at h
      refine lv_aload_n hF.x hF.b dX5_trip_33 rfl (lv_at hl 0 rfl) ?_
      refine gfC_0_0 hF hH tk_171 dX5_trip_34 ?_
      refine lv_aload_n hF.x hF.b dX5_trip_37 rfl (lv_at hl 0 rfl) ?_
      refine gfC_0_0 hF hH tk_171 dX5_trip_38 ?_
      refine gfC_1_9 hF hH tk_95 dX5_trip_41 ?_
      refine lv_iconst (v := 1) hF.x hF.b dX5_trip_44 (by decide) ?_
      refine lv_iload_n hF.x hF.b dX5_trip_45 rfl (lv_at hl 1 rfl) ?_
      refine lv_ishl hF.x hF.b dX5_trip_46 ?_
      replace h := bd_some h
      obtain ⟨v9, σ10, hv9, h⟩ := h
      refine w_cSi (As := [.int (σ7 1 9), .int ((1 : Int32) <<< (a1 &&& 31))]) (rest := [.ref (eA E 1)]) hF hH hl (tX0_withOpened l E hF.j _ _ _ _ hv9) tk_364 tk_365 tk_48 tk_366 rfl rfl hdX0_withOpened ⟨Nat.le_of_ble_eq_true rfl, Nat.le_of_ble_eq_true rfl⟩ rfl rfl (Nat.le_of_ble_eq_true rfl) dX5_trip_47 (fun H locs hH => ?_)
      refine pfC_1_9 hF hH tk_95 dX5_trip_50 (fun σ11 H locs eσ11 hH => ?_)
      replace h := sv_at h eσ11
      clear eσ11
      refine lv_iconst (v := 1) hF.x hF.b dX5_trip_53 (by decide) ?_
      refine lv_aload_n hF.x hF.b dX5_trip_54 rfl (lv_at hl 0 rfl) ?_
      replace h := bd_some h
      obtain ⟨v12, σ13, hv12, h⟩ := h
      refine w_cVi (As := []) (rest := [.int 1]) hF hH hl 0 (by decide) rfl rfl (tX5_openLost l E hF.j _ _ hv12) tk_355 tk_357 tk_4 tk_41 tk_358 rfl rfl hdX5_openLost ⟨Nat.le_of_ble_eq_true rfl, Nat.le_of_ble_eq_true rfl⟩ rfl rfl (Nat.le_of_ble_eq_true rfl) dX5_trip_55 (fun H locs hH => ?_)
      refine lv_iadd hF.x hF.b dX5_trip_58 ?_
      exact hret _ _ _ _ _ _ hH h dX5_trip_59
    · rw [if_pos c8] at h
      refine lv_bipush (v := (-3)) hF.x hF.b dX5_trip_30 (by decide) ?_
      exact hret _ _ _ _ _ _ hH h dX5_trip_32
  · rw [if_pos c3] at h
    refine lv_iconst (v := (-1)) hF.x hF.b dX5_trip_11 (by decide) ?_
    exact hret _ _ _ _ _ _ hH h dX5_trip_12
theorem hdX5_isGoal : yX5_isGoal.cls = RX5 ∧ yX5_isGoal.cls ≠ "java/lang/invoke/MethodHandle" ∧ yX5_isGoal.cls ≠ "java/lang/invoke/VarHandle" ∧ (parseMethodDescriptor yX5_isGoal.desc).map (fun d => d.parameters.length) = some 2 := by decide +kernel
set_option maxHeartbeats 4000000 in
set_option maxRecDepth 100000 in
theorem tX5_isGoal (l : Launch) (E : Ev) (hj : Inj kC E) (a1 : Int32) (a2 : Int32) (σ : Sg) (r : Int32 × Sg) (h : fX5_isGoal a1 a2 σ = some r) : CI l yX5_isGoal cX5_isGoal 3 (some FieldType.boolean) (rmk 1 21) kC E [.ref (eA E 0), .int a1, .int a2] σ r := by
  refine CI_z (lv := [(0, .ref (eA E 0)), (1, .int a1), (2, .int a2)]) (by decide) hj (Nat.le_of_ble_eq_true rfl) rfl (fun p e s m args below meth c ls Q hF hret hH hl => ?_)
  have w34 : ∀ (t0 : Int32) (σ : Sg) (H : Heap) (locs : List Loc) (ls : Array Slot), fX5_isGoal_34 t0 σ = some r → HP kC E s σ H locs → lv_has ls 3 [(0, .ref (eA E 0))] → W p l e (rmk 1 21) s m args below meth c H locs 0 0 Q (F0 m 34 ls [.int t0]) := by
    intro t0 σ H locs ls h hH hl
    unfold fX5_isGoal_34 at h
    exact hret _ _ _ _ _ _ hH h dX5_isGoal_34
  have w33 : ∀ (σ : Sg) (H : Heap) (locs : List Loc) (ls : Array Slot), fX5_isGoal_33 σ = some r → HP kC E s σ H locs → lv_has ls 3 [(0, .ref (eA E 0))] → W p l e (rmk 1 21) s m args below meth c H locs 0 0 Q (F0 m 33 ls []) := by
    intro σ H locs ls h hH hl
    unfold fX5_isGoal_33 at h
    refine lv_iconst (v := 0) hF.x hF.b dX5_isGoal_33 (by decide) ?_
    exact w34 _ _ _ _ _ h hH (lv_sub hl [0] rfl)
  unfold fX5_isGoal at h
  refine lv_iload_n hF.x hF.b dX5_isGoal_0 rfl (lv_at hl 1 rfl) ?_
  refine lv_aload_n hF.x hF.b dX5_isGoal_1 rfl (lv_at hl 0 rfl) ?_
  refine gfC_0_0 hF hH tk_171 dX5_isGoal_2 ?_
  refine gfC_1_4 hF hH tk_81 dX5_isGoal_5 ?_
  replace h := bd_some h
  obtain ⟨v1, σ2, hv1, h⟩ := h
  refine w_cSi (As := [.int (σ 1 4)]) (rest := [.int a1]) hF hH hl (tX5_setOfFirst l E hF.j _ _ _ hv1) tk_379 tk_380 tk_41 tk_381 rfl rfl hdX5_setOfFirst ⟨Nat.le_of_ble_eq_true rfl, Nat.le_of_ble_eq_true rfl⟩ rfl rfl (Nat.le_of_ble_eq_true rfl) dX5_isGoal_8 (fun H locs hH => ?_)
  replace h := bd_some h
  obtain ⟨v3, σ4, hv3, h⟩ := h
  refine w_cSi (As := [.int a1, .int v1]) (rest := []) hF hH hl (tX5_isWithin l E hF.j _ _ _ _ hv3) tk_197 tk_198 tk_41 tk_199 rfl rfl hdX5_isWithin ⟨Nat.le_of_ble_eq_true rfl, Nat.le_of_ble_eq_true rfl⟩ rfl rfl (Nat.le_of_ble_eq_true rfl) dX5_isGoal_11 (fun H locs hH => ?_)
  refine lv_if_eq (tgt := 33) hF.x hF.b dX5_isGoal_14 (by decide) (fun c5 => ?_) (fun c5 => ?_)
  · rw [if_pos c5] at h
    exact w33 _ _ _ _ h hH (lv_sub hl [0] rfl)
  · rw [if_neg c5] at h
    refine lv_iload_n hF.x hF.b dX5_isGoal_17 rfl (lv_at hl 2 rfl) ?_
    refine lv_bipush (v := 6) hF.x hF.b dX5_isGoal_18 (by decide) ?_
    replace h := bd_some h
    obtain ⟨v6, σ7, hv6, h⟩ := h
    refine w_cSi (As := [.int 6]) (rest := [.int a2]) hF hH hl (tX5_setOfFirst l E hF.j _ _ _ hv6) tk_379 tk_380 tk_41 tk_381 rfl rfl hdX5_setOfFirst ⟨Nat.le_of_ble_eq_true rfl, Nat.le_of_ble_eq_true rfl⟩ rfl rfl (Nat.le_of_ble_eq_true rfl) dX5_isGoal_20 (fun H locs hH => ?_)
    replace h := bd_some h
    obtain ⟨v8, σ9, hv8, h⟩ := h
    refine w_cSi (As := [.int a2, .int v6]) (rest := []) hF hH hl (tX5_isWithin l E hF.j _ _ _ _ hv8) tk_197 tk_198 tk_41 tk_199 rfl rfl hdX5_isWithin ⟨Nat.le_of_ble_eq_true rfl, Nat.le_of_ble_eq_true rfl⟩ rfl rfl (Nat.le_of_ble_eq_true rfl) dX5_isGoal_23 (fun H locs hH => ?_)
    refine lv_if_eq (tgt := 33) hF.x hF.b dX5_isGoal_26 (by decide) (fun c10 => ?_) (fun c10 => ?_)
    · rw [if_pos c10] at h
      exact w33 _ _ _ _ h hH (lv_sub hl [0] rfl)
    · rw [if_neg c10] at h
      refine lv_iconst (v := 1) hF.x hF.b dX5_isGoal_29 (by decide) ?_
      refine lv_goto (tgt := 34) hF.x hF.b dX5_isGoal_30 (by decide) ?_
      exact w34 _ _ _ _ _ h hH (lv_sub hl [0] rfl)
theorem hdX5_way : yX5_way.cls = RX5 ∧ yX5_way.cls ≠ "java/lang/invoke/MethodHandle" ∧ yX5_way.cls ≠ "java/lang/invoke/VarHandle" ∧ (parseMethodDescriptor yX5_way.desc).map (fun d => d.parameters.length) = some 3 := by decide +kernel
set_option maxHeartbeats 4000000 in
set_option maxRecDepth 100000 in
theorem tX5_way (l : Launch) (E : Ev) (hj : Inj kC E) (a1 : Int32) (a2 : Int32) (a3 : Int32) (σ : Sg) (r : Int32 × Sg) (h : fX5_way a1 a2 a3 σ = some r) : CI l yX5_way cX5_way 6 (some FieldType.int) (rmk 6 155) kC E [.ref (eA E 0), .int a1, .int a2, .int a3] σ r := by
  refine CI_i (lv := [(0, .ref (eA E 0)), (1, .int a1), (2, .int a2), (3, .int a3)]) (by decide) hj (Nat.le_of_ble_eq_true rfl) rfl (fun p e s m args below meth c ls Q hF hret hH hl => ?_)
  have w14 : ∀ (σ : Sg) (H : Heap) (locs : List Loc) (ls : Array Slot), fX5_way_14 σ = some r → HP kC E s σ H locs → lv_has ls 6 [(0, .ref (eA E 0))] → W p l e (rmk 6 155) s m args below meth c H locs 0 0 Q (F0 m 14 ls []) := by
    intro σ H locs ls h hH hl
    unfold fX5_way_14 at h
    refine lv_bipush (v := (-2)) hF.x hF.b dX5_way_14 (by decide) ?_
    exact hret _ _ _ _ _ _ hH h dX5_way_16
  have w89 : ∀ (t0 : Int32) (σ : Sg) (H : Heap) (locs : List Loc) (ls : Array Slot), fX5_way_89 t0 σ = some r → HP kC E s σ H locs → lv_has ls 6 [(0, .ref (eA E 0))] → W p l e (rmk 6 155) s m args below meth c H locs 0 0 Q (F0 m 89 ls [.int t0]) := by
    intro t0 σ H locs ls h hH hl
    unfold fX5_way_89 at h
    exact hret _ _ _ _ _ _ hH h dX5_way_89
  unfold fX5_way at h
  refine lv_aload_n hF.x hF.b dX5_way_0 rfl (lv_at hl 0 rfl) ?_
  refine lv_iload_n hF.x hF.b dX5_way_1 rfl (lv_at hl 1 rfl) ?_
  refine lv_iload_n hF.x hF.b dX5_way_2 rfl (lv_at hl 2 rfl) ?_
  replace h := bd_some h
  obtain ⟨v1, σ2, hv1, h⟩ := h
  refine w_cVi (As := [.int a1, .int a2]) (rest := []) hF hH hl 0 (by decide) rfl rfl (tX5_isGoal l E hF.j _ _ _ _ hv1) tk_375 tk_377 tk_5 tk_41 tk_378 rfl rfl hdX5_isGoal ⟨Nat.le_of_ble_eq_true rfl, Nat.le_of_ble_eq_true rfl⟩ rfl rfl (Nat.le_of_ble_eq_true rfl) dX5_way_3 (fun H locs hH => ?_)
  refine lv_if_eq (tgt := 14) hF.x hF.b dX5_way_6 (by decide) (fun c3 => ?_) (fun c3 => ?_)
  · rw [if_pos c3] at h
    exact w14 _ _ _ _ h hH (lv_sub hl [0] rfl)
  · rw [if_neg c3] at h
    refine lv_iload_n hF.x hF.b dX5_way_9 rfl (lv_at hl 3 rfl) ?_
    refine lv_iconst (v := (-1)) hF.x hF.b dX5_way_10 (by decide) ?_
    refine lv_icmp_ge (tgt := 17) hF.x hF.b dX5_way_11 (by decide) (fun c4 => ?_) (fun c4 => ?_)
    · rw [if_pos c4] at h
      refine lv_aload_n hF.x hF.b dX5_way_17 rfl (lv_at hl 0 rfl) ?_
      refine gfC_0_3 hF hH tk_174 dX5_way_18 ?_
      refine lv_aload_n hF.x hF.b dX5_way_21 rfl (lv_at hl 0 rfl) ?_
      refine gfC_0_0 hF hH tk_171 dX5_way_22 ?_
      refine gfC_1_9 hF hH tk_95 dX5_way_25 ?_
      refine lv_iload_n hF.x hF.b dX5_way_28 rfl (lv_at hl 1 rfl) ?_
      refine lv_iload_n hF.x hF.b dX5_way_29 rfl (lv_at hl 2 rfl) ?_
      replace h := bd_some h
      obtain ⟨v5, σ6, hv5, h⟩ := h
      refine w_cVi (As := [.int (σ2 1 9), .int a1, .int a2]) (rest := []) hF hH hl 13 (by decide) rfl rfl (tX4_plan l E hF.j _ _ _ _ _ hv5) tk_382 tk_383 tk_384 tk_45 tk_385 rfl rfl hdX4_plan ⟨Nat.le_of_ble_eq_true rfl, Nat.le_of_ble_eq_true rfl⟩ rfl rfl (Nat.le_of_ble_eq_true rfl) dX5_way_30 (fun H locs hH => ?_)
      refine lv_istore (lv' := [(4, .int v5), (0, .ref (eA E 0)), (1, .int a1), (2, .int a2), (3, .int a3)]) hF.x hF.b dX5_way_33 hl (by decide) rfl (fun ls hl => ?_)
      refine lv_iload hF.x hF.b dX5_way_35 (lv_at hl 0 rfl) ?_
      refine lv_iconst (v := (-1)) hF.x hF.b dX5_way_37 (by decide) ?_
      refine lv_icmp_ne (tgt := 44) hF.x hF.b dX5_way_38 (by decide) (fun c7 => ?_) (fun c7 => ?_)
      · rw [if_neg c7] at h
        refine lv_aload_n hF.x hF.b dX5_way_44 rfl (lv_at hl 1 rfl) ?_
        refine gfC_0_3 hF hH tk_174 dX5_way_45 ?_
        refine lv_iload hF.x hF.b dX5_way_48 (lv_at hl 0 rfl) ?_
        replace h := bd_some h
        obtain ⟨v8, σ9, hv8, h⟩ := h
        refine w_cVi (As := [.int v5]) (rest := []) hF hH hl 13 (by decide) rfl rfl (tX4_ticksTo l E hF.j _ _ _ hv8) tk_407 tk_408 tk_409 tk_45 tk_410 rfl rfl hdX4_ticksTo ⟨Nat.le_of_ble_eq_true rfl, Nat.le_of_ble_eq_true rfl⟩ rfl rfl (Nat.le_of_ble_eq_true rfl) dX5_way_50 (fun H locs hH => ?_)
        refine lv_istore (lv' := [(5, .int v8), (4, .int v5), (0, .ref (eA E 0)), (1, .int a1), (2, .int a2), (3, .int a3)]) hF.x hF.b dX5_way_53 hl (by decide) rfl (fun ls hl => ?_)
        refine lv_iload_n hF.x hF.b dX5_way_55 rfl (lv_at hl 5 rfl) ?_
        refine lv_iconst (v := (-1)) hF.x hF.b dX5_way_56 (by decide) ?_
        refine lv_icmp_ne (tgt := 63) hF.x hF.b dX5_way_57 (by decide) (fun c10 => ?_) (fun c10 => ?_)
        · rw [if_neg c10] at h
          refine lv_iload_n hF.x hF.b dX5_way_63 rfl (lv_at hl 5 rfl) ?_
          refine lv_iload hF.x hF.b dX5_way_64 (lv_at hl 0 rfl) ?_
          refine lv_icmp_ge (tgt := 87) hF.x hF.b dX5_way_66 (by decide) (fun c11 => ?_) (fun c11 => ?_)
          · rw [if_pos c11] at h
            refine lv_bipush (v := (-6)) hF.x hF.b dX5_way_87 (by decide) ?_
            exact w89 _ _ _ _ _ h hH (lv_sub hl [2] rfl)
          · rw [if_neg c11] at h
            refine lv_aload_n hF.x hF.b dX5_way_69 rfl (lv_at hl 2 rfl) ?_
            refine gfC_0_3 hF hH tk_174 dX5_way_70 ?_
            refine lv_iload hF.x hF.b dX5_way_73 (lv_at hl 1 rfl) ?_
            refine lv_iload hF.x hF.b dX5_way_75 (lv_at hl 0 rfl) ?_
            refine lv_iconst (v := 1) hF.x hF.b dX5_way_77 (by decide) ?_
            refine lv_isub hF.x hF.b dX5_way_78 ?_
            refine lv_iload_n hF.x hF.b dX5_way_79 rfl (lv_at hl 5 rfl) ?_
            refine lv_isub hF.x hF.b dX5_way_80 ?_
            replace h := bd_some h
            obtain ⟨v12, σ13, hv12, h⟩ := h
            refine w_cVi (As := [.int v5, .int ((v8 - (1 : Int32)) - a3)]) (rest := []) hF hH hl 13 (by decide) rfl rfl (tX4_stepBefore l E hF.j _ _ _ _ hv12) tk_411 tk_412 tk_413 tk_45 tk_414 rfl rfl hdX4_stepBefore ⟨Nat.le_of_ble_eq_true rfl, Nat.le_of_ble_eq_true rfl⟩ rfl rfl (Nat.le_of_ble_eq_true rfl) dX5_way_81 (fun H locs hH => ?_)
            refine lv_goto (tgt := 89) hF.x hF.b dX5_way_84 (by decide) ?_
            exact w89 _ _ _ _ _ h hH (lv_sub hl [2] rfl)
        · rw [if_pos c10] at h
          refine lv_iload hF.x hF.b dX5_way_60 (lv_at hl 0 rfl) ?_
          exact hret _ _ _ _ _ _ hH h dX5_way_62
      · rw [if_pos c7] at h
        refine lv_bipush (v := (-6)) hF.x hF.b dX5_way_41 (by decide) ?_
        exact hret _ _ _ _ _ _ hH h dX5_way_43
    · rw [if_neg c4] at h
      exact w14 _ _ _ _ h hH (lv_sub hl [0] rfl)
theorem hdX5_go : yX5_go.cls = RX5 ∧ yX5_go.cls ≠ "java/lang/invoke/MethodHandle" ∧ yX5_go.cls ≠ "java/lang/invoke/VarHandle" ∧ (parseMethodDescriptor yX5_go.desc).map (fun d => d.parameters.length) = some 2 := by decide +kernel
set_option maxHeartbeats 4000000 in
set_option maxRecDepth 100000 in
theorem tX5_go (l : Launch) (E : Ev) (hj : Inj kC E) (a1 : Int32) (a2 : Int32) (σ : Sg) (r : Int32 × Sg) (h : fX5_go a1 a2 σ = some r) : CI l yX5_go cX5_go 4 (some FieldType.int) (rmk 6 155) kC E [.ref (eA E 0), .int a1, .int a2] σ r := by
  refine CI_i (lv := [(0, .ref (eA E 0)), (1, .int a1), (2, .int a2)]) (by decide) hj (Nat.le_of_ble_eq_true rfl) rfl (fun p e s m args below meth c ls Q hF hret hH hl => ?_)
  unfold fX5_go at h
  refine lv_aload_n hF.x hF.b dX5_go_0 rfl (lv_at hl 0 rfl) ?_
  refine lv_iload_n hF.x hF.b dX5_go_1 rfl (lv_at hl 1 rfl) ?_
  refine lv_iload_n hF.x hF.b dX5_go_2 rfl (lv_at hl 2 rfl) ?_
  replace h := bd_some h
  obtain ⟨v1, σ2, hv1, h⟩ := h
  refine w_cVi (As := [.int a1, .int a2]) (rest := []) hF hH hl 0 (by decide) rfl rfl (tX5_isGoal l E hF.j _ _ _ _ hv1) tk_375 tk_377 tk_5 tk_41 tk_378 rfl rfl hdX5_isGoal ⟨Nat.le_of_ble_eq_true rfl, Nat.le_of_ble_eq_true rfl⟩ rfl rfl (Nat.le_of_ble_eq_true rfl) dX5_go_3 (fun H locs hH => ?_)
  refine lv_if_ne (tgt := 12) hF.x hF.b dX5_go_6 (by decide) (fun c3 => ?_) (fun c3 => ?_)
  · rw [if_neg c3] at h
    refine lv_aload_n hF.x hF.b dX5_go_12 rfl (lv_at hl 0 rfl) ?_
    refine gfC_0_3 hF hH tk_174 dX5_go_13 ?_
    refine lv_aload_n hF.x hF.b dX5_go_16 rfl (lv_at hl 0 rfl) ?_
    refine gfC_0_0 hF hH tk_171 dX5_go_17 ?_
    refine gfC_1_9 hF hH tk_95 dX5_go_20 ?_
    refine lv_iload_n hF.x hF.b dX5_go_23 rfl (lv_at hl 1 rfl) ?_
    refine lv_iload_n hF.x hF.b dX5_go_24 rfl (lv_at hl 2 rfl) ?_
    replace h := bd_some h
    obtain ⟨v4, σ5, hv4, h⟩ := h
    refine w_cVi (As := [.int (σ2 1 9), .int a1, .int a2]) (rest := []) hF hH hl 13 (by decide) rfl rfl (tX4_plan l E hF.j _ _ _ _ _ hv4) tk_382 tk_383 tk_384 tk_45 tk_385 rfl rfl hdX4_plan ⟨Nat.le_of_ble_eq_true rfl, Nat.le_of_ble_eq_true rfl⟩ rfl rfl (Nat.le_of_ble_eq_true rfl) dX5_go_25 (fun H locs hH => ?_)
    refine lv_istore_n (lv' := [(3, .int v4), (0, .ref (eA E 0)), (1, .int a1), (2, .int a2)]) hF.x hF.b dX5_go_28 rfl hl (by decide) rfl (fun ls hl => ?_)
    refine lv_iload_n hF.x hF.b dX5_go_29 rfl (lv_at hl 0 rfl) ?_
    refine lv_iconst (v := (-1)) hF.x hF.b dX5_go_30 (by decide) ?_
    refine lv_icmp_ne (tgt := 37) hF.x hF.b dX5_go_31 (by decide) (fun c6 => ?_) (fun c6 => ?_)
    · rw [if_neg c6] at h
      refine lv_aload_n hF.x hF.b dX5_go_37 rfl (lv_at hl 1 rfl) ?_
      refine gfC_0_0 hF hH tk_171 dX5_go_38 ?_
      refine lv_aload_n hF.x hF.b dX5_go_41 rfl (lv_at hl 1 rfl) ?_
      refine gfC_0_3 hF hH tk_174 dX5_go_42 ?_
      refine lv_iload_n hF.x hF.b dX5_go_45 rfl (lv_at hl 0 rfl) ?_
      replace h := bd_some h
      obtain ⟨v7, σ8, hv7, h⟩ := h
      refine w_cVi (As := [.int v4]) (rest := [.ref (eA E 1)]) hF hH hl 13 (by decide) rfl rfl (tX4_codeAt l E hF.j _ _ _ hv7) tk_419 tk_420 tk_421 tk_45 tk_422 rfl rfl hdX4_codeAt ⟨Nat.le_of_ble_eq_true rfl, Nat.le_of_ble_eq_true rfl⟩ rfl rfl (Nat.le_of_ble_eq_true rfl) dX5_go_46 (fun H locs hH => ?_)
      refine pfC_1_9 hF hH tk_95 dX5_go_49 (fun σ9 H locs eσ9 hH => ?_)
      replace h := sv_at h eσ9
      clear eσ9
      refine lv_aload_n hF.x hF.b dX5_go_52 rfl (lv_at hl 1 rfl) ?_
      refine gfC_0_0 hF hH tk_171 dX5_go_53 ?_
      refine lv_dup hF.x hF.b dX5_go_56 rfl ?_
      refine gfC_1_10 hF hH tk_96 dX5_go_57 ?_
      refine lv_aload_n hF.x hF.b dX5_go_60 rfl (lv_at hl 1 rfl) ?_
      refine gfC_0_3 hF hH tk_174 dX5_go_61 ?_
      refine lv_iload_n hF.x hF.b dX5_go_64 rfl (lv_at hl 0 rfl) ?_
      replace h := bd_some h
      obtain ⟨v10, σ11, hv10, h⟩ := h
      refine w_cVi (As := [.int v4]) (rest := [.int (σ9 1 10), .ref (eA E 1)]) hF hH hl 13 (by decide) rfl rfl (tX4_ticksTo l E hF.j _ _ _ hv10) tk_407 tk_408 tk_409 tk_45 tk_410 rfl rfl hdX4_ticksTo ⟨Nat.le_of_ble_eq_true rfl, Nat.le_of_ble_eq_true rfl⟩ rfl rfl (Nat.le_of_ble_eq_true rfl) dX5_go_65 (fun H locs hH => ?_)
      refine lv_iadd hF.x hF.b dX5_go_68 ?_
      refine pfC_1_10 hF hH tk_96 dX5_go_69 (fun σ12 H locs eσ12 hH => ?_)
      replace h := sv_at h eσ12
      clear eσ12
      refine lv_aload_n hF.x hF.b dX5_go_72 rfl (lv_at hl 1 rfl) ?_
      refine gfC_0_0 hF hH tk_171 dX5_go_73 ?_
      refine gfC_1_10 hF hH tk_96 dX5_go_76 ?_
      exact hret _ _ _ _ _ _ hH h dX5_go_79
    · rw [if_pos c6] at h
      refine lv_bipush (v := (-5)) hF.x hF.b dX5_go_34 (by decide) ?_
      exact hret _ _ _ _ _ _ hH h dX5_go_36
  · rw [if_pos c3] at h
    refine lv_bipush (v := (-2)) hF.x hF.b dX5_go_9 (by decide) ?_
    exact hret _ _ _ _ _ _ hH h dX5_go_11
theorem hdX5_needed : yX5_needed.cls = RX5 ∧ yX5_needed.cls ≠ "java/lang/invoke/MethodHandle" ∧ yX5_needed.cls ≠ "java/lang/invoke/VarHandle" ∧ (parseMethodDescriptor yX5_needed.desc).map (fun d => d.parameters.length) = some 3 := by decide +kernel
set_option maxHeartbeats 4000000 in
set_option maxRecDepth 100000 in
theorem tX5_needed (l : Launch) (E : Ev) (hj : Inj kC E) (a1 : Int32) (a2 : Int32) (a3 : Int32) (σ : Sg) (r : Int32 × Sg) (h : fX5_needed a1 a2 a3 σ = some r) : CI l yX5_needed cX5_needed 5 (some FieldType.int) (rmk 6 159) kC E [.ref (eA E 0), .int a1, .int a2, .int a3] σ r := by
  refine CI_i (lv := [(0, .ref (eA E 0)), (1, .int a1), (2, .int a2), (3, .int a3)]) (by decide) hj (Nat.le_of_ble_eq_true rfl) rfl (fun p e s m args below meth c ls Q hF hret hH hl => ?_)
  have w17 : ∀ (σ : Sg) (H : Heap) (locs : List Loc) (ls : Array Slot), fX5_needed_17 σ = some r → HP kC E s σ H locs → lv_has ls 5 [(0, .ref (eA E 0))] → W p l e (rmk 6 159) s m args below meth c H locs 0 0 Q (F0 m 17 ls []) := by
    intro σ H locs ls h hH hl
    unfold fX5_needed_17 at h
    refine lv_bipush (v := (-2)) hF.x hF.b dX5_needed_17 (by decide) ?_
    exact hret _ _ _ _ _ _ hH h dX5_needed_19
  unfold fX5_needed at h
  refine lv_aload_n hF.x hF.b dX5_needed_0 rfl (lv_at hl 0 rfl) ?_
  refine lv_iload_n hF.x hF.b dX5_needed_1 rfl (lv_at hl 1 rfl) ?_
  refine lv_iload_n hF.x hF.b dX5_needed_2 rfl (lv_at hl 2 rfl) ?_
  replace h := bd_some h
  obtain ⟨v1, σ2, hv1, h⟩ := h
  refine w_cVi (As := [.int a1, .int a2]) (rest := []) hF hH hl 0 (by decide) rfl rfl (tX5_isGoal l E hF.j _ _ _ _ hv1) tk_375 tk_377 tk_5 tk_41 tk_378 rfl rfl hdX5_isGoal ⟨Nat.le_of_ble_eq_true rfl, Nat.le_of_ble_eq_true rfl⟩ rfl rfl (Nat.le_of_ble_eq_true rfl) dX5_needed_3 (fun H locs hH => ?_)
  refine lv_if_eq (tgt := 17) hF.x hF.b dX5_needed_6 (by decide) (fun c3 => ?_) (fun c3 => ?_)
  · rw [if_pos c3] at h
    exact w17 _ _ _ _ h hH (lv_sub hl [0] rfl)
  · rw [if_neg c3] at h
    refine lv_iload_n hF.x hF.b dX5_needed_9 rfl (lv_at hl 3 rfl) ?_
    refine lv_iconst (v := 1) hF.x hF.b dX5_needed_10 (by decide) ?_
    replace h := bd_some h
    obtain ⟨v4, σ5, hv4, h⟩ := h
    refine w_cSi (As := [.int a3, .int 1]) (rest := []) hF hH hl (tX5_isWithin l E hF.j _ _ _ _ hv4) tk_197 tk_198 tk_41 tk_199 rfl rfl hdX5_isWithin ⟨Nat.le_of_ble_eq_true rfl, Nat.le_of_ble_eq_true rfl⟩ rfl rfl (Nat.le_of_ble_eq_true rfl) dX5_needed_11 (fun H locs hH => ?_)
    refine lv_if_ne (tgt := 20) hF.x hF.b dX5_needed_14 (by decide) (fun c6 => ?_) (fun c6 => ?_)
    · rw [if_neg c6] at h
      refine lv_aload_n hF.x hF.b dX5_needed_20 rfl (lv_at hl 0 rfl) ?_
      refine gfC_0_3 hF hH tk_174 dX5_needed_21 ?_
      refine lv_aload_n hF.x hF.b dX5_needed_24 rfl (lv_at hl 0 rfl) ?_
      refine gfC_0_0 hF hH tk_171 dX5_needed_25 ?_
      refine gfC_1_9 hF hH tk_95 dX5_needed_28 ?_
      refine lv_iload_n hF.x hF.b dX5_needed_31 rfl (lv_at hl 1 rfl) ?_
      refine lv_iload_n hF.x hF.b dX5_needed_32 rfl (lv_at hl 2 rfl) ?_
      replace h := bd_some h
      obtain ⟨v7, σ8, hv7, h⟩ := h
      refine w_cVi (As := [.int (σ5 1 9), .int a1, .int a2]) (rest := []) hF hH hl 13 (by decide) rfl rfl (tX4_canReach l E hF.j _ _ _ _ _ hv7) tk_427 tk_428 tk_429 tk_45 tk_430 rfl rfl hdX4_canReach ⟨Nat.le_of_ble_eq_true rfl, Nat.le_of_ble_eq_true rfl⟩ rfl rfl (Nat.le_of_ble_eq_true rfl) dX5_needed_33 (fun H locs hH => ?_)
      refine lv_if_ne (tgt := 42) hF.x hF.b dX5_needed_36 (by decide) (fun c9 => ?_) (fun c9 => ?_)
      · rw [if_neg c9] at h
        refine lv_iload_n hF.x hF.b dX5_needed_42 rfl (lv_at hl 3 rfl) ?_
        refine lv_if_ne (tgt := 94) hF.x hF.b dX5_needed_43 (by decide) (fun c10 => ?_) (fun c10 => ?_)
        · rw [if_neg c10] at h
          refine lv_aload_n hF.x hF.b dX5_needed_94 rfl (lv_at hl 0 rfl) ?_
          refine gfC_0_0 hF hH tk_171 dX5_needed_95 ?_
          refine gfC_1_4 hF hH tk_81 dX5_needed_98 ?_
          replace h := bd_some h
          obtain ⟨v11, σ12, hv11, h⟩ := h
          refine w_cSi (As := [.int (σ8 1 4)]) (rest := []) hF hH hl (tX5_setOfFirst l E hF.j _ _ _ hv11) tk_379 tk_380 tk_41 tk_381 rfl rfl hdX5_setOfFirst ⟨Nat.le_of_ble_eq_true rfl, Nat.le_of_ble_eq_true rfl⟩ rfl rfl (Nat.le_of_ble_eq_true rfl) dX5_needed_101 (fun H locs hH => ?_)
          refine lv_aload_n hF.x hF.b dX5_needed_104 rfl (lv_at hl 0 rfl) ?_
          refine gfC_0_0 hF hH tk_171 dX5_needed_105 ?_
          refine gfC_1_9 hF hH tk_95 dX5_needed_108 ?_
          replace h := bd_some h
          obtain ⟨v13, σ14, hv13, h⟩ := h
          refine w_cSi (As := [.int (σ12 1 9)]) (rest := [.int v11]) hF hH hl (tX0_running l E hF.j _ _ _ hv13) tk_241 tk_242 tk_48 tk_243 rfl rfl hdX0_running ⟨Nat.le_of_ble_eq_true rfl, Nat.le_of_ble_eq_true rfl⟩ rfl rfl (Nat.le_of_ble_eq_true rfl) dX5_needed_111 (fun H locs hH => ?_)
          refine lv_iconst (v := (-1)) hF.x hF.b dX5_needed_114 (by decide) ?_
          refine lv_ixor hF.x hF.b dX5_needed_115 ?_
          refine lv_iand hF.x hF.b dX5_needed_116 ?_
          refine lv_topi (fun y15 ey15 => ?_)
          replace h := sv_at h ey15
          clear ey15
          refine lv_istore (lv' := [(4, .int y15), (0, .ref (eA E 0)), (1, .int a1), (2, .int a2), (3, .int a3)]) hF.x hF.b dX5_needed_117 hl (by decide) rfl (fun ls hl => ?_)
          refine lv_aload_n hF.x hF.b dX5_needed_119 rfl (lv_at hl 1 rfl) ?_
          refine gfC_0_3 hF hH tk_174 dX5_needed_120 ?_
          refine lv_iload hF.x hF.b dX5_needed_123 (lv_at hl 0 rfl) ?_
          refine lv_iconst (v := 1) hF.x hF.b dX5_needed_125 (by decide) ?_
          refine lv_ishl hF.x hF.b dX5_needed_126 ?_
          refine lv_aload_n hF.x hF.b dX5_needed_127 rfl (lv_at hl 1 rfl) ?_
          refine gfC_0_0 hF hH tk_171 dX5_needed_128 ?_
          refine gfC_1_9 hF hH tk_95 dX5_needed_131 ?_
          refine lv_iload_n hF.x hF.b dX5_needed_134 rfl (lv_at hl 2 rfl) ?_
          refine lv_iload_n hF.x hF.b dX5_needed_135 rfl (lv_at hl 3 rfl) ?_
          replace h := bd_some h
          obtain ⟨v16, σ17, hv16, h⟩ := h
          refine w_cVi (As := [.int (y15 <<< ((1 : Int32) &&& 31)), .int (σ14 1 9), .int a1, .int a2]) (rest := []) hF hH hl 13 (by decide) rfl rfl (tX4_neededAmong l E hF.j _ _ _ _ _ _ hv16) tk_431 tk_432 tk_433 tk_45 tk_434 rfl rfl hdX4_neededAmong ⟨Nat.le_of_ble_eq_true rfl, Nat.le_of_ble_eq_true rfl⟩ rfl rfl (Nat.le_of_ble_eq_true rfl) dX5_needed_136 (fun H locs hH => ?_)
          refine lv_iconst (v := 1) hF.x hF.b dX5_needed_139 (by decide) ?_
          refine lv_ishr hF.x hF.b dX5_needed_140 ?_
          exact hret _ _ _ _ _ _ hH h dX5_needed_141
        · rw [if_pos c10] at h
          refine lv_aload_n hF.x hF.b dX5_needed_46 rfl (lv_at hl 0 rfl) ?_
          refine gfC_0_0 hF hH tk_171 dX5_needed_47 ?_
          refine gfC_1_0 hF hH tk_66 dX5_needed_50 ?_
          replace h := bd_some h
          obtain ⟨v18, σ19, hv18, h⟩ := h
          refine w_cSi (As := [.int (σ8 1 0)]) (rest := []) hF hH hl (tX5_setOfFirst l E hF.j _ _ _ hv18) tk_379 tk_380 tk_41 tk_381 rfl rfl hdX5_setOfFirst ⟨Nat.le_of_ble_eq_true rfl, Nat.le_of_ble_eq_true rfl⟩ rfl rfl (Nat.le_of_ble_eq_true rfl) dX5_needed_53 (fun H locs hH => ?_)
          refine lv_aload_n hF.x hF.b dX5_needed_56 rfl (lv_at hl 0 rfl) ?_
          refine gfC_0_0 hF hH tk_171 dX5_needed_57 ?_
          refine gfC_1_9 hF hH tk_95 dX5_needed_60 ?_
          replace h := bd_some h
          obtain ⟨v20, σ21, hv20, h⟩ := h
          refine w_cSi (As := [.int (σ19 1 9)]) (rest := [.int v18]) hF hH hl (tX0_closed l E hF.j _ _ _ hv20) tk_258 tk_259 tk_48 tk_260 rfl rfl hdX0_closed ⟨Nat.le_of_ble_eq_true rfl, Nat.le_of_ble_eq_true rfl⟩ rfl rfl (Nat.le_of_ble_eq_true rfl) dX5_needed_63 (fun H locs hH => ?_)
          refine lv_iconst (v := (-1)) hF.x hF.b dX5_needed_66 (by decide) ?_
          refine lv_ixor hF.x hF.b dX5_needed_67 ?_
          refine lv_iand hF.x hF.b dX5_needed_68 ?_
          refine lv_topi (fun y22 ey22 => ?_)
          replace h := sv_at h ey22
          clear ey22
          refine lv_istore (lv' := [(4, .int y22), (0, .ref (eA E 0)), (1, .int a1), (2, .int a2), (3, .int a3)]) hF.x hF.b dX5_needed_69 hl (by decide) rfl (fun ls hl => ?_)
          refine lv_aload_n hF.x hF.b dX5_needed_71 rfl (lv_at hl 1 rfl) ?_
          refine gfC_0_3 hF hH tk_174 dX5_needed_72 ?_
          refine lv_iload hF.x hF.b dX5_needed_75 (lv_at hl 0 rfl) ?_
          refine lv_iconst (v := 4) hF.x hF.b dX5_needed_77 (by decide) ?_
          refine lv_ishl hF.x hF.b dX5_needed_78 ?_
          refine lv_aload_n hF.x hF.b dX5_needed_79 rfl (lv_at hl 1 rfl) ?_
          refine gfC_0_0 hF hH tk_171 dX5_needed_80 ?_
          refine gfC_1_9 hF hH tk_95 dX5_needed_83 ?_
          refine lv_iload_n hF.x hF.b dX5_needed_86 rfl (lv_at hl 2 rfl) ?_
          refine lv_iload_n hF.x hF.b dX5_needed_87 rfl (lv_at hl 3 rfl) ?_
          replace h := bd_some h
          obtain ⟨v23, σ24, hv23, h⟩ := h
          refine w_cVi (As := [.int (y22 <<< ((4 : Int32) &&& 31)), .int (σ21 1 9), .int a1, .int a2]) (rest := []) hF hH hl 13 (by decide) rfl rfl (tX4_neededAmong l E hF.j _ _ _ _ _ _ hv23) tk_431 tk_432 tk_433 tk_45 tk_434 rfl rfl hdX4_neededAmong ⟨Nat.le_of_ble_eq_true rfl, Nat.le_of_ble_eq_true rfl⟩ rfl rfl (Nat.le_of_ble_eq_true rfl) dX5_needed_88 (fun H locs hH => ?_)
          refine lv_iconst (v := 4) hF.x hF.b dX5_needed_91 (by decide) ?_
          refine lv_ishr hF.x hF.b dX5_needed_92 ?_
          exact hret _ _ _ _ _ _ hH h dX5_needed_93
      · rw [if_pos c9] at h
        refine lv_bipush (v := (-6)) hF.x hF.b dX5_needed_39 (by decide) ?_
        exact hret _ _ _ _ _ _ hH h dX5_needed_41
    · rw [if_pos c6] at h
      exact w17 _ _ _ _ h hH (lv_sub hl [0] rfl)
theorem hdX5_ever : yX5_ever.cls = RX5 ∧ yX5_ever.cls ≠ "java/lang/invoke/MethodHandle" ∧ yX5_ever.cls ≠ "java/lang/invoke/VarHandle" ∧ (parseMethodDescriptor yX5_ever.desc).map (fun d => d.parameters.length) = some 1 := by decide +kernel
set_option maxHeartbeats 4000000 in
set_option maxRecDepth 100000 in
theorem tX5_ever (l : Launch) (E : Ev) (hj : Inj kC E) (a1 : Int32) (σ : Sg) (r : Int32 × Sg) (h : fX5_ever a1 σ = some r) : CI l yX5_ever cX5_ever 2 (some FieldType.int) (rmk 6 156) kC E [.ref (eA E 0), .int a1] σ r := by
  refine CI_i (lv := [(0, .ref (eA E 0)), (1, .int a1)]) (by decide) hj (Nat.le_of_ble_eq_true rfl) rfl (fun p e s m args below meth c ls Q hF hret hH hl => ?_)
  unfold fX5_ever at h
  refine lv_iload_n hF.x hF.b dX5_ever_0 rfl (lv_at hl 1 rfl) ?_
  by_cases c1 : a1 = 0
  · rw [if_pos c1] at h
    refine lv_lookup (off := 27) (tgt := 28) hF.x hF.b dX5_ever_1 (by decide) (by rw [c1]; decide) (by decide) ?_
    refine lv_aload_n hF.x hF.b dX5_ever_28 rfl (lv_at hl 0 rfl) ?_
    refine gfC_0_3 hF hH tk_174 dX5_ever_29 ?_
    refine lv_aload_n hF.x hF.b dX5_ever_32 rfl (lv_at hl 0 rfl) ?_
    refine gfC_0_0 hF hH tk_171 dX5_ever_33 ?_
    refine gfC_1_9 hF hH tk_95 dX5_ever_36 ?_
    refine lv_aload_n hF.x hF.b dX5_ever_39 rfl (lv_at hl 0 rfl) ?_
    refine gfC_0_0 hF hH tk_171 dX5_ever_40 ?_
    refine gfC_1_4 hF hH tk_81 dX5_ever_43 ?_
    replace h := bd_some h
    obtain ⟨v2, σ3, hv2, h⟩ := h
    refine w_cVi (As := [.int (σ 1 9), .int (σ 1 4)]) (rest := []) hF hH hl 13 (by decide) rfl rfl (tX4_everReady l E hF.j _ _ _ _ hv2) tk_439 tk_440 tk_441 tk_45 tk_442 rfl rfl hdX4_everReady ⟨Nat.le_of_ble_eq_true rfl, Nat.le_of_ble_eq_true rfl⟩ rfl rfl (Nat.le_of_ble_eq_true rfl) dX5_ever_46 (fun H locs hH => ?_)
    exact hret _ _ _ _ _ _ hH h dX5_ever_49
  rw [if_neg c1] at h
  by_cases c4 : a1 = 1
  · rw [if_pos c4] at h
    refine lv_lookup (off := 49) (tgt := 50) hF.x hF.b dX5_ever_1 (by decide) (by rw [c4]; decide) (by decide) ?_
    refine lv_aload_n hF.x hF.b dX5_ever_50 rfl (lv_at hl 0 rfl) ?_
    refine gfC_0_3 hF hH tk_174 dX5_ever_51 ?_
    refine lv_aload_n hF.x hF.b dX5_ever_54 rfl (lv_at hl 0 rfl) ?_
    refine gfC_0_0 hF hH tk_171 dX5_ever_55 ?_
    refine gfC_1_9 hF hH tk_95 dX5_ever_58 ?_
    replace h := bd_some h
    obtain ⟨v5, σ6, hv5, h⟩ := h
    refine w_cVi (As := [.int (σ 1 9)]) (rest := []) hF hH hl 13 (by decide) rfl rfl (tX4_everLive l E hF.j _ _ _ hv5) tk_443 tk_444 tk_445 tk_45 tk_446 rfl rfl hdX4_everLive ⟨Nat.le_of_ble_eq_true rfl, Nat.le_of_ble_eq_true rfl⟩ rfl rfl (Nat.le_of_ble_eq_true rfl) dX5_ever_61 (fun H locs hH => ?_)
    exact hret _ _ _ _ _ _ hH h dX5_ever_64
  rw [if_neg c4] at h
  refine lv_lookup (off := 64) (tgt := 65) hF.x hF.b dX5_ever_1 (by decide) (by rw [lv_osw c1 (show (0 : Int32).toInt = 0 by decide), lv_osw c4 (show (1 : Int32).toInt = 1 by decide)]; rfl) (by decide) ?_
  refine lv_bipush (v := (-2)) hF.x hF.b dX5_ever_65 (by decide) ?_
  exact hret _ _ _ _ _ _ hH h dX5_ever_67
theorem hdX5_image : yX5_image.cls = RX5 ∧ yX5_image.cls ≠ "java/lang/invoke/MethodHandle" ∧ yX5_image.cls ≠ "java/lang/invoke/VarHandle" ∧ (parseMethodDescriptor yX5_image.desc).map (fun d => d.parameters.length) = some 1 := by decide +kernel
set_option maxHeartbeats 4000000 in
set_option maxRecDepth 100000 in
theorem tX5_image (l : Launch) (E : Ev) (hj : Inj kC E) (a1 : Int32) (σ : Sg) (r : Int32 × Sg) (h : fX5_image a1 σ = some r) : CI l yX5_image cX5_image 2 (some FieldType.int) (rmk 2 61) kC E [.ref (eA E 0), .int a1] σ r := by
  refine CI_i (lv := [(0, .ref (eA E 0)), (1, .int a1)]) (by decide) hj (Nat.le_of_ble_eq_true rfl) rfl (fun p e s m args below meth c ls Q hF hret hH hl => ?_)
  unfold fX5_image at h
  refine lv_iload_n hF.x hF.b dX5_image_0 rfl (lv_at hl 1 rfl) ?_
  refine lv_iconst (v := 1) hF.x hF.b dX5_image_1 (by decide) ?_
  replace h := bd_some h
  obtain ⟨v1, σ2, hv1, h⟩ := h
  refine w_cSi (As := [.int a1, .int 1]) (rest := []) hF hH hl (tX5_isWithin l E hF.j _ _ _ _ hv1) tk_197 tk_198 tk_41 tk_199 rfl rfl hdX5_isWithin ⟨Nat.le_of_ble_eq_true rfl, Nat.le_of_ble_eq_true rfl⟩ rfl rfl (Nat.le_of_ble_eq_true rfl) dX5_image_2 (fun H locs hH => ?_)
  refine lv_if_ne (tgt := 11) hF.x hF.b dX5_image_5 (by decide) (fun c3 => ?_) (fun c3 => ?_)
  · rw [if_neg c3] at h
    refine lv_aload_n hF.x hF.b dX5_image_11 rfl (lv_at hl 0 rfl) ?_
    refine gfC_0_4 hF hH tk_175 dX5_image_12 ?_
    refine lv_iload_n hF.x hF.b dX5_image_15 rfl (lv_at hl 1 rfl) ?_
    have hic4 := (gd_some h).1
    replace h := (gd_some h).2
    by_cases c4 : a1 = 0
    · rw [if_pos c4] at h
      refine aqC_17_0 hF hH c4 dX5_image_16 ?_
      refine lv_aload_n hF.x hF.b dX5_image_17 rfl (lv_at hl 0 rfl) ?_
      refine gfC_0_0 hF hH tk_171 dX5_image_18 ?_
      replace h := bd_some h
      obtain ⟨v5, σ6, hv5, h⟩ := h
      refine w_cVv (As := [.ref (eA E 1)]) (rest := []) hF hH hl 18 (by decide) rfl rfl (tX1_copyFrom_18_1 l E hF.j _ _ hv5) tk_451 tk_452 tk_453 tk_42 tk_454 rfl rfl hdX1_copyFrom ⟨Nat.le_of_ble_eq_true rfl, Nat.le_of_ble_eq_true rfl⟩ rfl rfl (Nat.le_of_ble_eq_true rfl) dX5_image_21 (fun H locs hH => ?_)
      refine lv_aload_n hF.x hF.b dX5_image_24 rfl (lv_at hl 0 rfl) ?_
      refine lv_dup hF.x hF.b dX5_image_25 rfl ?_
      refine gfC_0_5 hF hH tk_176 dX5_image_26 ?_
      refine lv_iconst (v := 1) hF.x hF.b dX5_image_29 (by decide) ?_
      refine lv_iload_n hF.x hF.b dX5_image_30 rfl (lv_at hl 1 rfl) ?_
      refine lv_ishl hF.x hF.b dX5_image_31 ?_
      refine lv_ior hF.x hF.b dX5_image_32 ?_
      refine pfC_0_5 hF hH tk_176 dX5_image_33 (fun σ7 H locs eσ7 hH => ?_)
      replace h := sv_at h eσ7
      clear eσ7
      refine lv_iconst (v := 1) hF.x hF.b dX5_image_36 (by decide) ?_
      exact hret _ _ _ _ _ _ hH h dX5_image_37
    · rw [if_neg c4] at h
      refine aqC_17_1 hF hH hic4 c4 dX5_image_16 ?_
      refine lv_aload_n hF.x hF.b dX5_image_17 rfl (lv_at hl 0 rfl) ?_
      refine gfC_0_0 hF hH tk_171 dX5_image_18 ?_
      replace h := bd_some h
      obtain ⟨v8, σ9, hv8, h⟩ := h
      refine w_cVv (As := [.ref (eA E 1)]) (rest := []) hF hH hl 26 (by decide) rfl rfl (tX1_copyFrom_26_1 l E hF.j _ _ hv8) tk_451 tk_452 tk_453 tk_42 tk_454 rfl rfl hdX1_copyFrom ⟨Nat.le_of_ble_eq_true rfl, Nat.le_of_ble_eq_true rfl⟩ rfl rfl (Nat.le_of_ble_eq_true rfl) dX5_image_21 (fun H locs hH => ?_)
      refine lv_aload_n hF.x hF.b dX5_image_24 rfl (lv_at hl 0 rfl) ?_
      refine lv_dup hF.x hF.b dX5_image_25 rfl ?_
      refine gfC_0_5 hF hH tk_176 dX5_image_26 ?_
      refine lv_iconst (v := 1) hF.x hF.b dX5_image_29 (by decide) ?_
      refine lv_iload_n hF.x hF.b dX5_image_30 rfl (lv_at hl 1 rfl) ?_
      refine lv_ishl hF.x hF.b dX5_image_31 ?_
      refine lv_ior hF.x hF.b dX5_image_32 ?_
      refine pfC_0_5 hF hH tk_176 dX5_image_33 (fun σ10 H locs eσ10 hH => ?_)
      replace h := sv_at h eσ10
      clear eσ10
      refine lv_iconst (v := 1) hF.x hF.b dX5_image_36 (by decide) ?_
      exact hret _ _ _ _ _ _ hH h dX5_image_37
  · rw [if_pos c3] at h
    refine lv_bipush (v := (-2)) hF.x hF.b dX5_image_8 (by decide) ?_
    exact hret _ _ _ _ _ _ hH h dX5_image_10
theorem hdX5_restore : yX5_restore.cls = RX5 ∧ yX5_restore.cls ≠ "java/lang/invoke/MethodHandle" ∧ yX5_restore.cls ≠ "java/lang/invoke/VarHandle" ∧ (parseMethodDescriptor yX5_restore.desc).map (fun d => d.parameters.length) = some 1 := by decide +kernel
set_option maxHeartbeats 4000000 in
set_option maxRecDepth 100000 in
theorem tX5_restore (l : Launch) (E : Ev) (hj : Inj kC E) (a1 : Int32) (σ : Sg) (r : Int32 × Sg) (h : fX5_restore a1 σ = some r) : CI l yX5_restore cX5_restore 3 (some FieldType.int) (rmk 3 76) kC E [.ref (eA E 0), .int a1] σ r := by
  refine CI_i (lv := [(0, .ref (eA E 0)), (1, .int a1)]) (by decide) hj (Nat.le_of_ble_eq_true rfl) rfl (fun p e s m args below meth c ls Q hF hret hH hl => ?_)
  have w40 : ∀ (n : Nat) (x2 : Int32) (σ : Sg) (H : Heap) (locs : List Loc) (ls : Array Slot), it fX5_restore_L40 (fun _ _ => none) n x2 σ = some r → HP kC E s σ H locs → lv_has ls 3 [(0, .ref (eA E 0)), (2, .int x2)] → W p l e (rmk 3 76) s m args below meth c H locs 0 0 Q (F0 m 40 ls []) := by
    intro n40
    induction n40 with
    | zero =>
      intro x2 σ H locs ls h hH hl
      cases (show (none : Rs) = some r from h)
    | succ n40 ih40 =>
      intro x2 σ H locs ls h hH hl
      rw [it_eq] at h
      unfold fX5_restore_L40 at h
      refine lv_iload_n hF.x hF.b dX5_restore_40 rfl (lv_at hl 1 rfl) ?_
      refine lv_aload_n hF.x hF.b dX5_restore_41 rfl (lv_at hl 0 rfl) ?_
      refine gfC_0_0 hF hH tk_171 dX5_restore_42 ?_
      refine gfC_1_0 hF hH tk_66 dX5_restore_45 ?_
      refine lv_icmp_ge (tgt := 69) hF.x hF.b dX5_restore_48 (by decide) (fun c1 => ?_) (fun c1 => ?_)
      · rw [if_pos c1] at h
        refine lv_iconst (v := 1) hF.x hF.b dX5_restore_69 (by decide) ?_
        exact hret _ _ _ _ _ _ hH h dX5_restore_70
      · rw [if_neg c1] at h
        refine lv_aload_n hF.x hF.b dX5_restore_51 rfl (lv_at hl 0 rfl) ?_
        refine gfC_0_1 hF hH tk_172 dX5_restore_52 ?_
        refine lv_aload_n hF.x hF.b dX5_restore_55 rfl (lv_at hl 0 rfl) ?_
        refine gfC_0_0 hF hH tk_171 dX5_restore_56 ?_
        refine lv_iload_n hF.x hF.b dX5_restore_59 rfl (lv_at hl 1 rfl) ?_
        replace h := bd_some h
        obtain ⟨v2, σ3, hv2, h⟩ := h
        refine w_cVv (As := [.ref (eA E 1), .int x2]) (rest := []) hF hH hl 9 (by decide) rfl rfl (tX2_learnLine l E hF.j _ _ _ hv2) tk_210 tk_211 tk_212 tk_43 tk_213 rfl rfl hdX2_learnLine ⟨Nat.le_of_ble_eq_true rfl, Nat.le_of_ble_eq_true rfl⟩ rfl rfl (Nat.le_of_ble_eq_true rfl) dX5_restore_60 (fun H locs hH => ?_)
        obtain ⟨y4, ey4⟩ : ∃ z : Int32, z = (x2 + 1) := ⟨_, rfl⟩
        replace h := sv_at h ey4
        refine lv_iinc (v := y4) (lv' := [(2, .int y4), (0, .ref (eA E 0))]) hF.x hF.b dX5_restore_63 hl (k := 1) rfl (by rw [ey4]; rfl) (by decide) rfl (fun ls hl => ?_)
        clear ey4
        refine lv_goto (tgt := 40) hF.x hF.b dX5_restore_66 (by decide) ?_
        exact ih40 _ _ _ _ _ h hH (lv_sub hl [1, 0] rfl)
  unfold fX5_restore at h
  refine lv_iload_n hF.x hF.b dX5_restore_0 rfl (lv_at hl 1 rfl) ?_
  refine lv_iconst (v := 1) hF.x hF.b dX5_restore_1 (by decide) ?_
  replace h := bd_some h
  obtain ⟨v5, σ6, hv5, h⟩ := h
  refine w_cSi (As := [.int a1, .int 1]) (rest := []) hF hH hl (tX5_isWithin l E hF.j _ _ _ _ hv5) tk_197 tk_198 tk_41 tk_199 rfl rfl hdX5_isWithin ⟨Nat.le_of_ble_eq_true rfl, Nat.le_of_ble_eq_true rfl⟩ rfl rfl (Nat.le_of_ble_eq_true rfl) dX5_restore_2 (fun H locs hH => ?_)
  refine lv_if_ne (tgt := 11) hF.x hF.b dX5_restore_5 (by decide) (fun c7 => ?_) (fun c7 => ?_)
  · rw [if_neg c7] at h
    refine lv_aload_n hF.x hF.b dX5_restore_11 rfl (lv_at hl 0 rfl) ?_
    refine gfC_0_5 hF hH tk_176 dX5_restore_12 ?_
    refine lv_iload_n hF.x hF.b dX5_restore_15 rfl (lv_at hl 1 rfl) ?_
    replace h := bd_some h
    obtain ⟨v8, σ9, hv8, h⟩ := h
    refine w_cSi (As := [.int (σ6 0 5), .int a1]) (rest := []) hF hH hl (tX5_bit l E hF.j _ _ _ _ hv8) tk_261 tk_227 tk_41 tk_228 rfl rfl hdX5_bit ⟨Nat.le_of_ble_eq_true rfl, Nat.le_of_ble_eq_true rfl⟩ rfl rfl (Nat.le_of_ble_eq_true rfl) dX5_restore_16 (fun H locs hH => ?_)
    refine lv_if_ne (tgt := 25) hF.x hF.b dX5_restore_19 (by decide) (fun c10 => ?_) (fun c10 => ?_)
    · rw [if_neg c10] at h
      refine lv_aload_n hF.x hF.b dX5_restore_25 rfl (lv_at hl 0 rfl) ?_
      refine gfC_0_0 hF hH tk_171 dX5_restore_26 ?_
      refine lv_aload_n hF.x hF.b dX5_restore_29 rfl (lv_at hl 0 rfl) ?_
      refine gfC_0_4 hF hH tk_175 dX5_restore_30 ?_
      refine lv_iload_n hF.x hF.b dX5_restore_33 rfl (lv_at hl 1 rfl) ?_
      have hic11 := (gd_some h).1
      replace h := (gd_some h).2
      by_cases c11 : a1 = 0
      · rw [if_pos c11] at h
        refine aqC_17_0 hF hH c11 dX5_restore_34 ?_
        replace h := bd_some h
        obtain ⟨v12, σ13, hv12, h⟩ := h
        refine w_cVv (As := [.ref (eA E 18)]) (rest := []) hF hH hl 1 (by decide) rfl rfl (tX1_copyFrom_1_18 l E hF.j _ _ hv12) tk_451 tk_452 tk_453 tk_42 tk_454 rfl rfl hdX1_copyFrom ⟨Nat.le_of_ble_eq_true rfl, Nat.le_of_ble_eq_true rfl⟩ rfl rfl (Nat.le_of_ble_eq_true rfl) dX5_restore_35 (fun H locs hH => ?_)
        refine lv_iconst (v := 0) hF.x hF.b dX5_restore_38 (by decide) ?_
        refine lv_istore_n (lv' := [(2, .int 0), (0, .ref (eA E 0)), (1, .int a1)]) hF.x hF.b dX5_restore_39 rfl hl (by decide) rfl (fun ls hl => ?_)
        exact w40 _ _ _ _ _ _ h hH (lv_sub hl [1, 0] rfl)
      · rw [if_neg c11] at h
        refine aqC_17_1 hF hH hic11 c11 dX5_restore_34 ?_
        replace h := bd_some h
        obtain ⟨v14, σ15, hv14, h⟩ := h
        refine w_cVv (As := [.ref (eA E 26)]) (rest := []) hF hH hl 1 (by decide) rfl rfl (tX1_copyFrom_1_26 l E hF.j _ _ hv14) tk_451 tk_452 tk_453 tk_42 tk_454 rfl rfl hdX1_copyFrom ⟨Nat.le_of_ble_eq_true rfl, Nat.le_of_ble_eq_true rfl⟩ rfl rfl (Nat.le_of_ble_eq_true rfl) dX5_restore_35 (fun H locs hH => ?_)
        refine lv_iconst (v := 0) hF.x hF.b dX5_restore_38 (by decide) ?_
        refine lv_istore_n (lv' := [(2, .int 0), (0, .ref (eA E 0)), (1, .int a1)]) hF.x hF.b dX5_restore_39 rfl hl (by decide) rfl (fun ls hl => ?_)
        exact w40 _ _ _ _ _ _ h hH (lv_sub hl [1, 0] rfl)
    · rw [if_pos c10] at h
      refine lv_bipush (v := (-3)) hF.x hF.b dX5_restore_22 (by decide) ?_
      exact hret _ _ _ _ _ _ hH h dX5_restore_24
  · rw [if_pos c7] at h
    refine lv_bipush (v := (-2)) hF.x hF.b dX5_restore_8 (by decide) ?_
    exact hret _ _ _ _ _ _ hH h dX5_restore_10
theorem hdX5_count : yX5_count.cls = RX5 ∧ yX5_count.cls ≠ "java/lang/invoke/MethodHandle" ∧ yX5_count.cls ≠ "java/lang/invoke/VarHandle" ∧ (parseMethodDescriptor yX5_count.desc).map (fun d => d.parameters.length) = some 1 := by decide +kernel
set_option maxHeartbeats 4000000 in
set_option maxRecDepth 100000 in
theorem tX5_count (l : Launch) (E : Ev) (hj : Inj kC E) (a1 : Int32) (σ : Sg) (r : Int32 × Sg) (h : fX5_count a1 σ = some r) : CI l yX5_count cX5_count 2 (some FieldType.int) (rmk 4 91) kC E [.ref (eA E 0), .int a1] σ r := by
  refine CI_i (lv := [(0, .ref (eA E 0)), (1, .int a1)]) (by decide) hj (Nat.le_of_ble_eq_true rfl) rfl (fun p e s m args below meth c ls Q hF hret hH hl => ?_)
  unfold fX5_count at h
  refine lv_iload_n hF.x hF.b dX5_count_0 rfl (lv_at hl 1 rfl) ?_
  by_cases c1 : a1 = 0
  · rw [if_pos c1] at h
    refine lv_tableIn (off := 51) (tgt := 52) hF.x hF.b dX5_count_1 (by rw [c1]; decide) (by rw [c1]; decide) (by rw [c1]; rfl) (by decide) ?_
    refine lv_aload_n hF.x hF.b dX5_count_52 rfl (lv_at hl 0 rfl) ?_
    refine gfC_0_0 hF hH tk_171 dX5_count_53 ?_
    refine gfC_1_0 hF hH tk_66 dX5_count_56 ?_
    exact hret _ _ _ _ _ _ hH h dX5_count_59
  rw [if_neg c1] at h
  by_cases c2 : a1 = 1
  · rw [if_pos c2] at h
    refine lv_tableIn (off := 59) (tgt := 60) hF.x hF.b dX5_count_1 (by rw [c2]; decide) (by rw [c2]; decide) (by rw [c2]; rfl) (by decide) ?_
    refine lv_aload_n hF.x hF.b dX5_count_60 rfl (lv_at hl 0 rfl) ?_
    refine gfC_0_0 hF hH tk_171 dX5_count_61 ?_
    refine gfC_1_4 hF hH tk_81 dX5_count_64 ?_
    exact hret _ _ _ _ _ _ hH h dX5_count_67
  rw [if_neg c2] at h
  by_cases c3 : a1 = 2
  · rw [if_pos c3] at h
    refine lv_tableIn (off := 67) (tgt := 68) hF.x hF.b dX5_count_1 (by rw [c3]; decide) (by rw [c3]; decide) (by rw [c3]; rfl) (by decide) ?_
    refine lv_aload_n hF.x hF.b dX5_count_68 rfl (lv_at hl 0 rfl) ?_
    refine gfC_0_0 hF hH tk_171 dX5_count_69 ?_
    refine gfC_1_9 hF hH tk_95 dX5_count_72 ?_
    replace h := bd_some h
    obtain ⟨v4, σ5, hv4, h⟩ := h
    refine w_cSi (As := [.int (σ 1 9)]) (rest := []) hF hH hl (tX0_closed l E hF.j _ _ _ hv4) tk_258 tk_259 tk_48 tk_260 rfl rfl hdX0_closed ⟨Nat.le_of_ble_eq_true rfl, Nat.le_of_ble_eq_true rfl⟩ rfl rfl (Nat.le_of_ble_eq_true rfl) dX5_count_75 (fun H locs hH => ?_)
    replace h := bd_some h
    obtain ⟨v6, σ7, hv6, h⟩ := h
    refine w_cSi (As := [.int v4]) (rest := []) hF hH hl (tJ6_bitCount_0f7a4 l E hF.j _ _ _ hv6) tk_244 tk_245 tk_49 tk_246 rfl rfl hdJ6_bitCount_0f7a4 ⟨Nat.le_of_ble_eq_true rfl, Nat.le_of_ble_eq_true rfl⟩ rfl rfl (Nat.le_of_ble_eq_true rfl) dX5_count_78 (fun H locs hH => ?_)
    exact hret _ _ _ _ _ _ hH h dX5_count_81
  rw [if_neg c3] at h
  by_cases c8 : a1 = 3
  · rw [if_pos c8] at h
    refine lv_tableIn (off := 81) (tgt := 82) hF.x hF.b dX5_count_1 (by rw [c8]; decide) (by rw [c8]; decide) (by rw [c8]; rfl) (by decide) ?_
    refine lv_aload_n hF.x hF.b dX5_count_82 rfl (lv_at hl 0 rfl) ?_
    refine gfC_0_0 hF hH tk_171 dX5_count_83 ?_
    refine gfC_1_9 hF hH tk_95 dX5_count_86 ?_
    replace h := bd_some h
    obtain ⟨v9, σ10, hv9, h⟩ := h
    refine w_cSi (As := [.int (σ 1 9)]) (rest := []) hF hH hl (tX0_running l E hF.j _ _ _ hv9) tk_241 tk_242 tk_48 tk_243 rfl rfl hdX0_running ⟨Nat.le_of_ble_eq_true rfl, Nat.le_of_ble_eq_true rfl⟩ rfl rfl (Nat.le_of_ble_eq_true rfl) dX5_count_89 (fun H locs hH => ?_)
    replace h := bd_some h
    obtain ⟨v11, σ12, hv11, h⟩ := h
    refine w_cSi (As := [.int v9]) (rest := []) hF hH hl (tJ6_bitCount_0f7a4 l E hF.j _ _ _ hv11) tk_244 tk_245 tk_49 tk_246 rfl rfl hdJ6_bitCount_0f7a4 ⟨Nat.le_of_ble_eq_true rfl, Nat.le_of_ble_eq_true rfl⟩ rfl rfl (Nat.le_of_ble_eq_true rfl) dX5_count_92 (fun H locs hH => ?_)
    exact hret _ _ _ _ _ _ hH h dX5_count_95
  rw [if_neg c8] at h
  by_cases c13 : a1 = 4
  · rw [if_pos c13] at h
    refine lv_tableIn (off := 95) (tgt := 96) hF.x hF.b dX5_count_1 (by rw [c13]; decide) (by rw [c13]; decide) (by rw [c13]; rfl) (by decide) ?_
    refine lv_aload_n hF.x hF.b dX5_count_96 rfl (lv_at hl 0 rfl) ?_
    refine gfC_0_0 hF hH tk_171 dX5_count_97 ?_
    refine gfC_1_9 hF hH tk_95 dX5_count_100 ?_
    replace h := bd_some h
    obtain ⟨v14, σ15, hv14, h⟩ := h
    refine w_cSi (As := [.int (σ 1 9)]) (rest := []) hF hH hl (tX0_ready l E hF.j _ _ _ hv14) tk_466 tk_298 tk_48 tk_299 rfl rfl hdX0_ready ⟨Nat.le_of_ble_eq_true rfl, Nat.le_of_ble_eq_true rfl⟩ rfl rfl (Nat.le_of_ble_eq_true rfl) dX5_count_103 (fun H locs hH => ?_)
    replace h := bd_some h
    obtain ⟨v16, σ17, hv16, h⟩ := h
    refine w_cSi (As := [.int v14]) (rest := []) hF hH hl (tJ6_bitCount_0f7a4 l E hF.j _ _ _ hv16) tk_244 tk_245 tk_49 tk_246 rfl rfl hdJ6_bitCount_0f7a4 ⟨Nat.le_of_ble_eq_true rfl, Nat.le_of_ble_eq_true rfl⟩ rfl rfl (Nat.le_of_ble_eq_true rfl) dX5_count_106 (fun H locs hH => ?_)
    exact hret _ _ _ _ _ _ hH h dX5_count_109
  rw [if_neg c13] at h
  by_cases c18 : a1 = 5
  · rw [if_pos c18] at h
    refine lv_tableIn (off := 109) (tgt := 110) hF.x hF.b dX5_count_1 (by rw [c18]; decide) (by rw [c18]; decide) (by rw [c18]; rfl) (by decide) ?_
    refine lv_aload_n hF.x hF.b dX5_count_110 rfl (lv_at hl 0 rfl) ?_
    refine gfC_0_2 hF hH tk_173 dX5_count_111 ?_
    refine lv_aload_n hF.x hF.b dX5_count_114 rfl (lv_at hl 0 rfl) ?_
    refine gfC_0_0 hF hH tk_171 dX5_count_115 ?_
    refine gfC_1_9 hF hH tk_95 dX5_count_118 ?_
    replace h := bd_some h
    obtain ⟨v19, σ20, hv19, h⟩ := h
    refine w_cVi (As := [.int (σ 1 9)]) (rest := []) hF hH hl 12 (by decide) rfl rfl (tX3_liveBuses l E hF.j _ _ _ hv19) tk_286 tk_287 tk_288 tk_44 tk_289 rfl rfl hdX3_liveBuses ⟨Nat.le_of_ble_eq_true rfl, Nat.le_of_ble_eq_true rfl⟩ rfl rfl (Nat.le_of_ble_eq_true rfl) dX5_count_121 (fun H locs hH => ?_)
    replace h := bd_some h
    obtain ⟨v21, σ22, hv21, h⟩ := h
    refine w_cSi (As := [.int v19]) (rest := []) hF hH hl (tJ6_bitCount_0f7a4 l E hF.j _ _ _ hv21) tk_244 tk_245 tk_49 tk_246 rfl rfl hdJ6_bitCount_0f7a4 ⟨Nat.le_of_ble_eq_true rfl, Nat.le_of_ble_eq_true rfl⟩ rfl rfl (Nat.le_of_ble_eq_true rfl) dX5_count_124 (fun H locs hH => ?_)
    exact hret _ _ _ _ _ _ hH h dX5_count_127
  rw [if_neg c18] at h
  by_cases c23 : a1 = 6
  · rw [if_pos c23] at h
    refine lv_tableIn (off := 127) (tgt := 128) hF.x hF.b dX5_count_1 (by rw [c23]; decide) (by rw [c23]; decide) (by rw [c23]; rfl) (by decide) ?_
    refine lv_aload_n hF.x hF.b dX5_count_128 rfl (lv_at hl 0 rfl) ?_
    refine gfC_0_2 hF hH tk_173 dX5_count_129 ?_
    refine lv_aload_n hF.x hF.b dX5_count_132 rfl (lv_at hl 0 rfl) ?_
    refine gfC_0_0 hF hH tk_171 dX5_count_133 ?_
    refine gfC_1_9 hF hH tk_95 dX5_count_136 ?_
    replace h := bd_some h
    obtain ⟨v24, σ25, hv24, h⟩ := h
    refine w_cVi (As := [.int (σ 1 9)]) (rest := []) hF hH hl 12 (by decide) rfl rfl (tX3_countLiveIslands l E hF.j _ _ _ hv24) tk_467 tk_468 tk_469 tk_44 tk_470 rfl rfl hdX3_countLiveIslands ⟨Nat.le_of_ble_eq_true rfl, Nat.le_of_ble_eq_true rfl⟩ rfl rfl (Nat.le_of_ble_eq_true rfl) dX5_count_139 (fun H locs hH => ?_)
    exact hret _ _ _ _ _ _ hH h dX5_count_142
  rw [if_neg c23] at h
  by_cases c26 : a1 = 7
  · rw [if_pos c26] at h
    refine lv_tableIn (off := 142) (tgt := 143) hF.x hF.b dX5_count_1 (by rw [c26]; decide) (by rw [c26]; decide) (by rw [c26]; rfl) (by decide) ?_
    refine lv_aload_n hF.x hF.b dX5_count_143 rfl (lv_at hl 0 rfl) ?_
    refine gfC_0_0 hF hH tk_171 dX5_count_144 ?_
    refine gfC_1_10 hF hH tk_96 dX5_count_147 ?_
    exact hret _ _ _ _ _ _ hH h dX5_count_150
  rw [if_neg c26] at h
  by_cases c27 : a1 = 8
  · rw [if_pos c27] at h
    refine lv_tableIn (off := 150) (tgt := 151) hF.x hF.b dX5_count_1 (by rw [c27]; decide) (by rw [c27]; decide) (by rw [c27]; rfl) (by decide) ?_
    refine lv_aload_n hF.x hF.b dX5_count_151 rfl (lv_at hl 0 rfl) ?_
    refine gfC_0_5 hF hH tk_176 dX5_count_152 ?_
    exact hret _ _ _ _ _ _ hH h dX5_count_155
  rw [if_neg c27] at h
  have zc1 := lv_neT c1 (show (0 : Int32).toInt = 0 by decide)
  have zc2 := lv_neT c2 (show (1 : Int32).toInt = 1 by decide)
  have zc3 := lv_neT c3 (show (2 : Int32).toInt = 2 by decide)
  have zc8 := lv_neT c8 (show (3 : Int32).toInt = 3 by decide)
  have zc13 := lv_neT c13 (show (4 : Int32).toInt = 4 by decide)
  have zc18 := lv_neT c18 (show (5 : Int32).toInt = 5 by decide)
  have zc23 := lv_neT c23 (show (6 : Int32).toInt = 6 by decide)
  have zc26 := lv_neT c26 (show (7 : Int32).toInt = 7 by decide)
  have zc27 := lv_neT c27 (show (8 : Int32).toInt = 8 by decide)
  refine lv_tableOut (tgt := 156) hF.x hF.b dX5_count_1 (by omega) (by decide) ?_
  refine lv_bipush (v := (-2)) hF.x hF.b dX5_count_156 (by decide) ?_
  exact hret _ _ _ _ _ _ hH h dX5_count_158
