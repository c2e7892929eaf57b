theorem hdX3_liveBuses : yX3_liveBuses.cls = RX3 ∧ yX3_liveBuses.cls ≠ "java/lang/invoke/MethodHandle" ∧ yX3_liveBuses.cls ≠ "java/lang/invoke/VarHandle" ∧ (parseMethodDescriptor yX3_liveBuses.desc).map (fun d => d.parameters.length) = some 1 := by decide +kernel
set_option maxHeartbeats 4000000 in
set_option maxRecDepth 100000 in
theorem tX3_liveBuses (l : Launch) (E : Ev) (hj : Inj kC E) (a1 : Int32) (σ : Sg) (r : Int32 × Sg) (h : fX3_liveBuses a1 σ = some r) : CI l yX3_liveBuses cX3_liveBuses 4 (some FieldType.int) (rmk 2 42) kC E [.ref (eA E 12), .int a1] σ r := by
  refine CI_i (lv := [(0, .ref (eA E 12)), (1, .int a1)]) (by decide) hj (Nat.le_of_ble_eq_true rfl) rfl (fun p e s m args below meth c ls Q hF hret hH hl => ?_)
  have w4 : ∀ (n : Nat) (x1 x2 x3 : Int32) (σ : Sg) (H : Heap) (locs : List Loc) (ls : Array Slot), it fX3_liveBuses_L4 (fun _ _ _ _ => none) n x1 x2 x3 σ = some r → HP kC E s σ H locs → lv_has ls 4 [(0, .ref (eA E 12)), (1, .int x1), (2, .int x2), (3, .int x3)] → W p l e (rmk 2 42) s m args below meth c H locs 0 0 Q (F0 m 4 ls []) := by
    intro n4
    induction n4 with
    | zero =>
      intro x1 x2 x3 σ H locs ls h hH hl
      cases (show (none : Rs) = some r from h)
    | succ n4 ih4 =>
      have w46 : ∀ (x1 x2 x3 : Int32) (σ : Sg) (H : Heap) (locs : List Loc) (ls : Array Slot), fX3_liveBuses_46 (it fX3_liveBuses_L4 (fun _ _ _ _ => none) n4) x1 x2 x3 σ = some r → HP kC E s σ H locs → lv_has ls 4 [(0, .ref (eA E 12)), (1, .int x1), (2, .int x2), (3, .int x3)] → W p l e (rmk 2 42) s m args below meth c H locs 0 0 Q (F0 m 46 ls []) := by
        intro x1 x2 x3 σ H locs ls h hH hl
        unfold fX3_liveBuses_46 at h
        obtain ⟨y1, ey1⟩ : ∃ z : Int32, z = (x3 + 1) := ⟨_, rfl⟩
        replace h := sv_at h ey1
        refine lv_iinc (v := y1) (lv' := [(3, .int y1), (0, .ref (eA E 12)), (1, .int x1), (2, .int x2)]) hF.x hF.b dX3_liveBuses_46 hl (k := 3) rfl (by rw [ey1]; rfl) (by decide) rfl (fun ls hl => ?_)
        clear ey1
        refine lv_goto (tgt := 4) hF.x hF.b dX3_liveBuses_49 (by decide) ?_
        exact ih4 _ _ _ _ _ _ _ h hH (lv_sub hl [1, 2, 3, 0] rfl)
      intro x1 x2 x3 σ H locs ls h hH hl
      rw [it_eq] at h
      unfold fX3_liveBuses_L4 at h
      refine lv_iload_n hF.x hF.b dX3_liveBuses_4 rfl (lv_at hl 3 rfl) ?_
      refine lv_aload_n hF.x hF.b dX3_liveBuses_5 rfl (lv_at hl 0 rfl) ?_
      refine gfC_12_0 hF hH tk_141 dX3_liveBuses_6 ?_
      refine gfC_1_4 hF hH tk_79 dX3_liveBuses_9 ?_
      refine lv_icmp_ge (tgt := 52) hF.x hF.b dX3_liveBuses_12 (by decide) (fun c2 => ?_) (fun c2 => ?_)
      · rw [if_pos c2] at h
        refine lv_iload_n hF.x hF.b dX3_liveBuses_52 rfl (lv_at hl 2 rfl) ?_
        exact hret _ _ _ _ _ _ hH h dX3_liveBuses_53
      · rw [if_neg c2] at h
        refine lv_iload_n hF.x hF.b dX3_liveBuses_15 rfl (lv_at hl 1 rfl) ?_
        refine lv_iload_n hF.x hF.b dX3_liveBuses_16 rfl (lv_at hl 3 rfl) ?_
        replace h := bd_some h
        obtain ⟨v3, σ4, hv3, h⟩ := h
        refine w_cSi (As := [.int x1, .int x3]) (rest := []) hF hH hl (tX0_isRunning l E hF.j _ _ _ _ hv3) tk_290 tk_271 tk_48 tk_272 rfl rfl hdX0_isRunning ⟨Nat.le_of_ble_eq_true rfl, Nat.le_of_ble_eq_true rfl⟩ rfl rfl (Nat.le_of_ble_eq_true rfl) dX3_liveBuses_17 (fun H locs hH => ?_)
        refine lv_if_eq (tgt := 46) hF.x hF.b dX3_liveBuses_20 (by decide) (fun c5 => ?_) (fun c5 => ?_)
        · rw [if_pos c5] at h
          exact w46 _ _ _ _ _ _ _ h hH (lv_sub hl [0, 1, 2, 3] rfl)
        · rw [if_neg c5] at h
          refine lv_iload_n hF.x hF.b dX3_liveBuses_23 rfl (lv_at hl 2 rfl) ?_
          refine lv_aload_n hF.x hF.b dX3_liveBuses_24 rfl (lv_at hl 0 rfl) ?_
          refine gfC_12_1 hF hH tk_142 dX3_liveBuses_25 ?_
          refine lv_iload_n hF.x hF.b dX3_liveBuses_28 rfl (lv_at hl 1 rfl) ?_
          replace h := bd_some h
          obtain ⟨v6, σ7, hv6, h⟩ := h
          refine w_cSi (As := [.int x1]) (rest := [.ref (eA E 9), .int x2]) hF hH hl (tX0_closed l E hF.j _ _ _ hv6) tk_291 tk_259 tk_48 tk_260 rfl rfl hdX0_closed ⟨Nat.le_of_ble_eq_true rfl, Nat.le_of_ble_eq_true rfl⟩ rfl rfl (Nat.le_of_ble_eq_true rfl) dX3_liveBuses_29 (fun H locs hH => ?_)
          refine lv_aload_n hF.x hF.b dX3_liveBuses_32 rfl (lv_at hl 0 rfl) ?_
          refine gfC_12_0 hF hH tk_141 dX3_liveBuses_33 ?_
          refine gfC_1_5 hF hH tk_83 dX3_liveBuses_36 ?_
          refine lv_iload_n hF.x hF.b dX3_liveBuses_39 rfl (lv_at hl 3 rfl) ?_
          refine alC_5 hF hH (gd_some h).1 dX3_liveBuses_40 ?_
          replace h := (gd_some h).2
          replace h := bd_some h
          obtain ⟨v8, σ9, hv8, h⟩ := h
          refine w_cVi (As := [.int v6, .int (σ7 5 (Int32.toNatClampNeg x3))]) (rest := [.int x2]) hF hH hl 9 (by decide) rfl rfl (tX2_busesWith l E hF.j _ _ _ _ hv8) tk_292 tk_219 tk_220 tk_43 tk_221 rfl rfl hdX2_busesWith ⟨Nat.le_of_ble_eq_true rfl, Nat.le_of_ble_eq_true rfl⟩ rfl rfl (Nat.le_of_ble_eq_true rfl) dX3_liveBuses_41 (fun H locs hH => ?_)
          refine lv_ior hF.x hF.b dX3_liveBuses_44 ?_
          refine lv_topi (fun y10 ey10 => ?_)
          replace h := sv_at h ey10
          clear ey10
          refine lv_istore_n (lv' := [(2, .int y10), (0, .ref (eA E 12)), (1, .int x1), (3, .int x3)]) hF.x hF.b dX3_liveBuses_45 rfl hl (by decide) rfl (fun ls hl => ?_)
          exact w46 _ _ _ _ _ _ _ h hH (lv_sub hl [1, 2, 0, 3] rfl)
  unfold fX3_liveBuses at h
  refine lv_iconst (v := 0) hF.x hF.b dX3_liveBuses_0 (by decide) ?_
  refine lv_istore_n (lv' := [(2, .int 0), (0, .ref (eA E 12)), (1, .int a1)]) hF.x hF.b dX3_liveBuses_1 rfl hl (by decide) rfl (fun ls hl => ?_)
  refine lv_iconst (v := 0) hF.x hF.b dX3_liveBuses_2 (by decide) ?_
  refine lv_istore_n (lv' := [(3, .int 0), (2, .int 0), (0, .ref (eA E 12)), (1, .int a1)]) hF.x hF.b dX3_liveBuses_3 rfl hl (by decide) rfl (fun ls hl => ?_)
  exact w4 _ _ _ _ _ _ _ _ h hH (lv_sub hl [2, 3, 1, 0] rfl)
theorem hdX3_countLiveIslands : yX3_countLiveIslands.cls = RX3 ∧ yX3_countLiveIslands.cls ≠ "java/lang/invoke/MethodHandle" ∧ yX3_countLiveIslands.cls ≠ "java/lang/invoke/VarHandle" ∧ (parseMethodDescriptor yX3_countLiveIslands.desc).map (fun d => d.parameters.length) = some 1 := by decide +kernel
set_option maxHeartbeats 4000000 in
set_option maxRecDepth 100000 in
theorem tX3_countLiveIslands (l : Launch) (E : Ev) (hj : Inj kC E) (a1 : Int32) (σ : Sg) (r : Int32 × Sg) (h : fX3_countLiveIslands a1 σ = some r) : CI l yX3_countLiveIslands cX3_countLiveIslands 7 (some FieldType.int) (rmk 3 65) kC E [.ref (eA E 12), .int a1] σ r := by
  refine CI_i (lv := [(0, .ref (eA E 12)), (1, .int a1)]) (by decide) hj (Nat.le_of_ble_eq_true rfl) rfl (fun p e s m args below meth c ls Q hF hret hH hl => ?_)
  have w11 : ∀ (n : Nat) (x1 x2 x3 x4 : Int32) (σ : Sg) (H : Heap) (locs : List Loc) (ls : Array Slot), it fX3_countLiveIslands_L11 (fun _ _ _ _ _ => none) n x1 x2 x3 x4 σ = some r → HP kC E s σ H locs → lv_has ls 7 [(0, .ref (eA E 12)), (1, .int x1), (2, .int x2), (3, .int x3), (4, .int x4)] → W p l e (rmk 3 65) s m args below meth c H locs 0 0 Q (F0 m 11 ls []) := by
    intro n11
    induction n11 with
    | zero =>
      intro x1 x2 x3 x4 σ H locs ls h hH hl
      cases (show (none : Rs) = some r from h)
    | succ n11 ih11 =>
      have w68 : ∀ (x1 x2 x3 x4 : Int32) (σ : Sg) (H : Heap) (locs : List Loc) (ls : Array Slot), fX3_countLiveIslands_68 (it fX3_countLiveIslands_L11 (fun _ _ _ _ _ => none) n11) x1 x2 x3 x4 σ = some r → HP kC E s σ H locs → lv_has ls 7 [(0, .ref (eA E 12)), (1, .int x1), (2, .int x2), (3, .int x3), (4, .int x4)] → W p l e (rmk 3 65) s m args below meth c H locs 0 0 Q (F0 m 68 ls []) := by
        intro x1 x2 x3 x4 σ H locs ls h hH hl
        unfold fX3_countLiveIslands_68 at h
        obtain ⟨y1, ey1⟩ : ∃ z : Int32, z = (x4 + 1) := ⟨_, rfl⟩
        replace h := sv_at h ey1
        refine lv_iinc (v := y1) (lv' := [(4, .int y1), (0, .ref (eA E 12)), (1, .int x1), (2, .int x2), (3, .int x3)]) hF.x hF.b dX3_countLiveIslands_68 hl (k := 4) rfl (by rw [ey1]; rfl) (by decide) rfl (fun ls hl => ?_)
        clear ey1
        refine lv_goto (tgt := 11) hF.x hF.b dX3_countLiveIslands_71 (by decide) ?_
        exact ih11 _ _ _ _ _ _ _ _ h hH (lv_sub hl [1, 2, 3, 4, 0] rfl)
      have w49 : ∀ (x1 x2 x3 x4 t0 : Int32) (σ : Sg) (H : Heap) (locs : List Loc) (ls : Array Slot), fX3_countLiveIslands_49 (it fX3_countLiveIslands_L11 (fun _ _ _ _ _ => none) n11) x1 x2 x3 x4 t0 σ = some r → HP kC E s σ H locs → lv_has ls 7 [(0, .ref (eA E 12)), (1, .int x1), (2, .int x2), (3, .int x3), (4, .int x4)] → W p l e (rmk 3 65) s m args below meth c H locs 0 0 Q (F0 m 49 ls [.int t0]) := by
        intro x1 x2 x3 x4 t0 σ H locs ls h hH hl
        unfold fX3_countLiveIslands_49 at h
        refine lv_istore (lv' := [(6, .int t0), (0, .ref (eA E 12)), (1, .int x1), (2, .int x2), (3, .int x3), (4, .int x4)]) hF.x hF.b dX3_countLiveIslands_49 hl (by decide) rfl (fun ls hl => ?_)
        refine lv_iload hF.x hF.b dX3_countLiveIslands_51 (lv_at hl 0 rfl) ?_
        refine lv_if_eq (tgt := 68) hF.x hF.b dX3_countLiveIslands_53 (by decide) (fun c2 => ?_) (fun c2 => ?_)
        · rw [if_pos c2] at h
          exact w68 _ _ _ _ _ _ _ _ h hH (lv_sub hl [1, 2, 3, 4, 5] rfl)
        · rw [if_neg c2] at h
          refine lv_iload_n hF.x hF.b dX3_countLiveIslands_56 rfl (lv_at hl 3 rfl) ?_
          refine lv_iload hF.x hF.b dX3_countLiveIslands_57 (lv_at hl 5 rfl) ?_
          replace h := bd_some h
          obtain ⟨v3, σ4, hv3, h⟩ := h
          refine w_cNi (As := [.int x2, .int x4]) (rest := []) hF hH hl (tX5_bit l E hF.j _ _ _ _ hv3) (List.mem_of_getElem? (l := nestW) (i := 3) rfl) tk_227 tk_41 tk_228 rfl rfl hdX5_bit ⟨Nat.le_of_ble_eq_true rfl, Nat.le_of_ble_eq_true rfl⟩ rfl rfl (Nat.le_of_ble_eq_true rfl) dX3_countLiveIslands_59 (fun H locs hH => ?_)
          refine lv_if_eq (tgt := 68) hF.x hF.b dX3_countLiveIslands_62 (by decide) (fun c5 => ?_) (fun c5 => ?_)
          · rw [if_pos c5] at h
            exact w68 _ _ _ _ _ _ _ _ h hH (lv_sub hl [1, 2, 3, 4, 5] rfl)
          · rw [if_neg c5] at h
            obtain ⟨y6, ey6⟩ : ∃ z : Int32, z = (x3 + 1) := ⟨_, rfl⟩
            replace h := sv_at h ey6
            refine lv_iinc (v := y6) (lv' := [(3, .int y6), (6, .int t0), (0, .ref (eA E 12)), (1, .int x1), (2, .int x2), (4, .int x4)]) hF.x hF.b dX3_countLiveIslands_65 hl (k := 4) rfl (by rw [ey6]; rfl) (by decide) rfl (fun ls hl => ?_)
            clear ey6
            exact w68 _ _ _ _ _ _ _ _ h hH (lv_sub hl [2, 3, 4, 0, 5] rfl)
      intro x1 x2 x3 x4 σ H locs ls h hH hl
      rw [it_eq] at h
      unfold fX3_countLiveIslands_L11 at h
      refine lv_iload hF.x hF.b dX3_countLiveIslands_11 (lv_at hl 4 rfl) ?_
      refine lv_bipush (v := 6) hF.x hF.b dX3_countLiveIslands_13 (by decide) ?_
      refine lv_icmp_ge (tgt := 74) hF.x hF.b dX3_countLiveIslands_15 (by decide) (fun c7 => ?_) (fun c7 => ?_)
      · rw [if_pos c7] at h
        refine lv_iload_n hF.x hF.b dX3_countLiveIslands_74 rfl (lv_at hl 3 rfl) ?_
        exact hret _ _ _ _ _ _ hH h dX3_countLiveIslands_75
      · rw [if_neg c7] at h
        refine lv_aload_n hF.x hF.b dX3_countLiveIslands_18 rfl (lv_at hl 0 rfl) ?_
        refine gfC_12_1 hF hH tk_142 dX3_countLiveIslands_19 ?_
        refine lv_iload_n hF.x hF.b dX3_countLiveIslands_22 rfl (lv_at hl 1 rfl) ?_
        replace h := bd_some h
        obtain ⟨v8, σ9, hv8, h⟩ := h
        refine w_cSi (As := [.int x1]) (rest := [.ref (eA E 9)]) hF hH hl (tX0_closed l E hF.j _ _ _ hv8) tk_291 tk_259 tk_48 tk_260 rfl rfl hdX0_closed ⟨Nat.le_of_ble_eq_true rfl, Nat.le_of_ble_eq_true rfl⟩ rfl rfl (Nat.le_of_ble_eq_true rfl) dX3_countLiveIslands_23 (fun H locs hH => ?_)
        refine lv_iload hF.x hF.b dX3_countLiveIslands_26 (lv_at hl 4 rfl) ?_
        replace h := bd_some h
        obtain ⟨v10, σ11, hv10, h⟩ := h
        refine w_cVi (As := [.int v8, .int x4]) (rest := []) hF hH hl 9 (by decide) rfl rfl (tX2_busesWith l E hF.j _ _ _ _ hv10) tk_292 tk_219 tk_220 tk_43 tk_221 rfl rfl hdX2_busesWith ⟨Nat.le_of_ble_eq_true rfl, Nat.le_of_ble_eq_true rfl⟩ rfl rfl (Nat.le_of_ble_eq_true rfl) dX3_countLiveIslands_28 (fun H locs hH => ?_)
        refine lv_istore (lv' := [(5, .int v10), (0, .ref (eA E 12)), (1, .int x1), (2, .int x2), (3, .int x3), (4, .int x4)]) hF.x hF.b dX3_countLiveIslands_31 hl (by decide) rfl (fun ls hl => ?_)
        refine lv_iload hF.x hF.b dX3_countLiveIslands_33 (lv_at hl 0 rfl) ?_
        refine lv_iload hF.x hF.b dX3_countLiveIslands_35 (lv_at hl 5 rfl) ?_
        replace h := bd_some h
        obtain ⟨v12, σ13, hv12, h⟩ := h
        refine w_cNi (As := [.int x4]) (rest := [.int v10]) hF hH hl (tX5_setOfFirst l E hF.j _ _ _ hv12) (List.mem_of_getElem? (l := nestW) (i := 6) rfl) tk_380 tk_41 tk_381 rfl rfl hdX5_setOfFirst ⟨Nat.le_of_ble_eq_true rfl, Nat.le_of_ble_eq_true rfl⟩ rfl rfl (Nat.le_of_ble_eq_true rfl) dX3_countLiveIslands_37 (fun H locs hH => ?_)
        refine lv_iand hF.x hF.b dX3_countLiveIslands_40 ?_
        refine lv_if_ne (tgt := 48) hF.x hF.b dX3_countLiveIslands_41 (by decide) (fun c14 => ?_) (fun c14 => ?_)
        · rw [if_neg c14] at h
          refine lv_iconst (v := 0) hF.x hF.b dX3_countLiveIslands_48 (by decide) ?_
          exact w49 _ _ _ _ _ _ _ _ _ h hH (lv_sub hl [1, 2, 3, 4, 5] rfl)
        · rw [if_pos c14] at h
          refine lv_iconst (v := 1) hF.x hF.b dX3_countLiveIslands_44 (by decide) ?_
          refine lv_goto (tgt := 49) hF.x hF.b dX3_countLiveIslands_45 (by decide) ?_
          exact w49 _ _ _ _ _ _ _ _ _ h hH (lv_sub hl [1, 2, 3, 4, 5] rfl)
  unfold fX3_countLiveIslands at h
  refine lv_aload_n hF.x hF.b dX3_countLiveIslands_0 rfl (lv_at hl 0 rfl) ?_
  refine lv_iload_n hF.x hF.b dX3_countLiveIslands_1 rfl (lv_at hl 1 rfl) ?_
  replace h := bd_some h
  obtain ⟨v15, σ16, hv15, h⟩ := h
  refine w_cVi (As := [.int a1]) (rest := []) hF hH hl 12 (by decide) rfl rfl (tX3_liveBuses l E hF.j _ _ _ hv15) tk_316 tk_287 tk_288 tk_44 tk_289 rfl rfl hdX3_liveBuses ⟨Nat.le_of_ble_eq_true rfl, Nat.le_of_ble_eq_true rfl⟩ rfl rfl (Nat.le_of_ble_eq_true rfl) dX3_countLiveIslands_2 (fun H locs hH => ?_)
  refine lv_istore_n (lv' := [(2, .int v15), (0, .ref (eA E 12)), (1, .int a1)]) hF.x hF.b dX3_countLiveIslands_5 rfl hl (by decide) rfl (fun ls hl => ?_)
  refine lv_iconst (v := 0) hF.x hF.b dX3_countLiveIslands_6 (by decide) ?_
  refine lv_istore_n (lv' := [(3, .int 0), (2, .int v15), (0, .ref (eA E 12)), (1, .int a1)]) hF.x hF.b dX3_countLiveIslands_7 rfl hl (by decide) rfl (fun ls hl => ?_)
  refine lv_iconst (v := 0) hF.x hF.b dX3_countLiveIslands_8 (by decide) ?_
  refine lv_istore (lv' := [(4, .int 0), (3, .int 0), (2, .int v15), (0, .ref (eA E 12)), (1, .int a1)]) hF.x hF.b dX3_countLiveIslands_9 hl (by decide) rfl (fun ls hl => ?_)
  exact w11 _ _ _ _ _ _ _ _ _ h hH (lv_sub hl [3, 4, 2, 1, 0] rfl)
theorem hdX3_spareOf : yX3_spareOf.cls = RX3 ∧ yX3_spareOf.cls ≠ "java/lang/invoke/MethodHandle" ∧ yX3_spareOf.cls ≠ "java/lang/invoke/VarHandle" ∧ (parseMethodDescriptor yX3_spareOf.desc).map (fun d => d.parameters.length) = some 3 := by decide +kernel
set_option maxHeartbeats 4000000 in
set_option maxRecDepth 100000 in
theorem tX3_spareOf (l : Launch) (E : Ev) (hj : Inj kC E) (a1 : Int32) (a2 : Int32) (a3 : Int32) (σ : Sg) (r : Int32 × Sg) (h : fX3_spareOf a1 a2 a3 σ = some r) : CI l yX3_spareOf cX3_spareOf 7 (some FieldType.int) (rmk 1 22) kC E [.ref (eA E 12), .int a1, .int a2, .int a3] σ r := by
  refine CI_i (lv := [(0, .ref (eA E 12)), (1, .int a1), (2, .int a2), (3, .int a3)]) (by decide) hj (Nat.le_of_ble_eq_true rfl) rfl (fun p e s m args below meth c ls Q hF hret hH hl => ?_)
  have w26 : ∀ (n : Nat) (x2 x4 x5 x6 : Int32) (σ : Sg) (H : Heap) (locs : List Loc) (ls : Array Slot), it fX3_spareOf_L26 (fun _ _ _ _ _ => none) n x2 x4 x5 x6 σ = some r → HP kC E s σ H locs → lv_has ls 7 [(0, .ref (eA E 12)), (2, .int x2), (4, .int x4), (5, .int x5), (6, .int x6)] → W p l e (rmk 1 22) s m args below meth c H locs 0 0 Q (F0 m 26 ls []) := by
    intro n26
    induction n26 with
    | zero =>
      intro x2 x4 x5 x6 σ H locs ls h hH hl
      cases (show (none : Rs) = some r from h)
    | succ n26 ih26 =>
      have w80 : ∀ (x2 x4 x5 x6 : Int32) (σ : Sg) (H : Heap) (locs : List Loc) (ls : Array Slot), fX3_spareOf_80 (it fX3_spareOf_L26 (fun _ _ _ _ _ => none) n26) x2 x4 x5 x6 σ = some r → HP kC E s σ H locs → lv_has ls 7 [(0, .ref (eA E 12)), (2, .int x2), (4, .int x4), (5, .int x5), (6, .int x6)] → W p l e (rmk 1 22) s m args below meth c H locs 0 0 Q (F0 m 80 ls []) := by
        intro x2 x4 x5 x6 σ H locs ls h hH hl
        unfold fX3_spareOf_80 at h
        obtain ⟨y1, ey1⟩ : ∃ z : Int32, z = (x6 + 1) := ⟨_, rfl⟩
        replace h := sv_at h ey1
        refine lv_iinc (v := y1) (lv' := [(6, .int y1), (0, .ref (eA E 12)), (2, .int x2), (4, .int x4), (5, .int x5)]) hF.x hF.b dX3_spareOf_80 hl (k := 4) rfl (by rw [ey1]; rfl) (by decide) rfl (fun ls hl => ?_)
        clear ey1
        refine lv_goto (tgt := 26) hF.x hF.b dX3_spareOf_83 (by decide) ?_
        exact ih26 _ _ _ _ _ _ _ _ h hH (lv_sub hl [1, 2, 3, 4, 0] rfl)
      intro x2 x4 x5 x6 σ H locs ls h hH hl
      rw [it_eq] at h
      unfold fX3_spareOf_L26 at h
      refine lv_iload hF.x hF.b dX3_spareOf_26 (lv_at hl 4 rfl) ?_
      refine lv_aload_n hF.x hF.b dX3_spareOf_28 rfl (lv_at hl 0 rfl) ?_
      refine gfC_12_0 hF hH tk_141 dX3_spareOf_29 ?_
      refine gfC_1_4 hF hH tk_79 dX3_spareOf_32 ?_
      refine lv_icmp_ge (tgt := 86) hF.x hF.b dX3_spareOf_35 (by decide) (fun c2 => ?_) (fun c2 => ?_)
      · rw [if_pos c2] at h
        refine lv_iload hF.x hF.b dX3_spareOf_86 (lv_at hl 3 rfl) ?_
        exact hret _ _ _ _ _ _ hH h dX3_spareOf_88
      · rw [if_neg c2] at h
        refine lv_iload_n hF.x hF.b dX3_spareOf_38 rfl (lv_at hl 1 rfl) ?_
        refine lv_iload hF.x hF.b dX3_spareOf_39 (lv_at hl 4 rfl) ?_
        replace h := bd_some h
        obtain ⟨v3, σ4, hv3, h⟩ := h
        refine w_cNi (As := [.int x2, .int x6]) (rest := []) hF hH hl (tX5_bit l E hF.j _ _ _ _ hv3) (List.mem_of_getElem? (l := nestW) (i := 3) rfl) tk_227 tk_41 tk_228 rfl rfl hdX5_bit ⟨Nat.le_of_ble_eq_true rfl, Nat.le_of_ble_eq_true rfl⟩ rfl rfl (Nat.le_of_ble_eq_true rfl) dX3_spareOf_41 (fun H locs hH => ?_)
        refine lv_if_eq (tgt := 80) hF.x hF.b dX3_spareOf_44 (by decide) (fun c5 => ?_) (fun c5 => ?_)
        · rw [if_pos c5] at h
          exact w80 _ _ _ _ _ _ _ _ h hH (lv_sub hl [0, 1, 2, 3, 4] rfl)
        · rw [if_neg c5] at h
          refine lv_iload hF.x hF.b dX3_spareOf_47 (lv_at hl 2 rfl) ?_
          refine lv_aload_n hF.x hF.b dX3_spareOf_49 rfl (lv_at hl 0 rfl) ?_
          refine gfC_12_0 hF hH tk_141 dX3_spareOf_50 ?_
          refine gfC_1_5 hF hH tk_83 dX3_spareOf_53 ?_
          refine lv_iload hF.x hF.b dX3_spareOf_56 (lv_at hl 4 rfl) ?_
          refine alC_5 hF hH (gd_some h).1 dX3_spareOf_58 ?_
          replace h := (gd_some h).2
          replace h := bd_some h
          obtain ⟨v6, σ7, hv6, h⟩ := h
          refine w_cNi (As := [.int x4, .int (σ4 5 (Int32.toNatClampNeg x6))]) (rest := []) hF hH hl (tX5_bit l E hF.j _ _ _ _ hv6) (List.mem_of_getElem? (l := nestW) (i := 3) rfl) tk_227 tk_41 tk_228 rfl rfl hdX5_bit ⟨Nat.le_of_ble_eq_true rfl, Nat.le_of_ble_eq_true rfl⟩ rfl rfl (Nat.le_of_ble_eq_true rfl) dX3_spareOf_59 (fun H locs hH => ?_)
          refine lv_if_eq (tgt := 80) hF.x hF.b dX3_spareOf_62 (by decide) (fun c8 => ?_) (fun c8 => ?_)
          · rw [if_pos c8] at h
            exact w80 _ _ _ _ _ _ _ _ h hH (lv_sub hl [0, 1, 2, 3, 4] rfl)
          · rw [if_neg c8] at h
            refine lv_iload hF.x hF.b dX3_spareOf_65 (lv_at hl 3 rfl) ?_
            refine lv_aload_n hF.x hF.b dX3_spareOf_67 rfl (lv_at hl 0 rfl) ?_
            refine gfC_12_0 hF hH tk_141 dX3_spareOf_68 ?_
            refine gfC_1_7 hF hH tk_89 dX3_spareOf_71 ?_
            refine lv_iload hF.x hF.b dX3_spareOf_74 (lv_at hl 4 rfl) ?_
            refine alC_7 hF hH (gd_some h).1 dX3_spareOf_76 ?_
            replace h := (gd_some h).2
            refine lv_iadd hF.x hF.b dX3_spareOf_77 ?_
            refine lv_topi (fun y9 ey9 => ?_)
            replace h := sv_at h ey9
            clear ey9
            refine lv_istore (lv' := [(5, .int y9), (0, .ref (eA E 12)), (2, .int x2), (4, .int x4), (6, .int x6)]) hF.x hF.b dX3_spareOf_78 hl (by decide) rfl (fun ls hl => ?_)
            exact w80 _ _ _ _ _ _ _ _ h hH (lv_sub hl [1, 2, 3, 0, 4] rfl)
  unfold fX3_spareOf at h
  refine lv_aload_n hF.x hF.b dX3_spareOf_0 rfl (lv_at hl 0 rfl) ?_
  refine gfC_12_1 hF hH tk_142 dX3_spareOf_1 ?_
  refine lv_iload_n hF.x hF.b dX3_spareOf_4 rfl (lv_at hl 1 rfl) ?_
  refine lv_iload_n hF.x hF.b dX3_spareOf_5 rfl (lv_at hl 3 rfl) ?_
  replace h := bd_some h
  obtain ⟨v10, σ11, hv10, h⟩ := h
  refine w_cVi (As := [.int a1, .int a3]) (rest := []) hF hH hl 9 (by decide) rfl rfl (tX2_busesWith l E hF.j _ _ _ _ hv10) tk_292 tk_219 tk_220 tk_43 tk_221 rfl rfl hdX2_busesWith ⟨Nat.le_of_ble_eq_true rfl, Nat.le_of_ble_eq_true rfl⟩ rfl rfl (Nat.le_of_ble_eq_true rfl) dX3_spareOf_6 (fun H locs hH => ?_)
  refine lv_istore (lv' := [(4, .int v10), (0, .ref (eA E 12)), (1, .int a1), (2, .int a2), (3, .int a3)]) hF.x hF.b dX3_spareOf_9 hl (by decide) rfl (fun ls hl => ?_)
  refine lv_aload_n hF.x hF.b dX3_spareOf_11 rfl (lv_at hl 1 rfl) ?_
  refine gfC_12_1 hF hH tk_142 dX3_spareOf_12 ?_
  refine lv_iload_n hF.x hF.b dX3_spareOf_15 rfl (lv_at hl 2 rfl) ?_
  refine lv_iload_n hF.x hF.b dX3_spareOf_16 rfl (lv_at hl 4 rfl) ?_
  replace h := bd_some h
  obtain ⟨v12, σ13, hv12, h⟩ := h
  refine w_cVi (As := [.int a1, .int a3]) (rest := []) hF hH hl 9 (by decide) rfl rfl (tX2_drawAround l E hF.j _ _ _ _ hv12) tk_305 tk_223 tk_224 tk_43 tk_225 rfl rfl hdX2_drawAround ⟨Nat.le_of_ble_eq_true rfl, Nat.le_of_ble_eq_true rfl⟩ rfl rfl (Nat.le_of_ble_eq_true rfl) dX3_spareOf_17 (fun H locs hH => ?_)
  refine lv_ineg hF.x hF.b dX3_spareOf_20 ?_
  refine lv_topi (fun y14 ey14 => ?_)
  replace h := sv_at h ey14
  clear ey14
  refine lv_istore (lv' := [(5, .int y14), (4, .int v10), (0, .ref (eA E 12)), (1, .int a1), (2, .int a2), (3, .int a3)]) hF.x hF.b dX3_spareOf_21 hl (by decide) rfl (fun ls hl => ?_)
  refine lv_iconst (v := 0) hF.x hF.b dX3_spareOf_23 (by decide) ?_
  refine lv_istore (lv' := [(6, .int 0), (5, .int y14), (4, .int v10), (0, .ref (eA E 12)), (1, .int a1), (2, .int a2), (3, .int a3)]) hF.x hF.b dX3_spareOf_24 hl (by decide) rfl (fun ls hl => ?_)
  exact w26 _ _ _ _ _ _ _ _ _ h hH (lv_sub hl [3, 5, 2, 1, 0] rfl)
theorem hdX3_spare : yX3_spare.cls = RX3 ∧ yX3_spare.cls ≠ "java/lang/invoke/MethodHandle" ∧ yX3_spare.cls ≠ "java/lang/invoke/VarHandle" ∧ (parseMethodDescriptor yX3_spare.desc).map (fun d => d.parameters.length) = some 2 := by decide +kernel
set_option maxHeartbeats 4000000 in
set_option maxRecDepth 100000 in
theorem tX3_spare (l : Launch) (E : Ev) (hj : Inj kC E) (a1 : Int32) (a2 : Int32) (σ : Sg) (r : Int32 × Sg) (h : fX3_spare a1 a2 σ = some r) : CI l yX3_spare cX3_spare 3 (some FieldType.int) (rmk 3 63) kC E [.ref (eA E 12), .int a1, .int a2] σ r := by
  refine CI_i (lv := [(0, .ref (eA E 12)), (1, .int a1), (2, .int a2)]) (by decide) hj (Nat.le_of_ble_eq_true rfl) rfl (fun p e s m args below meth c ls Q hF hret hH hl => ?_)
  unfold fX3_spare at h
  refine lv_aload_n hF.x hF.b dX3_spare_0 rfl (lv_at hl 0 rfl) ?_
  refine lv_iload_n hF.x hF.b dX3_spare_1 rfl (lv_at hl 1 rfl) ?_
  replace h := bd_some h
  obtain ⟨v1, σ2, hv1, h⟩ := h
  refine w_cSi (As := [.int a1]) (rest := [.ref (eA E 12)]) hF hH hl (tX0_closed l E hF.j _ _ _ hv1) tk_291 tk_259 tk_48 tk_260 rfl rfl hdX0_closed ⟨Nat.le_of_ble_eq_true rfl, Nat.le_of_ble_eq_true rfl⟩ rfl rfl (Nat.le_of_ble_eq_true rfl) dX3_spare_2 (fun H locs hH => ?_)
  refine lv_iload_n hF.x hF.b dX3_spare_5 rfl (lv_at hl 1 rfl) ?_
  replace h := bd_some h
  obtain ⟨v3, σ4, hv3, h⟩ := h
  refine w_cSi (As := [.int a1]) (rest := [.int v1, .ref (eA E 12)]) hF hH hl (tX0_ready l E hF.j _ _ _ hv3) tk_297 tk_298 tk_48 tk_299 rfl rfl hdX0_ready ⟨Nat.le_of_ble_eq_true rfl, Nat.le_of_ble_eq_true rfl⟩ rfl rfl (Nat.le_of_ble_eq_true rfl) dX3_spare_6 (fun H locs hH => ?_)
  refine lv_iload_n hF.x hF.b dX3_spare_9 rfl (lv_at hl 2 rfl) ?_
  replace h := bd_some h
  obtain ⟨v5, σ6, hv5, h⟩ := h
  refine w_cVi (As := [.int v1, .int v3, .int a2]) (rest := []) hF hH hl 12 (by decide) rfl rfl (tX3_spareOf l E hF.j _ _ _ _ _ hv5) tk_301 tk_303 tk_1 tk_44 tk_304 rfl rfl hdX3_spareOf ⟨Nat.le_of_ble_eq_true rfl, Nat.le_of_ble_eq_true rfl⟩ rfl rfl (Nat.le_of_ble_eq_true rfl) dX3_spare_10 (fun H locs hH => ?_)
  exact hret _ _ _ _ _ _ hH h dX3_spare_13
theorem hdX3_isTold : yX3_isTold.cls = RX3 ∧ yX3_isTold.cls ≠ "java/lang/invoke/MethodHandle" ∧ yX3_isTold.cls ≠ "java/lang/invoke/VarHandle" ∧ (parseMethodDescriptor yX3_isTold.desc).map (fun d => d.parameters.length) = some 1 := by decide +kernel
set_option maxHeartbeats 4000000 in
set_option maxRecDepth 100000 in
theorem tX3_isTold (l : Launch) (E : Ev) (hj : Inj kC E) (a1 : Int32) (σ : Sg) (r : Int32 × Sg) (h : fX3_isTold a1 σ = some r) : CI l yX3_isTold cX3_isTold 2 (some FieldType.boolean) (rmk 1 21) kC E [.ref (eA E 12), .int a1] σ r := by
  refine CI_z (lv := [(0, .ref (eA E 12)), (1, .int a1)]) (by decide) hj (Nat.le_of_ble_eq_true rfl) rfl (fun p e s m args below meth c ls Q hF hret hH hl => ?_)
  have w39 : ∀ (t0 : Int32) (σ : Sg) (H : Heap) (locs : List Loc) (ls : Array Slot), fX3_isTold_39 t0 σ = some r → HP kC E s σ H locs → lv_has ls 2 [(0, .ref (eA E 12))] → W p l e (rmk 1 21) s m args below meth c H locs 0 0 Q (F0 m 39 ls [.int t0]) := by
    intro t0 σ H locs ls h hH hl
    unfold fX3_isTold_39 at h
    exact hret _ _ _ _ _ _ hH h dX3_isTold_39
  have w34 : ∀ (σ : Sg) (H : Heap) (locs : List Loc) (ls : Array Slot), fX3_isTold_34 σ = some r → HP kC E s σ H locs → lv_has ls 2 [(0, .ref (eA E 12))] → W p l e (rmk 1 21) s m args below meth c H locs 0 0 Q (F0 m 34 ls []) := by
    intro σ H locs ls h hH hl
    unfold fX3_isTold_34 at h
    refine lv_iconst (v := 1) hF.x hF.b dX3_isTold_34 (by decide) ?_
    refine lv_goto (tgt := 39) hF.x hF.b dX3_isTold_35 (by decide) ?_
    exact w39 _ _ _ _ _ h hH (lv_sub hl [0] rfl)
  unfold fX3_isTold at h
  refine lv_iload_n hF.x hF.b dX3_isTold_0 rfl (lv_at hl 1 rfl) ?_
  refine lv_iconst (v := 4) hF.x hF.b dX3_isTold_1 (by decide) ?_
  refine lv_icmp_lt (tgt := 16) hF.x hF.b dX3_isTold_2 (by decide) (fun c1 => ?_) (fun c1 => ?_)
  · rw [if_pos c1] at h
    refine lv_iload_n hF.x hF.b dX3_isTold_16 rfl (lv_at hl 1 rfl) ?_
    refine lv_iconst (v := 1) hF.x hF.b dX3_isTold_17 (by decide) ?_
    refine lv_icmp_lt (tgt := 34) hF.x hF.b dX3_isTold_18 (by decide) (fun c2 => ?_) (fun c2 => ?_)
    · rw [if_pos c2] at h
      exact w34 _ _ _ _ h hH (lv_sub hl [0] rfl)
    · rw [if_neg c2] at h
      refine lv_aload_n hF.x hF.b dX3_isTold_21 rfl (lv_at hl 0 rfl) ?_
      refine gfC_12_0 hF hH tk_141 dX3_isTold_22 ?_
      refine lv_iload_n hF.x hF.b dX3_isTold_25 rfl (lv_at hl 1 rfl) ?_
      refine lv_iconst (v := 1) hF.x hF.b dX3_isTold_26 (by decide) ?_
      refine lv_isub hF.x hF.b dX3_isTold_27 ?_
      replace h := bd_some h
      obtain ⟨v3, σ4, hv3, h⟩ := h
      refine w_cVi (As := [.int (a1 - (1 : Int32))]) (rest := []) hF hH hl 1 (by decide) rfl rfl (tX1_hasMachine l E hF.j _ _ _ hv3) tk_334 tk_267 tk_268 tk_42 tk_269 rfl rfl hdX1_hasMachine ⟨Nat.le_of_ble_eq_true rfl, Nat.le_of_ble_eq_true rfl⟩ rfl rfl (Nat.le_of_ble_eq_true rfl) dX3_isTold_28 (fun H locs hH => ?_)
      refine lv_if_eq (tgt := 38) hF.x hF.b dX3_isTold_31 (by decide) (fun c5 => ?_) (fun c5 => ?_)
      · rw [if_pos c5] at h
        refine lv_iconst (v := 0) hF.x hF.b dX3_isTold_38 (by decide) ?_
        exact w39 _ _ _ _ _ h hH (lv_sub hl [0] rfl)
      · rw [if_neg c5] at h
        exact w34 _ _ _ _ h hH (lv_sub hl [0] rfl)
  · rw [if_neg c1] at h
    refine lv_aload_n hF.x hF.b dX3_isTold_5 rfl (lv_at hl 0 rfl) ?_
    refine gfC_12_0 hF hH tk_141 dX3_isTold_6 ?_
    refine lv_iload_n hF.x hF.b dX3_isTold_9 rfl (lv_at hl 1 rfl) ?_
    refine lv_iconst (v := 4) hF.x hF.b dX3_isTold_10 (by decide) ?_
    refine lv_isub hF.x hF.b dX3_isTold_11 ?_
    replace h := bd_some h
    obtain ⟨v6, σ7, hv6, h⟩ := h
    refine w_cVi (As := [.int (a1 - (4 : Int32))]) (rest := []) hF hH hl 1 (by decide) rfl rfl (tX1_hasLine l E hF.j _ _ _ hv6) tk_333 tk_255 tk_256 tk_42 tk_257 rfl rfl hdX1_hasLine ⟨Nat.le_of_ble_eq_true rfl, Nat.le_of_ble_eq_true rfl⟩ rfl rfl (Nat.le_of_ble_eq_true rfl) dX3_isTold_12 (fun H locs hH => ?_)
    exact hret _ _ _ _ _ _ hH h dX3_isTold_15
theorem hdX3_canCrank : yX3_canCrank.cls = RX3 ∧ yX3_canCrank.cls ≠ "java/lang/invoke/MethodHandle" ∧ yX3_canCrank.cls ≠ "java/lang/invoke/VarHandle" ∧ (parseMethodDescriptor yX3_canCrank.desc).map (fun d => d.parameters.length) = some 4 := by decide +kernel
set_option maxHeartbeats 4000000 in
set_option maxRecDepth 100000 in
theorem tX3_canCrank (l : Launch) (E : Ev) (hj : Inj kC E) (a1 : Int32) (a2 : Int32) (a3 : Int32) (a4 : Int32) (σ : Sg) (r : Int32 × Sg) (h : fX3_canCrank a1 a2 a3 a4 σ = some r) : CI l yX3_canCrank cX3_canCrank 7 (some FieldType.boolean) (rmk 2 48) kC E [.ref (eA E 12), .int a1, .int a2, .int a3, .int a4] σ r := by
  refine CI_z (lv := [(0, .ref (eA E 12)), (1, .int a1), (2, .int a2), (3, .int a3), (4, .int a4)]) (by decide) hj (Nat.le_of_ble_eq_true rfl) rfl (fun p e s m args below meth c ls Q hF hret hH hl => ?_)
  have w56 : ∀ (t0 : Int32) (σ : Sg) (H : Heap) (locs : List Loc) (ls : Array Slot), fX3_canCrank_56 t0 σ = some r → HP kC E s σ H locs → lv_has ls 7 [(0, .ref (eA E 12))] → W p l e (rmk 2 48) s m args below meth c H locs 0 0 Q (F0 m 56 ls [.int t0]) := by
    intro t0 σ H locs ls h hH hl
    unfold fX3_canCrank_56 at h
    exact hret _ _ _ _ _ _ hH h dX3_canCrank_56
  have w51 : ∀ (σ : Sg) (H : Heap) (locs : List Loc) (ls : Array Slot), fX3_canCrank_51 σ = some r → HP kC E s σ H locs → lv_has ls 7 [(0, .ref (eA E 12))] → W p l e (rmk 2 48) s m args below meth c H locs 0 0 Q (F0 m 51 ls []) := by
    intro σ H locs ls h hH hl
    unfold fX3_canCrank_51 at h
    refine lv_iconst (v := 1) hF.x hF.b dX3_canCrank_51 (by decide) ?_
    refine lv_goto (tgt := 56) hF.x hF.b dX3_canCrank_52 (by decide) ?_
    exact w56 _ _ _ _ _ h hH (lv_sub hl [0] rfl)
  have w55 : ∀ (σ : Sg) (H : Heap) (locs : List Loc) (ls : Array Slot), fX3_canCrank_55 σ = some r → HP kC E s σ H locs → lv_has ls 7 [(0, .ref (eA E 12))] → W p l e (rmk 2 48) s m args below meth c H locs 0 0 Q (F0 m 55 ls []) := by
    intro σ H locs ls h hH hl
    unfold fX3_canCrank_55 at h
    refine lv_iconst (v := 0) hF.x hF.b dX3_canCrank_55 (by decide) ?_
    exact w56 _ _ _ _ _ h hH (lv_sub hl [0] rfl)
  unfold fX3_canCrank at h
  refine lv_aload_n hF.x hF.b dX3_canCrank_0 rfl (lv_at hl 0 rfl) ?_
  refine gfC_12_0 hF hH tk_141 dX3_canCrank_1 ?_
  refine gfC_1_6 hF hH tk_87 dX3_canCrank_4 ?_
  refine lv_iload hF.x hF.b dX3_canCrank_7 (lv_at hl 4 rfl) ?_
  refine alC_6 hF hH (gd_some h).1 dX3_canCrank_9 ?_
  replace h := (gd_some h).2
  refine lv_topi (fun y1 ey1 => ?_)
  replace h := sv_at h ey1
  clear ey1
  refine lv_istore (lv' := [(5, .int y1), (0, .ref (eA E 12)), (1, .int a1), (2, .int a2), (3, .int a3), (4, .int a4)]) hF.x hF.b dX3_canCrank_10 hl (by decide) rfl (fun ls hl => ?_)
  refine lv_aload_n hF.x hF.b dX3_canCrank_12 rfl (lv_at hl 1 rfl) ?_
  refine gfC_12_0 hF hH tk_141 dX3_canCrank_13 ?_
  refine gfC_1_5 hF hH tk_83 dX3_canCrank_16 ?_
  refine lv_iload hF.x hF.b dX3_canCrank_19 (lv_at hl 5 rfl) ?_
  refine alC_5 hF hH (gd_some h).1 dX3_canCrank_21 ?_
  replace h := (gd_some h).2
  refine lv_topi (fun y2 ey2 => ?_)
  replace h := sv_at h ey2
  clear ey2
  refine lv_istore (lv' := [(6, .int y2), (5, .int y1), (0, .ref (eA E 12)), (1, .int a1), (2, .int a2), (3, .int a3), (4, .int a4)]) hF.x hF.b dX3_canCrank_22 hl (by decide) rfl (fun ls hl => ?_)
  refine lv_iload hF.x hF.b dX3_canCrank_24 (lv_at hl 1 rfl) ?_
  refine lv_if_eq (tgt := 51) hF.x hF.b dX3_canCrank_26 (by decide) (fun c3 => ?_) (fun c3 => ?_)
  · rw [if_pos c3] at h
    exact w51 _ _ _ _ h hH (lv_sub hl [2] rfl)
  · rw [if_neg c3] at h
    refine lv_iload_n hF.x hF.b dX3_canCrank_29 rfl (lv_at hl 5 rfl) ?_
    refine lv_iload hF.x hF.b dX3_canCrank_30 (lv_at hl 0 rfl) ?_
    replace h := bd_some h
    obtain ⟨v4, σ5, hv4, h⟩ := h
    refine w_cNi (As := [.int a3, .int y2]) (rest := []) hF hH hl (tX5_bit l E hF.j _ _ _ _ hv4) (List.mem_of_getElem? (l := nestW) (i := 3) rfl) tk_227 tk_41 tk_228 rfl rfl hdX5_bit ⟨Nat.le_of_ble_eq_true rfl, Nat.le_of_ble_eq_true rfl⟩ rfl rfl (Nat.le_of_ble_eq_true rfl) dX3_canCrank_32 (fun H locs hH => ?_)
    refine lv_if_eq (tgt := 55) hF.x hF.b dX3_canCrank_35 (by decide) (fun c6 => ?_) (fun c6 => ?_)
    · rw [if_pos c6] at h
      exact w55 _ _ _ _ h hH (lv_sub hl [2] rfl)
    · rw [if_neg c6] at h
      refine lv_aload_n hF.x hF.b dX3_canCrank_38 rfl (lv_at hl 2 rfl) ?_
      refine lv_iload_n hF.x hF.b dX3_canCrank_39 rfl (lv_at hl 3 rfl) ?_
      refine lv_iload_n hF.x hF.b dX3_canCrank_40 rfl (lv_at hl 4 rfl) ?_
      refine lv_iload hF.x hF.b dX3_canCrank_41 (lv_at hl 0 rfl) ?_
      replace h := bd_some h
      obtain ⟨v7, σ8, hv7, h⟩ := h
      refine w_cVi (As := [.int a1, .int a2, .int y2]) (rest := []) hF hH hl 12 (by decide) rfl rfl (tX3_spareOf l E hF.j _ _ _ _ _ hv7) tk_301 tk_303 tk_1 tk_44 tk_304 rfl rfl hdX3_spareOf ⟨Nat.le_of_ble_eq_true rfl, Nat.le_of_ble_eq_true rfl⟩ rfl rfl (Nat.le_of_ble_eq_true rfl) dX3_canCrank_43 (fun H locs hH => ?_)
      refine lv_iload hF.x hF.b dX3_canCrank_46 (lv_at hl 1 rfl) ?_
      refine lv_icmp_lt (tgt := 55) hF.x hF.b dX3_canCrank_48 (by decide) (fun c9 => ?_) (fun c9 => ?_)
      · rw [if_pos c9] at h
        exact w55 _ _ _ _ h hH (lv_sub hl [2] rfl)
      · rw [if_neg c9] at h
        exact w51 _ _ _ _ h hH (lv_sub hl [2] rfl)
theorem hdX3_canCarry : yX3_canCarry.cls = RX3 ∧ yX3_canCarry.cls ≠ "java/lang/invoke/MethodHandle" ∧ yX3_canCarry.cls ≠ "java/lang/invoke/VarHandle" ∧ (parseMethodDescriptor yX3_canCarry.desc).map (fun d => d.parameters.length) = some 4 := by decide +kernel
set_option maxHeartbeats 4000000 in
set_option maxRecDepth 100000 in
theorem tX3_canCarry (l : Launch) (E : Ev) (hj : Inj kC E) (a1 : Int32) (a2 : Int32) (a3 : Int32) (a4 : Int32) (σ : Sg) (r : Int32 × Sg) (h : fX3_canCarry a1 a2 a3 a4 σ = some r) : CI l yX3_canCarry cX3_canCarry 7 (some FieldType.boolean) (rmk 2 48) kC E [.ref (eA E 12), .int a1, .int a2, .int a3, .int a4] σ r := by
  refine CI_z (lv := [(0, .ref (eA E 12)), (1, .int a1), (2, .int a2), (3, .int a3), (4, .int a4)]) (by decide) hj (Nat.le_of_ble_eq_true rfl) rfl (fun p e s m args below meth c ls Q hF hret hH hl => ?_)
  have w71 : ∀ (t0 : Int32) (σ : Sg) (H : Heap) (locs : List Loc) (ls : Array Slot), fX3_canCarry_71 t0 σ = some r → HP kC E s σ H locs → lv_has ls 7 [(0, .ref (eA E 12))] → W p l e (rmk 2 48) s m args below meth c H locs 0 0 Q (F0 m 71 ls [.int t0]) := by
    intro t0 σ H locs ls h hH hl
    unfold fX3_canCarry_71 at h
    exact hret _ _ _ _ _ _ hH h dX3_canCarry_71
  have w70 : ∀ (σ : Sg) (H : Heap) (locs : List Loc) (ls : Array Slot), fX3_canCarry_70 σ = some r → HP kC E s σ H locs → lv_has ls 7 [(0, .ref (eA E 12))] → W p l e (rmk 2 48) s m args below meth c H locs 0 0 Q (F0 m 70 ls []) := by
    intro σ H locs ls h hH hl
    unfold fX3_canCarry_70 at h
    refine lv_iconst (v := 0) hF.x hF.b dX3_canCarry_70 (by decide) ?_
    exact w71 _ _ _ _ _ h hH (lv_sub hl [0] rfl)
  have w43 : ∀ (x1 x2 x4 x5 t0 : Int32) (σ : Sg) (H : Heap) (locs : List Loc) (ls : Array Slot), fX3_canCarry_43 x1 x2 x4 x5 t0 σ = some r → HP kC E s σ H locs → lv_has ls 7 [(0, .ref (eA E 12)), (1, .int x1), (2, .int x2), (4, .int x4), (5, .int x5)] → W p l e (rmk 2 48) s m args below meth c H locs 0 0 Q (F0 m 43 ls [.int t0]) := by
    intro x1 x2 x4 x5 t0 σ H locs ls h hH hl
    unfold fX3_canCarry_43 at h
    refine lv_istore (lv' := [(6, .int t0), (0, .ref (eA E 12)), (1, .int x1), (2, .int x2), (4, .int x4), (5, .int x5)]) hF.x hF.b dX3_canCarry_43 hl (by decide) rfl (fun ls hl => ?_)
    refine lv_iload hF.x hF.b dX3_canCarry_45 (lv_at hl 0 rfl) ?_
    refine lv_if_eq (tgt := 70) hF.x hF.b dX3_canCarry_47 (by decide) (fun c1 => ?_) (fun c1 => ?_)
    · rw [if_pos c1] at h
      exact w70 _ _ _ _ h hH (lv_sub hl [1] rfl)
    · rw [if_neg c1] at h
      refine lv_aload_n hF.x hF.b dX3_canCarry_50 rfl (lv_at hl 1 rfl) ?_
      refine lv_iload_n hF.x hF.b dX3_canCarry_51 rfl (lv_at hl 2 rfl) ?_
      refine lv_iconst (v := 1) hF.x hF.b dX3_canCarry_52 (by decide) ?_
      refine lv_iload hF.x hF.b dX3_canCarry_53 (lv_at hl 4 rfl) ?_
      refine lv_ishl hF.x hF.b dX3_canCarry_55 ?_
      refine lv_ior hF.x hF.b dX3_canCarry_56 ?_
      refine lv_iload_n hF.x hF.b dX3_canCarry_57 rfl (lv_at hl 3 rfl) ?_
      refine lv_iload hF.x hF.b dX3_canCarry_58 (lv_at hl 5 rfl) ?_
      replace h := bd_some h
      obtain ⟨v2, σ3, hv2, h⟩ := h
      refine w_cVi (As := [.int (x1 ||| ((1 : Int32) <<< (x4 &&& 31))), .int x2, .int x5]) (rest := []) hF hH hl 12 (by decide) rfl rfl (tX3_spareOf l E hF.j _ _ _ _ _ hv2) tk_301 tk_303 tk_1 tk_44 tk_304 rfl rfl hdX3_spareOf ⟨Nat.le_of_ble_eq_true rfl, Nat.le_of_ble_eq_true rfl⟩ rfl rfl (Nat.le_of_ble_eq_true rfl) dX3_canCarry_60 (fun H locs hH => ?_)
      refine lv_if_lt (tgt := 70) hF.x hF.b dX3_canCarry_63 (by decide) (fun c4 => ?_) (fun c4 => ?_)
      · rw [if_pos c4] at h
        exact w70 _ _ _ _ h hH (lv_sub hl [1] rfl)
      · rw [if_neg c4] at h
        refine lv_iconst (v := 1) hF.x hF.b dX3_canCarry_66 (by decide) ?_
        refine lv_goto (tgt := 71) hF.x hF.b dX3_canCarry_67 (by decide) ?_
        exact w71 _ _ _ _ _ h hH (lv_sub hl [1] rfl)
  have w38 : ∀ (x1 x2 x4 x5 : Int32) (σ : Sg) (H : Heap) (locs : List Loc) (ls : Array Slot), fX3_canCarry_38 x1 x2 x4 x5 σ = some r → HP kC E s σ H locs → lv_has ls 7 [(0, .ref (eA E 12)), (1, .int x1), (2, .int x2), (4, .int x4), (5, .int x5)] → W p l e (rmk 2 48) s m args below meth c H locs 0 0 Q (F0 m 38 ls []) := by
    intro x1 x2 x4 x5 σ H locs ls h hH hl
    unfold fX3_canCarry_38 at h
    refine lv_iconst (v := 1) hF.x hF.b dX3_canCarry_38 (by decide) ?_
    refine lv_goto (tgt := 43) hF.x hF.b dX3_canCarry_39 (by decide) ?_
    exact w43 _ _ _ _ _ _ _ _ _ h hH (lv_sub hl [0, 1, 2, 3, 4] rfl)
  unfold fX3_canCarry at h
  refine lv_aload_n hF.x hF.b dX3_canCarry_0 rfl (lv_at hl 0 rfl) ?_
  refine gfC_12_0 hF hH tk_141 dX3_canCarry_1 ?_
  refine gfC_1_1 hF hH tk_71 dX3_canCarry_4 ?_
  refine lv_iload hF.x hF.b dX3_canCarry_7 (lv_at hl 4 rfl) ?_
  refine alC_2 hF hH (gd_some h).1 dX3_canCarry_9 ?_
  replace h := (gd_some h).2
  refine lv_topi (fun y5 ey5 => ?_)
  replace h := sv_at h ey5
  clear ey5
  refine lv_istore (lv' := [(5, .int y5), (0, .ref (eA E 12)), (1, .int a1), (2, .int a2), (3, .int a3), (4, .int a4)]) hF.x hF.b dX3_canCarry_10 hl (by decide) rfl (fun ls hl => ?_)
  refine lv_iload_n hF.x hF.b dX3_canCarry_12 rfl (lv_at hl 4 rfl) ?_
  refine lv_iload hF.x hF.b dX3_canCarry_13 (lv_at hl 0 rfl) ?_
  replace h := bd_some h
  obtain ⟨v6, σ7, hv6, h⟩ := h
  refine w_cNi (As := [.int a3, .int y5]) (rest := []) hF hH hl (tX5_bit l E hF.j _ _ _ _ hv6) (List.mem_of_getElem? (l := nestW) (i := 3) rfl) tk_227 tk_41 tk_228 rfl rfl hdX5_bit ⟨Nat.le_of_ble_eq_true rfl, Nat.le_of_ble_eq_true rfl⟩ rfl rfl (Nat.le_of_ble_eq_true rfl) dX3_canCarry_15 (fun H locs hH => ?_)
  refine lv_if_ne (tgt := 38) hF.x hF.b dX3_canCarry_18 (by decide) (fun c8 => ?_) (fun c8 => ?_)
  · rw [if_neg c8] at h
    exact w38 _ _ _ _ _ _ _ _ h hH (lv_sub hl [1, 2, 3, 5, 0] rfl)
  · rw [if_pos c8] at h
    refine lv_iload_n hF.x hF.b dX3_canCarry_21 rfl (lv_at hl 4 rfl) ?_
    refine lv_aload_n hF.x hF.b dX3_canCarry_22 rfl (lv_at hl 1 rfl) ?_
    refine gfC_12_0 hF hH tk_141 dX3_canCarry_23 ?_
    refine gfC_1_2 hF hH tk_75 dX3_canCarry_26 ?_
    refine lv_iload hF.x hF.b dX3_canCarry_29 (lv_at hl 5 rfl) ?_
    refine alC_3 hF hH (gd_some h).1 dX3_canCarry_31 ?_
    replace h := (gd_some h).2
    replace h := bd_some h
    obtain ⟨v9, σ10, hv9, h⟩ := h
    refine w_cNi (As := [.int a3, .int (σ7 3 (Int32.toNatClampNeg a4))]) (rest := []) hF hH hl (tX5_bit l E hF.j _ _ _ _ hv9) (List.mem_of_getElem? (l := nestW) (i := 3) rfl) tk_227 tk_41 tk_228 rfl rfl hdX5_bit ⟨Nat.le_of_ble_eq_true rfl, Nat.le_of_ble_eq_true rfl⟩ rfl rfl (Nat.le_of_ble_eq_true rfl) dX3_canCarry_32 (fun H locs hH => ?_)
    refine lv_if_eq (tgt := 42) hF.x hF.b dX3_canCarry_35 (by decide) (fun c11 => ?_) (fun c11 => ?_)
    · rw [if_pos c11] at h
      refine lv_iconst (v := 0) hF.x hF.b dX3_canCarry_42 (by decide) ?_
      exact w43 _ _ _ _ _ _ _ _ _ h hH (lv_sub hl [1, 2, 3, 5, 0] rfl)
    · rw [if_neg c11] at h
      exact w38 _ _ _ _ _ _ _ _ h hH (lv_sub hl [1, 2, 3, 5, 0] rfl)
theorem hdX3_stepsFrom : yX3_stepsFrom.cls = RX3 ∧ yX3_stepsFrom.cls ≠ "java/lang/invoke/MethodHandle" ∧ yX3_stepsFrom.cls ≠ "java/lang/invoke/VarHandle" ∧ (parseMethodDescriptor yX3_stepsFrom.desc).map (fun d => d.parameters.length) = some 1 := by decide +kernel
set_option maxHeartbeats 4000000 in
set_option maxRecDepth 100000 in
theorem tX3_stepsFrom (l : Launch) (E : Ev) (hj : Inj kC E) (a1 : Int32) (σ : Sg) (r : Int32 × Sg) (h : fX3_stepsFrom a1 σ = some r) : CI l yX3_stepsFrom cX3_stepsFrom 8 (some FieldType.int) (rmk 3 74) kC E [.ref (eA E 12), .int a1] σ r := by
  refine CI_i (lv := [(0, .ref (eA E 12)), (1, .int a1)]) (by decide) hj (Nat.le_of_ble_eq_true rfl) rfl (fun p e s m args below meth c ls Q hF hret hH hl => ?_)
  have w84 : ∀ (n : Nat) (x2 x4 x5 x6 x7 : Int32) (σ : Sg) (H : Heap) (locs : List Loc) (ls : Array Slot), it fX3_stepsFrom_L84 (fun _ _ _ _ _ _ => none) n x2 x4 x5 x6 x7 σ = some r → HP kC E s σ H locs → lv_has ls 8 [(0, .ref (eA E 12)), (2, .int x2), (4, .int x4), (5, .int x5), (6, .int x6), (7, .int x7)] → W p l e (rmk 3 74) s m args below meth c H locs 0 0 Q (F0 m 84 ls []) := by
    intro n84
    induction n84 with
    | zero =>
      intro x2 x4 x5 x6 x7 σ H locs ls h hH hl
      cases (show (none : Rs) = some r from h)
    | succ n84 ih84 =>
      have w130 : ∀ (x2 x4 x5 x6 x7 : Int32) (σ : Sg) (H : Heap) (locs : List Loc) (ls : Array Slot), fX3_stepsFrom_130 (it fX3_stepsFrom_L84 (fun _ _ _ _ _ _ => none) n84) x2 x4 x5 x6 x7 σ = some r → HP kC E s σ H locs → lv_has ls 8 [(0, .ref (eA E 12)), (2, .int x2), (4, .int x4), (5, .int x5), (6, .int x6), (7, .int x7)] → W p l e (rmk 3 74) s m args below meth c H locs 0 0 Q (F0 m 130 ls []) := by
        intro x2 x4 x5 x6 x7 σ H locs ls h hH hl
        unfold fX3_stepsFrom_130 at h
        obtain ⟨y1, ey1⟩ : ∃ z : Int32, z = (x7 + 1) := ⟨_, rfl⟩
        replace h := sv_at h ey1
        refine lv_iinc (v := y1) (lv' := [(7, .int y1), (0, .ref (eA E 12)), (2, .int x2), (4, .int x4), (5, .int x5), (6, .int x6)]) hF.x hF.b dX3_stepsFrom_130 hl (k := 5) rfl (by rw [ey1]; rfl) (by decide) rfl (fun ls hl => ?_)
        clear ey1
        refine lv_goto (tgt := 84) hF.x hF.b dX3_stepsFrom_133 (by decide) ?_
        exact ih84 _ _ _ _ _ _ _ _ _ h hH (lv_sub hl [1, 2, 3, 4, 5, 0] rfl)
      intro x2 x4 x5 x6 x7 σ H locs ls h hH hl
      rw [it_eq] at h
      unfold fX3_stepsFrom_L84 at h
      refine lv_iload hF.x hF.b dX3_stepsFrom_84 (lv_at hl 5 rfl) ?_
      refine lv_aload_n hF.x hF.b dX3_stepsFrom_86 rfl (lv_at hl 0 rfl) ?_
      refine gfC_12_0 hF hH tk_141 dX3_stepsFrom_87 ?_
      refine gfC_1_0 hF hH tk_67 dX3_stepsFrom_90 ?_
      refine lv_icmp_ge (tgt := 136) hF.x hF.b dX3_stepsFrom_93 (by decide) (fun c2 => ?_) (fun c2 => ?_)
      · rw [if_pos c2] at h
        refine lv_iload hF.x hF.b dX3_stepsFrom_136 (lv_at hl 4 rfl) ?_
        exact hret _ _ _ _ _ _ hH h dX3_stepsFrom_138
      · rw [if_neg c2] at h
        refine lv_iload_n hF.x hF.b dX3_stepsFrom_96 rfl (lv_at hl 1 rfl) ?_
        refine lv_iload hF.x hF.b dX3_stepsFrom_97 (lv_at hl 5 rfl) ?_
        replace h := bd_some h
        obtain ⟨v3, σ4, hv3, h⟩ := h
        refine w_cNi (As := [.int x2, .int x7]) (rest := []) hF hH hl (tX5_bit l E hF.j _ _ _ _ hv3) (List.mem_of_getElem? (l := nestW) (i := 3) rfl) tk_227 tk_41 tk_228 rfl rfl hdX5_bit ⟨Nat.le_of_ble_eq_true rfl, Nat.le_of_ble_eq_true rfl⟩ rfl rfl (Nat.le_of_ble_eq_true rfl) dX3_stepsFrom_99 (fun H locs hH => ?_)
        refine lv_if_ne (tgt := 130) hF.x hF.b dX3_stepsFrom_102 (by decide) (fun c5 => ?_) (fun c5 => ?_)
        · rw [if_neg c5] at h
          exact w130 _ _ _ _ _ _ _ _ _ h hH (lv_sub hl [0, 1, 2, 3, 4, 5] rfl)
        · rw [if_pos c5] at h
          refine lv_aload_n hF.x hF.b dX3_stepsFrom_105 rfl (lv_at hl 0 rfl) ?_
          refine lv_iload_n hF.x hF.b dX3_stepsFrom_106 rfl (lv_at hl 1 rfl) ?_
          refine lv_iload hF.x hF.b dX3_stepsFrom_107 (lv_at hl 2 rfl) ?_
          refine lv_iload hF.x hF.b dX3_stepsFrom_109 (lv_at hl 3 rfl) ?_
          refine lv_iload hF.x hF.b dX3_stepsFrom_111 (lv_at hl 5 rfl) ?_
          replace h := bd_some h
          obtain ⟨v6, σ7, hv6, h⟩ := h
          refine w_cVi (As := [.int x2, .int x4, .int x5, .int x7]) (rest := []) hF hH hl 12 (by decide) rfl rfl (tX3_canCarry l E hF.j _ _ _ _ _ _ hv6) tk_321 tk_323 tk_3 tk_44 tk_324 rfl rfl hdX3_canCarry ⟨Nat.le_of_ble_eq_true rfl, Nat.le_of_ble_eq_true rfl⟩ rfl rfl (Nat.le_of_ble_eq_true rfl) dX3_stepsFrom_113 (fun H locs hH => ?_)
          refine lv_if_eq (tgt := 130) hF.x hF.b dX3_stepsFrom_116 (by decide) (fun c8 => ?_) (fun c8 => ?_)
          · rw [if_pos c8] at h
            exact w130 _ _ _ _ _ _ _ _ _ h hH (lv_sub hl [0, 1, 2, 3, 4, 5] rfl)
          · rw [if_neg c8] at h
            refine lv_iload hF.x hF.b dX3_stepsFrom_119 (lv_at hl 4 rfl) ?_
            refine lv_iconst (v := 1) hF.x hF.b dX3_stepsFrom_121 (by decide) ?_
            refine lv_iconst (v := 4) hF.x hF.b dX3_stepsFrom_122 (by decide) ?_
            refine lv_iload hF.x hF.b dX3_stepsFrom_123 (lv_at hl 5 rfl) ?_
            refine lv_iadd hF.x hF.b dX3_stepsFrom_125 ?_
            refine lv_ishl hF.x hF.b dX3_stepsFrom_126 ?_
            refine lv_ior hF.x hF.b dX3_stepsFrom_127 ?_
            refine lv_topi (fun y9 ey9 => ?_)
            replace h := sv_at h ey9
            clear ey9
            refine lv_istore (lv' := [(6, .int y9), (0, .ref (eA E 12)), (2, .int x2), (4, .int x4), (5, .int x5), (7, .int x7)]) hF.x hF.b dX3_stepsFrom_128 hl (by decide) rfl (fun ls hl => ?_)
            exact w130 _ _ _ _ _ _ _ _ _ h hH (lv_sub hl [1, 2, 3, 4, 0, 5] rfl)
  have w29 : ∀ (n : Nat) (x2 x3 x4 x5 x6 x7 : Int32) (σ : Sg) (H : Heap) (locs : List Loc) (ls : Array Slot), it fX3_stepsFrom_L29 (fun _ _ _ _ _ _ _ => none) n x2 x3 x4 x5 x6 x7 σ = some r → HP kC E s σ H locs → lv_has ls 8 [(0, .ref (eA E 12)), (2, .int x2), (3, .int x3), (4, .int x4), (5, .int x5), (6, .int x6), (7, .int x7)] → W p l e (rmk 3 74) s m args below meth c H locs 0 0 Q (F0 m 29 ls []) := by
    intro n29
    induction n29 with
    | zero =>
      intro x2 x3 x4 x5 x6 x7 σ H locs ls h hH hl
      cases (show (none : Rs) = some r from h)
    | succ n29 ih29 =>
      have w75 : ∀ (x2 x3 x4 x5 x6 x7 : Int32) (σ : Sg) (H : Heap) (locs : List Loc) (ls : Array Slot), fX3_stepsFrom_75 (it fX3_stepsFrom_L29 (fun _ _ _ _ _ _ _ => none) n29) x2 x3 x4 x5 x6 x7 σ = some r → HP kC E s σ H locs → lv_has ls 8 [(0, .ref (eA E 12)), (2, .int x2), (3, .int x3), (4, .int x4), (5, .int x5), (6, .int x6), (7, .int x7)] → W p l e (rmk 3 74) s m args below meth c H locs 0 0 Q (F0 m 75 ls []) := by
        intro x2 x3 x4 x5 x6 x7 σ H locs ls h hH hl
        unfold fX3_stepsFrom_75 at h
        obtain ⟨y10, ey10⟩ : ∃ z : Int32, z = (x7 + 1) := ⟨_, rfl⟩
        replace h := sv_at h ey10
        refine lv_iinc (v := y10) (lv' := [(7, .int y10), (0, .ref (eA E 12)), (2, .int x2), (3, .int x3), (4, .int x4), (5, .int x5), (6, .int x6)]) hF.x hF.b dX3_stepsFrom_75 hl (k := 6) rfl (by rw [ey10]; rfl) (by decide) rfl (fun ls hl => ?_)
        clear ey10
        refine lv_goto (tgt := 29) hF.x hF.b dX3_stepsFrom_78 (by decide) ?_
        exact ih29 _ _ _ _ _ _ _ _ _ _ h hH (lv_sub hl [1, 2, 3, 4, 5, 6, 0] rfl)
      intro x2 x3 x4 x5 x6 x7 σ H locs ls h hH hl
      rw [it_eq] at h
      unfold fX3_stepsFrom_L29 at h
      refine lv_iload hF.x hF.b dX3_stepsFrom_29 (lv_at hl 6 rfl) ?_
      refine lv_aload_n hF.x hF.b dX3_stepsFrom_31 rfl (lv_at hl 0 rfl) ?_
      refine gfC_12_0 hF hH tk_141 dX3_stepsFrom_32 ?_
      refine gfC_1_4 hF hH tk_79 dX3_stepsFrom_35 ?_
      refine lv_icmp_ge (tgt := 81) hF.x hF.b dX3_stepsFrom_38 (by decide) (fun c11 => ?_) (fun c11 => ?_)
      · rw [if_pos c11] at h
        refine lv_iconst (v := 0) hF.x hF.b dX3_stepsFrom_81 (by decide) ?_
        refine lv_istore (lv' := [(7, .int 0), (0, .ref (eA E 12)), (2, .int x2), (3, .int x3), (4, .int x4), (5, .int x5), (6, .int x6)]) hF.x hF.b dX3_stepsFrom_82 hl (by decide) rfl (fun ls hl => ?_)
        exact w84 _ _ _ _ _ _ _ _ _ _ h hH (lv_sub hl [1, 2, 4, 5, 6, 0] rfl)
      · rw [if_neg c11] at h
        refine lv_iload_n hF.x hF.b dX3_stepsFrom_41 rfl (lv_at hl 2 rfl) ?_
        refine lv_iload hF.x hF.b dX3_stepsFrom_42 (lv_at hl 6 rfl) ?_
        replace h := bd_some h
        obtain ⟨v12, σ13, hv12, h⟩ := h
        refine w_cNi (As := [.int x3, .int x7]) (rest := []) hF hH hl (tX5_bit l E hF.j _ _ _ _ hv12) (List.mem_of_getElem? (l := nestW) (i := 3) rfl) tk_227 tk_41 tk_228 rfl rfl hdX5_bit ⟨Nat.le_of_ble_eq_true rfl, Nat.le_of_ble_eq_true rfl⟩ rfl rfl (Nat.le_of_ble_eq_true rfl) dX3_stepsFrom_44 (fun H locs hH => ?_)
        refine lv_if_ne (tgt := 75) hF.x hF.b dX3_stepsFrom_47 (by decide) (fun c14 => ?_) (fun c14 => ?_)
        · rw [if_neg c14] at h
          exact w75 _ _ _ _ _ _ _ _ _ _ h hH (lv_sub hl [0, 1, 2, 3, 4, 5, 6] rfl)
        · rw [if_pos c14] at h
          refine lv_aload_n hF.x hF.b dX3_stepsFrom_50 rfl (lv_at hl 0 rfl) ?_
          refine lv_iload_n hF.x hF.b dX3_stepsFrom_51 rfl (lv_at hl 1 rfl) ?_
          refine lv_iload hF.x hF.b dX3_stepsFrom_52 (lv_at hl 3 rfl) ?_
          refine lv_iload hF.x hF.b dX3_stepsFrom_54 (lv_at hl 4 rfl) ?_
          refine lv_iload hF.x hF.b dX3_stepsFrom_56 (lv_at hl 6 rfl) ?_
          replace h := bd_some h
          obtain ⟨v15, σ16, hv15, h⟩ := h
          refine w_cVi (As := [.int x2, .int x4, .int x5, .int x7]) (rest := []) hF hH hl 12 (by decide) rfl rfl (tX3_canCrank l E hF.j _ _ _ _ _ _ hv15) tk_317 tk_319 tk_2 tk_44 tk_320 rfl rfl hdX3_canCrank ⟨Nat.le_of_ble_eq_true rfl, Nat.le_of_ble_eq_true rfl⟩ rfl rfl (Nat.le_of_ble_eq_true rfl) dX3_stepsFrom_58 (fun H locs hH => ?_)
          refine lv_if_eq (tgt := 75) hF.x hF.b dX3_stepsFrom_61 (by decide) (fun c17 => ?_) (fun c17 => ?_)
          · rw [if_pos c17] at h
            exact w75 _ _ _ _ _ _ _ _ _ _ h hH (lv_sub hl [0, 1, 2, 3, 4, 5, 6] rfl)
          · rw [if_neg c17] at h
            refine lv_iload hF.x hF.b dX3_stepsFrom_64 (lv_at hl 5 rfl) ?_
            refine lv_iconst (v := 1) hF.x hF.b dX3_stepsFrom_66 (by decide) ?_
            refine lv_iconst (v := 1) hF.x hF.b dX3_stepsFrom_67 (by decide) ?_
            refine lv_iload hF.x hF.b dX3_stepsFrom_68 (lv_at hl 6 rfl) ?_
            refine lv_iadd hF.x hF.b dX3_stepsFrom_70 ?_
            refine lv_ishl hF.x hF.b dX3_stepsFrom_71 ?_
            refine lv_ior hF.x hF.b dX3_stepsFrom_72 ?_
            refine lv_topi (fun y18 ey18 => ?_)
            replace h := sv_at h ey18
            clear ey18
            refine lv_istore (lv' := [(6, .int y18), (0, .ref (eA E 12)), (2, .int x2), (3, .int x3), (4, .int x4), (5, .int x5), (7, .int x7)]) hF.x hF.b dX3_stepsFrom_73 hl (by decide) rfl (fun ls hl => ?_)
            exact w75 _ _ _ _ _ _ _ _ _ _ h hH (lv_sub hl [1, 2, 3, 4, 5, 0, 6] rfl)
  unfold fX3_stepsFrom at h
  refine lv_iload_n hF.x hF.b dX3_stepsFrom_0 rfl (lv_at hl 1 rfl) ?_
  replace h := bd_some h
  obtain ⟨v19, σ20, hv19, h⟩ := h
  refine w_cSi (As := [.int a1]) (rest := []) hF hH hl (tX0_closed l E hF.j _ _ _ hv19) tk_291 tk_259 tk_48 tk_260 rfl rfl hdX0_closed ⟨Nat.le_of_ble_eq_true rfl, Nat.le_of_ble_eq_true rfl⟩ rfl rfl (Nat.le_of_ble_eq_true rfl) dX3_stepsFrom_1 (fun H locs hH => ?_)
  refine lv_istore_n (lv' := [(2, .int v19), (0, .ref (eA E 12)), (1, .int a1)]) hF.x hF.b dX3_stepsFrom_4 rfl hl (by decide) rfl (fun ls hl => ?_)
  refine lv_iload_n hF.x hF.b dX3_stepsFrom_5 rfl (lv_at hl 2 rfl) ?_
  replace h := bd_some h
  obtain ⟨v21, σ22, hv21, h⟩ := h
  refine w_cSi (As := [.int a1]) (rest := []) hF hH hl (tX0_running l E hF.j _ _ _ hv21) tk_315 tk_242 tk_48 tk_243 rfl rfl hdX0_running ⟨Nat.le_of_ble_eq_true rfl, Nat.le_of_ble_eq_true rfl⟩ rfl rfl (Nat.le_of_ble_eq_true rfl) dX3_stepsFrom_6 (fun H locs hH => ?_)
  refine lv_istore_n (lv' := [(3, .int v21), (2, .int v19), (0, .ref (eA E 12)), (1, .int a1)]) hF.x hF.b dX3_stepsFrom_9 rfl hl (by decide) rfl (fun ls hl => ?_)
  refine lv_iload_n hF.x hF.b dX3_stepsFrom_10 rfl (lv_at hl 3 rfl) ?_
  replace h := bd_some h
  obtain ⟨v23, σ24, hv23, h⟩ := h
  refine w_cSi (As := [.int a1]) (rest := []) hF hH hl (tX0_ready l E hF.j _ _ _ hv23) tk_297 tk_298 tk_48 tk_299 rfl rfl hdX0_ready ⟨Nat.le_of_ble_eq_true rfl, Nat.le_of_ble_eq_true rfl⟩ rfl rfl (Nat.le_of_ble_eq_true rfl) dX3_stepsFrom_11 (fun H locs hH => ?_)
  refine lv_istore (lv' := [(4, .int v23), (3, .int v21), (2, .int v19), (0, .ref (eA E 12)), (1, .int a1)]) hF.x hF.b dX3_stepsFrom_14 hl (by decide) rfl (fun ls hl => ?_)
  refine lv_aload_n hF.x hF.b dX3_stepsFrom_16 rfl (lv_at hl 3 rfl) ?_
  refine lv_iload_n hF.x hF.b dX3_stepsFrom_17 rfl (lv_at hl 4 rfl) ?_
  replace h := bd_some h
  obtain ⟨v25, σ26, hv25, h⟩ := h
  refine w_cVi (As := [.int a1]) (rest := []) hF hH hl 12 (by decide) rfl rfl (tX3_liveBuses l E hF.j _ _ _ hv25) tk_316 tk_287 tk_288 tk_44 tk_289 rfl rfl hdX3_liveBuses ⟨Nat.le_of_ble_eq_true rfl, Nat.le_of_ble_eq_true rfl⟩ rfl rfl (Nat.le_of_ble_eq_true rfl) dX3_stepsFrom_18 (fun H locs hH => ?_)
  refine lv_istore (lv' := [(5, .int v25), (4, .int v23), (3, .int v21), (2, .int v19), (0, .ref (eA E 12)), (1, .int a1)]) hF.x hF.b dX3_stepsFrom_21 hl (by decide) rfl (fun ls hl => ?_)
  refine lv_iconst (v := 1) hF.x hF.b dX3_stepsFrom_23 (by decide) ?_
  refine lv_istore (lv' := [(6, .int 1), (5, .int v25), (4, .int v23), (3, .int v21), (2, .int v19), (0, .ref (eA E 12)), (1, .int a1)]) hF.x hF.b dX3_stepsFrom_24 hl (by decide) rfl (fun ls hl => ?_)
  refine lv_iconst (v := 0) hF.x hF.b dX3_stepsFrom_26 (by decide) ?_
  refine lv_istore (lv' := [(7, .int 0), (6, .int 1), (5, .int v25), (4, .int v23), (3, .int v21), (2, .int v19), (0, .ref (eA E 12)), (1, .int a1)]) hF.x hF.b dX3_stepsFrom_27 hl (by decide) rfl (fun ls hl => ?_)
  exact w29 _ _ _ _ _ _ _ _ _ _ _ h hH (lv_sub hl [6, 5, 4, 3, 2, 1, 0] rfl)
theorem hdX3_withStep : yX3_withStep.cls = RX3 ∧ yX3_withStep.cls ≠ "java/lang/invoke/MethodHandle" ∧ yX3_withStep.cls ≠ "java/lang/invoke/VarHandle" ∧ (parseMethodDescriptor yX3_withStep.desc).map (fun d => d.parameters.length) = some 2 := by decide +kernel
set_option maxHeartbeats 4000000 in
set_option maxRecDepth 100000 in
theorem tX3_withStep (l : Launch) (E : Ev) (hj : Inj kC E) (a1 : Int32) (a2 : Int32) (σ : Sg) (r : Int32 × Sg) (h : fX3_withStep a1 a2 σ = some r) : CI l yX3_withStep cX3_withStep 4 (some FieldType.int) (rmk 2 42) kC E [.ref (eA E 12), .int a1, .int a2] σ r := by
  refine CI_i (lv := [(0, .ref (eA E 12)), (1, .int a1), (2, .int a2)]) (by decide) hj (Nat.le_of_ble_eq_true rfl) rfl (fun p e s m args below meth c ls Q hF hret hH hl => ?_)
  unfold fX3_withStep at h
  refine lv_iload_n hF.x hF.b dX3_withStep_0 rfl (lv_at hl 2 rfl) ?_
  refine lv_iconst (v := 4) hF.x hF.b dX3_withStep_1 (by decide) ?_
  refine lv_icmp_lt (tgt := 13) hF.x hF.b dX3_withStep_2 (by decide) (fun c1 => ?_) (fun c1 => ?_)
  · rw [if_pos c1] at h
    refine lv_iload_n hF.x hF.b dX3_withStep_13 rfl (lv_at hl 2 rfl) ?_
    refine lv_iconst (v := 1) hF.x hF.b dX3_withStep_14 (by decide) ?_
    refine lv_icmp_lt (tgt := 37) hF.x hF.b dX3_withStep_15 (by decide) (fun c2 => ?_) (fun c2 => ?_)
    · rw [if_pos c2] at h
      refine lv_iload_n hF.x hF.b dX3_withStep_37 rfl (lv_at hl 1 rfl) ?_
      exact hret _ _ _ _ _ _ hH h dX3_withStep_38
    · rw [if_neg c2] at h
      refine lv_iload_n hF.x hF.b dX3_withStep_18 rfl (lv_at hl 2 rfl) ?_
      refine lv_iconst (v := 1) hF.x hF.b dX3_withStep_19 (by decide) ?_
      refine lv_isub hF.x hF.b dX3_withStep_20 ?_
      refine lv_topi (fun y3 ey3 => ?_)
      replace h := sv_at h ey3
      clear ey3
      refine lv_istore_n (lv' := [(3, .int y3), (0, .ref (eA E 12)), (1, .int a1), (2, .int a2)]) hF.x hF.b dX3_withStep_21 rfl hl (by decide) rfl (fun ls hl => ?_)
      refine lv_iload_n hF.x hF.b dX3_withStep_22 rfl (lv_at hl 2 rfl) ?_
      refine lv_iload_n hF.x hF.b dX3_withStep_23 rfl (lv_at hl 0 rfl) ?_
      refine lv_aload_n hF.x hF.b dX3_withStep_24 rfl (lv_at hl 1 rfl) ?_
      refine gfC_12_0 hF hH tk_141 dX3_withStep_25 ?_
      refine gfC_1_8 hF hH tk_93 dX3_withStep_28 ?_
      refine lv_iload_n hF.x hF.b dX3_withStep_31 rfl (lv_at hl 0 rfl) ?_
      refine alC_8 hF hH (gd_some h).1 dX3_withStep_32 ?_
      replace h := (gd_some h).2
      replace h := bd_some h
      obtain ⟨v4, σ5, hv4, h⟩ := h
      refine w_cSi (As := [.int a1, .int y3, .int (σ 8 (Int32.toNatClampNeg y3))]) (rest := []) hF hH hl (tX0_withStarted l E hF.j _ _ _ _ _ hv4) tk_345 tk_346 tk_48 tk_347 rfl rfl hdX0_withStarted ⟨Nat.le_of_ble_eq_true rfl, Nat.le_of_ble_eq_true rfl⟩ rfl rfl (Nat.le_of_ble_eq_true rfl) dX3_withStep_33 (fun H locs hH => ?_)
      exact hret _ _ _ _ _ _ hH h dX3_withStep_36
  · rw [if_neg c1] at h
    refine lv_iload_n hF.x hF.b dX3_withStep_5 rfl (lv_at hl 1 rfl) ?_
    refine lv_iload_n hF.x hF.b dX3_withStep_6 rfl (lv_at hl 2 rfl) ?_
    refine lv_iconst (v := 4) hF.x hF.b dX3_withStep_7 (by decide) ?_
    refine lv_isub hF.x hF.b dX3_withStep_8 ?_
    replace h := bd_some h
    obtain ⟨v6, σ7, hv6, h⟩ := h
    refine w_cSi (As := [.int a1, .int (a2 - (4 : Int32))]) (rest := []) hF hH hl (tX0_withClosed l E hF.j _ _ _ _ hv6) tk_342 tk_343 tk_48 tk_344 rfl rfl hdX0_withClosed ⟨Nat.le_of_ble_eq_true rfl, Nat.le_of_ble_eq_true rfl⟩ rfl rfl (Nat.le_of_ble_eq_true rfl) dX3_withStep_9 (fun H locs hH => ?_)
    exact hret _ _ _ _ _ _ hH h dX3_withStep_12
theorem hdX3_isReached : yX3_isReached.cls = RX3 ∧ yX3_isReached.cls ≠ "java/lang/invoke/MethodHandle" ∧ yX3_isReached.cls ≠ "java/lang/invoke/VarHandle" ∧ (parseMethodDescriptor yX3_isReached.desc).map (fun d => d.parameters.length) = some 3 := by decide +kernel
set_option maxHeartbeats 4000000 in
set_option maxRecDepth 100000 in
theorem tX3_isReached (l : Launch) (E : Ev) (hj : Inj kC E) (a1 : Int32) (a2 : Int32) (a3 : Int32) (σ : Sg) (r : Int32 × Sg) (h : fX3_isReached a1 a2 a3 σ = some r) : CI l yX3_isReached cX3_isReached 4 (some FieldType.boolean) (rmk 3 65) kC E [.ref (eA E 12), .int a1, .int a2, .int a3] σ r := by
  refine CI_z (lv := [(0, .ref (eA E 12)), (1, .int a1), (2, .int a2), (3, .int a3)]) (by decide) hj (Nat.le_of_ble_eq_true rfl) rfl (fun p e s m args below meth c ls Q hF hret hH hl => ?_)
  have w28 : ∀ (t0 : Int32) (σ : Sg) (H : Heap) (locs : List Loc) (ls : Array Slot), fX3_isReached_28 t0 σ = some r → HP kC E s σ H locs → lv_has ls 4 [(0, .ref (eA E 12))] → W p l e (rmk 3 65) s m args below meth c H locs 0 0 Q (F0 m 28 ls [.int t0]) := by
    intro t0 σ H locs ls h hH hl
    unfold fX3_isReached_28 at h
    exact hret _ _ _ _ _ _ hH h dX3_isReached_28
  have w27 : ∀ (σ : Sg) (H : Heap) (locs : List Loc) (ls : Array Slot), fX3_isReached_27 σ = some r → HP kC E s σ H locs → lv_has ls 4 [(0, .ref (eA E 12))] → W p l e (rmk 3 65) s m args below meth c H locs 0 0 Q (F0 m 27 ls []) := by
    intro σ H locs ls h hH hl
    unfold fX3_isReached_27 at h
    refine lv_iconst (v := 0) hF.x hF.b dX3_isReached_27 (by decide) ?_
    exact w28 _ _ _ _ _ h hH (lv_sub hl [0] rfl)
  unfold fX3_isReached at h
  refine lv_iload_n hF.x hF.b dX3_isReached_0 rfl (lv_at hl 2 rfl) ?_
  refine lv_iload_n hF.x hF.b dX3_isReached_1 rfl (lv_at hl 1 rfl) ?_
  replace h := bd_some h
  obtain ⟨v1, σ2, hv1, h⟩ := h
  refine w_cSi (As := [.int a1]) (rest := [.int a2]) hF hH hl (tX0_ready l E hF.j _ _ _ hv1) tk_297 tk_298 tk_48 tk_299 rfl rfl hdX0_ready ⟨Nat.le_of_ble_eq_true rfl, Nat.le_of_ble_eq_true rfl⟩ rfl rfl (Nat.le_of_ble_eq_true rfl) dX3_isReached_2 (fun H locs hH => ?_)
  refine lv_iconst (v := (-1)) hF.x hF.b dX3_isReached_5 (by decide) ?_
  refine lv_ixor hF.x hF.b dX3_isReached_6 ?_
  refine lv_iand hF.x hF.b dX3_isReached_7 ?_
  refine lv_if_ne (tgt := 27) hF.x hF.b dX3_isReached_8 (by decide) (fun c3 => ?_) (fun c3 => ?_)
  · rw [if_neg c3] at h
    exact w27 _ _ _ _ h hH (lv_sub hl [0] rfl)
  · rw [if_pos c3] at h
    refine lv_iload_n hF.x hF.b dX3_isReached_11 rfl (lv_at hl 3 rfl) ?_
    refine lv_aload_n hF.x hF.b dX3_isReached_12 rfl (lv_at hl 0 rfl) ?_
    refine lv_iload_n hF.x hF.b dX3_isReached_13 rfl (lv_at hl 1 rfl) ?_
    replace h := bd_some h
    obtain ⟨v4, σ5, hv4, h⟩ := h
    refine w_cVi (As := [.int a1]) (rest := [.int a3]) hF hH hl 12 (by decide) rfl rfl (tX3_liveBuses l E hF.j _ _ _ hv4) tk_316 tk_287 tk_288 tk_44 tk_289 rfl rfl hdX3_liveBuses ⟨Nat.le_of_ble_eq_true rfl, Nat.le_of_ble_eq_true rfl⟩ rfl rfl (Nat.le_of_ble_eq_true rfl) dX3_isReached_14 (fun H locs hH => ?_)
    refine lv_iconst (v := (-1)) hF.x hF.b dX3_isReached_17 (by decide) ?_
    refine lv_ixor hF.x hF.b dX3_isReached_18 ?_
    refine lv_iand hF.x hF.b dX3_isReached_19 ?_
    refine lv_if_ne (tgt := 27) hF.x hF.b dX3_isReached_20 (by decide) (fun c6 => ?_) (fun c6 => ?_)
    · rw [if_neg c6] at h
      exact w27 _ _ _ _ h hH (lv_sub hl [0] rfl)
    · rw [if_pos c6] at h
      refine lv_iconst (v := 1) hF.x hF.b dX3_isReached_23 (by decide) ?_
      refine lv_goto (tgt := 28) hF.x hF.b dX3_isReached_24 (by decide) ?_
      exact w28 _ _ _ _ _ h hH (lv_sub hl [0] rfl)
theorem hdX3_lostLines : yX3_lostLines.cls = RX3 ∧ yX3_lostLines.cls ≠ "java/lang/invoke/MethodHandle" ∧ yX3_lostLines.cls ≠ "java/lang/invoke/VarHandle" ∧ (parseMethodDescriptor yX3_lostLines.desc).map (fun d => d.parameters.length) = some 1 := by decide +kernel
set_option maxHeartbeats 4000000 in
set_option maxRecDepth 100000 in
theorem tX3_lostLines (l : Launch) (E : Ev) (hj : Inj kC E) (a1 : Int32) (σ : Sg) (r : Int32 × Sg) (h : fX3_lostLines a1 σ = some r) : CI l yX3_lostLines cX3_lostLines 7 (some FieldType.int) (rmk 4 85) kC E [.ref (eA E 12), .int a1] σ r := by
  refine CI_i (lv := [(0, .ref (eA E 12)), (1, .int a1)]) (by decide) hj (Nat.le_of_ble_eq_true rfl) rfl (fun p e s m args below meth c ls Q hF hret hH hl => ?_)
  have w17 : ∀ (n : Nat) (x1 x2 x3 x4 x5 : Int32) (σ : Sg) (H : Heap) (locs : List Loc) (ls : Array Slot), it fX3_lostLines_L17 (fun _ _ _ _ _ _ => none) n x1 x2 x3 x4 x5 σ = some r → HP kC E s σ H locs → lv_has ls 7 [(0, .ref (eA E 12)), (1, .int x1), (2, .int x2), (3, .int x3), (4, .int x4), (5, .int x5)] → W p l e (rmk 4 85) s m args below meth c H locs 0 0 Q (F0 m 17 ls []) := by
    intro n17
    induction n17 with
    | zero =>
      intro x1 x2 x3 x4 x5 σ H locs ls h hH hl
      cases (show (none : Rs) = some r from h)
    | succ n17 ih17 =>
      have w78 : ∀ (x1 x2 x3 x4 x5 : Int32) (σ : Sg) (H : Heap) (locs : List Loc) (ls : Array Slot), fX3_lostLines_78 (it fX3_lostLines_L17 (fun _ _ _ _ _ _ => none) n17) x1 x2 x3 x4 x5 σ = some r → HP kC E s σ H locs → lv_has ls 7 [(0, .ref (eA E 12)), (1, .int x1), (2, .int x2), (3, .int x3), (4, .int x4), (5, .int x5)] → W p l e (rmk 4 85) s m args below meth c H locs 0 0 Q (F0 m 78 ls []) := by
        intro x1 x2 x3 x4 x5 σ H locs ls h hH hl
        unfold fX3_lostLines_78 at h
        obtain ⟨y1, ey1⟩ : ∃ z : Int32, z = (x5 + 1) := ⟨_, rfl⟩
        replace h := sv_at h ey1
        refine lv_iinc (v := y1) (lv' := [(5, .int y1), (0, .ref (eA E 12)), (1, .int x1), (2, .int x2), (3, .int x3), (4, .int x4)]) hF.x hF.b dX3_lostLines_78 hl (k := 5) rfl (by rw [ey1]; rfl) (by decide) rfl (fun ls hl => ?_)
        clear ey1
        refine lv_goto (tgt := 17) hF.x hF.b dX3_lostLines_81 (by decide) ?_
        exact ih17 _ _ _ _ _ _ _ _ _ h hH (lv_sub hl [1, 2, 3, 4, 5, 0] rfl)
      have w69 : ∀ (x1 x2 x3 x4 x5 : Int32) (σ : Sg) (H : Heap) (locs : List Loc) (ls : Array Slot), fX3_lostLines_69 (it fX3_lostLines_L17 (fun _ _ _ _ _ _ => none) n17) x1 x2 x3 x4 x5 σ = some r → HP kC E s σ H locs → lv_has ls 7 [(0, .ref (eA E 12)), (1, .int x1), (2, .int x2), (3, .int x3), (4, .int x4), (5, .int x5)] → W p l e (rmk 4 85) s m args below meth c H locs 0 0 Q (F0 m 69 ls []) := by
        intro x1 x2 x3 x4 x5 σ H locs ls h hH hl
        unfold fX3_lostLines_69 at h
        refine lv_iload hF.x hF.b dX3_lostLines_69 (lv_at hl 4 rfl) ?_
        refine lv_iconst (v := 1) hF.x hF.b dX3_lostLines_71 (by decide) ?_
        refine lv_iload hF.x hF.b dX3_lostLines_72 (lv_at hl 5 rfl) ?_
        refine lv_ishl hF.x hF.b dX3_lostLines_74 ?_
        refine lv_ior hF.x hF.b dX3_lostLines_75 ?_
        refine lv_topi (fun y2 ey2 => ?_)
        replace h := sv_at h ey2
        clear ey2
        refine lv_istore (lv' := [(4, .int y2), (0, .ref (eA E 12)), (1, .int x1), (2, .int x2), (3, .int x3), (5, .int x5)]) hF.x hF.b dX3_lostLines_76 hl (by decide) rfl (fun ls hl => ?_)
        exact w78 _ _ _ _ _ _ _ _ _ h hH (lv_sub hl [1, 2, 3, 4, 0, 5] rfl)
      intro x1 x2 x3 x4 x5 σ H locs ls h hH hl
      rw [it_eq] at h
      unfold fX3_lostLines_L17 at h
      refine lv_iload hF.x hF.b dX3_lostLines_17 (lv_at hl 5 rfl) ?_
      refine lv_aload_n hF.x hF.b dX3_lostLines_19 rfl (lv_at hl 0 rfl) ?_
      refine gfC_12_0 hF hH tk_141 dX3_lostLines_20 ?_
      refine gfC_1_0 hF hH tk_67 dX3_lostLines_23 ?_
      refine lv_icmp_ge (tgt := 84) hF.x hF.b dX3_lostLines_26 (by decide) (fun c3 => ?_) (fun c3 => ?_)
      · rw [if_pos c3] at h
        refine lv_iload hF.x hF.b dX3_lostLines_84 (lv_at hl 4 rfl) ?_
        exact hret _ _ _ _ _ _ hH h dX3_lostLines_86
      · rw [if_neg c3] at h
        refine lv_aload_n hF.x hF.b dX3_lostLines_29 rfl (lv_at hl 0 rfl) ?_
        refine gfC_12_0 hF hH tk_141 dX3_lostLines_30 ?_
        refine gfC_1_1 hF hH tk_71 dX3_lostLines_33 ?_
        refine lv_iload hF.x hF.b dX3_lostLines_36 (lv_at hl 5 rfl) ?_
        refine alC_2 hF hH (gd_some h).1 dX3_lostLines_38 ?_
        replace h := (gd_some h).2
        refine lv_topi (fun y4 ey4 => ?_)
        replace h := sv_at h ey4
        clear ey4
        refine lv_istore (lv' := [(6, .int y4), (0, .ref (eA E 12)), (1, .int x1), (2, .int x2), (3, .int x3), (4, .int x4), (5, .int x5)]) hF.x hF.b dX3_lostLines_39 hl (by decide) rfl (fun ls hl => ?_)
        refine lv_iload_n hF.x hF.b dX3_lostLines_41 rfl (lv_at hl 3 rfl) ?_
        refine lv_iload hF.x hF.b dX3_lostLines_42 (lv_at hl 6 rfl) ?_
        replace h := bd_some h
        obtain ⟨v5, σ6, hv5, h⟩ := h
        refine w_cNi (As := [.int x2, .int x5]) (rest := []) hF hH hl (tX5_bit l E hF.j _ _ _ _ hv5) (List.mem_of_getElem? (l := nestW) (i := 3) rfl) tk_227 tk_41 tk_228 rfl rfl hdX5_bit ⟨Nat.le_of_ble_eq_true rfl, Nat.le_of_ble_eq_true rfl⟩ rfl rfl (Nat.le_of_ble_eq_true rfl) dX3_lostLines_44 (fun H locs hH => ?_)
        refine lv_if_eq (tgt := 78) hF.x hF.b dX3_lostLines_47 (by decide) (fun c7 => ?_) (fun c7 => ?_)
        · rw [if_pos c7] at h
          exact w78 _ _ _ _ _ _ _ _ _ h hH (lv_sub hl [1, 2, 3, 4, 5, 6] rfl)
        · rw [if_neg c7] at h
          refine lv_iload_n hF.x hF.b dX3_lostLines_50 rfl (lv_at hl 4 rfl) ?_
          refine lv_iload hF.x hF.b dX3_lostLines_51 (lv_at hl 0 rfl) ?_
          replace h := bd_some h
          obtain ⟨v8, σ9, hv8, h⟩ := h
          refine w_cNi (As := [.int x3, .int y4]) (rest := []) hF hH hl (tX5_bit l E hF.j _ _ _ _ hv8) (List.mem_of_getElem? (l := nestW) (i := 3) rfl) tk_227 tk_41 tk_228 rfl rfl hdX5_bit ⟨Nat.le_of_ble_eq_true rfl, Nat.le_of_ble_eq_true rfl⟩ rfl rfl (Nat.le_of_ble_eq_true rfl) dX3_lostLines_53 (fun H locs hH => ?_)
          refine lv_if_eq (tgt := 69) hF.x hF.b dX3_lostLines_56 (by decide) (fun c10 => ?_) (fun c10 => ?_)
          · rw [if_pos c10] at h
            exact w69 _ _ _ _ _ _ _ _ _ h hH (lv_sub hl [1, 2, 3, 4, 5, 6] rfl)
          · rw [if_neg c10] at h
            refine lv_aload_n hF.x hF.b dX3_lostLines_59 rfl (lv_at hl 1 rfl) ?_
            refine lv_iload_n hF.x hF.b dX3_lostLines_60 rfl (lv_at hl 2 rfl) ?_
            refine lv_iload hF.x hF.b dX3_lostLines_61 (lv_at hl 0 rfl) ?_
            replace h := bd_some h
            obtain ⟨v11, σ12, hv11, h⟩ := h
            refine w_cVi (As := [.int x1, .int y4]) (rest := []) hF hH hl 12 (by decide) rfl rfl (tX3_spare l E hF.j _ _ _ _ hv11) tk_363 tk_294 tk_295 tk_44 tk_296 rfl rfl hdX3_spare ⟨Nat.le_of_ble_eq_true rfl, Nat.le_of_ble_eq_true rfl⟩ rfl rfl (Nat.le_of_ble_eq_true rfl) dX3_lostLines_63 (fun H locs hH => ?_)
            refine lv_if_ge (tgt := 78) hF.x hF.b dX3_lostLines_66 (by decide) (fun c13 => ?_) (fun c13 => ?_)
            · rw [if_pos c13] at h
              exact w78 _ _ _ _ _ _ _ _ _ h hH (lv_sub hl [1, 2, 3, 4, 5, 6] rfl)
            · rw [if_neg c13] at h
              exact w69 _ _ _ _ _ _ _ _ _ h hH (lv_sub hl [1, 2, 3, 4, 5, 6] rfl)
  unfold fX3_lostLines at h
  refine lv_iload_n hF.x hF.b dX3_lostLines_0 rfl (lv_at hl 1 rfl) ?_
  replace h := bd_some h
  obtain ⟨v14, σ15, hv14, h⟩ := h
  refine w_cSi (As := [.int a1]) (rest := []) hF hH hl (tX0_closed l E hF.j _ _ _ hv14) tk_291 tk_259 tk_48 tk_260 rfl rfl hdX0_closed ⟨Nat.le_of_ble_eq_true rfl, Nat.le_of_ble_eq_true rfl⟩ rfl rfl (Nat.le_of_ble_eq_true rfl) dX3_lostLines_1 (fun H locs hH => ?_)
  refine lv_istore_n (lv' := [(2, .int v14), (0, .ref (eA E 12)), (1, .int a1)]) hF.x hF.b dX3_lostLines_4 rfl hl (by decide) rfl (fun ls hl => ?_)
  refine lv_aload_n hF.x hF.b dX3_lostLines_5 rfl (lv_at hl 1 rfl) ?_
  refine lv_iload_n hF.x hF.b dX3_lostLines_6 rfl (lv_at hl 2 rfl) ?_
  replace h := bd_some h
  obtain ⟨v16, σ17, hv16, h⟩ := h
  refine w_cVi (As := [.int a1]) (rest := []) hF hH hl 12 (by decide) rfl rfl (tX3_liveBuses l E hF.j _ _ _ hv16) tk_316 tk_287 tk_288 tk_44 tk_289 rfl rfl hdX3_liveBuses ⟨Nat.le_of_ble_eq_true rfl, Nat.le_of_ble_eq_true rfl⟩ rfl rfl (Nat.le_of_ble_eq_true rfl) dX3_lostLines_7 (fun H locs hH => ?_)
  refine lv_istore_n (lv' := [(3, .int v16), (2, .int v14), (0, .ref (eA E 12)), (1, .int a1)]) hF.x hF.b dX3_lostLines_10 rfl hl (by decide) rfl (fun ls hl => ?_)
  refine lv_iconst (v := 0) hF.x hF.b dX3_lostLines_11 (by decide) ?_
  refine lv_istore (lv' := [(4, .int 0), (3, .int v16), (2, .int v14), (0, .ref (eA E 12)), (1, .int a1)]) hF.x hF.b dX3_lostLines_12 hl (by decide) rfl (fun ls hl => ?_)
  refine lv_iconst (v := 0) hF.x hF.b dX3_lostLines_14 (by decide) ?_
  refine lv_istore (lv' := [(5, .int 0), (4, .int 0), (3, .int v16), (2, .int v14), (0, .ref (eA E 12)), (1, .int a1)]) hF.x hF.b dX3_lostLines_15 hl (by decide) rfl (fun ls hl => ?_)
  exact w17 _ _ _ _ _ _ _ _ _ _ h hH (lv_sub hl [4, 5, 3, 2, 1, 0] rfl)
theorem hdX4_forget : yX4_forget.cls = RX4 ∧ yX4_forget.cls ≠ "java/lang/invoke/MethodHandle" ∧ yX4_forget.cls ≠ "java/lang/invoke/VarHandle" ∧ (parseMethodDescriptor yX4_forget.desc).map (fun d => d.parameters.length) = some 1 := by decide +kernel
set_option maxHeartbeats 4000000 in
set_option maxRecDepth 100000 in
theorem tX4_forget (l : Launch) (E : Ev) (hj : Inj kC E) (a1 : Int32) (σ : Sg) (r : Int32 × Sg) (h : fX4_forget a1 σ = some r) : CV l yX4_forget cX4_forget 4 (rmk 0 0) kC E [.ref (eA E 13), .int a1] σ r := by
  refine CV_v (lv := [(0, .ref (eA E 13)), (1, .int a1)]) (by decide) hj (Nat.le_of_ble_eq_true rfl) rfl (fun p e s m args below meth c ls Q hF hret hH hl => ?_)
  have w6 : ∀ (n : Nat) (x2 x3 : Int32) (σ : Sg) (H : Heap) (locs : List Loc) (ls : Array Slot), it fX4_forget_L6 (fun _ _ _ => none) n x2 x3 σ = some r → HP kC E s σ H locs → lv_has ls 4 [(0, .ref (eA E 13)), (2, .int x2), (3, .int x3)] → W p l e (rmk 0 0) s m args below meth c H locs 0 0 Q (F0 m 6 ls []) := by
    intro n6
    induction n6 with
    | zero =>
      intro x2 x3 σ H locs ls h hH hl
      cases (show (none : Rs) = some r from h)
    | succ n6 ih6 =>
      intro x2 x3 σ H locs ls h hH hl
      rw [it_eq] at h
      unfold fX4_forget_L6 at h
      refine lv_iload_n hF.x hF.b dX4_forget_6 rfl (lv_at hl 2 rfl) ?_
      refine lv_iload_n hF.x hF.b dX4_forget_7 rfl (lv_at hl 1 rfl) ?_
      refine lv_icmp_gt (tgt := 24) hF.x hF.b dX4_forget_8 (by decide) (fun c1 => ?_) (fun c1 => ?_)
      · rw [if_pos c1] at h
        refine lv_aload_n hF.x hF.b dX4_forget_24 rfl (lv_at hl 0 rfl) ?_
        refine lv_iconst (v := 0) hF.x hF.b dX4_forget_25 (by decide) ?_
        refine pfC_13_4 hF hH tk_158 dX4_forget_26 (fun σ2 H locs eσ2 hH => ?_)
        replace h := sv_at h eσ2
        clear eσ2
        exact hret _ _ _ _ _ hH h dX4_forget_29
      · rw [if_neg c1] at h
        refine lv_aload_n hF.x hF.b dX4_forget_11 rfl (lv_at hl 0 rfl) ?_
        refine gfC_13_3 hF hH tk_157 dX4_forget_12 ?_
        refine lv_iload_n hF.x hF.b dX4_forget_15 rfl (lv_at hl 2 rfl) ?_
        refine lv_iconst (v := 0) hF.x hF.b dX4_forget_16 (by decide) ?_
        refine asC_16 hF hH (gd_some h).1 dX4_forget_17 (fun σ3 H locs eσ3 hH => ?_)
        replace h := sv_at (gd_some h).2 eσ3
        clear eσ3
        obtain ⟨y4, ey4⟩ : ∃ z : Int32, z = (x3 + 1) := ⟨_, rfl⟩
        replace h := sv_at h ey4
        refine lv_iinc (v := y4) (lv' := [(3, .int y4), (0, .ref (eA E 13)), (2, .int x2)]) hF.x hF.b dX4_forget_18 hl (k := 2) rfl (by rw [ey4]; rfl) (by decide) rfl (fun ls hl => ?_)
        clear ey4
        refine lv_goto (tgt := 6) hF.x hF.b dX4_forget_21 (by decide) ?_
        exact ih6 _ _ _ _ _ _ h hH (lv_sub hl [1, 2, 0] rfl)
  unfold fX4_forget at h
  refine lv_iload_n hF.x hF.b dX4_forget_0 rfl (lv_at hl 1 rfl) ?_
  refine lv_iconst (v := 5) hF.x hF.b dX4_forget_1 (by decide) ?_
  refine lv_ishr hF.x hF.b dX4_forget_2 ?_
  refine lv_topi (fun y5 ey5 => ?_)
  replace h := sv_at h ey5
  clear ey5
  refine lv_istore_n (lv' := [(2, .int y5), (0, .ref (eA E 13)), (1, .int a1)]) hF.x hF.b dX4_forget_3 rfl hl (by decide) rfl (fun ls hl => ?_)
  refine lv_iconst (v := 0) hF.x hF.b dX4_forget_4 (by decide) ?_
  refine lv_istore_n (lv' := [(3, .int 0), (2, .int y5), (0, .ref (eA E 13)), (1, .int a1)]) hF.x hF.b dX4_forget_5 rfl hl (by decide) rfl (fun ls hl => ?_)
  exact w6 _ _ _ _ _ _ _ h hH (lv_sub hl [2, 1, 0] rfl)
theorem hdX4_add : yX4_add.cls = RX4 ∧ yX4_add.cls ≠ "java/lang/invoke/MethodHandle" ∧ yX4_add.cls ≠ "java/lang/invoke/VarHandle" ∧ (parseMethodDescriptor yX4_add.desc).map (fun d => d.parameters.length) = some 2 := by decide +kernel
set_option maxHeartbeats 4000000 in
set_option maxRecDepth 100000 in
theorem tX4_add (l : Launch) (E : Ev) (hj : Inj kC E) (a1 : Int32) (a2 : Int32) (σ : Sg) (r : Int32 × Sg) (h : fX4_add a1 a2 σ = some r) : CI l yX4_add cX4_add 5 (some FieldType.boolean) (rmk 1 20) kC E [.ref (eA E 13), .int a1, .int a2] σ r := by
  refine CI_z (lv := [(0, .ref (eA E 13)), (1, .int a1), (2, .int a2)]) (by decide) hj (Nat.le_of_ble_eq_true rfl) rfl (fun p e s m args below meth c ls Q hF hret hH hl => ?_)
  have w36 : ∀ (σ : Sg) (H : Heap) (locs : List Loc) (ls : Array Slot), fX4_add_36 σ = some r → HP kC E s σ H locs → lv_has ls 5 [(0, .ref (eA E 13))] → W p l e (rmk 1 20) s m args below meth c H locs 0 0 Q (F0 m 36 ls []) := by
    intro σ H locs ls h hH hl
    unfold fX4_add_36 at h
    refine lv_iconst (v := 0) hF.x hF.b dX4_add_36 (by decide) ?_
    exact hret _ _ _ _ _ _ hH h dX4_add_37
  unfold fX4_add at h
  refine lv_iload_n hF.x hF.b dX4_add_0 rfl (lv_at hl 1 rfl) ?_
  refine lv_iconst (v := 5) hF.x hF.b dX4_add_1 (by decide) ?_
  refine lv_ishr hF.x hF.b dX4_add_2 ?_
  refine lv_topi (fun y1 ey1 => ?_)
  replace h := sv_at h ey1
  clear ey1
  refine lv_istore_n (lv' := [(3, .int y1), (0, .ref (eA E 13)), (1, .int a1), (2, .int a2)]) hF.x hF.b dX4_add_3 rfl hl (by decide) rfl (fun ls hl => ?_)
  refine lv_iconst (v := 1) hF.x hF.b dX4_add_4 (by decide) ?_
  refine lv_iload_n hF.x hF.b dX4_add_5 rfl (lv_at hl 2 rfl) ?_
  refine lv_iconst (v := 5) hF.x hF.b dX4_add_6 (by decide) ?_
  replace h := bd_some h
  obtain ⟨v2, σ3, hv2, h⟩ := h
  refine w_cNi (As := [.int 5]) (rest := [.int a1, .int 1]) hF hH hl (tX5_setOfFirst l E hF.j _ _ _ hv2) (List.mem_of_getElem? (l := nestW) (i := 4) rfl) tk_380 tk_41 tk_381 rfl rfl hdX5_setOfFirst ⟨Nat.le_of_ble_eq_true rfl, Nat.le_of_ble_eq_true rfl⟩ rfl rfl (Nat.le_of_ble_eq_true rfl) dX4_add_7 (fun H locs hH => ?_)
  refine lv_iand hF.x hF.b dX4_add_10 ?_
  refine lv_ishl hF.x hF.b dX4_add_11 ?_
  refine lv_topi (fun y4 ey4 => ?_)
  replace h := sv_at h ey4
  clear ey4
  refine lv_istore (lv' := [(4, .int y4), (3, .int y1), (0, .ref (eA E 13)), (1, .int a1), (2, .int a2)]) hF.x hF.b dX4_add_12 hl (by decide) rfl (fun ls hl => ?_)
  refine lv_aload_n hF.x hF.b dX4_add_14 rfl (lv_at hl 2 rfl) ?_
  refine gfC_13_3 hF hH tk_157 dX4_add_15 ?_
  refine lv_iload_n hF.x hF.b dX4_add_18 rfl (lv_at hl 1 rfl) ?_
  refine alC_16 hF hH (gd_some h).1 dX4_add_19 ?_
  replace h := (gd_some h).2
  refine lv_iload hF.x hF.b dX4_add_20 (lv_at hl 0 rfl) ?_
  refine lv_iand hF.x hF.b dX4_add_22 ?_
  refine lv_if_ne (tgt := 36) hF.x hF.b dX4_add_23 (by decide) (fun c5 => ?_) (fun c5 => ?_)
  · rw [if_neg c5] at h
    exact w36 _ _ _ _ h hH (lv_sub hl [2] rfl)
  · rw [if_pos c5] at h
    refine lv_aload_n hF.x hF.b dX4_add_26 rfl (lv_at hl 2 rfl) ?_
    refine gfC_13_4 hF hH tk_158 dX4_add_27 ?_
    refine lv_sipush (v := 8000) hF.x hF.b dX4_add_30 (by decide) ?_
    refine lv_icmp_lt (tgt := 38) hF.x hF.b dX4_add_33 (by decide) (fun c6 => ?_) (fun c6 => ?_)
    · rw [if_pos c6] at h
      refine lv_aload_n hF.x hF.b dX4_add_38 rfl (lv_at hl 2 rfl) ?_
      refine gfC_13_3 hF hH tk_157 dX4_add_39 ?_
      refine lv_iload_n hF.x hF.b dX4_add_42 rfl (lv_at hl 1 rfl) ?_
      refine lv_dup2_11 hF.x hF.b dX4_add_43 rfl rfl ?_
      refine alC_16 hF hH (gd_some h).1 dX4_add_44 ?_
      replace h := (gd_some h).2
      refine lv_iload hF.x hF.b dX4_add_45 (lv_at hl 0 rfl) ?_
      refine lv_ior hF.x hF.b dX4_add_47 ?_
      refine asC_16 hF hH (gd_some h).1 dX4_add_48 (fun σ7 H locs eσ7 hH => ?_)
      replace h := sv_at (gd_some h).2 eσ7
      clear eσ7
      refine lv_aload_n hF.x hF.b dX4_add_49 rfl (lv_at hl 2 rfl) ?_
      refine gfC_13_1 hF hH tk_155 dX4_add_50 ?_
      refine lv_aload_n hF.x hF.b dX4_add_53 rfl (lv_at hl 2 rfl) ?_
      refine gfC_13_4 hF hH tk_158 dX4_add_54 ?_
      refine lv_iload_n hF.x hF.b dX4_add_57 rfl (lv_at hl 3 rfl) ?_
      refine asC_14 hF hH (gd_some h).1 dX4_add_58 (fun σ8 H locs eσ8 hH => ?_)
      replace h := sv_at (gd_some h).2 eσ8
      clear eσ8
      refine lv_aload_n hF.x hF.b dX4_add_59 rfl (lv_at hl 2 rfl) ?_
      refine gfC_13_2 hF hH tk_156 dX4_add_60 ?_
      refine lv_aload_n hF.x hF.b dX4_add_63 rfl (lv_at hl 2 rfl) ?_
      refine gfC_13_4 hF hH tk_158 dX4_add_64 ?_
      refine lv_iload_n hF.x hF.b dX4_add_67 rfl (lv_at hl 4 rfl) ?_
      refine asC_15 hF hH (gd_some h).1 dX4_add_68 (fun σ9 H locs eσ9 hH => ?_)
      replace h := sv_at (gd_some h).2 eσ9
      clear eσ9
      refine lv_aload_n hF.x hF.b dX4_add_69 rfl (lv_at hl 2 rfl) ?_
      refine lv_dup hF.x hF.b dX4_add_70 rfl ?_
      refine gfC_13_4 hF hH tk_158 dX4_add_71 ?_
      refine lv_iconst (v := 1) hF.x hF.b dX4_add_74 (by decide) ?_
      refine lv_iadd hF.x hF.b dX4_add_75 ?_
      refine pfC_13_4 hF hH tk_158 dX4_add_76 (fun σ10 H locs eσ10 hH => ?_)
      replace h := sv_at h eσ10
      clear eσ10
      refine lv_iconst (v := 1) hF.x hF.b dX4_add_79 (by decide) ?_
      exact hret _ _ _ _ _ _ hH h dX4_add_80
    · rw [if_neg c6] at h
      exact w36 _ _ _ _ h hH (lv_sub hl [2] rfl)
theorem hdX4_explore : yX4_explore.cls = RX4 ∧ yX4_explore.cls ≠ "java/lang/invoke/MethodHandle" ∧ yX4_explore.cls ≠ "java/lang/invoke/VarHandle" ∧ (parseMethodDescriptor yX4_explore.desc).map (fun d => d.parameters.length) = some 5 := by decide +kernel
set_option maxHeartbeats 4000000 in
set_option maxRecDepth 100000 in
theorem tX4_explore (l : Launch) (E : Ev) (hj : Inj kC E) (a1 : Int32) (a2 : Int32) (a3 : Int32) (a4 : Int32) (a5 : Int32) (σ : Sg) (r : Int32 × Sg) (h : fX4_explore a1 a2 a3 a4 a5 σ = some r) : CI l yX4_explore cX4_explore 12 (some FieldType.int) (rmk 4 101) kC E [.ref (eA E 13), .int a1, .int a2, .int a3, .int a4, .int a5] σ r := by
  refine CI_i (lv := [(0, .ref (eA E 13)), (1, .int a1), (2, .int a2), (3, .int a3), (4, .int a4), (5, .int a5)]) (by decide) hj (Nat.le_of_ble_eq_true rfl) rfl (fun p e s m args below meth c ls Q hF hret hH hl => ?_)
  have w175 : ∀ (σ : Sg) (H : Heap) (locs : List Loc) (ls : Array Slot), fX4_explore_175 σ = some r → HP kC E s σ H locs → lv_has ls 12 [(0, .ref (eA E 13))] → W p l e (rmk 4 101) s m args below meth c H locs 0 0 Q (F0 m 175 ls []) := by
    intro σ H locs ls h hH hl
    unfold fX4_explore_175 at h
    refine lv_iconst (v := (-1)) hF.x hF.b dX4_explore_175 (by decide) ?_
    exact hret _ _ _ _ _ _ hH h dX4_explore_176
  have w39 : ∀ (n : Nat) (x2 x3 x4 x5 x7 : Int32) (σ : Sg) (H : Heap) (locs : List Loc) (ls : Array Slot), it fX4_explore_L39 (fun _ _ _ _ _ _ => none) n x2 x3 x4 x5 x7 σ = some r → HP kC E s σ H locs → lv_has ls 12 [(0, .ref (eA E 13)), (2, .int x2), (3, .int x3), (4, .int x4), (5, .int x5), (7, .int x7)] → W p l e (rmk 4 101) s m args below meth c H locs 0 0 Q (F0 m 39 ls []) := by
    intro n39
    induction n39 with
    | zero =>
      intro x2 x3 x4 x5 x7 σ H locs ls h hH hl
      cases (show (none : Rs) = some r from h)
    | succ n39 ih39 =>
      have w89 : ∀ (n : Nat) (x2 x3 x4 x5 x7 x8 x9 x10 : Int32) (σ : Sg) (H : Heap) (locs : List Loc) (ls : Array Slot), it (fX4_explore_L89 (it fX4_explore_L39 (fun _ _ _ _ _ _ => none) n39)) (fun _ _ _ _ _ _ _ _ _ => none) n x2 x3 x4 x5 x7 x8 x9 x10 σ = some r → HP kC E s σ H locs → lv_has ls 12 [(0, .ref (eA E 13)), (2, .int x2), (3, .int x3), (4, .int x4), (5, .int x5), (7, .int x7), (8, .int x8), (9, .int x9), (10, .int x10)] → W p l e (rmk 4 101) s m args below meth c H locs 0 0 Q (F0 m 89 ls []) := by
        intro n89
        induction n89 with
        | zero =>
          intro x2 x3 x4 x5 x7 x8 x9 x10 σ H locs ls h hH hl
          cases (show (none : Rs) = some r from h)
        | succ n89 ih89 =>
          have w163 : ∀ (x2 x3 x4 x5 x7 x8 x9 x10 : Int32) (σ : Sg) (H : Heap) (locs : List Loc) (ls : Array Slot), fX4_explore_163 (it fX4_explore_L39 (fun _ _ _ _ _ _ => none) n39) (it (fX4_explore_L89 (it fX4_explore_L39 (fun _ _ _ _ _ _ => none) n39)) (fun _ _ _ _ _ _ _ _ _ => none) n89) x2 x3 x4 x5 x7 x8 x9 x10 σ = some r → HP kC E s σ H locs → lv_has ls 12 [(0, .ref (eA E 13)), (2, .int x2), (3, .int x3), (4, .int x4), (5, .int x5), (7, .int x7), (8, .int x8), (9, .int x9), (10, .int x10)] → W p l e (rmk 4 101) s m args below meth c H locs 0 0 Q (F0 m 163 ls []) := by
            intro x2 x3 x4 x5 x7 x8 x9 x10 σ H locs ls h hH hl
            unfold fX4_explore_163 at h
            obtain ⟨y1, ey1⟩ : ∃ z : Int32, z = (x10 + 1) := ⟨_, rfl⟩
            replace h := sv_at h ey1
            refine lv_iinc (v := y1) (lv' := [(10, .int y1), (0, .ref (eA E 13)), (2, .int x2), (3, .int x3), (4, .int x4), (5, .int x5), (7, .int x7), (8, .int x8), (9, .int x9)]) hF.x hF.b dX4_explore_163 hl (k := 8) rfl (by rw [ey1]; rfl) (by decide) rfl (fun ls hl => ?_)
            clear ey1
            refine lv_goto (tgt := 89) hF.x hF.b dX4_explore_166 (by decide) ?_
            exact ih89 _ _ _ _ _ _ _ _ _ _ _ _ h hH (lv_sub hl [1, 2, 3, 4, 5, 6, 7, 8, 0] rfl)
          intro x2 x3 x4 x5 x7 x8 x9 x10 σ H locs ls h hH hl
          rw [it_eq] at h
          unfold fX4_explore_L89 at h
          refine lv_iload hF.x hF.b dX4_explore_89 (lv_at hl 8 rfl) ?_
          refine lv_bipush (v := 10) hF.x hF.b dX4_explore_91 (by decide) ?_
          refine lv_icmp_ge (tgt := 169) hF.x hF.b dX4_explore_93 (by decide) (fun c2 => ?_) (fun c2 => ?_)
          · rw [if_pos c2] at h
            obtain ⟨y3, ey3⟩ : ∃ z : Int32, z = (x7 + 1) := ⟨_, rfl⟩
            replace h := sv_at h ey3
            refine lv_iinc (v := y3) (lv' := [(7, .int y3), (0, .ref (eA E 13)), (2, .int x2), (3, .int x3), (4, .int x4), (5, .int x5), (8, .int x8), (9, .int x9), (10, .int x10)]) hF.x hF.b dX4_explore_169 hl (k := 5) rfl (by rw [ey3]; rfl) (by decide) rfl (fun ls hl => ?_)
            clear ey3
            refine lv_goto (tgt := 39) hF.x hF.b dX4_explore_172 (by decide) ?_
            exact ih39 _ _ _ _ _ _ _ _ _ h hH (lv_sub hl [1, 2, 3, 4, 5, 0] rfl)
          · rw [if_neg c2] at h
            refine lv_iload hF.x hF.b dX4_explore_96 (lv_at hl 6 rfl) ?_
            refine lv_iload hF.x hF.b dX4_explore_98 (lv_at hl 8 rfl) ?_
            replace h := bd_some h
            obtain ⟨v4, σ5, hv4, h⟩ := h
            refine w_cNi (As := [.int x8, .int x10]) (rest := []) hF hH hl (tX5_bit l E hF.j _ _ _ _ hv4) (List.mem_of_getElem? (l := nestW) (i := 5) rfl) tk_227 tk_41 tk_228 rfl rfl hdX5_bit ⟨Nat.le_of_ble_eq_true rfl, Nat.le_of_ble_eq_true rfl⟩ rfl rfl (Nat.le_of_ble_eq_true rfl) dX4_explore_100 (fun H locs hH => ?_)
            refine lv_if_ne (tgt := 109) hF.x hF.b dX4_explore_103 (by decide) (fun c6 => ?_) (fun c6 => ?_)
            · rw [if_neg c6] at h
              refine lv_aload_n hF.x hF.b dX4_explore_109 rfl (lv_at hl 0 rfl) ?_
              refine gfC_13_0 hF hH tk_154 dX4_explore_110 ?_
              refine lv_iload hF.x hF.b dX4_explore_113 (lv_at hl 7 rfl) ?_
              refine lv_iload hF.x hF.b dX4_explore_115 (lv_at hl 8 rfl) ?_
              replace h := bd_some h
              obtain ⟨v7, σ8, hv7, h⟩ := h
              refine w_cVi (As := [.int x9, .int x10]) (rest := []) hF hH hl 12 (by decide) rfl rfl (tX3_withStep l E hF.j _ _ _ _ hv7) tk_406 tk_339 tk_340 tk_44 tk_341 rfl rfl hdX3_withStep ⟨Nat.le_of_ble_eq_true rfl, Nat.le_of_ble_eq_true rfl⟩ rfl rfl (Nat.le_of_ble_eq_true rfl) dX4_explore_117 (fun H locs hH => ?_)
              refine lv_iload_n hF.x hF.b dX4_explore_120 rfl (lv_at hl 1 rfl) ?_
              refine lv_iand hF.x hF.b dX4_explore_121 ?_
              refine lv_topi (fun y9 ey9 => ?_)
              replace h := sv_at h ey9
              clear ey9
              refine lv_istore (lv' := [(11, .int y9), (0, .ref (eA E 13)), (2, .int x2), (3, .int x3), (4, .int x4), (5, .int x5), (7, .int x7), (8, .int x8), (9, .int x9), (10, .int x10)]) hF.x hF.b dX4_explore_122 hl (by decide) rfl (fun ls hl => ?_)
              refine lv_aload_n hF.x hF.b dX4_explore_124 rfl (lv_at hl 1 rfl) ?_
              refine lv_iload hF.x hF.b dX4_explore_125 (lv_at hl 0 rfl) ?_
              refine lv_iload hF.x hF.b dX4_explore_127 (lv_at hl 6 rfl) ?_
              refine lv_iconst (v := 4) hF.x hF.b dX4_explore_129 (by decide) ?_
              refine lv_ishl hF.x hF.b dX4_explore_130 ?_
              refine lv_iload hF.x hF.b dX4_explore_131 (lv_at hl 9 rfl) ?_
              refine lv_ior hF.x hF.b dX4_explore_133 ?_
              replace h := bd_some h
              obtain ⟨v10, σ11, hv10, h⟩ := h
              refine w_cVi (As := [.int y9, .int ((x7 <<< ((4 : Int32) &&& 31)) ||| x10)]) (rest := []) hF hH hl 13 (by decide) rfl rfl (tX4_add l E hF.j _ _ _ _ hv10) tk_394 tk_396 tk_8 tk_45 tk_397 rfl rfl hdX4_add ⟨Nat.le_of_ble_eq_true rfl, Nat.le_of_ble_eq_true rfl⟩ rfl rfl (Nat.le_of_ble_eq_true rfl) dX4_explore_134 (fun H locs hH => ?_)
              refine lv_if_eq (tgt := 163) hF.x hF.b dX4_explore_137 (by decide) (fun c12 => ?_) (fun c12 => ?_)
              · rw [if_pos c12] at h
                exact w163 _ _ _ _ _ _ _ _ _ _ _ _ h hH (lv_sub hl [1, 2, 3, 4, 5, 6, 7, 8, 9] rfl)
              · rw [if_neg c12] at h
                refine lv_aload_n hF.x hF.b dX4_explore_140 rfl (lv_at hl 1 rfl) ?_
                refine gfC_13_0 hF hH tk_154 dX4_explore_141 ?_
                refine lv_iload hF.x hF.b dX4_explore_144 (lv_at hl 0 rfl) ?_
                refine lv_iload hF.x hF.b dX4_explore_146 (lv_at hl 4 rfl) ?_
                refine lv_iload hF.x hF.b dX4_explore_148 (lv_at hl 5 rfl) ?_
                replace h := bd_some h
                obtain ⟨v13, σ14, hv13, h⟩ := h
                refine w_cVi (As := [.int y9, .int x4, .int x5]) (rest := []) hF hH hl 12 (by decide) rfl rfl (tX3_isReached l E hF.j _ _ _ _ _ hv13) tk_399 tk_400 tk_401 tk_44 tk_402 rfl rfl hdX3_isReached ⟨Nat.le_of_ble_eq_true rfl, Nat.le_of_ble_eq_true rfl⟩ rfl rfl (Nat.le_of_ble_eq_true rfl) dX4_explore_150 (fun H locs hH => ?_)
                refine lv_if_eq (tgt := 163) hF.x hF.b dX4_explore_153 (by decide) (fun c15 => ?_) (fun c15 => ?_)
                · rw [if_pos c15] at h
                  exact w163 _ _ _ _ _ _ _ _ _ _ _ _ h hH (lv_sub hl [1, 2, 3, 4, 5, 6, 7, 8, 9] rfl)
                · rw [if_neg c15] at h
                  refine lv_aload_n hF.x hF.b dX4_explore_156 rfl (lv_at hl 1 rfl) ?_
                  refine gfC_13_4 hF hH tk_158 dX4_explore_157 ?_
                  refine lv_iconst (v := 1) hF.x hF.b dX4_explore_160 (by decide) ?_
                  refine lv_isub hF.x hF.b dX4_explore_161 ?_
                  exact hret _ _ _ _ _ _ hH h dX4_explore_162
            · rw [if_pos c6] at h
              refine lv_goto (tgt := 163) hF.x hF.b dX4_explore_106 (by decide) ?_
              exact w163 _ _ _ _ _ _ _ _ _ _ _ _ h hH (lv_sub hl [0, 1, 2, 3, 4, 5, 6, 7, 8] rfl)
      intro x2 x3 x4 x5 x7 σ H locs ls h hH hl
      rw [it_eq] at h
      unfold fX4_explore_L39 at h
      refine lv_iload hF.x hF.b dX4_explore_39 (lv_at hl 5 rfl) ?_
      refine lv_aload_n hF.x hF.b dX4_explore_41 rfl (lv_at hl 0 rfl) ?_
      refine gfC_13_4 hF hH tk_158 dX4_explore_42 ?_
      refine lv_icmp_ge (tgt := 175) hF.x hF.b dX4_explore_45 (by decide) (fun c16 => ?_) (fun c16 => ?_)
      · rw [if_pos c16] at h
        exact w175 _ _ _ _ h hH (lv_sub hl [0] rfl)
      · rw [if_neg c16] at h
        refine lv_iload hF.x hF.b dX4_explore_48 (lv_at hl 5 rfl) ?_
        refine lv_sipush (v := 8000) hF.x hF.b dX4_explore_50 (by decide) ?_
        refine lv_icmp_ge (tgt := 175) hF.x hF.b dX4_explore_53 (by decide) (fun c17 => ?_) (fun c17 => ?_)
        · rw [if_pos c17] at h
          exact w175 _ _ _ _ h hH (lv_sub hl [0] rfl)
        · rw [if_neg c17] at h
          refine lv_aload_n hF.x hF.b dX4_explore_56 rfl (lv_at hl 0 rfl) ?_
          refine gfC_13_0 hF hH tk_154 dX4_explore_57 ?_
          refine lv_aload_n hF.x hF.b dX4_explore_60 rfl (lv_at hl 0 rfl) ?_
          refine gfC_13_1 hF hH tk_155 dX4_explore_61 ?_
          refine lv_iload hF.x hF.b dX4_explore_64 (lv_at hl 5 rfl) ?_
          refine alC_14 hF hH (gd_some h).1 dX4_explore_66 ?_
          replace h := (gd_some h).2
          replace h := bd_some h
          obtain ⟨v18, σ19, hv18, h⟩ := h
          refine w_cVi (As := [.int (σ 14 (Int32.toNatClampNeg x7))]) (rest := []) hF hH hl 12 (by decide) rfl rfl (tX3_stepsFrom l E hF.j _ _ _ hv18) tk_403 tk_312 tk_313 tk_44 tk_314 rfl rfl hdX3_stepsFrom ⟨Nat.le_of_ble_eq_true rfl, Nat.le_of_ble_eq_true rfl⟩ rfl rfl (Nat.le_of_ble_eq_true rfl) dX4_explore_67 (fun H locs hH => ?_)
          refine lv_iload_n hF.x hF.b dX4_explore_70 rfl (lv_at hl 2 rfl) ?_
          refine lv_iand hF.x hF.b dX4_explore_71 ?_
          refine lv_topi (fun y20 ey20 => ?_)
          replace h := sv_at h ey20
          clear ey20
          refine lv_istore (lv' := [(8, .int y20), (0, .ref (eA E 13)), (2, .int x2), (3, .int x3), (4, .int x4), (5, .int x5), (7, .int x7)]) hF.x hF.b dX4_explore_72 hl (by decide) rfl (fun ls hl => ?_)
          refine lv_aload_n hF.x hF.b dX4_explore_74 rfl (lv_at hl 1 rfl) ?_
          refine gfC_13_1 hF hH tk_155 dX4_explore_75 ?_
          refine lv_iload hF.x hF.b dX4_explore_78 (lv_at hl 6 rfl) ?_
          refine alC_14 hF hH (gd_some h).1 dX4_explore_80 ?_
          replace h := (gd_some h).2
          replace h := bd_some h
          obtain ⟨v21, σ22, hv21, h⟩ := h
          refine w_cSi (As := [.int (σ19 14 (Int32.toNatClampNeg x7))]) (rest := []) hF hH hl (tX0_ticked l E hF.j _ _ _ hv21) tk_404 tk_336 tk_48 tk_337 rfl rfl hdX0_ticked ⟨Nat.le_of_ble_eq_true rfl, Nat.le_of_ble_eq_true rfl⟩ rfl rfl (Nat.le_of_ble_eq_true rfl) dX4_explore_81 (fun H locs hH => ?_)
          refine lv_istore (lv' := [(9, .int v21), (8, .int y20), (0, .ref (eA E 13)), (2, .int x2), (3, .int x3), (4, .int x4), (5, .int x5), (7, .int x7)]) hF.x hF.b dX4_explore_84 hl (by decide) rfl (fun ls hl => ?_)
          refine lv_iconst (v := 0) hF.x hF.b dX4_explore_86 (by decide) ?_
          refine lv_istore (lv' := [(10, .int 0), (9, .int v21), (8, .int y20), (0, .ref (eA E 13)), (2, .int x2), (3, .int x3), (4, .int x4), (5, .int x5), (7, .int x7)]) hF.x hF.b dX4_explore_87 hl (by decide) rfl (fun ls hl => ?_)
          exact w89 _ _ _ _ _ _ _ _ _ _ _ _ _ h hH (lv_sub hl [3, 4, 5, 6, 7, 8, 2, 1, 0] rfl)
  unfold fX4_explore at h
  refine lv_iload_n hF.x hF.b dX4_explore_0 rfl (lv_at hl 1 rfl) ?_
  refine lv_iload_n hF.x hF.b dX4_explore_1 rfl (lv_at hl 2 rfl) ?_
  refine lv_iand hF.x hF.b dX4_explore_2 ?_
  refine lv_topi (fun y23 ey23 => ?_)
  replace h := sv_at h ey23
  clear ey23
  refine lv_istore (lv' := [(6, .int y23), (0, .ref (eA E 13)), (1, .int a1), (2, .int a2), (3, .int a3), (4, .int a4), (5, .int a5)]) hF.x hF.b dX4_explore_3 hl (by decide) rfl (fun ls hl => ?_)
  refine lv_aload_n hF.x hF.b dX4_explore_5 rfl (lv_at hl 1 rfl) ?_
  refine lv_iload_n hF.x hF.b dX4_explore_6 rfl (lv_at hl 3 rfl) ?_
  replace h := bd_some h
  obtain ⟨v24, σ25, hv24, h⟩ := h
  refine w_cVv (As := [.int a2]) (rest := []) hF hH hl 13 (by decide) rfl rfl (tX4_forget l E hF.j _ _ _ hv24) tk_390 tk_392 tk_7 tk_45 tk_393 rfl rfl hdX4_forget ⟨Nat.le_of_ble_eq_true rfl, Nat.le_of_ble_eq_true rfl⟩ rfl rfl (Nat.le_of_ble_eq_true rfl) dX4_explore_7 (fun H locs hH => ?_)
  refine lv_aload_n hF.x hF.b dX4_explore_10 rfl (lv_at hl 1 rfl) ?_
  refine lv_iload hF.x hF.b dX4_explore_11 (lv_at hl 0 rfl) ?_
  refine lv_iconst (v := 0) hF.x hF.b dX4_explore_13 (by decide) ?_
  replace h := bd_some h
  obtain ⟨v26, σ27, hv26, h⟩ := h
  refine w_cVi (As := [.int y23, .int 0]) (rest := []) hF hH hl 13 (by decide) rfl rfl (tX4_add l E hF.j _ _ _ _ hv26) tk_394 tk_396 tk_8 tk_45 tk_397 rfl rfl hdX4_add ⟨Nat.le_of_ble_eq_true rfl, Nat.le_of_ble_eq_true rfl⟩ rfl rfl (Nat.le_of_ble_eq_true rfl) dX4_explore_14 (fun H locs hH => ?_)
  refine lv_pop hF.x hF.b dX4_explore_17 rfl ?_
  refine lv_aload_n hF.x hF.b dX4_explore_18 rfl (lv_at hl 1 rfl) ?_
  refine gfC_13_0 hF hH tk_154 dX4_explore_19 ?_
  refine lv_iload hF.x hF.b dX4_explore_22 (lv_at hl 0 rfl) ?_
  refine lv_iload hF.x hF.b dX4_explore_24 (lv_at hl 5 rfl) ?_
  refine lv_iload hF.x hF.b dX4_explore_26 (lv_at hl 6 rfl) ?_
  replace h := bd_some h
  obtain ⟨v28, σ29, hv28, h⟩ := h
  refine w_cVi (As := [.int y23, .int a4, .int a5]) (rest := []) hF hH hl 12 (by decide) rfl rfl (tX3_isReached l E hF.j _ _ _ _ _ hv28) tk_399 tk_400 tk_401 tk_44 tk_402 rfl rfl hdX3_isReached ⟨Nat.le_of_ble_eq_true rfl, Nat.le_of_ble_eq_true rfl⟩ rfl rfl (Nat.le_of_ble_eq_true rfl) dX4_explore_28 (fun H locs hH => ?_)
  refine lv_if_eq (tgt := 36) hF.x hF.b dX4_explore_31 (by decide) (fun c30 => ?_) (fun c30 => ?_)
  · rw [if_pos c30] at h
    refine lv_iconst (v := 0) hF.x hF.b dX4_explore_36 (by decide) ?_
    refine lv_istore (lv' := [(7, .int 0), (6, .int y23), (0, .ref (eA E 13)), (1, .int a1), (2, .int a2), (3, .int a3), (4, .int a4), (5, .int a5)]) hF.x hF.b dX4_explore_37 hl (by decide) rfl (fun ls hl => ?_)
    exact w39 _ _ _ _ _ _ _ _ _ _ h hH (lv_sub hl [2, 4, 5, 6, 7, 0] rfl)
  · rw [if_neg c30] at h
    refine lv_iconst (v := 0) hF.x hF.b dX4_explore_34 (by decide) ?_
    exact hret _ _ _ _ _ _ hH h dX4_explore_35
theorem hdX4_plan : yX4_plan.cls = RX4 ∧ yX4_plan.cls ≠ "java/lang/invoke/MethodHandle" ∧ yX4_plan.cls ≠ "java/lang/invoke/VarHandle" ∧ (parseMethodDescriptor yX4_plan.desc).map (fun d => d.parameters.length) = some 3 := by decide +kernel
set_option maxHeartbeats 4000000 in
set_option maxRecDepth 100000 in
theorem tX4_plan (l : Launch) (E : Ev) (hj : Inj kC E) (a1 : Int32) (a2 : Int32) (a3 : Int32) (σ : Sg) (r : Int32 × Sg) (h : fX4_plan a1 a2 a3 σ = some r) : CI l yX4_plan cX4_plan 4 (some FieldType.int) (rmk 5 132) kC E [.ref (eA E 13), .int a1, .int a2, .int a3] σ r := by
  refine CI_i (lv := [(0, .ref (eA E 13)), (1, .int a1), (2, .int a2), (3, .int a3)]) (by decide) hj (Nat.le_of_ble_eq_true rfl) rfl (fun p e s m args below meth c ls Q hF hret hH hl => ?_)
  unfold fX4_plan at h
  refine lv_aload_n hF.x hF.b dX4_plan_0 rfl (lv_at hl 0 rfl) ?_
  refine lv_iload_n hF.x hF.b dX4_plan_1 rfl (lv_at hl 1 rfl) ?_
  refine lv_sipush (v := 511) hF.x hF.b dX4_plan_2 (by decide) ?_
  refine lv_sipush (v := 1023) hF.x hF.b dX4_plan_5 (by decide) ?_
  refine lv_iload_n hF.x hF.b dX4_plan_8 rfl (lv_at hl 2 rfl) ?_
  refine lv_iload_n hF.x hF.b dX4_plan_9 rfl (lv_at hl 3 rfl) ?_
  replace h := bd_some h
  obtain ⟨v1, σ2, hv1, h⟩ := h
  refine w_cVi (As := [.int a1, .int 511, .int 1023, .int a2, .int a3]) (rest := []) hF hH hl 13 (by decide) rfl rfl (tX4_explore l E hF.j _ _ _ _ _ _ _ hv1) tk_386 tk_388 tk_6 tk_45 tk_389 rfl rfl hdX4_explore ⟨Nat.le_of_ble_eq_true rfl, Nat.le_of_ble_eq_true rfl⟩ rfl rfl (Nat.le_of_ble_eq_true rfl) dX4_plan_10 (fun H locs hH => ?_)
  refine lv_iconst (v := (-1)) hF.x hF.b dX4_plan_13 (by decide) ?_
  refine lv_icmp_ne (tgt := 19) hF.x hF.b dX4_plan_14 (by decide) (fun c3 => ?_) (fun c3 => ?_)
  · rw [if_neg c3] at h
    refine lv_aload_n hF.x hF.b dX4_plan_19 rfl (lv_at hl 0 rfl) ?_
    refine lv_iload_n hF.x hF.b dX4_plan_20 rfl (lv_at hl 1 rfl) ?_
    refine lv_sipush (v := 32767) hF.x hF.b dX4_plan_21 (by decide) ?_
    refine lv_sipush (v := 1023) hF.x hF.b dX4_plan_24 (by decide) ?_
    refine lv_iload_n hF.x hF.b dX4_plan_27 rfl (lv_at hl 2 rfl) ?_
    refine lv_iload_n hF.x hF.b dX4_plan_28 rfl (lv_at hl 3 rfl) ?_
    replace h := bd_some h
    obtain ⟨v4, σ5, hv4, h⟩ := h
    refine w_cVi (As := [.int a1, .int 32767, .int 1023, .int a2, .int a3]) (rest := []) hF hH hl 13 (by decide) rfl rfl (tX4_explore l E hF.j _ _ _ _ _ _ _ hv4) tk_386 tk_388 tk_6 tk_45 tk_389 rfl rfl hdX4_explore ⟨Nat.le_of_ble_eq_true rfl, Nat.le_of_ble_eq_true rfl⟩ rfl rfl (Nat.le_of_ble_eq_true rfl) dX4_plan_29 (fun H locs hH => ?_)
    exact hret _ _ _ _ _ _ hH h dX4_plan_32
  · rw [if_pos c3] at h
    refine lv_iconst (v := (-1)) hF.x hF.b dX4_plan_17 (by decide) ?_
    exact hret _ _ _ _ _ _ hH h dX4_plan_18
theorem hdX4_codeAt : yX4_codeAt.cls = RX4 ∧ yX4_codeAt.cls ≠ "java/lang/invoke/MethodHandle" ∧ yX4_codeAt.cls ≠ "java/lang/invoke/VarHandle" ∧ (parseMethodDescriptor yX4_codeAt.desc).map (fun d => d.parameters.length) = some 1 := by decide +kernel
set_option maxHeartbeats 4000000 in
set_option maxRecDepth 100000 in
theorem tX4_codeAt (l : Launch) (E : Ev) (hj : Inj kC E) (a1 : Int32) (σ : Sg) (r : Int32 × Sg) (h : fX4_codeAt a1 σ = some r) : CI l yX4_codeAt cX4_codeAt 2 (some FieldType.int) (rmk 0 0) kC E [.ref (eA E 13), .int a1] σ r := by
  refine CI_i (lv := [(0, .ref (eA E 13)), (1, .int a1)]) (by decide) hj (Nat.le_of_ble_eq_true rfl) rfl (fun p e s m args below meth c ls Q hF hret hH hl => ?_)
  unfold fX4_codeAt at h
  refine lv_aload_n hF.x hF.b dX4_codeAt_0 rfl (lv_at hl 0 rfl) ?_
  refine gfC_13_1 hF hH tk_155 dX4_codeAt_1 ?_
  refine lv_iload_n hF.x hF.b dX4_codeAt_4 rfl (lv_at hl 1 rfl) ?_
  refine alC_14 hF hH (gd_some h).1 dX4_codeAt_5 ?_
  replace h := (gd_some h).2
  exact hret _ _ _ _ _ _ hH h dX4_codeAt_6
theorem hdX4_ticksTo : yX4_ticksTo.cls = RX4 ∧ yX4_ticksTo.cls ≠ "java/lang/invoke/MethodHandle" ∧ yX4_ticksTo.cls ≠ "java/lang/invoke/VarHandle" ∧ (parseMethodDescriptor yX4_ticksTo.desc).map (fun d => d.parameters.length) = some 1 := by decide +kernel
set_option maxHeartbeats 4000000 in
set_option maxRecDepth 100000 in
theorem tX4_ticksTo (l : Launch) (E : Ev) (hj : Inj kC E) (a1 : Int32) (σ : Sg) (r : Int32 × Sg) (h : fX4_ticksTo a1 σ = some r) : CI l yX4_ticksTo cX4_ticksTo 4 (some FieldType.int) (rmk 0 0) kC E [.ref (eA E 13), .int a1] σ r := by
  refine CI_i (lv := [(0, .ref (eA E 13)), (1, .int a1)]) (by decide) hj (Nat.le_of_ble_eq_true rfl) rfl (fun p e s m args below meth c ls Q hF hret hH hl => ?_)
  have w30 : ∀ (x2 : Int32) (σ : Sg) (H : Heap) (locs : List Loc) (ls : Array Slot), fX4_ticksTo_30 x2 σ = some r → HP kC E s σ H locs → lv_has ls 4 [(0, .ref (eA E 13)), (2, .int x2)] → W p l e (rmk 0 0) s m args below meth c H locs 0 0 Q (F0 m 30 ls []) := by
    intro x2 σ H locs ls h hH hl
    unfold fX4_ticksTo_30 at h
    refine lv_iload_n hF.x hF.b dX4_ticksTo_30 rfl (lv_at hl 1 rfl) ?_
    exact hret _ _ _ _ _ _ hH h dX4_ticksTo_31
  have w4 : ∀ (n : Nat) (x2 x3 : Int32) (σ : Sg) (H : Heap) (locs : List Loc) (ls : Array Slot), it fX4_ticksTo_L4 (fun _ _ _ => none) n x2 x3 σ = some r → HP kC E s σ H locs → lv_has ls 4 [(0, .ref (eA E 13)), (2, .int x2), (3, .int x3)] → W p l e (rmk 0 0) s m args below meth c H locs 0 0 Q (F0 m 4 ls []) := by
    intro n4
    induction n4 with
    | zero =>
      intro x2 x3 σ H locs ls h hH hl
      cases (show (none : Rs) = some r from h)
    | succ n4 ih4 =>
      intro x2 x3 σ H locs ls h hH hl
      rw [it_eq] at h
      unfold fX4_ticksTo_L4 at h
      refine lv_iload_n hF.x hF.b dX4_ticksTo_4 rfl (lv_at hl 2 rfl) ?_
      refine lv_if_le (tgt := 30) hF.x hF.b dX4_ticksTo_5 (by decide) (fun c1 => ?_) (fun c1 => ?_)
      · rw [if_pos c1] at h
        exact w30 _ _ _ _ _ h hH (lv_sub hl [0, 1] rfl)
      · rw [if_neg c1] at h
        refine lv_iload_n hF.x hF.b dX4_ticksTo_8 rfl (lv_at hl 1 rfl) ?_
        refine lv_sipush (v := 8000) hF.x hF.b dX4_ticksTo_9 (by decide) ?_
        refine lv_icmp_ge (tgt := 30) hF.x hF.b dX4_ticksTo_12 (by decide) (fun c2 => ?_) (fun c2 => ?_)
        · rw [if_pos c2] at h
          exact w30 _ _ _ _ _ h hH (lv_sub hl [0, 1] rfl)
        · rw [if_neg c2] at h
          obtain ⟨y3, ey3⟩ : ∃ z : Int32, z = (x2 + 1) := ⟨_, rfl⟩
          replace h := sv_at h ey3
          refine lv_iinc (v := y3) (lv' := [(2, .int y3), (0, .ref (eA E 13)), (3, .int x3)]) hF.x hF.b dX4_ticksTo_15 hl (k := 1) rfl (by rw [ey3]; rfl) (by decide) rfl (fun ls hl => ?_)
          clear ey3
          refine lv_aload_n hF.x hF.b dX4_ticksTo_18 rfl (lv_at hl 1 rfl) ?_
          refine gfC_13_2 hF hH tk_156 dX4_ticksTo_19 ?_
          refine lv_iload_n hF.x hF.b dX4_ticksTo_22 rfl (lv_at hl 2 rfl) ?_
          refine alC_15 hF hH (gd_some h).1 dX4_ticksTo_23 ?_
          replace h := (gd_some h).2
          refine lv_iconst (v := 4) hF.x hF.b dX4_ticksTo_24 (by decide) ?_
          refine lv_ishr hF.x hF.b dX4_ticksTo_25 ?_
          refine lv_topi (fun y4 ey4 => ?_)
          replace h := sv_at h ey4
          clear ey4
          refine lv_istore_n (lv' := [(3, .int y4), (2, .int y3), (0, .ref (eA E 13))]) hF.x hF.b dX4_ticksTo_26 rfl hl (by decide) rfl (fun ls hl => ?_)
          refine lv_goto (tgt := 4) hF.x hF.b dX4_ticksTo_27 (by decide) ?_
          exact ih4 _ _ _ _ _ _ h hH (lv_sub hl [2, 1, 0] rfl)
  unfold fX4_ticksTo at h
  refine lv_iconst (v := 0) hF.x hF.b dX4_ticksTo_0 (by decide) ?_
  refine lv_istore_n (lv' := [(2, .int 0), (0, .ref (eA E 13)), (1, .int a1)]) hF.x hF.b dX4_ticksTo_1 rfl hl (by decide) rfl (fun ls hl => ?_)
  refine lv_iload_n hF.x hF.b dX4_ticksTo_2 rfl (lv_at hl 2 rfl) ?_
  refine lv_istore_n (lv' := [(3, .int a1), (2, .int 0), (0, .ref (eA E 13)), (1, .int a1)]) hF.x hF.b dX4_ticksTo_3 rfl hl (by decide) rfl (fun ls hl => ?_)
  exact w4 _ _ _ _ _ _ _ h hH (lv_sub hl [2, 1, 0] rfl)
theorem hdX4_stepBefore : yX4_stepBefore.cls = RX4 ∧ yX4_stepBefore.cls ≠ "java/lang/invoke/MethodHandle" ∧ yX4_stepBefore.cls ≠ "java/lang/invoke/VarHandle" ∧ (parseMethodDescriptor yX4_stepBefore.desc).map (fun d => d.parameters.length) = some 2 := by decide +kernel
set_option maxHeartbeats 4000000 in
set_option maxRecDepth 100000 in
theorem tX4_stepBefore (l : Launch) (E : Ev) (hj : Inj kC E) (a1 : Int32) (a2 : Int32) (σ : Sg) (r : Int32 × Sg) (h : fX4_stepBefore a1 a2 σ = some r) : CI l yX4_stepBefore cX4_stepBefore 5 (some FieldType.int) (rmk 1 20) kC E [.ref (eA E 13), .int a1, .int a2] σ r := by
  refine CI_i (lv := [(0, .ref (eA E 13)), (1, .int a1), (2, .int a2)]) (by decide) hj (Nat.le_of_ble_eq_true rfl) rfl (fun p e s m args below meth c ls Q hF hret hH hl => ?_)
  have w5 : ∀ (n : Nat) (x2 x3 x4 : Int32) (σ : Sg) (H : Heap) (locs : List Loc) (ls : Array Slot), it fX4_stepBefore_L5 (fun _ _ _ _ => none) n x2 x3 x4 σ = some r → HP kC E s σ H locs → lv_has ls 5 [(0, .ref (eA E 13)), (2, .int x2), (3, .int x3), (4, .int x4)] → W p l e (rmk 1 20) s m args below meth c H locs 0 0 Q (F0 m 5 ls []) := by
    intro n5
    induction n5 with
    | zero =>
      intro x2 x3 x4 σ H locs ls h hH hl
      cases (show (none : Rs) = some r from h)
    | succ n5 ih5 =>
      intro x2 x3 x4 σ H locs ls h hH hl
      rw [it_eq] at h
      unfold fX4_stepBefore_L5 at h
      refine lv_iload hF.x hF.b dX4_stepBefore_5 (lv_at hl 3 rfl) ?_
      refine lv_iload_n hF.x hF.b dX4_stepBefore_7 rfl (lv_at hl 1 rfl) ?_
      refine lv_icmp_ge (tgt := 26) hF.x hF.b dX4_stepBefore_8 (by decide) (fun c1 => ?_) (fun c1 => ?_)
      · rw [if_pos c1] at h
        refine lv_aload_n hF.x hF.b dX4_stepBefore_26 rfl (lv_at hl 0 rfl) ?_
        refine gfC_13_2 hF hH tk_156 dX4_stepBefore_27 ?_
        refine lv_iload_n hF.x hF.b dX4_stepBefore_30 rfl (lv_at hl 2 rfl) ?_
        refine alC_15 hF hH (gd_some h).1 dX4_stepBefore_31 ?_
        replace h := (gd_some h).2
        refine lv_iconst (v := 4) hF.x hF.b dX4_stepBefore_32 (by decide) ?_
        replace h := bd_some h
        obtain ⟨v2, σ3, hv2, h⟩ := h
        refine w_cNi (As := [.int 4]) (rest := [.int (σ 15 (Int32.toNatClampNeg x3))]) hF hH hl (tX5_setOfFirst l E hF.j _ _ _ hv2) (List.mem_of_getElem? (l := nestW) (i := 4) rfl) tk_380 tk_41 tk_381 rfl rfl hdX5_setOfFirst ⟨Nat.le_of_ble_eq_true rfl, Nat.le_of_ble_eq_true rfl⟩ rfl rfl (Nat.le_of_ble_eq_true rfl) dX4_stepBefore_33 (fun H locs hH => ?_)
        refine lv_iand hF.x hF.b dX4_stepBefore_36 ?_
        exact hret _ _ _ _ _ _ hH h dX4_stepBefore_37
      · rw [if_neg c1] at h
        refine lv_aload_n hF.x hF.b dX4_stepBefore_11 rfl (lv_at hl 0 rfl) ?_
        refine gfC_13_2 hF hH tk_156 dX4_stepBefore_12 ?_
        refine lv_iload_n hF.x hF.b dX4_stepBefore_15 rfl (lv_at hl 2 rfl) ?_
        refine alC_15 hF hH (gd_some h).1 dX4_stepBefore_16 ?_
        replace h := (gd_some h).2
        refine lv_iconst (v := 4) hF.x hF.b dX4_stepBefore_17 (by decide) ?_
        refine lv_ishr hF.x hF.b dX4_stepBefore_18 ?_
        refine lv_topi (fun y4 ey4 => ?_)
        replace h := sv_at h ey4
        clear ey4
        refine lv_istore_n (lv' := [(3, .int y4), (0, .ref (eA E 13)), (2, .int x2), (4, .int x4)]) hF.x hF.b dX4_stepBefore_19 rfl hl (by decide) rfl (fun ls hl => ?_)
        obtain ⟨y5, ey5⟩ : ∃ z : Int32, z = (x4 + 1) := ⟨_, rfl⟩
        replace h := sv_at h ey5
        refine lv_iinc (v := y5) (lv' := [(4, .int y5), (3, .int y4), (0, .ref (eA E 13)), (2, .int x2)]) hF.x hF.b dX4_stepBefore_20 hl (k := 3) rfl (by rw [ey5]; rfl) (by decide) rfl (fun ls hl => ?_)
        clear ey5
        refine lv_goto (tgt := 5) hF.x hF.b dX4_stepBefore_23 (by decide) ?_
        exact ih5 _ _ _ _ _ _ _ h hH (lv_sub hl [2, 3, 1, 0] rfl)
  unfold fX4_stepBefore at h
  refine lv_iload_n hF.x hF.b dX4_stepBefore_0 rfl (lv_at hl 1 rfl) ?_
  refine lv_istore_n (lv' := [(3, .int a1), (0, .ref (eA E 13)), (1, .int a1), (2, .int a2)]) hF.x hF.b dX4_stepBefore_1 rfl hl (by decide) rfl (fun ls hl => ?_)
  refine lv_iconst (v := 0) hF.x hF.b dX4_stepBefore_2 (by decide) ?_
  refine lv_istore (lv' := [(4, .int 0), (3, .int a1), (0, .ref (eA E 13)), (1, .int a1), (2, .int a2)]) hF.x hF.b dX4_stepBefore_3 hl (by decide) rfl (fun ls hl => ?_)
  exact w5 _ _ _ _ _ _ _ _ h hH (lv_sub hl [2, 4, 1, 0] rfl)
theorem hdX4_canReach : yX4_canReach.cls = RX4 ∧ yX4_canReach.cls ≠ "java/lang/invoke/MethodHandle" ∧ yX4_canReach.cls ≠ "java/lang/invoke/VarHandle" ∧ (parseMethodDescriptor yX4_canReach.desc).map (fun d => d.parameters.length) = some 3 := by decide +kernel
set_option maxHeartbeats 4000000 in
set_option maxRecDepth 100000 in
theorem tX4_canReach (l : Launch) (E : Ev) (hj : Inj kC E) (a1 : Int32) (a2 : Int32) (a3 : Int32) (σ : Sg) (r : Int32 × Sg) (h : fX4_canReach a1 a2 a3 σ = some r) : CI l yX4_canReach cX4_canReach 4 (some FieldType.boolean) (rmk 5 132) kC E [.ref (eA E 13), .int a1, .int a2, .int a3] σ r := by
  refine CI_z (lv := [(0, .ref (eA E 13)), (1, .int a1), (2, .int a2), (3, .int a3)]) (by decide) hj (Nat.le_of_ble_eq_true rfl) rfl (fun p e s m args below meth c ls Q hF hret hH hl => ?_)
  have w22 : ∀ (t0 : Int32) (σ : Sg) (H : Heap) (locs : List Loc) (ls : Array Slot), fX4_canReach_22 t0 σ = some r → HP kC E s σ H locs → lv_has ls 4 [(0, .ref (eA E 13))] → W p l e (rmk 5 132) s m args below meth c H locs 0 0 Q (F0 m 22 ls [.int t0]) := by
    intro t0 σ H locs ls h hH hl
    unfold fX4_canReach_22 at h
    exact hret _ _ _ _ _ _ hH h dX4_canReach_22
  unfold fX4_canReach at h
  refine lv_aload_n hF.x hF.b dX4_canReach_0 rfl (lv_at hl 0 rfl) ?_
  refine lv_iload_n hF.x hF.b dX4_canReach_1 rfl (lv_at hl 1 rfl) ?_
  refine lv_sipush (v := 511) hF.x hF.b dX4_canReach_2 (by decide) ?_
  refine lv_sipush (v := 1023) hF.x hF.b dX4_canReach_5 (by decide) ?_
  refine lv_iload_n hF.x hF.b dX4_canReach_8 rfl (lv_at hl 2 rfl) ?_
  refine lv_iload_n hF.x hF.b dX4_canReach_9 rfl (lv_at hl 3 rfl) ?_
  replace h := bd_some h
  obtain ⟨v1, σ2, hv1, h⟩ := h
  refine w_cVi (As := [.int a1, .int 511, .int 1023, .int a2, .int a3]) (rest := []) hF hH hl 13 (by decide) rfl rfl (tX4_explore l E hF.j _ _ _ _ _ _ _ hv1) tk_386 tk_388 tk_6 tk_45 tk_389 rfl rfl hdX4_explore ⟨Nat.le_of_ble_eq_true rfl, Nat.le_of_ble_eq_true rfl⟩ rfl rfl (Nat.le_of_ble_eq_true rfl) dX4_canReach_10 (fun H locs hH => ?_)
  refine lv_iconst (v := (-1)) hF.x hF.b dX4_canReach_13 (by decide) ?_
  refine lv_icmp_eq (tgt := 21) hF.x hF.b dX4_canReach_14 (by decide) (fun c3 => ?_) (fun c3 => ?_)
  · rw [if_pos c3] at h
    refine lv_iconst (v := 0) hF.x hF.b dX4_canReach_21 (by decide) ?_
    exact w22 _ _ _ _ _ h hH (lv_sub hl [0] rfl)
  · rw [if_neg c3] at h
    refine lv_iconst (v := 1) hF.x hF.b dX4_canReach_17 (by decide) ?_
    refine lv_goto (tgt := 22) hF.x hF.b dX4_canReach_18 (by decide) ?_
    exact w22 _ _ _ _ _ h hH (lv_sub hl [0] rfl)
theorem hdX4_neededAmong : yX4_neededAmong.cls = RX4 ∧ yX4_neededAmong.cls ≠ "java/lang/invoke/MethodHandle" ∧ yX4_neededAmong.cls ≠ "java/lang/invoke/VarHandle" ∧ (parseMethodDescriptor yX4_neededAmong.desc).map (fun d => d.parameters.length) = some 4 := by decide +kernel
set_option maxHeartbeats 4000000 in
set_option maxRecDepth 100000 in
theorem tX4_neededAmong (l : Launch) (E : Ev) (hj : Inj kC E) (a1 : Int32) (a2 : Int32) (a3 : Int32) (a4 : Int32) (σ : Sg) (r : Int32 × Sg) (h : fX4_neededAmong a1 a2 a3 a4 σ = some r) : CI l yX4_neededAmong cX4_neededAmong 8 (some FieldType.int) (rmk 5 132) kC E [.ref (eA E 13), .int a1, .int a2, .int a3, .int a4] σ r := by
  refine CI_i (lv := [(0, .ref (eA E 13)), (1, .int a1), (2, .int a2), (3, .int a3), (4, .int a4)]) (by decide) hj (Nat.le_of_ble_eq_true rfl) rfl (fun p e s m args below meth c ls Q hF hret hH hl => ?_)
  have w6 : ∀ (n : Nat) (x1 x2 x3 x4 x5 x6 : Int32) (σ : Sg) (H : Heap) (locs : List Loc) (ls : Array Slot), it fX4_neededAmong_L6 (fun _ _ _ _ _ _ _ => none) n x1 x2 x3 x4 x5 x6 σ = some r → HP kC E s σ H locs → lv_has ls 8 [(0, .ref (eA E 13)), (1, .int x1), (2, .int x2), (3, .int x3), (4, .int x4), (5, .int x5), (6, .int x6)] → W p l e (rmk 5 132) s m args below meth c H locs 0 0 Q (F0 m 6 ls []) := by
    intro n6
    induction n6 with
    | zero =>
      intro x1 x2 x3 x4 x5 x6 σ H locs ls h hH hl
      cases (show (none : Rs) = some r from h)
    | succ n6 ih6 =>
      have w60 : ∀ (x1 x2 x3 x4 x5 x6 : Int32) (σ : Sg) (H : Heap) (locs : List Loc) (ls : Array Slot), fX4_neededAmong_60 (it fX4_neededAmong_L6 (fun _ _ _ _ _ _ _ => none) n6) x1 x2 x3 x4 x5 x6 σ = some r → HP kC E s σ H locs → lv_has ls 8 [(0, .ref (eA E 13)), (1, .int x1), (2, .int x2), (3, .int x3), (4, .int x4), (5, .int x5), (6, .int x6)] → W p l e (rmk 5 132) s m args below meth c H locs 0 0 Q (F0 m 60 ls []) := by
        intro x1 x2 x3 x4 x5 x6 σ H locs ls h hH hl
        unfold fX4_neededAmong_60 at h
        obtain ⟨y1, ey1⟩ : ∃ z : Int32, z = (x6 + 1) := ⟨_, rfl⟩
        replace h := sv_at h ey1
        refine lv_iinc (v := y1) (lv' := [(6, .int y1), (0, .ref (eA E 13)), (1, .int x1), (2, .int x2), (3, .int x3), (4, .int x4), (5, .int x5)]) hF.x hF.b dX4_neededAmong_60 hl (k := 6) rfl (by rw [ey1]; rfl) (by decide) rfl (fun ls hl => ?_)
        clear ey1
        refine lv_goto (tgt := 6) hF.x hF.b dX4_neededAmong_63 (by decide) ?_
        exact ih6 _ _ _ _ _ _ _ _ _ _ h hH (lv_sub hl [1, 2, 3, 4, 5, 6, 0] rfl)
      intro x1 x2 x3 x4 x5 x6 σ H locs ls h hH hl
      rw [it_eq] at h
      unfold fX4_neededAmong_L6 at h
      refine lv_iload hF.x hF.b dX4_neededAmong_6 (lv_at hl 6 rfl) ?_
      refine lv_bipush (v := 10) hF.x hF.b dX4_neededAmong_8 (by decide) ?_
      refine lv_icmp_ge (tgt := 66) hF.x hF.b dX4_neededAmong_10 (by decide) (fun c2 => ?_) (fun c2 => ?_)
      · rw [if_pos c2] at h
        refine lv_iload hF.x hF.b dX4_neededAmong_66 (lv_at hl 5 rfl) ?_
        exact hret _ _ _ _ _ _ hH h dX4_neededAmong_68
      · rw [if_neg c2] at h
        refine lv_sipush (v := 1023) hF.x hF.b dX4_neededAmong_13 (by decide) ?_
        refine lv_iconst (v := 1) hF.x hF.b dX4_neededAmong_16 (by decide) ?_
        refine lv_iload hF.x hF.b dX4_neededAmong_17 (lv_at hl 6 rfl) ?_
        refine lv_ishl hF.x hF.b dX4_neededAmong_19 ?_
        refine lv_iconst (v := (-1)) hF.x hF.b dX4_neededAmong_20 (by decide) ?_
        refine lv_ixor hF.x hF.b dX4_neededAmong_21 ?_
        refine lv_iand hF.x hF.b dX4_neededAmong_22 ?_
        refine lv_topi (fun y3 ey3 => ?_)
        replace h := sv_at h ey3
        clear ey3
        refine lv_istore (lv' := [(7, .int y3), (0, .ref (eA E 13)), (1, .int x1), (2, .int x2), (3, .int x3), (4, .int x4), (5, .int x5), (6, .int x6)]) hF.x hF.b dX4_neededAmong_23 hl (by decide) rfl (fun ls hl => ?_)
        refine lv_iload_n hF.x hF.b dX4_neededAmong_25 rfl (lv_at hl 2 rfl) ?_
        refine lv_iload hF.x hF.b dX4_neededAmong_26 (lv_at hl 7 rfl) ?_
        replace h := bd_some h
        obtain ⟨v4, σ5, hv4, h⟩ := h
        refine w_cNi (As := [.int x1, .int x6]) (rest := []) hF hH hl (tX5_bit l E hF.j _ _ _ _ hv4) (List.mem_of_getElem? (l := nestW) (i := 5) rfl) tk_227 tk_41 tk_228 rfl rfl hdX5_bit ⟨Nat.le_of_ble_eq_true rfl, Nat.le_of_ble_eq_true rfl⟩ rfl rfl (Nat.le_of_ble_eq_true rfl) dX4_neededAmong_28 (fun H locs hH => ?_)
        refine lv_if_eq (tgt := 60) hF.x hF.b dX4_neededAmong_31 (by decide) (fun c6 => ?_) (fun c6 => ?_)
        · rw [if_pos c6] at h
          exact w60 _ _ _ _ _ _ _ _ _ _ h hH (lv_sub hl [1, 2, 3, 4, 5, 6, 7] rfl)
        · rw [if_neg c6] at h
          refine lv_aload_n hF.x hF.b dX4_neededAmong_34 rfl (lv_at hl 1 rfl) ?_
          refine lv_iload_n hF.x hF.b dX4_neededAmong_35 rfl (lv_at hl 3 rfl) ?_
          refine lv_sipush (v := 511) hF.x hF.b dX4_neededAmong_36 (by decide) ?_
          refine lv_iload hF.x hF.b dX4_neededAmong_39 (lv_at hl 0 rfl) ?_
          refine lv_iload_n hF.x hF.b dX4_neededAmong_41 rfl (lv_at hl 4 rfl) ?_
          refine lv_iload hF.x hF.b dX4_neededAmong_42 (lv_at hl 5 rfl) ?_
          replace h := bd_some h
          obtain ⟨v7, σ8, hv7, h⟩ := h
          refine w_cVi (As := [.int x2, .int 511, .int y3, .int x3, .int x4]) (rest := []) hF hH hl 13 (by decide) rfl rfl (tX4_explore l E hF.j _ _ _ _ _ _ _ hv7) tk_386 tk_388 tk_6 tk_45 tk_389 rfl rfl hdX4_explore ⟨Nat.le_of_ble_eq_true rfl, Nat.le_of_ble_eq_true rfl⟩ rfl rfl (Nat.le_of_ble_eq_true rfl) dX4_neededAmong_44 (fun H locs hH => ?_)
          refine lv_iconst (v := (-1)) hF.x hF.b dX4_neededAmong_47 (by decide) ?_
          refine lv_icmp_ne (tgt := 60) hF.x hF.b dX4_neededAmong_48 (by decide) (fun c9 => ?_) (fun c9 => ?_)
          · rw [if_neg c9] at h
            exact w60 _ _ _ _ _ _ _ _ _ _ h hH (lv_sub hl [1, 2, 3, 4, 5, 6, 7] rfl)
          · rw [if_pos c9] at h
            refine lv_iload hF.x hF.b dX4_neededAmong_51 (lv_at hl 6 rfl) ?_
            refine lv_iconst (v := 1) hF.x hF.b dX4_neededAmong_53 (by decide) ?_
            refine lv_iload hF.x hF.b dX4_neededAmong_54 (lv_at hl 7 rfl) ?_
            refine lv_ishl hF.x hF.b dX4_neededAmong_56 ?_
            refine lv_ior hF.x hF.b dX4_neededAmong_57 ?_
            refine lv_topi (fun y10 ey10 => ?_)
            replace h := sv_at h ey10
            clear ey10
            refine lv_istore (lv' := [(5, .int y10), (7, .int y3), (0, .ref (eA E 13)), (1, .int x1), (2, .int x2), (3, .int x3), (4, .int x4), (6, .int x6)]) hF.x hF.b dX4_neededAmong_58 hl (by decide) rfl (fun ls hl => ?_)
            exact w60 _ _ _ _ _ _ _ _ _ _ h hH (lv_sub hl [2, 3, 4, 5, 6, 0, 7] rfl)
  unfold fX4_neededAmong at h
  refine lv_iconst (v := 0) hF.x hF.b dX4_neededAmong_0 (by decide) ?_
  refine lv_istore (lv' := [(5, .int 0), (0, .ref (eA E 13)), (1, .int a1), (2, .int a2), (3, .int a3), (4, .int a4)]) hF.x hF.b dX4_neededAmong_1 hl (by decide) rfl (fun ls hl => ?_)
  refine lv_iconst (v := 0) hF.x hF.b dX4_neededAmong_3 (by decide) ?_
  refine lv_istore (lv' := [(6, .int 0), (5, .int 0), (0, .ref (eA E 13)), (1, .int a1), (2, .int a2), (3, .int a3), (4, .int a4)]) hF.x hF.b dX4_neededAmong_4 hl (by decide) rfl (fun ls hl => ?_)
  exact w6 _ _ _ _ _ _ _ _ _ _ _ h hH (lv_sub hl [2, 3, 4, 5, 6, 1, 0] rfl)
theorem hdX4_everReady : yX4_everReady.cls = RX4 ∧ yX4_everReady.cls ≠ "java/lang/invoke/MethodHandle" ∧ yX4_everReady.cls ≠ "java/lang/invoke/VarHandle" ∧ (parseMethodDescriptor yX4_everReady.desc).map (fun d => d.parameters.length) = some 2 := by decide +kernel
set_option maxHeartbeats 4000000 in
set_option maxRecDepth 100000 in
theorem tX4_everReady (l : Launch) (E : Ev) (hj : Inj kC E) (a1 : Int32) (a2 : Int32) (σ : Sg) (r : Int32 × Sg) (h : fX4_everReady a1 a2 σ = some r) : CI l yX4_everReady cX4_everReady 5 (some FieldType.int) (rmk 5 132) kC E [.ref (eA E 13), .int a1, .int a2] σ r := by
  refine CI_i (lv := [(0, .ref (eA E 13)), (1, .int a1), (2, .int a2)]) (by decide) hj (Nat.le_of_ble_eq_true rfl) rfl (fun p e s m args below meth c ls Q hF hret hH hl => ?_)
  have w5 : ∀ (n : Nat) (x1 x2 x3 x4 : Int32) (σ : Sg) (H : Heap) (locs : List Loc) (ls : Array Slot), it fX4_everReady_L5 (fun _ _ _ _ _ => none) n x1 x2 x3 x4 σ = some r → HP kC E s σ H locs → lv_has ls 5 [(0, .ref (eA E 13)), (1, .int x1), (2, .int x2), (3, .int x3), (4, .int x4)] → W p l e (rmk 5 132) s m args below meth c H locs 0 0 Q (F0 m 5 ls []) := by
    intro n5
    induction n5 with
    | zero =>
      intro x1 x2 x3 x4 σ H locs ls h hH hl
      cases (show (none : Rs) = some r from h)
    | succ n5 ih5 =>
      have w38 : ∀ (x1 x2 x3 x4 : Int32) (σ : Sg) (H : Heap) (locs : List Loc) (ls : Array Slot), fX4_everReady_38 (it fX4_everReady_L5 (fun _ _ _ _ _ => none) n5) x1 x2 x3 x4 σ = some r → HP kC E s σ H locs → lv_has ls 5 [(0, .ref (eA E 13)), (1, .int x1), (2, .int x2), (3, .int x3), (4, .int x4)] → W p l e (rmk 5 132) s m args below meth c H locs 0 0 Q (F0 m 38 ls []) := by
        intro x1 x2 x3 x4 σ H locs ls h hH hl
        unfold fX4_everReady_38 at h
        obtain ⟨y1, ey1⟩ : ∃ z : Int32, z = (x4 + 1) := ⟨_, rfl⟩
        replace h := sv_at h ey1
        refine lv_iinc (v := y1) (lv' := [(4, .int y1), (0, .ref (eA E 13)), (1, .int x1), (2, .int x2), (3, .int x3)]) hF.x hF.b dX4_everReady_38 hl (k := 4) rfl (by rw [ey1]; rfl) (by decide) rfl (fun ls hl => ?_)
        clear ey1
        refine lv_goto (tgt := 5) hF.x hF.b dX4_everReady_41 (by decide) ?_
        exact ih5 _ _ _ _ _ _ _ _ h hH (lv_sub hl [1, 2, 3, 4, 0] rfl)
      intro x1 x2 x3 x4 σ H locs ls h hH hl
      rw [it_eq] at h
      unfold fX4_everReady_L5 at h
      refine lv_iload hF.x hF.b dX4_everReady_5 (lv_at hl 4 rfl) ?_
      refine lv_iload_n hF.x hF.b dX4_everReady_7 rfl (lv_at hl 2 rfl) ?_
      refine lv_icmp_ge (tgt := 44) hF.x hF.b dX4_everReady_8 (by decide) (fun c2 => ?_) (fun c2 => ?_)
      · rw [if_pos c2] at h
        refine lv_iload_n hF.x hF.b dX4_everReady_44 rfl (lv_at hl 3 rfl) ?_
        exact hret _ _ _ _ _ _ hH h dX4_everReady_45
      · rw [if_neg c2] at h
        refine lv_aload_n hF.x hF.b dX4_everReady_11 rfl (lv_at hl 0 rfl) ?_
        refine lv_iload_n hF.x hF.b dX4_everReady_12 rfl (lv_at hl 1 rfl) ?_
        refine lv_sipush (v := 511) hF.x hF.b dX4_everReady_13 (by decide) ?_
        refine lv_sipush (v := 1023) hF.x hF.b dX4_everReady_16 (by decide) ?_
        refine lv_iconst (v := 1) hF.x hF.b dX4_everReady_19 (by decide) ?_
        refine lv_iload hF.x hF.b dX4_everReady_20 (lv_at hl 4 rfl) ?_
        refine lv_ishl hF.x hF.b dX4_everReady_22 ?_
        refine lv_iconst (v := 0) hF.x hF.b dX4_everReady_23 (by decide) ?_
        replace h := bd_some h
        obtain ⟨v3, σ4, hv3, h⟩ := h
        refine w_cVi (As := [.int x1, .int 511, .int 1023, .int ((1 : Int32) <<< (x4 &&& 31)), .int 0]) (rest := []) hF hH hl 13 (by decide) rfl rfl (tX4_explore l E hF.j _ _ _ _ _ _ _ hv3) tk_386 tk_388 tk_6 tk_45 tk_389 rfl rfl hdX4_explore ⟨Nat.le_of_ble_eq_true rfl, Nat.le_of_ble_eq_true rfl⟩ rfl rfl (Nat.le_of_ble_eq_true rfl) dX4_everReady_24 (fun H locs hH => ?_)
        refine lv_iconst (v := (-1)) hF.x hF.b dX4_everReady_27 (by decide) ?_
        refine lv_icmp_eq (tgt := 38) hF.x hF.b dX4_everReady_28 (by decide) (fun c5 => ?_) (fun c5 => ?_)
        · rw [if_pos c5] at h
          exact w38 _ _ _ _ _ _ _ _ h hH (lv_sub hl [0, 1, 2, 3, 4] rfl)
        · rw [if_neg c5] at h
          refine lv_iload_n hF.x hF.b dX4_everReady_31 rfl (lv_at hl 3 rfl) ?_
          refine lv_iconst (v := 1) hF.x hF.b dX4_everReady_32 (by decide) ?_
          refine lv_iload hF.x hF.b dX4_everReady_33 (lv_at hl 4 rfl) ?_
          refine lv_ishl hF.x hF.b dX4_everReady_35 ?_
          refine lv_ior hF.x hF.b dX4_everReady_36 ?_
          refine lv_topi (fun y6 ey6 => ?_)
          replace h := sv_at h ey6
          clear ey6
          refine lv_istore_n (lv' := [(3, .int y6), (0, .ref (eA E 13)), (1, .int x1), (2, .int x2), (4, .int x4)]) hF.x hF.b dX4_everReady_37 rfl hl (by decide) rfl (fun ls hl => ?_)
          exact w38 _ _ _ _ _ _ _ _ h hH (lv_sub hl [1, 2, 3, 0, 4] rfl)
  unfold fX4_everReady at h
  refine lv_iconst (v := 0) hF.x hF.b dX4_everReady_0 (by decide) ?_
  refine lv_istore_n (lv' := [(3, .int 0), (0, .ref (eA E 13)), (1, .int a1), (2, .int a2)]) hF.x hF.b dX4_everReady_1 rfl hl (by decide) rfl (fun ls hl => ?_)
  refine lv_iconst (v := 0) hF.x hF.b dX4_everReady_2 (by decide) ?_
  refine lv_istore (lv' := [(4, .int 0), (3, .int 0), (0, .ref (eA E 13)), (1, .int a1), (2, .int a2)]) hF.x hF.b dX4_everReady_3 hl (by decide) rfl (fun ls hl => ?_)
  exact w5 _ _ _ _ _ _ _ _ _ h hH (lv_sub hl [2, 3, 4, 1, 0] rfl)
theorem hdX4_everLive : yX4_everLive.cls = RX4 ∧ yX4_everLive.cls ≠ "java/lang/invoke/MethodHandle" ∧ yX4_everLive.cls ≠ "java/lang/invoke/VarHandle" ∧ (parseMethodDescriptor yX4_everLive.desc).map (fun d => d.parameters.length) = some 1 := by decide +kernel
set_option maxHeartbeats 4000000 in
set_option maxRecDepth 100000 in
theorem tX4_everLive (l : Launch) (E : Ev) (hj : Inj kC E) (a1 : Int32) (σ : Sg) (r : Int32 × Sg) (h : fX4_everLive a1 σ = some r) : CI l yX4_everLive cX4_everLive 4 (some FieldType.int) (rmk 5 132) kC E [.ref (eA E 13), .int a1] σ r := by
  refine CI_i (lv := [(0, .ref (eA E 13)), (1, .int a1)]) (by decide) hj (Nat.le_of_ble_eq_true rfl) rfl (fun p e s m args below meth c ls Q hF hret hH hl => ?_)
  have w4 : ∀ (n : Nat) (x1 x2 x3 : Int32) (σ : Sg) (H : Heap) (locs : List Loc) (ls : Array Slot), it fX4_everLive_L4 (fun _ _ _ _ => none) n x1 x2 x3 σ = some r → HP kC E s σ H locs → lv_has ls 4 [(0, .ref (eA E 13)), (1, .int x1), (2, .int x2), (3, .int x3)] → W p l e (rmk 5 132) s m args below meth c H locs 0 0 Q (F0 m 4 ls []) := by
    intro n4
    induction n4 with
    | zero =>
      intro x1 x2 x3 σ H locs ls h hH hl
      cases (show (none : Rs) = some r from h)
    | succ n4 ih4 =>
      have w35 : ∀ (x1 x2 x3 : Int32) (σ : Sg) (H : Heap) (locs : List Loc) (ls : Array Slot), fX4_everLive_35 (it fX4_everLive_L4 (fun _ _ _ _ => none) n4) x1 x2 x3 σ = some r → HP kC E s σ H locs → lv_has ls 4 [(0, .ref (eA E 13)), (1, .int x1), (2, .int x2), (3, .int x3)] → W p l e (rmk 5 132) s m args below meth c H locs 0 0 Q (F0 m 35 ls []) := by
        intro x1 x2 x3 σ H locs ls h hH hl
        unfold fX4_everLive_35 at h
        obtain ⟨y1, ey1⟩ : ∃ z : Int32, z = (x3 + 1) := ⟨_, rfl⟩
        replace h := sv_at h ey1
        refine lv_iinc (v := y1) (lv' := [(3, .int y1), (0, .ref (eA E 13)), (1, .int x1), (2, .int x2)]) hF.x hF.b dX4_everLive_35 hl (k := 3) rfl (by rw [ey1]; rfl) (by decide) rfl (fun ls hl => ?_)
        clear ey1
        refine lv_goto (tgt := 4) hF.x hF.b dX4_everLive_38 (by decide) ?_
        exact ih4 _ _ _ _ _ _ _ h hH (lv_sub hl [1, 2, 3, 0] rfl)
      intro x1 x2 x3 σ H locs ls h hH hl
      rw [it_eq] at h
      unfold fX4_everLive_L4 at h
      refine lv_iload_n hF.x hF.b dX4_everLive_4 rfl (lv_at hl 3 rfl) ?_
      refine lv_bipush (v := 6) hF.x hF.b dX4_everLive_5 (by decide) ?_
      refine lv_icmp_ge (tgt := 41) hF.x hF.b dX4_everLive_7 (by decide) (fun c2 => ?_) (fun c2 => ?_)
      · rw [if_pos c2] at h
        refine lv_iload_n hF.x hF.b dX4_everLive_41 rfl (lv_at hl 2 rfl) ?_
        exact hret _ _ _ _ _ _ hH h dX4_everLive_42
      · rw [if_neg c2] at h
        refine lv_aload_n hF.x hF.b dX4_everLive_10 rfl (lv_at hl 0 rfl) ?_
        refine lv_iload_n hF.x hF.b dX4_everLive_11 rfl (lv_at hl 1 rfl) ?_
        refine lv_sipush (v := 511) hF.x hF.b dX4_everLive_12 (by decide) ?_
        refine lv_sipush (v := 1023) hF.x hF.b dX4_everLive_15 (by decide) ?_
        refine lv_iconst (v := 0) hF.x hF.b dX4_everLive_18 (by decide) ?_
        refine lv_iconst (v := 1) hF.x hF.b dX4_everLive_19 (by decide) ?_
        refine lv_iload_n hF.x hF.b dX4_everLive_20 rfl (lv_at hl 3 rfl) ?_
        refine lv_ishl hF.x hF.b dX4_everLive_21 ?_
        replace h := bd_some h
        obtain ⟨v3, σ4, hv3, h⟩ := h
        refine w_cVi (As := [.int x1, .int 511, .int 1023, .int 0, .int ((1 : Int32) <<< (x3 &&& 31))]) (rest := []) hF hH hl 13 (by decide) rfl rfl (tX4_explore l E hF.j _ _ _ _ _ _ _ hv3) tk_386 tk_388 tk_6 tk_45 tk_389 rfl rfl hdX4_explore ⟨Nat.le_of_ble_eq_true rfl, Nat.le_of_ble_eq_true rfl⟩ rfl rfl (Nat.le_of_ble_eq_true rfl) dX4_everLive_22 (fun H locs hH => ?_)
        refine lv_iconst (v := (-1)) hF.x hF.b dX4_everLive_25 (by decide) ?_
        refine lv_icmp_eq (tgt := 35) hF.x hF.b dX4_everLive_26 (by decide) (fun c5 => ?_) (fun c5 => ?_)
        · rw [if_pos c5] at h
          exact w35 _ _ _ _ _ _ _ h hH (lv_sub hl [0, 1, 2, 3] rfl)
        · rw [if_neg c5] at h
          refine lv_iload_n hF.x hF.b dX4_everLive_29 rfl (lv_at hl 2 rfl) ?_
          refine lv_iconst (v := 1) hF.x hF.b dX4_everLive_30 (by decide) ?_
          refine lv_iload_n hF.x hF.b dX4_everLive_31 rfl (lv_at hl 3 rfl) ?_
          refine lv_ishl hF.x hF.b dX4_everLive_32 ?_
          refine lv_ior hF.x hF.b dX4_everLive_33 ?_
          refine lv_topi (fun y6 ey6 => ?_)
          replace h := sv_at h ey6
          clear ey6
          refine lv_istore_n (lv' := [(2, .int y6), (0, .ref (eA E 13)), (1, .int x1), (3, .int x3)]) hF.x hF.b dX4_everLive_34 rfl hl (by decide) rfl (fun ls hl => ?_)
          exact w35 _ _ _ _ _ _ _ h hH (lv_sub hl [1, 2, 0, 3] rfl)
  unfold fX4_everLive at h
  refine lv_iconst (v := 0) hF.x hF.b dX4_everLive_0 (by decide) ?_
  refine lv_istore_n (lv' := [(2, .int 0), (0, .ref (eA E 13)), (1, .int a1)]) hF.x hF.b dX4_everLive_1 rfl hl (by decide) rfl (fun ls hl => ?_)
  refine lv_iconst (v := 0) hF.x hF.b dX4_everLive_2 (by decide) ?_
  refine lv_istore_n (lv' := [(3, .int 0), (2, .int 0), (0, .ref (eA E 13)), (1, .int a1)]) hF.x hF.b dX4_everLive_3 rfl hl (by decide) rfl (fun ls hl => ?_)
  exact w4 _ _ _ _ _ _ _ _ h hH (lv_sub hl [2, 3, 1, 0] rfl)
