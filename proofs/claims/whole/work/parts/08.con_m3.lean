theorem hdX6_stepOn : yX6_stepOn.cls = RX6 ∧ yX6_stepOn.cls ≠ "java/lang/invoke/MethodHandle" ∧ yX6_stepOn.cls ≠ "java/lang/invoke/VarHandle" ∧ (parseMethodDescriptor yX6_stepOn.desc).map (fun d => d.parameters.length) = some 1 := by decide +kernel
set_option maxHeartbeats 4000000 in
set_option maxRecDepth 100000 in
theorem tX6_stepOn (l : Launch) (E : Ev) (hj : Inj kM E) (a1 : Int32) (σ : Sg) (r : Int32 × Sg) (h : fX6_stepOn a1 σ = some r) : CI l yX6_stepOn cX6_stepOn 4 (some FieldType.int) (rmk 3 71) kM E [.ref (eA E 0), .int a1] σ r := by
  refine CI_i (lv := [(0, .ref (eA E 0)), (1, .int a1)]) (by decide) hj (Nat.le_of_ble_eq_true rfl) rfl (fun p e s m args below meth c ls Q hF hret hH hl => ?_)
  have w7 : ∀ (n : Nat) (x1 x2 : Int32) (σ : Sg) (H : Heap) (locs : List Loc) (ls : Array Slot), it fX6_stepOn_L7 (fun _ _ _ => none) n x1 x2 σ = some r → HP kM E s σ H locs → lv_has ls 4 [(0, .ref (eA E 0)), (1, .int x1), (2, .int x2)] → W p l e (rmk 3 71) s m args below meth c H locs 0 0 Q (F0 m 7 ls []) := by
    intro n7
    induction n7 with
    | zero =>
      intro x1 x2 σ H locs ls h hH hl
      cases (show (none : Rs) = some r from h)
    | succ n7 ih7 =>
      have w55 : ∀ (x1 x2 : Int32) (σ : Sg) (H : Heap) (locs : List Loc) (ls : Array Slot), fX6_stepOn_55 (it fX6_stepOn_L7 (fun _ _ _ => none) n7) x1 x2 σ = some r → HP kM E s σ H locs → lv_has ls 4 [(0, .ref (eA E 0)), (1, .int x1), (2, .int x2)] → W p l e (rmk 3 71) s m args below meth c H locs 0 0 Q (F0 m 55 ls []) := by
        intro x1 x2 σ H locs ls h hH hl
        unfold fX6_stepOn_55 at h
        obtain ⟨y1, ey1⟩ : ∃ z : Int32, z = (x2 + 1) := ⟨_, rfl⟩
        replace h := sv_at h ey1
        refine lv_iinc (v := y1) (lv' := [(2, .int y1), (0, .ref (eA E 0)), (1, .int x1)]) hF.x hF.b dX6_stepOn_55 hl (k := 2) rfl (by rw [ey1]; rfl) (by decide) rfl (fun ls hl => ?_)
        clear ey1
        refine lv_goto (tgt := 7) hF.x hF.b dX6_stepOn_58 (by decide) ?_
        exact ih7 _ _ _ _ _ _ h hH (lv_sub hl [1, 2, 0] rfl)
      intro x1 x2 σ H locs ls h hH hl
      rw [it_eq] at h
      unfold fX6_stepOn_L7 at h
      refine lv_iload_n hF.x hF.b dX6_stepOn_7 rfl (lv_at hl 2 rfl) ?_
      refine lv_bipush (v := 10) hF.x hF.b dX6_stepOn_8 (by decide) ?_
      refine lv_icmp_ge (tgt := 61) hF.x hF.b dX6_stepOn_10 (by decide) (fun c2 => ?_) (fun c2 => ?_)
      · rw [if_pos c2] at h
        refine lv_bipush (v := (-6)) hF.x hF.b dX6_stepOn_61 (by decide) ?_
        exact hret _ _ _ _ _ _ hH h dX6_stepOn_63
      · rw [if_neg c2] at h
        refine lv_aload_n hF.x hF.b dX6_stepOn_13 rfl (lv_at hl 0 rfl) ?_
        refine lv_iload_n hF.x hF.b dX6_stepOn_14 rfl (lv_at hl 2 rfl) ?_
        replace h := bd_some h
        obtain ⟨v3, σ4, hv3, h⟩ := h
        refine w_cVi (As := [.int x2]) (rest := []) hF hH hl 0 (by decide) rfl rfl (tX6_canStep l E hF.j _ _ _ hv3) tk_578 tk_580 tk_16 tk_46 tk_581 rfl rfl hdX6_canStep ⟨Nat.le_of_ble_eq_true rfl, Nat.le_of_ble_eq_true rfl⟩ rfl rfl (Nat.le_of_ble_eq_true rfl) dX6_stepOn_15 (fun H locs hH => ?_)
        refine lv_if_eq (tgt := 55) hF.x hF.b dX6_stepOn_18 (by decide) (fun c5 => ?_) (fun c5 => ?_)
        · rw [if_pos c5] at h
          exact w55 _ _ _ _ _ _ h hH (lv_sub hl [0, 1, 2] rfl)
        · rw [if_neg c5] at h
          refine lv_aload_n hF.x hF.b dX6_stepOn_21 rfl (lv_at hl 0 rfl) ?_
          refine lv_iload_n hF.x hF.b dX6_stepOn_22 rfl (lv_at hl 2 rfl) ?_
          replace h := bd_some h
          obtain ⟨v6, σ7, hv6, h⟩ := h
          refine w_cVi (As := [.int x2]) (rest := []) hF hH hl 0 (by decide) rfl rfl (tX6_numberBehind l E hF.j _ _ _ hv6) tk_594 tk_596 tk_19 tk_46 tk_597 rfl rfl hdX6_numberBehind ⟨Nat.le_of_ble_eq_true rfl, Nat.le_of_ble_eq_true rfl⟩ rfl rfl (Nat.le_of_ble_eq_true rfl) dX6_stepOn_23 (fun H locs hH => ?_)
          refine lv_istore_n (lv' := [(3, .int v6), (0, .ref (eA E 0)), (1, .int x1), (2, .int x2)]) hF.x hF.b dX6_stepOn_26 rfl hl (by decide) rfl (fun ls hl => ?_)
          refine lv_aload_n hF.x hF.b dX6_stepOn_27 rfl (lv_at hl 1 rfl) ?_
          refine gfM_0_8 hF hH tk_486 dX6_stepOn_28 ?_
          refine lv_iload_n hF.x hF.b dX6_stepOn_31 rfl (lv_at hl 0 rfl) ?_
          refine alM_9 hF hH (gd_some h).1 dX6_stepOn_32 ?_
          replace h := (gd_some h).2
          refine lv_aload_n hF.x hF.b dX6_stepOn_33 rfl (lv_at hl 1 rfl) ?_
          refine gfM_0_8 hF hH tk_486 dX6_stepOn_34 ?_
          refine lv_iload_n hF.x hF.b dX6_stepOn_37 rfl (lv_at hl 2 rfl) ?_
          refine alM_9 hF hH (gd_some h).1 dX6_stepOn_38 ?_
          replace h := (gd_some h).2
          refine lv_iconst (v := 1) hF.x hF.b dX6_stepOn_39 (by decide) ?_
          refine lv_iadd hF.x hF.b dX6_stepOn_40 ?_
          refine lv_icmp_ne (tgt := 55) hF.x hF.b dX6_stepOn_41 (by decide) (fun c8 => ?_) (fun c8 => ?_)
          · rw [if_neg c8] at h
            exact w55 _ _ _ _ _ _ h hH (lv_sub hl [1, 2, 3] rfl)
          · rw [if_pos c8] at h
            refine lv_aload_n hF.x hF.b dX6_stepOn_44 rfl (lv_at hl 1 rfl) ?_
            refine gfM_0_9 hF hH tk_487 dX6_stepOn_45 ?_
            refine lv_iload_n hF.x hF.b dX6_stepOn_48 rfl (lv_at hl 0 rfl) ?_
            refine alM_10 hF hH (gd_some h).1 dX6_stepOn_49 ?_
            replace h := (gd_some h).2
            refine lv_if_eq (tgt := 55) hF.x hF.b dX6_stepOn_50 (by decide) (fun c9 => ?_) (fun c9 => ?_)
            · rw [if_pos c9] at h
              exact w55 _ _ _ _ _ _ h hH (lv_sub hl [1, 2, 3] rfl)
            · rw [if_neg c9] at h
              refine lv_iload_n hF.x hF.b dX6_stepOn_53 rfl (lv_at hl 3 rfl) ?_
              exact hret _ _ _ _ _ _ hH h dX6_stepOn_54
  unfold fX6_stepOn at h
  refine lv_aload_n hF.x hF.b dX6_stepOn_0 rfl (lv_at hl 0 rfl) ?_
  refine lv_iload_n hF.x hF.b dX6_stepOn_1 rfl (lv_at hl 1 rfl) ?_
  replace h := bd_some h
  obtain ⟨v10, σ11, hv10, h⟩ := h
  refine w_cVv (As := [.int a1]) (rest := []) hF hH hl 0 (by decide) rfl rfl (tX6_layNumber l E hF.j _ _ _ hv10) tk_642 tk_644 tk_28 tk_46 tk_645 rfl rfl hdX6_layNumber ⟨Nat.le_of_ble_eq_true rfl, Nat.le_of_ble_eq_true rfl⟩ rfl rfl (Nat.le_of_ble_eq_true rfl) dX6_stepOn_2 (fun H locs hH => ?_)
  refine lv_iconst (v := 0) hF.x hF.b dX6_stepOn_5 (by decide) ?_
  refine lv_istore_n (lv' := [(2, .int 0), (0, .ref (eA E 0)), (1, .int a1)]) hF.x hF.b dX6_stepOn_6 rfl hl (by decide) rfl (fun ls hl => ?_)
  exact w7 _ _ _ _ _ _ _ h hH (lv_sub hl [1, 2, 0] rfl)
theorem hdX6_layLeads : yX6_layLeads.cls = RX6 ∧ yX6_layLeads.cls ≠ "java/lang/invoke/MethodHandle" ∧ yX6_layLeads.cls ≠ "java/lang/invoke/VarHandle" ∧ (parseMethodDescriptor yX6_layLeads.desc).map (fun d => d.parameters.length) = some 3 := by decide +kernel
set_option maxHeartbeats 4000000 in
set_option maxRecDepth 100000 in
theorem tX6_layLeads (l : Launch) (E : Ev) (hj : Inj kM E) (a1 : Int32) (a2 : Int32) (a3 : Int32) (σ : Sg) (r : Int32 × Sg) (h : fX6_layLeads a1 a2 a3 σ = some r) : CV l yX6_layLeads cX6_layLeads 6 (rmk 4 94) kM E [.ref (eA E 0), .int a1, .int a2, .int a3] σ r := by
  refine CV_v (lv := [(0, .ref (eA E 0)), (1, .int a1), (2, .int a2), (3, .int a3)]) (by decide) hj (Nat.le_of_ble_eq_true rfl) rfl (fun p e s m args below meth c ls Q hF hret hH hl => ?_)
  have w56 : ∀ (n : Nat) (x4 : Int32) (σ : Sg) (H : Heap) (locs : List Loc) (ls : Array Slot), it fX6_layLeads_L56 (fun _ _ => none) n x4 σ = some r → HP kM E s σ H locs → lv_has ls 6 [(0, .ref (eA E 0)), (4, .int x4)] → W p l e (rmk 4 94) s m args below meth c H locs 0 0 Q (F0 m 56 ls []) := by
    intro n56
    induction n56 with
    | zero =>
      intro x4 σ H locs ls h hH hl
      cases (show (none : Rs) = some r from h)
    | succ n56 ih56 =>
      have w64 : ∀ (n : Nat) (x4 x5 : Int32) (σ : Sg) (H : Heap) (locs : List Loc) (ls : Array Slot), it (fX6_layLeads_L64 (it fX6_layLeads_L56 (fun _ _ => none) n56)) (fun _ _ _ => none) n x4 x5 σ = some r → HP kM E s σ H locs → lv_has ls 6 [(0, .ref (eA E 0)), (4, .int x4), (5, .int x5)] → W p l e (rmk 4 94) s m args below meth c H locs 0 0 Q (F0 m 64 ls []) := by
        intro n64
        induction n64 with
        | zero =>
          intro x4 x5 σ H locs ls h hH hl
          cases (show (none : Rs) = some r from h)
        | succ n64 ih64 =>
          have w105 : ∀ (x4 x5 : Int32) (σ : Sg) (H : Heap) (locs : List Loc) (ls : Array Slot), fX6_layLeads_105 (it fX6_layLeads_L56 (fun _ _ => none) n56) (it (fX6_layLeads_L64 (it fX6_layLeads_L56 (fun _ _ => none) n56)) (fun _ _ _ => none) n64) x4 x5 σ = some r → HP kM E s σ H locs → lv_has ls 6 [(0, .ref (eA E 0)), (4, .int x4), (5, .int x5)] → W p l e (rmk 4 94) s m args below meth c H locs 0 0 Q (F0 m 105 ls []) := by
            intro x4 x5 σ H locs ls h hH hl
            unfold fX6_layLeads_105 at h
            obtain ⟨y1, ey1⟩ : ∃ z : Int32, z = (x5 + 1) := ⟨_, rfl⟩
            replace h := sv_at h ey1
            refine lv_iinc (v := y1) (lv' := [(5, .int y1), (0, .ref (eA E 0)), (4, .int x4)]) hF.x hF.b dX6_layLeads_105 hl (k := 2) rfl (by rw [ey1]; rfl) (by decide) rfl (fun ls hl => ?_)
            clear ey1
            refine lv_goto (tgt := 64) hF.x hF.b dX6_layLeads_108 (by decide) ?_
            exact ih64 _ _ _ _ _ _ h hH (lv_sub hl [1, 2, 0] rfl)
          have w104 : ∀ (x4 x5 t0 t1 : Int32) (σ : Sg) (H : Heap) (locs : List Loc) (ls : Array Slot), fX6_layLeads_104 (it fX6_layLeads_L56 (fun _ _ => none) n56) (it (fX6_layLeads_L64 (it fX6_layLeads_L56 (fun _ _ => none) n56)) (fun _ _ _ => none) n64) x4 x5 t0 t1 σ = some r → HP kM E s σ H locs → lv_has ls 6 [(0, .ref (eA E 0)), (4, .int x4), (5, .int x5)] → W p l e (rmk 4 94) s m args below meth c H locs 0 0 Q (F0 m 104 ls [.int t0, .int t1, .ref (eA E 10)]) := by
            intro x4 x5 t0 t1 σ H locs ls h hH hl
            unfold fX6_layLeads_104 at h
            refine asM_10 hF hH (gd_some h).1 dX6_layLeads_104 (fun σ2 H locs eσ2 hH => ?_)
            replace h := sv_at (gd_some h).2 eσ2
            clear eσ2
            exact w105 _ _ _ _ _ _ h hH (lv_sub hl [0, 1, 2] rfl)
          intro x4 x5 σ H locs ls h hH hl
          rw [it_eq] at h
          unfold fX6_layLeads_L64 at h
          refine lv_iload hF.x hF.b dX6_layLeads_64 (lv_at hl 2 rfl) ?_
          refine lv_sipush (v := 8000) hF.x hF.b dX6_layLeads_66 (by decide) ?_
          refine lv_icmp_ge (tgt := 111) hF.x hF.b dX6_layLeads_69 (by decide) (fun c3 => ?_) (fun c3 => ?_)
          · rw [if_pos c3] at h
            obtain ⟨y4, ey4⟩ : ∃ z : Int32, z = (x4 + (-1)) := ⟨_, rfl⟩
            replace h := sv_at h ey4
            refine lv_iinc (v := y4) (lv' := [(4, .int y4), (0, .ref (eA E 0)), (5, .int x5)]) hF.x hF.b dX6_layLeads_111 hl (k := 1) rfl (by rw [ey4]; rfl) (by decide) rfl (fun ls hl => ?_)
            clear ey4
            refine lv_goto (tgt := 56) hF.x hF.b dX6_layLeads_114 (by decide) ?_
            exact ih56 _ _ _ _ _ h hH (lv_sub hl [1, 0] rfl)
          · rw [if_neg c3] at h
            refine lv_aload_n hF.x hF.b dX6_layLeads_72 rfl (lv_at hl 0 rfl) ?_
            refine gfM_0_8 hF hH tk_486 dX6_layLeads_73 ?_
            refine lv_iload hF.x hF.b dX6_layLeads_76 (lv_at hl 2 rfl) ?_
            refine alM_9 hF hH (gd_some h).1 dX6_layLeads_78 ?_
            replace h := (gd_some h).2
            refine lv_iload hF.x hF.b dX6_layLeads_79 (lv_at hl 1 rfl) ?_
            refine lv_icmp_ne (tgt := 105) hF.x hF.b dX6_layLeads_81 (by decide) (fun c5 => ?_) (fun c5 => ?_)
            · rw [if_neg c5] at h
              exact w105 _ _ _ _ _ _ h hH (lv_sub hl [0, 1, 2] rfl)
            · rw [if_pos c5] at h
              refine lv_aload_n hF.x hF.b dX6_layLeads_84 rfl (lv_at hl 0 rfl) ?_
              refine gfM_0_9 hF hH tk_487 dX6_layLeads_85 ?_
              refine lv_iload hF.x hF.b dX6_layLeads_88 (lv_at hl 2 rfl) ?_
              refine lv_aload_n hF.x hF.b dX6_layLeads_90 rfl (lv_at hl 0 rfl) ?_
              refine lv_iload hF.x hF.b dX6_layLeads_91 (lv_at hl 2 rfl) ?_
              replace h := bd_some h
              obtain ⟨v6, σ7, hv6, h⟩ := h
              refine w_cVi (As := [.int x5]) (rest := [.int x5, .ref (eA E 10)]) hF hH hl 0 (by decide) rfl rfl (tX6_stepOn l E hF.j _ _ _ hv6) tk_666 tk_668 tk_34 tk_46 tk_669 rfl rfl hdX6_stepOn ⟨Nat.le_of_ble_eq_true rfl, Nat.le_of_ble_eq_true rfl⟩ rfl rfl (Nat.le_of_ble_eq_true rfl) dX6_layLeads_93 (fun H locs hH => ?_)
              refine lv_if_lt (tgt := 103) hF.x hF.b dX6_layLeads_96 (by decide) (fun c8 => ?_) (fun c8 => ?_)
              · rw [if_pos c8] at h
                refine lv_iconst (v := 0) hF.x hF.b dX6_layLeads_103 (by decide) ?_
                exact w104 _ _ _ _ _ _ _ _ h hH (lv_sub hl [0, 1, 2] rfl)
              · rw [if_neg c8] at h
                refine lv_iconst (v := 1) hF.x hF.b dX6_layLeads_99 (by decide) ?_
                refine lv_goto (tgt := 104) hF.x hF.b dX6_layLeads_100 (by decide) ?_
                exact w104 _ _ _ _ _ _ _ _ h hH (lv_sub hl [0, 1, 2] rfl)
      intro x4 σ H locs ls h hH hl
      rw [it_eq] at h
      unfold fX6_layLeads_L56 at h
      refine lv_iload hF.x hF.b dX6_layLeads_56 (lv_at hl 1 rfl) ?_
      refine lv_if_lt (tgt := 117) hF.x hF.b dX6_layLeads_58 (by decide) (fun c9 => ?_) (fun c9 => ?_)
      · rw [if_pos c9] at h
        exact hret _ _ _ _ _ hH h dX6_layLeads_117
      · rw [if_neg c9] at h
        refine lv_iconst (v := 0) hF.x hF.b dX6_layLeads_61 (by decide) ?_
        refine lv_istore (lv' := [(5, .int 0), (0, .ref (eA E 0)), (4, .int x4)]) hF.x hF.b dX6_layLeads_62 hl (by decide) rfl (fun ls hl => ?_)
        exact w64 _ _ _ _ _ _ _ h hH (lv_sub hl [1, 2, 0] rfl)
  have w3 : ∀ (n : Nat) (x1 x2 x3 x4 : Int32) (σ : Sg) (H : Heap) (locs : List Loc) (ls : Array Slot), it fX6_layLeads_L3 (fun _ _ _ _ _ => none) n x1 x2 x3 x4 σ = some r → HP kM E s σ H locs → lv_has ls 6 [(0, .ref (eA E 0)), (1, .int x1), (2, .int x2), (3, .int x3), (4, .int x4)] → W p l e (rmk 4 94) s m args below meth c H locs 0 0 Q (F0 m 3 ls []) := by
    intro n3
    induction n3 with
    | zero =>
      intro x1 x2 x3 x4 σ H locs ls h hH hl
      cases (show (none : Rs) = some r from h)
    | succ n3 ih3 =>
      have w44 : ∀ (x1 x2 x3 x4 t0 t1 : Int32) (σ : Sg) (H : Heap) (locs : List Loc) (ls : Array Slot), fX6_layLeads_44 (it fX6_layLeads_L3 (fun _ _ _ _ _ => none) n3) x1 x2 x3 x4 t0 t1 σ = some r → HP kM E s σ H locs → lv_has ls 6 [(0, .ref (eA E 0)), (1, .int x1), (2, .int x2), (3, .int x3), (4, .int x4)] → W p l e (rmk 4 94) s m args below meth c H locs 0 0 Q (F0 m 44 ls [.int t0, .int t1, .ref (eA E 10)]) := by
        intro x1 x2 x3 x4 t0 t1 σ H locs ls h hH hl
        unfold fX6_layLeads_44 at h
        refine asM_10 hF hH (gd_some h).1 dX6_layLeads_44 (fun σ10 H locs eσ10 hH => ?_)
        replace h := sv_at (gd_some h).2 eσ10
        clear eσ10
        obtain ⟨y11, ey11⟩ : ∃ z : Int32, z = (x4 + 1) := ⟨_, rfl⟩
        replace h := sv_at h ey11
        refine lv_iinc (v := y11) (lv' := [(4, .int y11), (0, .ref (eA E 0)), (1, .int x1), (2, .int x2), (3, .int x3)]) hF.x hF.b dX6_layLeads_45 hl (k := 4) rfl (by rw [ey11]; rfl) (by decide) rfl (fun ls hl => ?_)
        clear ey11
        refine lv_goto (tgt := 3) hF.x hF.b dX6_layLeads_48 (by decide) ?_
        exact ih3 _ _ _ _ _ _ _ _ h hH (lv_sub hl [1, 2, 3, 4, 0] rfl)
      have w43 : ∀ (x1 x2 x3 x4 t0 : Int32) (σ : Sg) (H : Heap) (locs : List Loc) (ls : Array Slot), fX6_layLeads_43 (it fX6_layLeads_L3 (fun _ _ _ _ _ => none) n3) x1 x2 x3 x4 t0 σ = some r → HP kM E s σ H locs → lv_has ls 6 [(0, .ref (eA E 0)), (1, .int x1), (2, .int x2), (3, .int x3), (4, .int x4)] → W p l e (rmk 4 94) s m args below meth c H locs 0 0 Q (F0 m 43 ls [.int t0, .ref (eA E 10)]) := by
        intro x1 x2 x3 x4 t0 σ H locs ls h hH hl
        unfold fX6_layLeads_43 at h
        refine lv_iconst (v := 0) hF.x hF.b dX6_layLeads_43 (by decide) ?_
        exact w44 _ _ _ _ _ _ _ _ _ _ h hH (lv_sub hl [0, 1, 2, 3, 4] rfl)
      intro x1 x2 x3 x4 σ H locs ls h hH hl
      rw [it_eq] at h
      unfold fX6_layLeads_L3 at h
      refine lv_iload hF.x hF.b dX6_layLeads_3 (lv_at hl 4 rfl) ?_
      refine lv_sipush (v := 8000) hF.x hF.b dX6_layLeads_5 (by decide) ?_
      refine lv_icmp_ge (tgt := 51) hF.x hF.b dX6_layLeads_8 (by decide) (fun c12 => ?_) (fun c12 => ?_)
      · rw [if_pos c12] at h
        refine lv_iload_n hF.x hF.b dX6_layLeads_51 rfl (lv_at hl 1 rfl) ?_
        refine lv_iconst (v := 1) hF.x hF.b dX6_layLeads_52 (by decide) ?_
        refine lv_isub hF.x hF.b dX6_layLeads_53 ?_
        refine lv_topi (fun y13 ey13 => ?_)
        replace h := sv_at h ey13
        clear ey13
        refine lv_istore (lv' := [(4, .int y13), (0, .ref (eA E 0)), (1, .int x1), (2, .int x2), (3, .int x3)]) hF.x hF.b dX6_layLeads_54 hl (by decide) rfl (fun ls hl => ?_)
        exact w56 _ _ _ _ _ _ h hH (lv_sub hl [1, 0] rfl)
      · rw [if_neg c12] at h
        refine lv_aload_n hF.x hF.b dX6_layLeads_11 rfl (lv_at hl 0 rfl) ?_
        refine gfM_0_9 hF hH tk_487 dX6_layLeads_12 ?_
        refine lv_iload hF.x hF.b dX6_layLeads_15 (lv_at hl 4 rfl) ?_
        refine lv_aload_n hF.x hF.b dX6_layLeads_17 rfl (lv_at hl 0 rfl) ?_
        refine gfM_0_8 hF hH tk_486 dX6_layLeads_18 ?_
        refine lv_iload hF.x hF.b dX6_layLeads_21 (lv_at hl 4 rfl) ?_
        refine alM_9 hF hH (gd_some h).1 dX6_layLeads_23 ?_
        replace h := (gd_some h).2
        refine lv_iload_n hF.x hF.b dX6_layLeads_24 rfl (lv_at hl 1 rfl) ?_
        refine lv_icmp_ne (tgt := 43) hF.x hF.b dX6_layLeads_25 (by decide) (fun c14 => ?_) (fun c14 => ?_)
        · rw [if_neg c14] at h
          exact w43 _ _ _ _ _ _ _ _ _ h hH (lv_sub hl [0, 1, 2, 3, 4] rfl)
        · rw [if_pos c14] at h
          refine lv_aload_n hF.x hF.b dX6_layLeads_28 rfl (lv_at hl 0 rfl) ?_
          refine lv_iload hF.x hF.b dX6_layLeads_29 (lv_at hl 4 rfl) ?_
          refine lv_iload_n hF.x hF.b dX6_layLeads_31 rfl (lv_at hl 2 rfl) ?_
          refine lv_iload_n hF.x hF.b dX6_layLeads_32 rfl (lv_at hl 3 rfl) ?_
          replace h := bd_some h
          obtain ⟨v15, σ16, hv15, h⟩ := h
          refine w_cVi (As := [.int x4, .int x2, .int x3]) (rest := [.int x4, .ref (eA E 10)]) hF hH hl 0 (by decide) rfl rfl (tX6_isGoal l E hF.j _ _ _ _ _ hv15) tk_650 tk_652 tk_30 tk_46 tk_653 rfl rfl hdX6_isGoal ⟨Nat.le_of_ble_eq_true rfl, Nat.le_of_ble_eq_true rfl⟩ rfl rfl (Nat.le_of_ble_eq_true rfl) dX6_layLeads_33 (fun H locs hH => ?_)
          refine lv_if_eq (tgt := 43) hF.x hF.b dX6_layLeads_36 (by decide) (fun c17 => ?_) (fun c17 => ?_)
          · rw [if_pos c17] at h
            exact w43 _ _ _ _ _ _ _ _ _ h hH (lv_sub hl [0, 1, 2, 3, 4] rfl)
          · rw [if_neg c17] at h
            refine lv_iconst (v := 1) hF.x hF.b dX6_layLeads_39 (by decide) ?_
            refine lv_goto (tgt := 44) hF.x hF.b dX6_layLeads_40 (by decide) ?_
            exact w44 _ _ _ _ _ _ _ _ _ _ h hH (lv_sub hl [0, 1, 2, 3, 4] rfl)
  unfold fX6_layLeads at h
  refine lv_iconst (v := 0) hF.x hF.b dX6_layLeads_0 (by decide) ?_
  refine lv_istore (lv' := [(4, .int 0), (0, .ref (eA E 0)), (1, .int a1), (2, .int a2), (3, .int a3)]) hF.x hF.b dX6_layLeads_1 hl (by decide) rfl (fun ls hl => ?_)
  exact w3 _ _ _ _ _ _ _ _ _ h hH (lv_sub hl [1, 2, 3, 4, 0] rfl)
theorem hdX6_layWay : yX6_layWay.cls = RX6 ∧ yX6_layWay.cls ≠ "java/lang/invoke/MethodHandle" ∧ yX6_layWay.cls ≠ "java/lang/invoke/VarHandle" ∧ (parseMethodDescriptor yX6_layWay.desc).map (fun d => d.parameters.length) = some 2 := by decide +kernel
set_option maxHeartbeats 4000000 in
set_option maxRecDepth 100000 in
theorem tX6_layWay (l : Launch) (E : Ev) (hj : Inj kM E) (a1 : Int32) (a2 : Int32) (σ : Sg) (r : Int32 × Sg) (h : fX6_layWay a1 a2 σ = some r) : CI l yX6_layWay cX6_layWay 6 (some FieldType.int) (rmk 5 120) kM E [.ref (eA E 0), .int a1, .int a2] σ r := by
  refine CI_i (lv := [(0, .ref (eA E 0)), (1, .int a1), (2, .int a2)]) (by decide) hj (Nat.le_of_ble_eq_true rfl) rfl (fun p e s m args below meth c ls Q hF hret hH hl => ?_)
  have w36 : ∀ (n : Nat) (x3 x4 x5 : Int32) (σ : Sg) (H : Heap) (locs : List Loc) (ls : Array Slot), it fX6_layWay_L36 (fun _ _ _ _ => none) n x3 x4 x5 σ = some r → HP kM E s σ H locs → lv_has ls 6 [(0, .ref (eA E 0)), (3, .int x3), (4, .int x4), (5, .int x5)] → W p l e (rmk 5 120) s m args below meth c H locs 0 0 Q (F0 m 36 ls []) := by
    intro n36
    induction n36 with
    | zero =>
      intro x3 x4 x5 σ H locs ls h hH hl
      cases (show (none : Rs) = some r from h)
    | succ n36 ih36 =>
      intro x3 x4 x5 σ H locs ls h hH hl
      rw [it_eq] at h
      unfold fX6_layWay_L36 at h
      refine lv_iload hF.x hF.b dX6_layWay_36 (lv_at hl 3 rfl) ?_
      refine lv_iload_n hF.x hF.b dX6_layWay_38 rfl (lv_at hl 1 rfl) ?_
      refine lv_icmp_ge (tgt := 80) hF.x hF.b dX6_layWay_39 (by decide) (fun c1 => ?_) (fun c1 => ?_)
      · rw [if_pos c1] at h
        refine lv_aload_n hF.x hF.b dX6_layWay_80 rfl (lv_at hl 0 rfl) ?_
        refine lv_iload hF.x hF.b dX6_layWay_81 (lv_at hl 2 rfl) ?_
        refine pfM_0_11 hF hH tk_489 dX6_layWay_83 (fun σ2 H locs eσ2 hH => ?_)
        replace h := sv_at h eσ2
        clear eσ2
        refine lv_iload_n hF.x hF.b dX6_layWay_86 rfl (lv_at hl 1 rfl) ?_
        exact hret _ _ _ _ _ _ hH h dX6_layWay_87
      · rw [if_neg c1] at h
        refine lv_aload_n hF.x hF.b dX6_layWay_42 rfl (lv_at hl 0 rfl) ?_
        refine gfM_0_10 hF hH tk_488 dX6_layWay_43 ?_
        refine lv_iload hF.x hF.b dX6_layWay_46 (lv_at hl 3 rfl) ?_
        refine lv_aload_n hF.x hF.b dX6_layWay_48 rfl (lv_at hl 0 rfl) ?_
        refine lv_iload hF.x hF.b dX6_layWay_49 (lv_at hl 2 rfl) ?_
        replace h := bd_some h
        obtain ⟨v3, σ4, hv3, h⟩ := h
        refine w_cVi (As := [.int x4]) (rest := [.int x5, .ref (eA E 11)]) hF hH hl 0 (by decide) rfl rfl (tX6_stepOn l E hF.j _ _ _ hv3) tk_666 tk_668 tk_34 tk_46 tk_669 rfl rfl hdX6_stepOn ⟨Nat.le_of_ble_eq_true rfl, Nat.le_of_ble_eq_true rfl⟩ rfl rfl (Nat.le_of_ble_eq_true rfl) dX6_layWay_51 (fun H locs hH => ?_)
        refine asM_11 hF hH (gd_some h).1 dX6_layWay_54 (fun σ5 H locs eσ5 hH => ?_)
        replace h := sv_at (gd_some h).2 eσ5
        clear eσ5
        refine lv_aload_n hF.x hF.b dX6_layWay_55 rfl (lv_at hl 0 rfl) ?_
        refine lv_iload hF.x hF.b dX6_layWay_56 (lv_at hl 2 rfl) ?_
        replace h := bd_some h
        obtain ⟨v6, σ7, hv6, h⟩ := h
        refine w_cVv (As := [.int x4]) (rest := []) hF hH hl 0 (by decide) rfl rfl (tX6_layNumber l E hF.j _ _ _ hv6) tk_642 tk_644 tk_28 tk_46 tk_645 rfl rfl hdX6_layNumber ⟨Nat.le_of_ble_eq_true rfl, Nat.le_of_ble_eq_true rfl⟩ rfl rfl (Nat.le_of_ble_eq_true rfl) dX6_layWay_58 (fun H locs hH => ?_)
        refine lv_aload_n hF.x hF.b dX6_layWay_61 rfl (lv_at hl 0 rfl) ?_
        refine lv_aload_n hF.x hF.b dX6_layWay_62 rfl (lv_at hl 0 rfl) ?_
        refine gfM_0_10 hF hH tk_488 dX6_layWay_63 ?_
        refine lv_iload hF.x hF.b dX6_layWay_66 (lv_at hl 3 rfl) ?_
        refine alM_11 hF hH (gd_some h).1 dX6_layWay_68 ?_
        replace h := (gd_some h).2
        replace h := bd_some h
        obtain ⟨v8, σ9, hv8, h⟩ := h
        refine w_cVi (As := [.int (σ7 11 (Int32.toNatClampNeg x5))]) (rest := []) hF hH hl 0 (by decide) rfl rfl (tX6_numberBehind l E hF.j _ _ _ hv8) tk_594 tk_596 tk_19 tk_46 tk_597 rfl rfl hdX6_numberBehind ⟨Nat.le_of_ble_eq_true rfl, Nat.le_of_ble_eq_true rfl⟩ rfl rfl (Nat.le_of_ble_eq_true rfl) dX6_layWay_69 (fun H locs hH => ?_)
        refine lv_istore (lv' := [(4, .int v8), (0, .ref (eA E 0)), (3, .int x3), (5, .int x5)]) hF.x hF.b dX6_layWay_72 hl (by decide) rfl (fun ls hl => ?_)
        obtain ⟨y10, ey10⟩ : ∃ z : Int32, z = (x5 + 1) := ⟨_, rfl⟩
        replace h := sv_at h ey10
        refine lv_iinc (v := y10) (lv' := [(5, .int y10), (4, .int v8), (0, .ref (eA E 0)), (3, .int x3)]) hF.x hF.b dX6_layWay_74 hl (k := 3) rfl (by rw [ey10]; rfl) (by decide) rfl (fun ls hl => ?_)
        clear ey10
        refine lv_goto (tgt := 36) hF.x hF.b dX6_layWay_77 (by decide) ?_
        exact ih36 _ _ _ _ _ _ _ h hH (lv_sub hl [2, 3, 1, 0] rfl)
  unfold fX6_layWay at h
  refine lv_aload_n hF.x hF.b dX6_layWay_0 rfl (lv_at hl 0 rfl) ?_
  refine lv_bipush (v := (-6)) hF.x hF.b dX6_layWay_1 (by decide) ?_
  replace h := bd_some h
  obtain ⟨v11, σ12, hv11, h⟩ := h
  refine w_cVv (As := [.int (-6)]) (rest := []) hF hH hl 0 (by decide) rfl rfl (tX6_layAll l E hF.j _ _ _ hv11) tk_630 tk_632 tk_25 tk_46 tk_633 rfl rfl hdX6_layAll ⟨Nat.le_of_ble_eq_true rfl, Nat.le_of_ble_eq_true rfl⟩ rfl rfl (Nat.le_of_ble_eq_true rfl) dX6_layWay_3 (fun H locs hH => ?_)
  refine lv_aload_n hF.x hF.b dX6_layWay_6 rfl (lv_at hl 0 rfl) ?_
  refine lv_iload_n hF.x hF.b dX6_layWay_7 rfl (lv_at hl 1 rfl) ?_
  refine lv_iload_n hF.x hF.b dX6_layWay_8 rfl (lv_at hl 2 rfl) ?_
  replace h := bd_some h
  obtain ⟨v13, σ14, hv13, h⟩ := h
  refine w_cVi (As := [.int a1, .int a2]) (rest := []) hF hH hl 0 (by decide) rfl rfl (tX6_reached l E hF.j _ _ _ _ hv13) tk_646 tk_648 tk_29 tk_46 tk_649 rfl rfl hdX6_reached ⟨Nat.le_of_ble_eq_true rfl, Nat.le_of_ble_eq_true rfl⟩ rfl rfl (Nat.le_of_ble_eq_true rfl) dX6_layWay_9 (fun H locs hH => ?_)
  refine lv_istore_n (lv' := [(3, .int v13), (0, .ref (eA E 0)), (1, .int a1), (2, .int a2)]) hF.x hF.b dX6_layWay_12 rfl hl (by decide) rfl (fun ls hl => ?_)
  refine lv_iload_n hF.x hF.b dX6_layWay_13 rfl (lv_at hl 0 rfl) ?_
  refine lv_if_ge (tgt := 20) hF.x hF.b dX6_layWay_14 (by decide) (fun c15 => ?_) (fun c15 => ?_)
  · rw [if_pos c15] at h
    refine lv_aload_n hF.x hF.b dX6_layWay_20 rfl (lv_at hl 1 rfl) ?_
    refine lv_iload_n hF.x hF.b dX6_layWay_21 rfl (lv_at hl 0 rfl) ?_
    refine lv_iload_n hF.x hF.b dX6_layWay_22 rfl (lv_at hl 2 rfl) ?_
    refine lv_iload_n hF.x hF.b dX6_layWay_23 rfl (lv_at hl 3 rfl) ?_
    replace h := bd_some h
    obtain ⟨v16, σ17, hv16, h⟩ := h
    refine w_cVv (As := [.int v13, .int a1, .int a2]) (rest := []) hF hH hl 0 (by decide) rfl rfl (tX6_layLeads l E hF.j _ _ _ _ _ hv16) tk_662 tk_664 tk_33 tk_46 tk_665 rfl rfl hdX6_layLeads ⟨Nat.le_of_ble_eq_true rfl, Nat.le_of_ble_eq_true rfl⟩ rfl rfl (Nat.le_of_ble_eq_true rfl) dX6_layWay_24 (fun H locs hH => ?_)
    refine lv_aload_n hF.x hF.b dX6_layWay_27 rfl (lv_at hl 1 rfl) ?_
    replace h := bd_some h
    obtain ⟨v18, σ19, hv18, h⟩ := h
    refine w_cVi (As := []) (rest := []) hF hH hl 0 (by decide) rfl rfl (tX6_numberNow l E hF.j _ _ hv18) tk_634 tk_636 tk_26 tk_46 tk_637 rfl rfl hdX6_numberNow ⟨Nat.le_of_ble_eq_true rfl, Nat.le_of_ble_eq_true rfl⟩ rfl rfl (Nat.le_of_ble_eq_true rfl) dX6_layWay_28 (fun H locs hH => ?_)
    refine lv_istore (lv' := [(4, .int v18), (3, .int v13), (0, .ref (eA E 0)), (1, .int a1), (2, .int a2)]) hF.x hF.b dX6_layWay_31 hl (by decide) rfl (fun ls hl => ?_)
    refine lv_iconst (v := 0) hF.x hF.b dX6_layWay_33 (by decide) ?_
    refine lv_istore (lv' := [(5, .int 0), (4, .int v18), (3, .int v13), (0, .ref (eA E 0)), (1, .int a1), (2, .int a2)]) hF.x hF.b dX6_layWay_34 hl (by decide) rfl (fun ls hl => ?_)
    exact w36 _ _ _ _ _ _ _ _ h hH (lv_sub hl [3, 2, 1, 0] rfl)
  · rw [if_neg c15] at h
    refine lv_bipush (v := (-6)) hF.x hF.b dX6_layWay_17 (by decide) ?_
    exact hret _ _ _ _ _ _ hH h dX6_layWay_19
theorem hdX6_areSets : yX6_areSets.cls = RX6 ∧ yX6_areSets.cls ≠ "java/lang/invoke/MethodHandle" ∧ yX6_areSets.cls ≠ "java/lang/invoke/VarHandle" ∧ (parseMethodDescriptor yX6_areSets.desc).map (fun d => d.parameters.length) = some 2 := by decide +kernel
set_option maxHeartbeats 4000000 in
set_option maxRecDepth 100000 in
theorem tX6_areSets (l : Launch) (E : Ev) (hj : Inj kM E) (a1 : Int32) (a2 : Int32) (σ : Sg) (r : Int32 × Sg) (h : fX6_areSets a1 a2 σ = some r) : CI l yX6_areSets cX6_areSets 3 (some FieldType.boolean) (rmk 1 22) kM E [.ref (eA E 0), .int a1, .int a2] σ r := by
  refine CI_z (lv := [(0, .ref (eA E 0)), (1, .int a1), (2, .int a2)]) (by decide) hj (Nat.le_of_ble_eq_true rfl) rfl (fun p e s m args below meth c ls Q hF hret hH hl => ?_)
  have w34 : ∀ (t0 : Int32) (σ : Sg) (H : Heap) (locs : List Loc) (ls : Array Slot), fX6_areSets_34 t0 σ = some r → HP kM E s σ H locs → lv_has ls 3 [(0, .ref (eA E 0))] → W p l e (rmk 1 22) s m args below meth c H locs 0 0 Q (F0 m 34 ls [.int t0]) := by
    intro t0 σ H locs ls h hH hl
    unfold fX6_areSets_34 at h
    exact hret _ _ _ _ _ _ hH h dX6_areSets_34
  have w33 : ∀ (σ : Sg) (H : Heap) (locs : List Loc) (ls : Array Slot), fX6_areSets_33 σ = some r → HP kM E s σ H locs → lv_has ls 3 [(0, .ref (eA E 0))] → W p l e (rmk 1 22) s m args below meth c H locs 0 0 Q (F0 m 33 ls []) := by
    intro σ H locs ls h hH hl
    unfold fX6_areSets_33 at h
    refine lv_iconst (v := 0) hF.x hF.b dX6_areSets_33 (by decide) ?_
    exact w34 _ _ _ _ _ h hH (lv_sub hl [0] rfl)
  unfold fX6_areSets at h
  refine lv_iload_n hF.x hF.b dX6_areSets_0 rfl (lv_at hl 1 rfl) ?_
  refine lv_iconst (v := 0) hF.x hF.b dX6_areSets_1 (by decide) ?_
  refine lv_iconst (v := 1) hF.x hF.b dX6_areSets_2 (by decide) ?_
  refine lv_aload_n hF.x hF.b dX6_areSets_3 rfl (lv_at hl 0 rfl) ?_
  refine gfM_0_0 hF hH tk_478 dX6_areSets_4 ?_
  refine lv_bipush (v := 40) hF.x hF.b dX6_areSets_7 (by decide) ?_
  refine alM_1 hF hH (gd_some h).1 dX6_areSets_9 ?_
  replace h := (gd_some h).2
  refine lv_ishl hF.x hF.b dX6_areSets_10 ?_
  refine lv_iconst (v := 1) hF.x hF.b dX6_areSets_11 (by decide) ?_
  refine lv_isub hF.x hF.b dX6_areSets_12 ?_
  replace h := bd_some h
  obtain ⟨v1, σ2, hv1, h⟩ := h
  refine w_cSi (As := [.int a1, .int 0, .int (((1 : Int32) <<< ((σ 1 (Int32.toNatClampNeg 40)) &&& 31)) - (1 : Int32))]) (rest := []) hF hH hl (tX6_in l E hF.j _ _ _ _ _ hv1) tk_523 tk_524 tk_46 tk_525 rfl rfl hdX6_in ⟨Nat.le_of_ble_eq_true rfl, Nat.le_of_ble_eq_true rfl⟩ rfl rfl (Nat.le_of_ble_eq_true rfl) dX6_areSets_13 (fun H locs hH => ?_)
  refine lv_if_eq (tgt := 33) hF.x hF.b dX6_areSets_16 (by decide) (fun c3 => ?_) (fun c3 => ?_)
  · rw [if_pos c3] at h
    exact w33 _ _ _ _ h hH (lv_sub hl [0] rfl)
  · rw [if_neg c3] at h
    refine lv_iload_n hF.x hF.b dX6_areSets_19 rfl (lv_at hl 2 rfl) ?_
    refine lv_iconst (v := 0) hF.x hF.b dX6_areSets_20 (by decide) ?_
    refine lv_bipush (v := 63) hF.x hF.b dX6_areSets_21 (by decide) ?_
    replace h := bd_some h
    obtain ⟨v4, σ5, hv4, h⟩ := h
    refine w_cSi (As := [.int a2, .int 0, .int 63]) (rest := []) hF hH hl (tX6_in l E hF.j _ _ _ _ _ hv4) tk_523 tk_524 tk_46 tk_525 rfl rfl hdX6_in ⟨Nat.le_of_ble_eq_true rfl, Nat.le_of_ble_eq_true rfl⟩ rfl rfl (Nat.le_of_ble_eq_true rfl) dX6_areSets_23 (fun H locs hH => ?_)
    refine lv_if_eq (tgt := 33) hF.x hF.b dX6_areSets_26 (by decide) (fun c6 => ?_) (fun c6 => ?_)
    · rw [if_pos c6] at h
      exact w33 _ _ _ _ h hH (lv_sub hl [0] rfl)
    · rw [if_neg c6] at h
      refine lv_iconst (v := 1) hF.x hF.b dX6_areSets_29 (by decide) ?_
      refine lv_goto (tgt := 34) hF.x hF.b dX6_areSets_30 (by decide) ?_
      exact w34 _ _ _ _ _ h hH (lv_sub hl [0] rfl)
theorem hdX6_way : yX6_way.cls = RX6 ∧ yX6_way.cls ≠ "java/lang/invoke/MethodHandle" ∧ yX6_way.cls ≠ "java/lang/invoke/VarHandle" ∧ (parseMethodDescriptor yX6_way.desc).map (fun d => d.parameters.length) = some 3 := by decide +kernel
set_option maxHeartbeats 4000000 in
set_option maxRecDepth 100000 in
theorem tX6_way (l : Launch) (E : Ev) (hj : Inj kM E) (a1 : Int32) (a2 : Int32) (a3 : Int32) (σ : Sg) (r : Int32 × Sg) (h : fX6_way a1 a2 a3 σ = some r) : CI l yX6_way cX6_way 5 (some FieldType.int) (rmk 6 145) kM E [.ref (eA E 0), .int a1, .int a2, .int a3] σ r := by
  refine CI_i (lv := [(0, .ref (eA E 0)), (1, .int a1), (2, .int a2), (3, .int a3)]) (by decide) hj (Nat.le_of_ble_eq_true rfl) rfl (fun p e s m args below meth c ls Q hF hret hH hl => ?_)
  have w14 : ∀ (σ : Sg) (H : Heap) (locs : List Loc) (ls : Array Slot), fX6_way_14 σ = some r → HP kM E s σ H locs → lv_has ls 5 [(0, .ref (eA E 0))] → W p l e (rmk 6 145) s m args below meth c H locs 0 0 Q (F0 m 14 ls []) := by
    intro σ H locs ls h hH hl
    unfold fX6_way_14 at h
    refine lv_bipush (v := (-2)) hF.x hF.b dX6_way_14 (by decide) ?_
    exact hret _ _ _ _ _ _ hH h dX6_way_16
  have w57 : ∀ (t0 : Int32) (σ : Sg) (H : Heap) (locs : List Loc) (ls : Array Slot), fX6_way_57 t0 σ = some r → HP kM E s σ H locs → lv_has ls 5 [(0, .ref (eA E 0))] → W p l e (rmk 6 145) s m args below meth c H locs 0 0 Q (F0 m 57 ls [.int t0]) := by
    intro t0 σ H locs ls h hH hl
    unfold fX6_way_57 at h
    exact hret _ _ _ _ _ _ hH h dX6_way_57
  have w35 : ∀ (x4 : Int32) (σ : Sg) (H : Heap) (locs : List Loc) (ls : Array Slot), fX6_way_35 x4 σ = some r → HP kM E s σ H locs → lv_has ls 5 [(0, .ref (eA E 0)), (4, .int x4)] → W p l e (rmk 6 145) s m args below meth c H locs 0 0 Q (F0 m 35 ls []) := by
    intro x4 σ H locs ls h hH hl
    unfold fX6_way_35 at h
    refine lv_iload hF.x hF.b dX6_way_35 (lv_at hl 1 rfl) ?_
    refine lv_goto (tgt := 57) hF.x hF.b dX6_way_37 (by decide) ?_
    exact w57 _ _ _ _ _ h hH (lv_sub hl [0] rfl)
  unfold fX6_way at h
  refine lv_aload_n hF.x hF.b dX6_way_0 rfl (lv_at hl 0 rfl) ?_
  refine lv_iload_n hF.x hF.b dX6_way_1 rfl (lv_at hl 1 rfl) ?_
  refine lv_iload_n hF.x hF.b dX6_way_2 rfl (lv_at hl 2 rfl) ?_
  replace h := bd_some h
  obtain ⟨v1, σ2, hv1, h⟩ := h
  refine w_cVi (As := [.int a1, .int a2]) (rest := []) hF hH hl 0 (by decide) rfl rfl (tX6_areSets l E hF.j _ _ _ _ hv1) tk_622 tk_624 tk_23 tk_46 tk_625 rfl rfl hdX6_areSets ⟨Nat.le_of_ble_eq_true rfl, Nat.le_of_ble_eq_true rfl⟩ rfl rfl (Nat.le_of_ble_eq_true rfl) dX6_way_3 (fun H locs hH => ?_)
  refine lv_if_eq (tgt := 14) hF.x hF.b dX6_way_6 (by decide) (fun c3 => ?_) (fun c3 => ?_)
  · rw [if_pos c3] at h
    exact w14 _ _ _ _ h hH (lv_sub hl [0] rfl)
  · rw [if_neg c3] at h
    refine lv_iload_n hF.x hF.b dX6_way_9 rfl (lv_at hl 3 rfl) ?_
    refine lv_iconst (v := (-1)) hF.x hF.b dX6_way_10 (by decide) ?_
    refine lv_icmp_ge (tgt := 17) hF.x hF.b dX6_way_11 (by decide) (fun c4 => ?_) (fun c4 => ?_)
    · rw [if_pos c4] at h
      refine lv_aload_n hF.x hF.b dX6_way_17 rfl (lv_at hl 0 rfl) ?_
      refine lv_iload_n hF.x hF.b dX6_way_18 rfl (lv_at hl 1 rfl) ?_
      refine lv_iload_n hF.x hF.b dX6_way_19 rfl (lv_at hl 2 rfl) ?_
      replace h := bd_some h
      obtain ⟨v5, σ6, hv5, h⟩ := h
      refine w_cVi (As := [.int a1, .int a2]) (rest := []) hF hH hl 0 (by decide) rfl rfl (tX6_layWay l E hF.j _ _ _ _ hv5) tk_626 tk_628 tk_24 tk_46 tk_629 rfl rfl hdX6_layWay ⟨Nat.le_of_ble_eq_true rfl, Nat.le_of_ble_eq_true rfl⟩ rfl rfl (Nat.le_of_ble_eq_true rfl) dX6_way_20 (fun H locs hH => ?_)
      refine lv_istore (lv' := [(4, .int v5), (0, .ref (eA E 0)), (1, .int a1), (2, .int a2), (3, .int a3)]) hF.x hF.b dX6_way_23 hl (by decide) rfl (fun ls hl => ?_)
      refine lv_iload hF.x hF.b dX6_way_25 (lv_at hl 0 rfl) ?_
      refine lv_if_lt (tgt := 35) hF.x hF.b dX6_way_27 (by decide) (fun c7 => ?_) (fun c7 => ?_)
      · rw [if_pos c7] at h
        exact w35 _ _ _ _ _ h hH (lv_sub hl [1, 0] rfl)
      · rw [if_neg c7] at h
        refine lv_iload_n hF.x hF.b dX6_way_30 rfl (lv_at hl 4 rfl) ?_
        refine lv_iconst (v := (-1)) hF.x hF.b dX6_way_31 (by decide) ?_
        refine lv_icmp_ne (tgt := 40) hF.x hF.b dX6_way_32 (by decide) (fun c8 => ?_) (fun c8 => ?_)
        · rw [if_neg c8] at h
          refine lv_iload_n hF.x hF.b dX6_way_40 rfl (lv_at hl 4 rfl) ?_
          refine lv_iload hF.x hF.b dX6_way_41 (lv_at hl 0 rfl) ?_
          refine lv_icmp_ge (tgt := 55) hF.x hF.b dX6_way_43 (by decide) (fun c9 => ?_) (fun c9 => ?_)
          · rw [if_pos c9] at h
            refine lv_bipush (v := (-6)) hF.x hF.b dX6_way_55 (by decide) ?_
            exact w57 _ _ _ _ _ h hH (lv_sub hl [1] rfl)
          · rw [if_neg c9] at h
            refine lv_aload_n hF.x hF.b dX6_way_46 rfl (lv_at hl 1 rfl) ?_
            refine gfM_0_10 hF hH tk_488 dX6_way_47 ?_
            refine lv_iload_n hF.x hF.b dX6_way_50 rfl (lv_at hl 4 rfl) ?_
            refine alM_11 hF hH (gd_some h).1 dX6_way_51 ?_
            replace h := (gd_some h).2
            refine lv_goto (tgt := 57) hF.x hF.b dX6_way_52 (by decide) ?_
            exact w57 _ _ _ _ _ h hH (lv_sub hl [1] rfl)
        · rw [if_pos c8] at h
          exact w35 _ _ _ _ _ h hH (lv_sub hl [1, 0] rfl)
    · rw [if_neg c4] at h
      exact w14 _ _ _ _ h hH (lv_sub hl [0] rfl)
theorem hdX6_go : yX6_go.cls = RX6 ∧ yX6_go.cls ≠ "java/lang/invoke/MethodHandle" ∧ yX6_go.cls ≠ "java/lang/invoke/VarHandle" ∧ (parseMethodDescriptor yX6_go.desc).map (fun d => d.parameters.length) = some 2 := by decide +kernel
set_option maxHeartbeats 4000000 in
set_option maxRecDepth 100000 in
theorem tX6_go (l : Launch) (E : Ev) (hj : Inj kM E) (a1 : Int32) (a2 : Int32) (σ : Sg) (r : Int32 × Sg) (h : fX6_go a1 a2 σ = some r) : CI l yX6_go cX6_go 4 (some FieldType.int) (rmk 6 145) kM E [.ref (eA E 0), .int a1, .int a2] σ r := by
  refine CI_i (lv := [(0, .ref (eA E 0)), (1, .int a1), (2, .int a2)]) (by decide) hj (Nat.le_of_ble_eq_true rfl) rfl (fun p e s m args below meth c ls Q hF hret hH hl => ?_)
  unfold fX6_go at h
  refine lv_aload_n hF.x hF.b dX6_go_0 rfl (lv_at hl 0 rfl) ?_
  refine lv_iload_n hF.x hF.b dX6_go_1 rfl (lv_at hl 1 rfl) ?_
  refine lv_iload_n hF.x hF.b dX6_go_2 rfl (lv_at hl 2 rfl) ?_
  replace h := bd_some h
  obtain ⟨v1, σ2, hv1, h⟩ := h
  refine w_cVi (As := [.int a1, .int a2]) (rest := []) hF hH hl 0 (by decide) rfl rfl (tX6_areSets l E hF.j _ _ _ _ hv1) tk_622 tk_624 tk_23 tk_46 tk_625 rfl rfl hdX6_areSets ⟨Nat.le_of_ble_eq_true rfl, Nat.le_of_ble_eq_true rfl⟩ rfl rfl (Nat.le_of_ble_eq_true rfl) dX6_go_3 (fun H locs hH => ?_)
  refine lv_if_ne (tgt := 12) hF.x hF.b dX6_go_6 (by decide) (fun c3 => ?_) (fun c3 => ?_)
  · rw [if_neg c3] at h
    refine lv_aload_n hF.x hF.b dX6_go_12 rfl (lv_at hl 0 rfl) ?_
    refine lv_iload_n hF.x hF.b dX6_go_13 rfl (lv_at hl 1 rfl) ?_
    refine lv_iload_n hF.x hF.b dX6_go_14 rfl (lv_at hl 2 rfl) ?_
    replace h := bd_some h
    obtain ⟨v4, σ5, hv4, h⟩ := h
    refine w_cVi (As := [.int a1, .int a2]) (rest := []) hF hH hl 0 (by decide) rfl rfl (tX6_layWay l E hF.j _ _ _ _ hv4) tk_626 tk_628 tk_24 tk_46 tk_629 rfl rfl hdX6_layWay ⟨Nat.le_of_ble_eq_true rfl, Nat.le_of_ble_eq_true rfl⟩ rfl rfl (Nat.le_of_ble_eq_true rfl) dX6_go_15 (fun H locs hH => ?_)
    refine lv_istore_n (lv' := [(3, .int v4), (0, .ref (eA E 0)), (1, .int a1), (2, .int a2)]) hF.x hF.b dX6_go_18 rfl hl (by decide) rfl (fun ls hl => ?_)
    refine lv_iload_n hF.x hF.b dX6_go_19 rfl (lv_at hl 0 rfl) ?_
    refine lv_if_ge (tgt := 26) hF.x hF.b dX6_go_20 (by decide) (fun c6 => ?_) (fun c6 => ?_)
    · rw [if_pos c6] at h
      refine lv_aload_n hF.x hF.b dX6_go_26 rfl (lv_at hl 1 rfl) ?_
      refine lv_aload_n hF.x hF.b dX6_go_27 rfl (lv_at hl 1 rfl) ?_
      refine gfM_0_11 hF hH tk_489 dX6_go_28 ?_
      replace h := bd_some h
      obtain ⟨v7, σ8, hv7, h⟩ := h
      refine w_cVv (As := [.int (σ5 0 11)]) (rest := []) hF hH hl 0 (by decide) rfl rfl (tX6_become l E hF.j _ _ _ hv7) tk_602 tk_604 tk_21 tk_46 tk_605 rfl rfl hdX6_become ⟨Nat.le_of_ble_eq_true rfl, Nat.le_of_ble_eq_true rfl⟩ rfl rfl (Nat.le_of_ble_eq_true rfl) dX6_go_31 (fun H locs hH => ?_)
      refine lv_aload_n hF.x hF.b dX6_go_34 rfl (lv_at hl 1 rfl) ?_
      refine gfM_0_0 hF hH tk_478 dX6_go_35 ?_
      refine lv_bipush (v := 41) hF.x hF.b dX6_go_38 (by decide) ?_
      refine lv_dup2_11 hF.x hF.b dX6_go_40 rfl rfl ?_
      refine alM_1 hF hH (gd_some h).1 dX6_go_41 ?_
      replace h := (gd_some h).2
      refine lv_iload_n hF.x hF.b dX6_go_42 rfl (lv_at hl 0 rfl) ?_
      refine lv_iadd hF.x hF.b dX6_go_43 ?_
      refine asM_1 hF hH (gd_some h).1 dX6_go_44 (fun σ9 H locs eσ9 hH => ?_)
      replace h := sv_at (gd_some h).2 eσ9
      clear eσ9
      refine lv_aload_n hF.x hF.b dX6_go_45 rfl (lv_at hl 1 rfl) ?_
      refine gfM_0_0 hF hH tk_478 dX6_go_46 ?_
      refine lv_bipush (v := 41) hF.x hF.b dX6_go_49 (by decide) ?_
      refine alM_1 hF hH (gd_some h).1 dX6_go_51 ?_
      replace h := (gd_some h).2
      exact hret _ _ _ _ _ _ hH h dX6_go_52
    · rw [if_neg c6] at h
      refine lv_bipush (v := (-5)) hF.x hF.b dX6_go_23 (by decide) ?_
      exact hret _ _ _ _ _ _ hH h dX6_go_25
  · rw [if_pos c3] at h
    refine lv_bipush (v := (-2)) hF.x hF.b dX6_go_9 (by decide) ?_
    exact hret _ _ _ _ _ _ hH h dX6_go_11
theorem hdX6_canWithout : yX6_canWithout.cls = RX6 ∧ yX6_canWithout.cls ≠ "java/lang/invoke/MethodHandle" ∧ yX6_canWithout.cls ≠ "java/lang/invoke/VarHandle" ∧ (parseMethodDescriptor yX6_canWithout.desc).map (fun d => d.parameters.length) = some 3 := by decide +kernel
set_option maxHeartbeats 4000000 in
set_option maxRecDepth 100000 in
theorem tX6_canWithout (l : Launch) (E : Ev) (hj : Inj kM E) (a1 : Int32) (a2 : Int32) (a3 : Int32) (σ : Sg) (r : Int32 × Sg) (h : fX6_canWithout a1 a2 a3 σ = some r) : CI l yX6_canWithout cX6_canWithout 4 (some FieldType.boolean) (rmk 5 120) kM E [.ref (eA E 0), .int a1, .int a2, .int a3] σ r := by
  refine CI_z (lv := [(0, .ref (eA E 0)), (1, .int a1), (2, .int a2), (3, .int a3)]) (by decide) hj (Nat.le_of_ble_eq_true rfl) rfl (fun p e s m args below meth c ls Q hF hret hH hl => ?_)
  have w19 : ∀ (t0 : Int32) (σ : Sg) (H : Heap) (locs : List Loc) (ls : Array Slot), fX6_canWithout_19 t0 σ = some r → HP kM E s σ H locs → lv_has ls 4 [(0, .ref (eA E 0))] → W p l e (rmk 5 120) s m args below meth c H locs 0 0 Q (F0 m 19 ls [.int t0]) := by
    intro t0 σ H locs ls h hH hl
    unfold fX6_canWithout_19 at h
    exact hret _ _ _ _ _ _ hH h dX6_canWithout_19
  unfold fX6_canWithout at h
  refine lv_aload_n hF.x hF.b dX6_canWithout_0 rfl (lv_at hl 0 rfl) ?_
  refine lv_iload_n hF.x hF.b dX6_canWithout_1 rfl (lv_at hl 1 rfl) ?_
  replace h := bd_some h
  obtain ⟨v1, σ2, hv1, h⟩ := h
  refine w_cVv (As := [.int a1]) (rest := []) hF hH hl 0 (by decide) rfl rfl (tX6_layAll l E hF.j _ _ _ hv1) tk_630 tk_632 tk_25 tk_46 tk_633 rfl rfl hdX6_layAll ⟨Nat.le_of_ble_eq_true rfl, Nat.le_of_ble_eq_true rfl⟩ rfl rfl (Nat.le_of_ble_eq_true rfl) dX6_canWithout_2 (fun H locs hH => ?_)
  refine lv_aload_n hF.x hF.b dX6_canWithout_5 rfl (lv_at hl 0 rfl) ?_
  refine lv_iload_n hF.x hF.b dX6_canWithout_6 rfl (lv_at hl 2 rfl) ?_
  refine lv_iload_n hF.x hF.b dX6_canWithout_7 rfl (lv_at hl 3 rfl) ?_
  replace h := bd_some h
  obtain ⟨v3, σ4, hv3, h⟩ := h
  refine w_cVi (As := [.int a2, .int a3]) (rest := []) hF hH hl 0 (by decide) rfl rfl (tX6_reached l E hF.j _ _ _ _ hv3) tk_646 tk_648 tk_29 tk_46 tk_649 rfl rfl hdX6_reached ⟨Nat.le_of_ble_eq_true rfl, Nat.le_of_ble_eq_true rfl⟩ rfl rfl (Nat.le_of_ble_eq_true rfl) dX6_canWithout_8 (fun H locs hH => ?_)
  refine lv_if_lt (tgt := 18) hF.x hF.b dX6_canWithout_11 (by decide) (fun c5 => ?_) (fun c5 => ?_)
  · rw [if_pos c5] at h
    refine lv_iconst (v := 0) hF.x hF.b dX6_canWithout_18 (by decide) ?_
    exact w19 _ _ _ _ _ h hH (lv_sub hl [0] rfl)
  · rw [if_neg c5] at h
    refine lv_iconst (v := 1) hF.x hF.b dX6_canWithout_14 (by decide) ?_
    refine lv_goto (tgt := 19) hF.x hF.b dX6_canWithout_15 (by decide) ?_
    exact w19 _ _ _ _ _ h hH (lv_sub hl [0] rfl)
theorem hdX6_neededLines : yX6_neededLines.cls = RX6 ∧ yX6_neededLines.cls ≠ "java/lang/invoke/MethodHandle" ∧ yX6_neededLines.cls ≠ "java/lang/invoke/VarHandle" ∧ (parseMethodDescriptor yX6_neededLines.desc).map (fun d => d.parameters.length) = some 2 := by decide +kernel
set_option maxHeartbeats 4000000 in
set_option maxRecDepth 100000 in
theorem tX6_neededLines (l : Launch) (E : Ev) (hj : Inj kM E) (a1 : Int32) (a2 : Int32) (σ : Sg) (r : Int32 × Sg) (h : fX6_neededLines a1 a2 σ = some r) : CI l yX6_neededLines cX6_neededLines 5 (some FieldType.int) (rmk 6 143) kM E [.ref (eA E 0), .int a1, .int a2] σ r := by
  refine CI_i (lv := [(0, .ref (eA E 0)), (1, .int a1), (2, .int a2)]) (by decide) hj (Nat.le_of_ble_eq_true rfl) rfl (fun p e s m args below meth c ls Q hF hret hH hl => ?_)
  have w5 : ∀ (n : Nat) (x1 x2 x3 x4 : Int32) (σ : Sg) (H : Heap) (locs : List Loc) (ls : Array Slot), it fX6_neededLines_L5 (fun _ _ _ _ _ => none) n x1 x2 x3 x4 σ = some r → HP kM E s σ H locs → lv_has ls 5 [(0, .ref (eA E 0)), (1, .int x1), (2, .int x2), (3, .int x3), (4, .int x4)] → W p l e (rmk 6 143) s m args below meth c H locs 0 0 Q (F0 m 5 ls []) := by
    intro n5
    induction n5 with
    | zero =>
      intro x1 x2 x3 x4 σ H locs ls h hH hl
      cases (show (none : Rs) = some r from h)
    | succ n5 ih5 =>
      have w52 : ∀ (x1 x2 x4 t0 t1 : Int32) (σ : Sg) (H : Heap) (locs : List Loc) (ls : Array Slot), fX6_neededLines_52 (it fX6_neededLines_L5 (fun _ _ _ _ _ => none) n5) x1 x2 x4 t0 t1 σ = some r → HP kM E s σ H locs → lv_has ls 5 [(0, .ref (eA E 0)), (1, .int x1), (2, .int x2), (4, .int x4)] → W p l e (rmk 6 143) s m args below meth c H locs 0 0 Q (F0 m 52 ls [.int t0, .int t1]) := by
        intro x1 x2 x4 t0 t1 σ H locs ls h hH hl
        unfold fX6_neededLines_52 at h
        refine lv_ior hF.x hF.b dX6_neededLines_52 ?_
        refine lv_topi (fun y1 ey1 => ?_)
        replace h := sv_at h ey1
        clear ey1
        refine lv_istore_n (lv' := [(3, .int y1), (0, .ref (eA E 0)), (1, .int x1), (2, .int x2), (4, .int x4)]) hF.x hF.b dX6_neededLines_53 rfl hl (by decide) rfl (fun ls hl => ?_)
        obtain ⟨y2, ey2⟩ : ∃ z : Int32, z = (x4 + 1) := ⟨_, rfl⟩
        replace h := sv_at h ey2
        refine lv_iinc (v := y2) (lv' := [(4, .int y2), (3, .int y1), (0, .ref (eA E 0)), (1, .int x1), (2, .int x2)]) hF.x hF.b dX6_neededLines_54 hl (k := 4) rfl (by rw [ey2]; rfl) (by decide) rfl (fun ls hl => ?_)
        clear ey2
        refine lv_goto (tgt := 5) hF.x hF.b dX6_neededLines_57 (by decide) ?_
        exact ih5 _ _ _ _ _ _ _ _ h hH (lv_sub hl [2, 3, 4, 1, 0] rfl)
      have w51 : ∀ (x1 x2 x4 t0 : Int32) (σ : Sg) (H : Heap) (locs : List Loc) (ls : Array Slot), fX6_neededLines_51 (it fX6_neededLines_L5 (fun _ _ _ _ _ => none) n5) x1 x2 x4 t0 σ = some r → HP kM E s σ H locs → lv_has ls 5 [(0, .ref (eA E 0)), (1, .int x1), (2, .int x2), (4, .int x4)] → W p l e (rmk 6 143) s m args below meth c H locs 0 0 Q (F0 m 51 ls [.int t0]) := by
        intro x1 x2 x4 t0 σ H locs ls h hH hl
        unfold fX6_neededLines_51 at h
        refine lv_iconst (v := 0) hF.x hF.b dX6_neededLines_51 (by decide) ?_
        exact w52 _ _ _ _ _ _ _ _ _ h hH (lv_sub hl [0, 1, 2, 3] rfl)
      intro x1 x2 x3 x4 σ H locs ls h hH hl
      rw [it_eq] at h
      unfold fX6_neededLines_L5 at h
      refine lv_iload hF.x hF.b dX6_neededLines_5 (lv_at hl 4 rfl) ?_
      refine lv_aload_n hF.x hF.b dX6_neededLines_7 rfl (lv_at hl 0 rfl) ?_
      refine gfM_0_0 hF hH tk_478 dX6_neededLines_8 ?_
      refine lv_bipush (v := 39) hF.x hF.b dX6_neededLines_11 (by decide) ?_
      refine alM_1 hF hH (gd_some h).1 dX6_neededLines_13 ?_
      replace h := (gd_some h).2
      refine lv_icmp_ge (tgt := 60) hF.x hF.b dX6_neededLines_14 (by decide) (fun c3 => ?_) (fun c3 => ?_)
      · rw [if_pos c3] at h
        refine lv_iload_n hF.x hF.b dX6_neededLines_60 rfl (lv_at hl 3 rfl) ?_
        exact hret _ _ _ _ _ _ hH h dX6_neededLines_61
      · rw [if_neg c3] at h
        refine lv_iload_n hF.x hF.b dX6_neededLines_17 rfl (lv_at hl 3 rfl) ?_
        refine lv_aload_n hF.x hF.b dX6_neededLines_18 rfl (lv_at hl 0 rfl) ?_
        refine gfM_0_0 hF hH tk_478 dX6_neededLines_19 ?_
        refine lv_bipush (v := 18) hF.x hF.b dX6_neededLines_22 (by decide) ?_
        refine lv_iload hF.x hF.b dX6_neededLines_24 (lv_at hl 4 rfl) ?_
        refine lv_iadd hF.x hF.b dX6_neededLines_26 ?_
        refine alM_1 hF hH (gd_some h).1 dX6_neededLines_27 ?_
        replace h := (gd_some h).2
        refine lv_if_ne (tgt := 51) hF.x hF.b dX6_neededLines_28 (by decide) (fun c4 => ?_) (fun c4 => ?_)
        · rw [if_neg c4] at h
          exact w51 _ _ _ _ _ _ _ _ h hH (lv_sub hl [0, 1, 2, 4] rfl)
        · rw [if_pos c4] at h
          refine lv_aload_n hF.x hF.b dX6_neededLines_31 rfl (lv_at hl 0 rfl) ?_
          refine lv_iload hF.x hF.b dX6_neededLines_32 (lv_at hl 4 rfl) ?_
          refine lv_iconst (v := 4) hF.x hF.b dX6_neededLines_34 (by decide) ?_
          refine lv_iadd hF.x hF.b dX6_neededLines_35 ?_
          refine lv_iload_n hF.x hF.b dX6_neededLines_36 rfl (lv_at hl 1 rfl) ?_
          refine lv_iload_n hF.x hF.b dX6_neededLines_37 rfl (lv_at hl 2 rfl) ?_
          replace h := bd_some h
          obtain ⟨v5, σ6, hv5, h⟩ := h
          refine w_cVi (As := [.int (x4 + (4 : Int32)), .int x1, .int x2]) (rest := [.int x3]) hF hH hl 0 (by decide) rfl rfl (tX6_canWithout l E hF.j _ _ _ _ _ hv5) tk_678 tk_680 tk_35 tk_46 tk_681 rfl rfl hdX6_canWithout ⟨Nat.le_of_ble_eq_true rfl, Nat.le_of_ble_eq_true rfl⟩ rfl rfl (Nat.le_of_ble_eq_true rfl) dX6_neededLines_38 (fun H locs hH => ?_)
          refine lv_if_ne (tgt := 51) hF.x hF.b dX6_neededLines_41 (by decide) (fun c7 => ?_) (fun c7 => ?_)
          · rw [if_neg c7] at h
            exact w51 _ _ _ _ _ _ _ _ h hH (lv_sub hl [0, 1, 2, 4] rfl)
          · rw [if_pos c7] at h
            refine lv_iconst (v := 1) hF.x hF.b dX6_neededLines_44 (by decide) ?_
            refine lv_iload hF.x hF.b dX6_neededLines_45 (lv_at hl 4 rfl) ?_
            refine lv_ishl hF.x hF.b dX6_neededLines_47 ?_
            refine lv_goto (tgt := 52) hF.x hF.b dX6_neededLines_48 (by decide) ?_
            exact w52 _ _ _ _ _ _ _ _ _ h hH (lv_sub hl [0, 1, 2, 4] rfl)
  unfold fX6_neededLines at h
  refine lv_iconst (v := 0) hF.x hF.b dX6_neededLines_0 (by decide) ?_
  refine lv_istore_n (lv' := [(3, .int 0), (0, .ref (eA E 0)), (1, .int a1), (2, .int a2)]) hF.x hF.b dX6_neededLines_1 rfl hl (by decide) rfl (fun ls hl => ?_)
  refine lv_iconst (v := 0) hF.x hF.b dX6_neededLines_2 (by decide) ?_
  refine lv_istore (lv' := [(4, .int 0), (3, .int 0), (0, .ref (eA E 0)), (1, .int a1), (2, .int a2)]) hF.x hF.b dX6_neededLines_3 hl (by decide) rfl (fun ls hl => ?_)
  exact w5 _ _ _ _ _ _ _ _ _ h hH (lv_sub hl [2, 3, 4, 1, 0] rfl)
theorem hdX6_neededMachines : yX6_neededMachines.cls = RX6 ∧ yX6_neededMachines.cls ≠ "java/lang/invoke/MethodHandle" ∧ yX6_neededMachines.cls ≠ "java/lang/invoke/VarHandle" ∧ (parseMethodDescriptor yX6_neededMachines.desc).map (fun d => d.parameters.length) = some 2 := by decide +kernel
set_option maxHeartbeats 4000000 in
set_option maxRecDepth 100000 in
theorem tX6_neededMachines (l : Launch) (E : Ev) (hj : Inj kM E) (a1 : Int32) (a2 : Int32) (σ : Sg) (r : Int32 × Sg) (h : fX6_neededMachines a1 a2 σ = some r) : CI l yX6_neededMachines cX6_neededMachines 5 (some FieldType.int) (rmk 6 143) kM E [.ref (eA E 0), .int a1, .int a2] σ r := by
  refine CI_i (lv := [(0, .ref (eA E 0)), (1, .int a1), (2, .int a2)]) (by decide) hj (Nat.le_of_ble_eq_true rfl) rfl (fun p e s m args below meth c ls Q hF hret hH hl => ?_)
  have w5 : ∀ (n : Nat) (x1 x2 x3 x4 : Int32) (σ : Sg) (H : Heap) (locs : List Loc) (ls : Array Slot), it fX6_neededMachines_L5 (fun _ _ _ _ _ => none) n x1 x2 x3 x4 σ = some r → HP kM E s σ H locs → lv_has ls 5 [(0, .ref (eA E 0)), (1, .int x1), (2, .int x2), (3, .int x3), (4, .int x4)] → W p l e (rmk 6 143) s m args below meth c H locs 0 0 Q (F0 m 5 ls []) := by
    intro n5
    induction n5 with
    | zero =>
      intro x1 x2 x3 x4 σ H locs ls h hH hl
      cases (show (none : Rs) = some r from h)
    | succ n5 ih5 =>
      have w52 : ∀ (x1 x2 x4 t0 t1 : Int32) (σ : Sg) (H : Heap) (locs : List Loc) (ls : Array Slot), fX6_neededMachines_52 (it fX6_neededMachines_L5 (fun _ _ _ _ _ => none) n5) x1 x2 x4 t0 t1 σ = some r → HP kM E s σ H locs → lv_has ls 5 [(0, .ref (eA E 0)), (1, .int x1), (2, .int x2), (4, .int x4)] → W p l e (rmk 6 143) s m args below meth c H locs 0 0 Q (F0 m 52 ls [.int t0, .int t1]) := by
        intro x1 x2 x4 t0 t1 σ H locs ls h hH hl
        unfold fX6_neededMachines_52 at h
        refine lv_ior hF.x hF.b dX6_neededMachines_52 ?_
        refine lv_topi (fun y1 ey1 => ?_)
        replace h := sv_at h ey1
        clear ey1
        refine lv_istore_n (lv' := [(3, .int y1), (0, .ref (eA E 0)), (1, .int x1), (2, .int x2), (4, .int x4)]) hF.x hF.b dX6_neededMachines_53 rfl hl (by decide) rfl (fun ls hl => ?_)
        obtain ⟨y2, ey2⟩ : ∃ z : Int32, z = (x4 + 1) := ⟨_, rfl⟩
        replace h := sv_at h ey2
        refine lv_iinc (v := y2) (lv' := [(4, .int y2), (3, .int y1), (0, .ref (eA E 0)), (1, .int x1), (2, .int x2)]) hF.x hF.b dX6_neededMachines_54 hl (k := 4) rfl (by rw [ey2]; rfl) (by decide) rfl (fun ls hl => ?_)
        clear ey2
        refine lv_goto (tgt := 5) hF.x hF.b dX6_neededMachines_57 (by decide) ?_
        exact ih5 _ _ _ _ _ _ _ _ h hH (lv_sub hl [2, 3, 4, 1, 0] rfl)
      have w51 : ∀ (x1 x2 x4 t0 : Int32) (σ : Sg) (H : Heap) (locs : List Loc) (ls : Array Slot), fX6_neededMachines_51 (it fX6_neededMachines_L5 (fun _ _ _ _ _ => none) n5) x1 x2 x4 t0 σ = some r → HP kM E s σ H locs → lv_has ls 5 [(0, .ref (eA E 0)), (1, .int x1), (2, .int x2), (4, .int x4)] → W p l e (rmk 6 143) s m args below meth c H locs 0 0 Q (F0 m 51 ls [.int t0]) := by
        intro x1 x2 x4 t0 σ H locs ls h hH hl
        unfold fX6_neededMachines_51 at h
        refine lv_iconst (v := 0) hF.x hF.b dX6_neededMachines_51 (by decide) ?_
        exact w52 _ _ _ _ _ _ _ _ _ h hH (lv_sub hl [0, 1, 2, 3] rfl)
      intro x1 x2 x3 x4 σ H locs ls h hH hl
      rw [it_eq] at h
      unfold fX6_neededMachines_L5 at h
      refine lv_iload hF.x hF.b dX6_neededMachines_5 (lv_at hl 4 rfl) ?_
      refine lv_aload_n hF.x hF.b dX6_neededMachines_7 rfl (lv_at hl 0 rfl) ?_
      refine gfM_0_0 hF hH tk_478 dX6_neededMachines_8 ?_
      refine lv_bipush (v := 40) hF.x hF.b dX6_neededMachines_11 (by decide) ?_
      refine alM_1 hF hH (gd_some h).1 dX6_neededMachines_13 ?_
      replace h := (gd_some h).2
      refine lv_icmp_ge (tgt := 60) hF.x hF.b dX6_neededMachines_14 (by decide) (fun c3 => ?_) (fun c3 => ?_)
      · rw [if_pos c3] at h
        refine lv_iload_n hF.x hF.b dX6_neededMachines_60 rfl (lv_at hl 3 rfl) ?_
        exact hret _ _ _ _ _ _ hH h dX6_neededMachines_61
      · rw [if_neg c3] at h
        refine lv_iload_n hF.x hF.b dX6_neededMachines_17 rfl (lv_at hl 3 rfl) ?_
        refine lv_aload_n hF.x hF.b dX6_neededMachines_18 rfl (lv_at hl 0 rfl) ?_
        refine gfM_0_0 hF hH tk_478 dX6_neededMachines_19 ?_
        refine lv_bipush (v := 36) hF.x hF.b dX6_neededMachines_22 (by decide) ?_
        refine lv_iload hF.x hF.b dX6_neededMachines_24 (lv_at hl 4 rfl) ?_
        refine lv_iadd hF.x hF.b dX6_neededMachines_26 ?_
        refine alM_1 hF hH (gd_some h).1 dX6_neededMachines_27 ?_
        replace h := (gd_some h).2
        refine lv_if_ne (tgt := 51) hF.x hF.b dX6_neededMachines_28 (by decide) (fun c4 => ?_) (fun c4 => ?_)
        · rw [if_neg c4] at h
          exact w51 _ _ _ _ _ _ _ _ h hH (lv_sub hl [0, 1, 2, 4] rfl)
        · rw [if_pos c4] at h
          refine lv_aload_n hF.x hF.b dX6_neededMachines_31 rfl (lv_at hl 0 rfl) ?_
          refine lv_iload hF.x hF.b dX6_neededMachines_32 (lv_at hl 4 rfl) ?_
          refine lv_iconst (v := 1) hF.x hF.b dX6_neededMachines_34 (by decide) ?_
          refine lv_iadd hF.x hF.b dX6_neededMachines_35 ?_
          refine lv_iload_n hF.x hF.b dX6_neededMachines_36 rfl (lv_at hl 1 rfl) ?_
          refine lv_iload_n hF.x hF.b dX6_neededMachines_37 rfl (lv_at hl 2 rfl) ?_
          replace h := bd_some h
          obtain ⟨v5, σ6, hv5, h⟩ := h
          refine w_cVi (As := [.int (x4 + (1 : Int32)), .int x1, .int x2]) (rest := [.int x3]) hF hH hl 0 (by decide) rfl rfl (tX6_canWithout l E hF.j _ _ _ _ _ hv5) tk_678 tk_680 tk_35 tk_46 tk_681 rfl rfl hdX6_canWithout ⟨Nat.le_of_ble_eq_true rfl, Nat.le_of_ble_eq_true rfl⟩ rfl rfl (Nat.le_of_ble_eq_true rfl) dX6_neededMachines_38 (fun H locs hH => ?_)
          refine lv_if_ne (tgt := 51) hF.x hF.b dX6_neededMachines_41 (by decide) (fun c7 => ?_) (fun c7 => ?_)
          · rw [if_neg c7] at h
            exact w51 _ _ _ _ _ _ _ _ h hH (lv_sub hl [0, 1, 2, 4] rfl)
          · rw [if_pos c7] at h
            refine lv_iconst (v := 1) hF.x hF.b dX6_neededMachines_44 (by decide) ?_
            refine lv_iload hF.x hF.b dX6_neededMachines_45 (lv_at hl 4 rfl) ?_
            refine lv_ishl hF.x hF.b dX6_neededMachines_47 ?_
            refine lv_goto (tgt := 52) hF.x hF.b dX6_neededMachines_48 (by decide) ?_
            exact w52 _ _ _ _ _ _ _ _ _ h hH (lv_sub hl [0, 1, 2, 4] rfl)
  unfold fX6_neededMachines at h
  refine lv_iconst (v := 0) hF.x hF.b dX6_neededMachines_0 (by decide) ?_
  refine lv_istore_n (lv' := [(3, .int 0), (0, .ref (eA E 0)), (1, .int a1), (2, .int a2)]) hF.x hF.b dX6_neededMachines_1 rfl hl (by decide) rfl (fun ls hl => ?_)
  refine lv_iconst (v := 0) hF.x hF.b dX6_neededMachines_2 (by decide) ?_
  refine lv_istore (lv' := [(4, .int 0), (3, .int 0), (0, .ref (eA E 0)), (1, .int a1), (2, .int a2)]) hF.x hF.b dX6_neededMachines_3 hl (by decide) rfl (fun ls hl => ?_)
  exact w5 _ _ _ _ _ _ _ _ _ h hH (lv_sub hl [2, 3, 4, 1, 0] rfl)
theorem hdX6_needed : yX6_needed.cls = RX6 ∧ yX6_needed.cls ≠ "java/lang/invoke/MethodHandle" ∧ yX6_needed.cls ≠ "java/lang/invoke/VarHandle" ∧ (parseMethodDescriptor yX6_needed.desc).map (fun d => d.parameters.length) = some 3 := by decide +kernel
set_option maxHeartbeats 4000000 in
set_option maxRecDepth 100000 in
theorem tX6_needed (l : Launch) (E : Ev) (hj : Inj kM E) (a1 : Int32) (a2 : Int32) (a3 : Int32) (σ : Sg) (r : Int32 × Sg) (h : fX6_needed a1 a2 a3 σ = some r) : CI l yX6_needed cX6_needed 4 (some FieldType.int) (rmk 7 167) kM E [.ref (eA E 0), .int a1, .int a2, .int a3] σ r := by
  refine CI_i (lv := [(0, .ref (eA E 0)), (1, .int a1), (2, .int a2), (3, .int a3)]) (by decide) hj (Nat.le_of_ble_eq_true rfl) rfl (fun p e s m args below meth c ls Q hF hret hH hl => ?_)
  have w18 : ∀ (σ : Sg) (H : Heap) (locs : List Loc) (ls : Array Slot), fX6_needed_18 σ = some r → HP kM E s σ H locs → lv_has ls 4 [(0, .ref (eA E 0))] → W p l e (rmk 7 167) s m args below meth c H locs 0 0 Q (F0 m 18 ls []) := by
    intro σ H locs ls h hH hl
    unfold fX6_needed_18 at h
    refine lv_bipush (v := (-2)) hF.x hF.b dX6_needed_18 (by decide) ?_
    exact hret _ _ _ _ _ _ hH h dX6_needed_20
  have w54 : ∀ (t0 : Int32) (σ : Sg) (H : Heap) (locs : List Loc) (ls : Array Slot), fX6_needed_54 t0 σ = some r → HP kM E s σ H locs → lv_has ls 4 [(0, .ref (eA E 0))] → W p l e (rmk 7 167) s m args below meth c H locs 0 0 Q (F0 m 54 ls [.int t0]) := by
    intro t0 σ H locs ls h hH hl
    unfold fX6_needed_54 at h
    exact hret _ _ _ _ _ _ hH h dX6_needed_54
  unfold fX6_needed at h
  refine lv_aload_n hF.x hF.b dX6_needed_0 rfl (lv_at hl 0 rfl) ?_
  refine lv_iload_n hF.x hF.b dX6_needed_1 rfl (lv_at hl 1 rfl) ?_
  refine lv_iload_n hF.x hF.b dX6_needed_2 rfl (lv_at hl 2 rfl) ?_
  replace h := bd_some h
  obtain ⟨v1, σ2, hv1, h⟩ := h
  refine w_cVi (As := [.int a1, .int a2]) (rest := []) hF hH hl 0 (by decide) rfl rfl (tX6_areSets l E hF.j _ _ _ _ hv1) tk_622 tk_624 tk_23 tk_46 tk_625 rfl rfl hdX6_areSets ⟨Nat.le_of_ble_eq_true rfl, Nat.le_of_ble_eq_true rfl⟩ rfl rfl (Nat.le_of_ble_eq_true rfl) dX6_needed_3 (fun H locs hH => ?_)
  refine lv_if_eq (tgt := 18) hF.x hF.b dX6_needed_6 (by decide) (fun c3 => ?_) (fun c3 => ?_)
  · rw [if_pos c3] at h
    exact w18 _ _ _ _ h hH (lv_sub hl [0] rfl)
  · rw [if_neg c3] at h
    refine lv_iload_n hF.x hF.b dX6_needed_9 rfl (lv_at hl 3 rfl) ?_
    refine lv_iconst (v := 0) hF.x hF.b dX6_needed_10 (by decide) ?_
    refine lv_iconst (v := 1) hF.x hF.b dX6_needed_11 (by decide) ?_
    replace h := bd_some h
    obtain ⟨v4, σ5, hv4, h⟩ := h
    refine w_cSi (As := [.int a3, .int 0, .int 1]) (rest := []) hF hH hl (tX6_in l E hF.j _ _ _ _ _ hv4) tk_523 tk_524 tk_46 tk_525 rfl rfl hdX6_in ⟨Nat.le_of_ble_eq_true rfl, Nat.le_of_ble_eq_true rfl⟩ rfl rfl (Nat.le_of_ble_eq_true rfl) dX6_needed_12 (fun H locs hH => ?_)
    refine lv_if_ne (tgt := 21) hF.x hF.b dX6_needed_15 (by decide) (fun c6 => ?_) (fun c6 => ?_)
    · rw [if_neg c6] at h
      refine lv_aload_n hF.x hF.b dX6_needed_21 rfl (lv_at hl 0 rfl) ?_
      refine lv_bipush (v := (-6)) hF.x hF.b dX6_needed_22 (by decide) ?_
      refine lv_iload_n hF.x hF.b dX6_needed_24 rfl (lv_at hl 1 rfl) ?_
      refine lv_iload_n hF.x hF.b dX6_needed_25 rfl (lv_at hl 2 rfl) ?_
      replace h := bd_some h
      obtain ⟨v7, σ8, hv7, h⟩ := h
      refine w_cVi (As := [.int (-6), .int a1, .int a2]) (rest := []) hF hH hl 0 (by decide) rfl rfl (tX6_canWithout l E hF.j _ _ _ _ _ hv7) tk_678 tk_680 tk_35 tk_46 tk_681 rfl rfl hdX6_canWithout ⟨Nat.le_of_ble_eq_true rfl, Nat.le_of_ble_eq_true rfl⟩ rfl rfl (Nat.le_of_ble_eq_true rfl) dX6_needed_26 (fun H locs hH => ?_)
      refine lv_if_ne (tgt := 35) hF.x hF.b dX6_needed_29 (by decide) (fun c9 => ?_) (fun c9 => ?_)
      · rw [if_neg c9] at h
        refine lv_iload_n hF.x hF.b dX6_needed_35 rfl (lv_at hl 3 rfl) ?_
        refine lv_if_ne (tgt := 48) hF.x hF.b dX6_needed_36 (by decide) (fun c10 => ?_) (fun c10 => ?_)
        · rw [if_neg c10] at h
          refine lv_aload_n hF.x hF.b dX6_needed_48 rfl (lv_at hl 0 rfl) ?_
          refine lv_iload_n hF.x hF.b dX6_needed_49 rfl (lv_at hl 1 rfl) ?_
          refine lv_iload_n hF.x hF.b dX6_needed_50 rfl (lv_at hl 2 rfl) ?_
          replace h := bd_some h
          obtain ⟨v11, σ12, hv11, h⟩ := h
          refine w_cVi (As := [.int a1, .int a2]) (rest := []) hF hH hl 0 (by decide) rfl rfl (tX6_neededMachines l E hF.j _ _ _ _ hv11) tk_686 tk_688 tk_37 tk_46 tk_689 rfl rfl hdX6_neededMachines ⟨Nat.le_of_ble_eq_true rfl, Nat.le_of_ble_eq_true rfl⟩ rfl rfl (Nat.le_of_ble_eq_true rfl) dX6_needed_51 (fun H locs hH => ?_)
          exact w54 _ _ _ _ _ h hH (lv_sub hl [0] rfl)
        · rw [if_pos c10] at h
          refine lv_aload_n hF.x hF.b dX6_needed_39 rfl (lv_at hl 0 rfl) ?_
          refine lv_iload_n hF.x hF.b dX6_needed_40 rfl (lv_at hl 1 rfl) ?_
          refine lv_iload_n hF.x hF.b dX6_needed_41 rfl (lv_at hl 2 rfl) ?_
          replace h := bd_some h
          obtain ⟨v13, σ14, hv13, h⟩ := h
          refine w_cVi (As := [.int a1, .int a2]) (rest := []) hF hH hl 0 (by decide) rfl rfl (tX6_neededLines l E hF.j _ _ _ _ hv13) tk_682 tk_684 tk_36 tk_46 tk_685 rfl rfl hdX6_neededLines ⟨Nat.le_of_ble_eq_true rfl, Nat.le_of_ble_eq_true rfl⟩ rfl rfl (Nat.le_of_ble_eq_true rfl) dX6_needed_42 (fun H locs hH => ?_)
          refine lv_goto (tgt := 54) hF.x hF.b dX6_needed_45 (by decide) ?_
          exact w54 _ _ _ _ _ h hH (lv_sub hl [0] rfl)
      · rw [if_pos c9] at h
        refine lv_bipush (v := (-6)) hF.x hF.b dX6_needed_32 (by decide) ?_
        exact hret _ _ _ _ _ _ hH h dX6_needed_34
    · rw [if_pos c6] at h
      exact w18 _ _ _ _ h hH (lv_sub hl [0] rfl)
theorem hdX6_ever : yX6_ever.cls = RX6 ∧ yX6_ever.cls ≠ "java/lang/invoke/MethodHandle" ∧ yX6_ever.cls ≠ "java/lang/invoke/VarHandle" ∧ (parseMethodDescriptor yX6_ever.desc).map (fun d => d.parameters.length) = some 1 := by decide +kernel
set_option maxHeartbeats 4000000 in
set_option maxRecDepth 100000 in
theorem tX6_ever (l : Launch) (E : Ev) (hj : Inj kM E) (a1 : Int32) (σ : Sg) (r : Int32 × Sg) (h : fX6_ever a1 σ = some r) : CI l yX6_ever cX6_ever 4 (some FieldType.int) (rmk 5 120) kM E [.ref (eA E 0), .int a1] σ r := by
  refine CI_i (lv := [(0, .ref (eA E 0)), (1, .int a1)]) (by decide) hj (Nat.le_of_ble_eq_true rfl) rfl (fun p e s m args below meth c ls Q hF hret hH hl => ?_)
  have w22 : ∀ (n : Nat) (x1 x2 x3 : Int32) (σ : Sg) (H : Heap) (locs : List Loc) (ls : Array Slot), it fX6_ever_L22 (fun _ _ _ _ => none) n x1 x2 x3 σ = some r → HP kM E s σ H locs → lv_has ls 4 [(0, .ref (eA E 0)), (1, .int x1), (2, .int x2), (3, .int x3)] → W p l e (rmk 5 120) s m args below meth c H locs 0 0 Q (F0 m 22 ls []) := by
    intro n22
    induction n22 with
    | zero =>
      intro x1 x2 x3 σ H locs ls h hH hl
      cases (show (none : Rs) = some r from h)
    | succ n22 ih22 =>
      have w61 : ∀ (x1 x2 x3 : Int32) (σ : Sg) (H : Heap) (locs : List Loc) (ls : Array Slot), fX6_ever_61 (it fX6_ever_L22 (fun _ _ _ _ => none) n22) x1 x2 x3 σ = some r → HP kM E s σ H locs → lv_has ls 4 [(0, .ref (eA E 0)), (1, .int x1), (2, .int x2), (3, .int x3)] → W p l e (rmk 5 120) s m args below meth c H locs 0 0 Q (F0 m 61 ls []) := by
        intro x1 x2 x3 σ H locs ls h hH hl
        unfold fX6_ever_61 at h
        obtain ⟨y1, ey1⟩ : ∃ z : Int32, z = (x3 + 1) := ⟨_, rfl⟩
        replace h := sv_at h ey1
        refine lv_iinc (v := y1) (lv' := [(3, .int y1), (0, .ref (eA E 0)), (1, .int x1), (2, .int x2)]) hF.x hF.b dX6_ever_61 hl (k := 3) rfl (by rw [ey1]; rfl) (by decide) rfl (fun ls hl => ?_)
        clear ey1
        refine lv_goto (tgt := 22) hF.x hF.b dX6_ever_64 (by decide) ?_
        exact ih22 _ _ _ _ _ _ _ h hH (lv_sub hl [1, 2, 3, 0] rfl)
      have w59 : ∀ (x1 x3 t0 t1 : Int32) (σ : Sg) (H : Heap) (locs : List Loc) (ls : Array Slot), fX6_ever_59 (it fX6_ever_L22 (fun _ _ _ _ => none) n22) x1 x3 t0 t1 σ = some r → HP kM E s σ H locs → lv_has ls 4 [(0, .ref (eA E 0)), (1, .int x1), (3, .int x3)] → W p l e (rmk 5 120) s m args below meth c H locs 0 0 Q (F0 m 59 ls [.int t0, .int t1]) := by
        intro x1 x3 t0 t1 σ H locs ls h hH hl
        unfold fX6_ever_59 at h
        refine lv_ior hF.x hF.b dX6_ever_59 ?_
        refine lv_topi (fun y2 ey2 => ?_)
        replace h := sv_at h ey2
        clear ey2
        refine lv_istore_n (lv' := [(2, .int y2), (0, .ref (eA E 0)), (1, .int x1), (3, .int x3)]) hF.x hF.b dX6_ever_60 rfl hl (by decide) rfl (fun ls hl => ?_)
        exact w61 _ _ _ _ _ _ _ h hH (lv_sub hl [1, 2, 0, 3] rfl)
      intro x1 x2 x3 σ H locs ls h hH hl
      rw [it_eq] at h
      unfold fX6_ever_L22 at h
      refine lv_iload_n hF.x hF.b dX6_ever_22 rfl (lv_at hl 3 rfl) ?_
      refine lv_sipush (v := 8000) hF.x hF.b dX6_ever_23 (by decide) ?_
      refine lv_icmp_ge (tgt := 67) hF.x hF.b dX6_ever_26 (by decide) (fun c3 => ?_) (fun c3 => ?_)
      · rw [if_pos c3] at h
        refine lv_iload_n hF.x hF.b dX6_ever_67 rfl (lv_at hl 2 rfl) ?_
        exact hret _ _ _ _ _ _ hH h dX6_ever_68
      · rw [if_neg c3] at h
        refine lv_aload_n hF.x hF.b dX6_ever_29 rfl (lv_at hl 0 rfl) ?_
        refine gfM_0_8 hF hH tk_486 dX6_ever_30 ?_
        refine lv_iload_n hF.x hF.b dX6_ever_33 rfl (lv_at hl 3 rfl) ?_
        refine alM_9 hF hH (gd_some h).1 dX6_ever_34 ?_
        replace h := (gd_some h).2
        refine lv_if_lt (tgt := 61) hF.x hF.b dX6_ever_35 (by decide) (fun c4 => ?_) (fun c4 => ?_)
        · rw [if_pos c4] at h
          exact w61 _ _ _ _ _ _ _ h hH (lv_sub hl [0, 1, 2, 3] rfl)
        · rw [if_neg c4] at h
          refine lv_aload_n hF.x hF.b dX6_ever_38 rfl (lv_at hl 0 rfl) ?_
          refine lv_iload_n hF.x hF.b dX6_ever_39 rfl (lv_at hl 3 rfl) ?_
          replace h := bd_some h
          obtain ⟨v5, σ6, hv5, h⟩ := h
          refine w_cVv (As := [.int x3]) (rest := []) hF hH hl 0 (by decide) rfl rfl (tX6_layNumber l E hF.j _ _ _ hv5) tk_642 tk_644 tk_28 tk_46 tk_645 rfl rfl hdX6_layNumber ⟨Nat.le_of_ble_eq_true rfl, Nat.le_of_ble_eq_true rfl⟩ rfl rfl (Nat.le_of_ble_eq_true rfl) dX6_ever_40 (fun H locs hH => ?_)
          refine lv_iload_n hF.x hF.b dX6_ever_43 rfl (lv_at hl 2 rfl) ?_
          refine lv_iload_n hF.x hF.b dX6_ever_44 rfl (lv_at hl 1 rfl) ?_
          refine lv_if_ne (tgt := 55) hF.x hF.b dX6_ever_45 (by decide) (fun c7 => ?_) (fun c7 => ?_)
          · rw [if_neg c7] at h
            refine lv_aload_n hF.x hF.b dX6_ever_55 rfl (lv_at hl 0 rfl) ?_
            replace h := bd_some h
            obtain ⟨v8, σ9, hv8, h⟩ := h
            refine w_cVi (As := []) (rest := [.int x2]) hF hH hl 0 (by decide) rfl rfl (tX6_liveSet l E hF.j _ _ hv8) tk_658 tk_660 tk_32 tk_46 tk_661 rfl rfl hdX6_liveSet ⟨Nat.le_of_ble_eq_true rfl, Nat.le_of_ble_eq_true rfl⟩ rfl rfl (Nat.le_of_ble_eq_true rfl) dX6_ever_56 (fun H locs hH => ?_)
            exact w59 _ _ _ _ _ _ _ _ h hH (lv_sub hl [0, 1, 3] rfl)
          · rw [if_pos c7] at h
            refine lv_aload_n hF.x hF.b dX6_ever_48 rfl (lv_at hl 0 rfl) ?_
            replace h := bd_some h
            obtain ⟨v10, σ11, hv10, h⟩ := h
            refine w_cVi (As := []) (rest := [.int x2]) hF hH hl 0 (by decide) rfl rfl (tX6_readySet l E hF.j _ _ hv10) tk_654 tk_656 tk_31 tk_46 tk_657 rfl rfl hdX6_readySet ⟨Nat.le_of_ble_eq_true rfl, Nat.le_of_ble_eq_true rfl⟩ rfl rfl (Nat.le_of_ble_eq_true rfl) dX6_ever_49 (fun H locs hH => ?_)
            refine lv_goto (tgt := 59) hF.x hF.b dX6_ever_52 (by decide) ?_
            exact w59 _ _ _ _ _ _ _ _ h hH (lv_sub hl [0, 1, 3] rfl)
  unfold fX6_ever at h
  refine lv_iload_n hF.x hF.b dX6_ever_0 rfl (lv_at hl 1 rfl) ?_
  refine lv_iconst (v := 0) hF.x hF.b dX6_ever_1 (by decide) ?_
  refine lv_iconst (v := 1) hF.x hF.b dX6_ever_2 (by decide) ?_
  replace h := bd_some h
  obtain ⟨v12, σ13, hv12, h⟩ := h
  refine w_cSi (As := [.int a1, .int 0, .int 1]) (rest := []) hF hH hl (tX6_in l E hF.j _ _ _ _ _ hv12) tk_523 tk_524 tk_46 tk_525 rfl rfl hdX6_in ⟨Nat.le_of_ble_eq_true rfl, Nat.le_of_ble_eq_true rfl⟩ rfl rfl (Nat.le_of_ble_eq_true rfl) dX6_ever_3 (fun H locs hH => ?_)
  refine lv_if_ne (tgt := 12) hF.x hF.b dX6_ever_6 (by decide) (fun c14 => ?_) (fun c14 => ?_)
  · rw [if_neg c14] at h
    refine lv_aload_n hF.x hF.b dX6_ever_12 rfl (lv_at hl 0 rfl) ?_
    refine lv_bipush (v := (-6)) hF.x hF.b dX6_ever_13 (by decide) ?_
    replace h := bd_some h
    obtain ⟨v15, σ16, hv15, h⟩ := h
    refine w_cVv (As := [.int (-6)]) (rest := []) hF hH hl 0 (by decide) rfl rfl (tX6_layAll l E hF.j _ _ _ hv15) tk_630 tk_632 tk_25 tk_46 tk_633 rfl rfl hdX6_layAll ⟨Nat.le_of_ble_eq_true rfl, Nat.le_of_ble_eq_true rfl⟩ rfl rfl (Nat.le_of_ble_eq_true rfl) dX6_ever_15 (fun H locs hH => ?_)
    refine lv_iconst (v := 0) hF.x hF.b dX6_ever_18 (by decide) ?_
    refine lv_istore_n (lv' := [(2, .int 0), (0, .ref (eA E 0)), (1, .int a1)]) hF.x hF.b dX6_ever_19 rfl hl (by decide) rfl (fun ls hl => ?_)
    refine lv_iconst (v := 0) hF.x hF.b dX6_ever_20 (by decide) ?_
    refine lv_istore_n (lv' := [(3, .int 0), (2, .int 0), (0, .ref (eA E 0)), (1, .int a1)]) hF.x hF.b dX6_ever_21 rfl hl (by decide) rfl (fun ls hl => ?_)
    exact w22 _ _ _ _ _ _ _ _ h hH (lv_sub hl [2, 3, 1, 0] rfl)
  · rw [if_pos c14] at h
    refine lv_bipush (v := (-2)) hF.x hF.b dX6_ever_9 (by decide) ?_
    exact hret _ _ _ _ _ _ hH h dX6_ever_11
theorem hdX6_image : yX6_image.cls = RX6 ∧ yX6_image.cls ≠ "java/lang/invoke/MethodHandle" ∧ yX6_image.cls ≠ "java/lang/invoke/VarHandle" ∧ (parseMethodDescriptor yX6_image.desc).map (fun d => d.parameters.length) = some 1 := by decide +kernel
set_option maxHeartbeats 4000000 in
set_option maxRecDepth 100000 in
theorem tX6_image (l : Launch) (E : Ev) (hj : Inj kM E) (a1 : Int32) (σ : Sg) (r : Int32 × Sg) (h : fX6_image a1 σ = some r) : CI l yX6_image cX6_image 3 (some FieldType.int) (rmk 1 22) kM E [.ref (eA E 0), .int a1] σ r := by
  refine CI_i (lv := [(0, .ref (eA E 0)), (1, .int a1)]) (by decide) hj (Nat.le_of_ble_eq_true rfl) rfl (fun p e s m args below meth c ls Q hF hret hH hl => ?_)
  have w14 : ∀ (n : Nat) (x1 x2 : Int32) (σ : Sg) (H : Heap) (locs : List Loc) (ls : Array Slot), it fX6_image_L14 (fun _ _ _ => none) n x1 x2 σ = some r → HP kM E s σ H locs → lv_has ls 3 [(0, .ref (eA E 0)), (1, .int x1), (2, .int x2)] → W p l e (rmk 1 22) s m args below meth c H locs 0 0 Q (F0 m 14 ls []) := by
    intro n14
    induction n14 with
    | zero =>
      intro x1 x2 σ H locs ls h hH hl
      cases (show (none : Rs) = some r from h)
    | succ n14 ih14 =>
      intro x1 x2 σ H locs ls h hH hl
      rw [it_eq] at h
      unfold fX6_image_L14 at h
      refine lv_iload_n hF.x hF.b dX6_image_14 rfl (lv_at hl 2 rfl) ?_
      refine lv_bipush (v := 42) hF.x hF.b dX6_image_15 (by decide) ?_
      refine lv_icmp_ge (tgt := 43) hF.x hF.b dX6_image_17 (by decide) (fun c1 => ?_) (fun c1 => ?_)
      · rw [if_pos c1] at h
        refine lv_aload_n hF.x hF.b dX6_image_43 rfl (lv_at hl 0 rfl) ?_
        refine gfM_0_2 hF hH tk_480 dX6_image_44 ?_
        refine lv_iload_n hF.x hF.b dX6_image_47 rfl (lv_at hl 1 rfl) ?_
        refine lv_iconst (v := 1) hF.x hF.b dX6_image_48 (by decide) ?_
        refine asM_3 hF hH (gd_some h).1 dX6_image_49 (fun σ2 H locs eσ2 hH => ?_)
        replace h := sv_at (gd_some h).2 eσ2
        clear eσ2
        refine lv_iconst (v := 1) hF.x hF.b dX6_image_50 (by decide) ?_
        exact hret _ _ _ _ _ _ hH h dX6_image_51
      · rw [if_neg c1] at h
        refine lv_aload_n hF.x hF.b dX6_image_20 rfl (lv_at hl 0 rfl) ?_
        refine gfM_0_1 hF hH tk_479 dX6_image_21 ?_
        refine lv_bipush (v := 42) hF.x hF.b dX6_image_24 (by decide) ?_
        refine lv_iload_n hF.x hF.b dX6_image_26 rfl (lv_at hl 1 rfl) ?_
        refine lv_imul hF.x hF.b dX6_image_27 ?_
        refine lv_iload_n hF.x hF.b dX6_image_28 rfl (lv_at hl 2 rfl) ?_
        refine lv_iadd hF.x hF.b dX6_image_29 ?_
        refine lv_aload_n hF.x hF.b dX6_image_30 rfl (lv_at hl 0 rfl) ?_
        refine gfM_0_0 hF hH tk_478 dX6_image_31 ?_
        refine lv_iload_n hF.x hF.b dX6_image_34 rfl (lv_at hl 2 rfl) ?_
        refine alM_1 hF hH (gd_some h).1 dX6_image_35 ?_
        replace h := (gd_some h).2
        refine asM_2 hF hH (gd_some h).1 dX6_image_36 (fun σ3 H locs eσ3 hH => ?_)
        replace h := sv_at (gd_some h).2 eσ3
        clear eσ3
        obtain ⟨y4, ey4⟩ : ∃ z : Int32, z = (x2 + 1) := ⟨_, rfl⟩
        replace h := sv_at h ey4
        refine lv_iinc (v := y4) (lv' := [(2, .int y4), (0, .ref (eA E 0)), (1, .int x1)]) hF.x hF.b dX6_image_37 hl (k := 2) rfl (by rw [ey4]; rfl) (by decide) rfl (fun ls hl => ?_)
        clear ey4
        refine lv_goto (tgt := 14) hF.x hF.b dX6_image_40 (by decide) ?_
        exact ih14 _ _ _ _ _ _ h hH (lv_sub hl [1, 2, 0] rfl)
  unfold fX6_image at h
  refine lv_iload_n hF.x hF.b dX6_image_0 rfl (lv_at hl 1 rfl) ?_
  refine lv_iconst (v := 0) hF.x hF.b dX6_image_1 (by decide) ?_
  refine lv_iconst (v := 1) hF.x hF.b dX6_image_2 (by decide) ?_
  replace h := bd_some h
  obtain ⟨v5, σ6, hv5, h⟩ := h
  refine w_cSi (As := [.int a1, .int 0, .int 1]) (rest := []) hF hH hl (tX6_in l E hF.j _ _ _ _ _ hv5) tk_523 tk_524 tk_46 tk_525 rfl rfl hdX6_in ⟨Nat.le_of_ble_eq_true rfl, Nat.le_of_ble_eq_true rfl⟩ rfl rfl (Nat.le_of_ble_eq_true rfl) dX6_image_3 (fun H locs hH => ?_)
  refine lv_if_ne (tgt := 12) hF.x hF.b dX6_image_6 (by decide) (fun c7 => ?_) (fun c7 => ?_)
  · rw [if_neg c7] at h
    refine lv_iconst (v := 0) hF.x hF.b dX6_image_12 (by decide) ?_
    refine lv_istore_n (lv' := [(2, .int 0), (0, .ref (eA E 0)), (1, .int a1)]) hF.x hF.b dX6_image_13 rfl hl (by decide) rfl (fun ls hl => ?_)
    exact w14 _ _ _ _ _ _ _ h hH (lv_sub hl [1, 2, 0] rfl)
  · rw [if_pos c7] at h
    refine lv_bipush (v := (-2)) hF.x hF.b dX6_image_9 (by decide) ?_
    exact hret _ _ _ _ _ _ hH h dX6_image_11
theorem hdX6_restore : yX6_restore.cls = RX6 ∧ yX6_restore.cls ≠ "java/lang/invoke/MethodHandle" ∧ yX6_restore.cls ≠ "java/lang/invoke/VarHandle" ∧ (parseMethodDescriptor yX6_restore.desc).map (fun d => d.parameters.length) = some 1 := by decide +kernel
set_option maxHeartbeats 4000000 in
set_option maxRecDepth 100000 in
theorem tX6_restore (l : Launch) (E : Ev) (hj : Inj kM E) (a1 : Int32) (σ : Sg) (r : Int32 × Sg) (h : fX6_restore a1 σ = some r) : CI l yX6_restore cX6_restore 3 (some FieldType.int) (rmk 1 22) kM E [.ref (eA E 0), .int a1] σ r := by
  refine CI_i (lv := [(0, .ref (eA E 0)), (1, .int a1)]) (by decide) hj (Nat.le_of_ble_eq_true rfl) rfl (fun p e s m args below meth c ls Q hF hret hH hl => ?_)
  have w26 : ∀ (n : Nat) (x1 x2 : Int32) (σ : Sg) (H : Heap) (locs : List Loc) (ls : Array Slot), it fX6_restore_L26 (fun _ _ _ => none) n x1 x2 σ = some r → HP kM E s σ H locs → lv_has ls 3 [(0, .ref (eA E 0)), (1, .int x1), (2, .int x2)] → W p l e (rmk 1 22) s m args below meth c H locs 0 0 Q (F0 m 26 ls []) := by
    intro n26
    induction n26 with
    | zero =>
      intro x1 x2 σ H locs ls h hH hl
      cases (show (none : Rs) = some r from h)
    | succ n26 ih26 =>
      intro x1 x2 σ H locs ls h hH hl
      rw [it_eq] at h
      unfold fX6_restore_L26 at h
      refine lv_iload_n hF.x hF.b dX6_restore_26 rfl (lv_at hl 2 rfl) ?_
      refine lv_bipush (v := 42) hF.x hF.b dX6_restore_27 (by decide) ?_
      refine lv_icmp_ge (tgt := 55) hF.x hF.b dX6_restore_29 (by decide) (fun c1 => ?_) (fun c1 => ?_)
      · rw [if_pos c1] at h
        refine lv_iconst (v := 1) hF.x hF.b dX6_restore_55 (by decide) ?_
        exact hret _ _ _ _ _ _ hH h dX6_restore_56
      · rw [if_neg c1] at h
        refine lv_aload_n hF.x hF.b dX6_restore_32 rfl (lv_at hl 0 rfl) ?_
        refine gfM_0_0 hF hH tk_478 dX6_restore_33 ?_
        refine lv_iload_n hF.x hF.b dX6_restore_36 rfl (lv_at hl 2 rfl) ?_
        refine lv_aload_n hF.x hF.b dX6_restore_37 rfl (lv_at hl 0 rfl) ?_
        refine gfM_0_1 hF hH tk_479 dX6_restore_38 ?_
        refine lv_bipush (v := 42) hF.x hF.b dX6_restore_41 (by decide) ?_
        refine lv_iload_n hF.x hF.b dX6_restore_43 rfl (lv_at hl 1 rfl) ?_
        refine lv_imul hF.x hF.b dX6_restore_44 ?_
        refine lv_iload_n hF.x hF.b dX6_restore_45 rfl (lv_at hl 2 rfl) ?_
        refine lv_iadd hF.x hF.b dX6_restore_46 ?_
        refine alM_2 hF hH (gd_some h).1 dX6_restore_47 ?_
        replace h := (gd_some h).2
        refine asM_1 hF hH (gd_some h).1 dX6_restore_48 (fun σ2 H locs eσ2 hH => ?_)
        replace h := sv_at (gd_some h).2 eσ2
        clear eσ2
        obtain ⟨y3, ey3⟩ : ∃ z : Int32, z = (x2 + 1) := ⟨_, rfl⟩
        replace h := sv_at h ey3
        refine lv_iinc (v := y3) (lv' := [(2, .int y3), (0, .ref (eA E 0)), (1, .int x1)]) hF.x hF.b dX6_restore_49 hl (k := 2) rfl (by rw [ey3]; rfl) (by decide) rfl (fun ls hl => ?_)
        clear ey3
        refine lv_goto (tgt := 26) hF.x hF.b dX6_restore_52 (by decide) ?_
        exact ih26 _ _ _ _ _ _ h hH (lv_sub hl [1, 2, 0] rfl)
  unfold fX6_restore at h
  refine lv_iload_n hF.x hF.b dX6_restore_0 rfl (lv_at hl 1 rfl) ?_
  refine lv_iconst (v := 0) hF.x hF.b dX6_restore_1 (by decide) ?_
  refine lv_iconst (v := 1) hF.x hF.b dX6_restore_2 (by decide) ?_
  replace h := bd_some h
  obtain ⟨v4, σ5, hv4, h⟩ := h
  refine w_cSi (As := [.int a1, .int 0, .int 1]) (rest := []) hF hH hl (tX6_in l E hF.j _ _ _ _ _ hv4) tk_523 tk_524 tk_46 tk_525 rfl rfl hdX6_in ⟨Nat.le_of_ble_eq_true rfl, Nat.le_of_ble_eq_true rfl⟩ rfl rfl (Nat.le_of_ble_eq_true rfl) dX6_restore_3 (fun H locs hH => ?_)
  refine lv_if_ne (tgt := 12) hF.x hF.b dX6_restore_6 (by decide) (fun c6 => ?_) (fun c6 => ?_)
  · rw [if_neg c6] at h
    refine lv_aload_n hF.x hF.b dX6_restore_12 rfl (lv_at hl 0 rfl) ?_
    refine gfM_0_2 hF hH tk_480 dX6_restore_13 ?_
    refine lv_iload_n hF.x hF.b dX6_restore_16 rfl (lv_at hl 1 rfl) ?_
    refine alM_3 hF hH (gd_some h).1 dX6_restore_17 ?_
    replace h := (gd_some h).2
    refine lv_if_ne (tgt := 24) hF.x hF.b dX6_restore_18 (by decide) (fun c7 => ?_) (fun c7 => ?_)
    · rw [if_neg c7] at h
      refine lv_iconst (v := 0) hF.x hF.b dX6_restore_24 (by decide) ?_
      refine lv_istore_n (lv' := [(2, .int 0), (0, .ref (eA E 0)), (1, .int a1)]) hF.x hF.b dX6_restore_25 rfl hl (by decide) rfl (fun ls hl => ?_)
      exact w26 _ _ _ _ _ _ _ h hH (lv_sub hl [1, 2, 0] rfl)
    · rw [if_pos c7] at h
      refine lv_bipush (v := (-3)) hF.x hF.b dX6_restore_21 (by decide) ?_
      exact hret _ _ _ _ _ _ hH h dX6_restore_23
  · rw [if_pos c6] at h
    refine lv_bipush (v := (-2)) hF.x hF.b dX6_restore_9 (by decide) ?_
    exact hret _ _ _ _ _ _ hH h dX6_restore_11
theorem hdX6_size : yX6_size.cls ≠ "java/lang/invoke/MethodHandle" ∧ yX6_size.cls ≠ "java/lang/invoke/VarHandle" ∧ (parseMethodDescriptor yX6_size.desc).map (fun d => d.parameters.length) = some 1 := by decide +kernel
set_option maxHeartbeats 4000000 in
set_option maxRecDepth 100000 in
theorem tX6_size (l : Launch) (E : Ev) (hj : Inj kM E) (a0 : Int32) (σ : Sg) (r : Int32 × Sg) (h : fX6_size a0 σ = some r) : CI l yX6_size cX6_size 3 (some FieldType.int) (rmk 0 0) kM E [.int a0] σ r := by
  refine CI_i (lv := [(0, .int a0)]) (by decide) hj (Nat.le_of_ble_eq_true rfl) rfl (fun p e s m args below meth c ls Q hF hret hH hl => ?_)
  have w4 : ∀ (n : Nat) (x0 x1 x2 : Int32) (σ : Sg) (H : Heap) (locs : List Loc) (ls : Array Slot), it fX6_size_L4 (fun _ _ _ _ => none) n x0 x1 x2 σ = some r → HP kM E s σ H locs → lv_has ls 3 [(0, .int x0), (1, .int x1), (2, .int x2)] → W p l e (rmk 0 0) s m args below meth c H locs 0 0 Q (F0 m 4 ls []) := by
    intro n4
    induction n4 with
    | zero =>
      intro x0 x1 x2 σ H locs ls h hH hl
      cases (show (none : Rs) = some r from h)
    | succ n4 ih4 =>
      intro x0 x1 x2 σ H locs ls h hH hl
      rw [it_eq] at h
      unfold fX6_size_L4 at h
      refine lv_iload_n hF.x hF.b dX6_size_4 rfl (lv_at hl 2 rfl) ?_
      refine lv_bipush (v := 6) hF.x hF.b dX6_size_5 (by decide) ?_
      refine lv_icmp_ge (tgt := 24) hF.x hF.b dX6_size_7 (by decide) (fun c1 => ?_) (fun c1 => ?_)
      · rw [if_pos c1] at h
        refine lv_iload_n hF.x hF.b dX6_size_24 rfl (lv_at hl 1 rfl) ?_
        exact hret _ _ _ _ _ _ hH h dX6_size_25
      · rw [if_neg c1] at h
        refine lv_iload_n hF.x hF.b dX6_size_10 rfl (lv_at hl 1 rfl) ?_
        refine lv_iload_n hF.x hF.b dX6_size_11 rfl (lv_at hl 0 rfl) ?_
        refine lv_iload_n hF.x hF.b dX6_size_12 rfl (lv_at hl 2 rfl) ?_
        refine lv_ishr hF.x hF.b dX6_size_13 ?_
        refine lv_iconst (v := 1) hF.x hF.b dX6_size_14 (by decide) ?_
        refine lv_iand hF.x hF.b dX6_size_15 ?_
        refine lv_iadd hF.x hF.b dX6_size_16 ?_
        refine lv_topi (fun y2 ey2 => ?_)
        replace h := sv_at h ey2
        clear ey2
        refine lv_istore_n (lv' := [(1, .int y2), (0, .int x0), (2, .int x2)]) hF.x hF.b dX6_size_17 rfl hl (by decide) rfl (fun ls hl => ?_)
        obtain ⟨y3, ey3⟩ : ∃ z : Int32, z = (x2 + 1) := ⟨_, rfl⟩
        replace h := sv_at h ey3
        refine lv_iinc (v := y3) (lv' := [(2, .int y3), (1, .int y2), (0, .int x0)]) hF.x hF.b dX6_size_18 hl (k := 2) rfl (by rw [ey3]; rfl) (by decide) rfl (fun ls hl => ?_)
        clear ey3
        refine lv_goto (tgt := 4) hF.x hF.b dX6_size_21 (by decide) ?_
        exact ih4 _ _ _ _ _ _ _ h hH (lv_sub hl [2, 1, 0] rfl)
  unfold fX6_size at h
  refine lv_iconst (v := 0) hF.x hF.b dX6_size_0 (by decide) ?_
  refine lv_istore_n (lv' := [(1, .int 0), (0, .int a0)]) hF.x hF.b dX6_size_1 rfl hl (by decide) rfl (fun ls hl => ?_)
  refine lv_iconst (v := 0) hF.x hF.b dX6_size_2 (by decide) ?_
  refine lv_istore_n (lv' := [(2, .int 0), (1, .int 0), (0, .int a0)]) hF.x hF.b dX6_size_3 rfl hl (by decide) rfl (fun ls hl => ?_)
  exact w4 _ _ _ _ _ _ _ _ h hH (lv_sub hl [2, 1, 0] rfl)
theorem hdX6_sumOf : yX6_sumOf.cls = RX6 ∧ yX6_sumOf.cls ≠ "java/lang/invoke/MethodHandle" ∧ yX6_sumOf.cls ≠ "java/lang/invoke/VarHandle" ∧ (parseMethodDescriptor yX6_sumOf.desc).map (fun d => d.parameters.length) = some 2 := by decide +kernel
set_option maxHeartbeats 4000000 in
set_option maxRecDepth 100000 in
theorem tX6_sumOf (l : Launch) (E : Ev) (hj : Inj kM E) (a1 : Int32) (a2 : Int32) (σ : Sg) (r : Int32 × Sg) (h : fX6_sumOf a1 a2 σ = some r) : CI l yX6_sumOf cX6_sumOf 5 (some FieldType.int) (rmk 0 0) kM E [.ref (eA E 0), .int a1, .int a2] σ r := by
  refine CI_i (lv := [(0, .ref (eA E 0)), (1, .int a1), (2, .int a2)]) (by decide) hj (Nat.le_of_ble_eq_true rfl) rfl (fun p e s m args below meth c ls Q hF hret hH hl => ?_)
  have w5 : ∀ (n : Nat) (x1 x2 x3 x4 : Int32) (σ : Sg) (H : Heap) (locs : List Loc) (ls : Array Slot), it fX6_sumOf_L5 (fun _ _ _ _ _ => none) n x1 x2 x3 x4 σ = some r → HP kM E s σ H locs → lv_has ls 5 [(0, .ref (eA E 0)), (1, .int x1), (2, .int x2), (3, .int x3), (4, .int x4)] → W p l e (rmk 0 0) s m args below meth c H locs 0 0 Q (F0 m 5 ls []) := by
    intro n5
    induction n5 with
    | zero =>
      intro x1 x2 x3 x4 σ H locs ls h hH hl
      cases (show (none : Rs) = some r from h)
    | succ n5 ih5 =>
      have w29 : ∀ (x1 x2 x4 t0 t1 : Int32) (σ : Sg) (H : Heap) (locs : List Loc) (ls : Array Slot), fX6_sumOf_29 (it fX6_sumOf_L5 (fun _ _ _ _ _ => none) n5) x1 x2 x4 t0 t1 σ = some r → HP kM E s σ H locs → lv_has ls 5 [(0, .ref (eA E 0)), (1, .int x1), (2, .int x2), (4, .int x4)] → W p l e (rmk 0 0) s m args below meth c H locs 0 0 Q (F0 m 29 ls [.int t0, .int t1]) := by
        intro x1 x2 x4 t0 t1 σ H locs ls h hH hl
        unfold fX6_sumOf_29 at h
        refine lv_iadd hF.x hF.b dX6_sumOf_29 ?_
        refine lv_topi (fun y1 ey1 => ?_)
        replace h := sv_at h ey1
        clear ey1
        refine lv_istore_n (lv' := [(3, .int y1), (0, .ref (eA E 0)), (1, .int x1), (2, .int x2), (4, .int x4)]) hF.x hF.b dX6_sumOf_30 rfl hl (by decide) rfl (fun ls hl => ?_)
        obtain ⟨y2, ey2⟩ : ∃ z : Int32, z = (x4 + 1) := ⟨_, rfl⟩
        replace h := sv_at h ey2
        refine lv_iinc (v := y2) (lv' := [(4, .int y2), (3, .int y1), (0, .ref (eA E 0)), (1, .int x1), (2, .int x2)]) hF.x hF.b dX6_sumOf_31 hl (k := 4) rfl (by rw [ey2]; rfl) (by decide) rfl (fun ls hl => ?_)
        clear ey2
        refine lv_goto (tgt := 5) hF.x hF.b dX6_sumOf_34 (by decide) ?_
        exact ih5 _ _ _ _ _ _ _ _ h hH (lv_sub hl [2, 3, 4, 1, 0] rfl)
      intro x1 x2 x3 x4 σ H locs ls h hH hl
      rw [it_eq] at h
      unfold fX6_sumOf_L5 at h
      refine lv_iload hF.x hF.b dX6_sumOf_5 (lv_at hl 4 rfl) ?_
      refine lv_iload_n hF.x hF.b dX6_sumOf_7 rfl (lv_at hl 2 rfl) ?_
      refine lv_icmp_ge (tgt := 37) hF.x hF.b dX6_sumOf_8 (by decide) (fun c3 => ?_) (fun c3 => ?_)
      · rw [if_pos c3] at h
        refine lv_iload_n hF.x hF.b dX6_sumOf_37 rfl (lv_at hl 3 rfl) ?_
        exact hret _ _ _ _ _ _ hH h dX6_sumOf_38
      · rw [if_neg c3] at h
        refine lv_iload_n hF.x hF.b dX6_sumOf_11 rfl (lv_at hl 3 rfl) ?_
        refine lv_aload_n hF.x hF.b dX6_sumOf_12 rfl (lv_at hl 0 rfl) ?_
        refine gfM_0_0 hF hH tk_478 dX6_sumOf_13 ?_
        refine lv_iload_n hF.x hF.b dX6_sumOf_16 rfl (lv_at hl 1 rfl) ?_
        refine lv_iload hF.x hF.b dX6_sumOf_17 (lv_at hl 4 rfl) ?_
        refine lv_iadd hF.x hF.b dX6_sumOf_19 ?_
        refine alM_1 hF hH (gd_some h).1 dX6_sumOf_20 ?_
        replace h := (gd_some h).2
        refine lv_if_le (tgt := 28) hF.x hF.b dX6_sumOf_21 (by decide) (fun c4 => ?_) (fun c4 => ?_)
        · rw [if_pos c4] at h
          refine lv_iconst (v := 0) hF.x hF.b dX6_sumOf_28 (by decide) ?_
          exact w29 _ _ _ _ _ _ _ _ _ h hH (lv_sub hl [0, 1, 2, 4] rfl)
        · rw [if_neg c4] at h
          refine lv_iconst (v := 1) hF.x hF.b dX6_sumOf_24 (by decide) ?_
          refine lv_goto (tgt := 29) hF.x hF.b dX6_sumOf_25 (by decide) ?_
          exact w29 _ _ _ _ _ _ _ _ _ h hH (lv_sub hl [0, 1, 2, 4] rfl)
  unfold fX6_sumOf at h
  refine lv_iconst (v := 0) hF.x hF.b dX6_sumOf_0 (by decide) ?_
  refine lv_istore_n (lv' := [(3, .int 0), (0, .ref (eA E 0)), (1, .int a1), (2, .int a2)]) hF.x hF.b dX6_sumOf_1 rfl hl (by decide) rfl (fun ls hl => ?_)
  refine lv_iconst (v := 0) hF.x hF.b dX6_sumOf_2 (by decide) ?_
  refine lv_istore (lv' := [(4, .int 0), (3, .int 0), (0, .ref (eA E 0)), (1, .int a1), (2, .int a2)]) hF.x hF.b dX6_sumOf_3 hl (by decide) rfl (fun ls hl => ?_)
  exact w5 _ _ _ _ _ _ _ _ _ h hH (lv_sub hl [2, 3, 4, 1, 0] rfl)
theorem hdX6_liveIslands : yX6_liveIslands.cls = RX6 ∧ yX6_liveIslands.cls ≠ "java/lang/invoke/MethodHandle" ∧ yX6_liveIslands.cls ≠ "java/lang/invoke/VarHandle" ∧ (parseMethodDescriptor yX6_liveIslands.desc).map (fun d => d.parameters.length) = some 0 := by decide +kernel
set_option maxHeartbeats 4000000 in
set_option maxRecDepth 100000 in
theorem tX6_liveIslands (l : Launch) (E : Ev) (hj : Inj kM E) (σ : Sg) (r : Int32 × Sg) (h : fX6_liveIslands σ = some r) : CI l yX6_liveIslands cX6_liveIslands 3 (some FieldType.int) (rmk 0 0) kM E [.ref (eA E 0)] σ r := by
  refine CI_i (lv := [(0, .ref (eA E 0))]) (by decide) hj (Nat.le_of_ble_eq_true rfl) rfl (fun p e s m args below meth c ls Q hF hret hH hl => ?_)
  have w4 : ∀ (n : Nat) (x1 x2 : Int32) (σ : Sg) (H : Heap) (locs : List Loc) (ls : Array Slot), it fX6_liveIslands_L4 (fun _ _ _ => none) n x1 x2 σ = some r → HP kM E s σ H locs → lv_has ls 3 [(0, .ref (eA E 0)), (1, .int x1), (2, .int x2)] → W p l e (rmk 0 0) s m args below meth c H locs 0 0 Q (F0 m 4 ls []) := by
    intro n4
    induction n4 with
    | zero =>
      intro x1 x2 σ H locs ls h hH hl
      cases (show (none : Rs) = some r from h)
    | succ n4 ih4 =>
      have w35 : ∀ (x2 t0 t1 : Int32) (σ : Sg) (H : Heap) (locs : List Loc) (ls : Array Slot), fX6_liveIslands_35 (it fX6_liveIslands_L4 (fun _ _ _ => none) n4) x2 t0 t1 σ = some r → HP kM E s σ H locs → lv_has ls 3 [(0, .ref (eA E 0)), (2, .int x2)] → W p l e (rmk 0 0) s m args below meth c H locs 0 0 Q (F0 m 35 ls [.int t0, .int t1]) := by
        intro x2 t0 t1 σ H locs ls h hH hl
        unfold fX6_liveIslands_35 at h
        refine lv_iadd hF.x hF.b dX6_liveIslands_35 ?_
        refine lv_topi (fun y1 ey1 => ?_)
        replace h := sv_at h ey1
        clear ey1
        refine lv_istore_n (lv' := [(1, .int y1), (0, .ref (eA E 0)), (2, .int x2)]) hF.x hF.b dX6_liveIslands_36 rfl hl (by decide) rfl (fun ls hl => ?_)
        obtain ⟨y2, ey2⟩ : ∃ z : Int32, z = (x2 + 1) := ⟨_, rfl⟩
        replace h := sv_at h ey2
        refine lv_iinc (v := y2) (lv' := [(2, .int y2), (1, .int y1), (0, .ref (eA E 0))]) hF.x hF.b dX6_liveIslands_37 hl (k := 2) rfl (by rw [ey2]; rfl) (by decide) rfl (fun ls hl => ?_)
        clear ey2
        refine lv_goto (tgt := 4) hF.x hF.b dX6_liveIslands_40 (by decide) ?_
        exact ih4 _ _ _ _ _ _ h hH (lv_sub hl [2, 1, 0] rfl)
      have w34 : ∀ (x2 t0 : Int32) (σ : Sg) (H : Heap) (locs : List Loc) (ls : Array Slot), fX6_liveIslands_34 (it fX6_liveIslands_L4 (fun _ _ _ => none) n4) x2 t0 σ = some r → HP kM E s σ H locs → lv_has ls 3 [(0, .ref (eA E 0)), (2, .int x2)] → W p l e (rmk 0 0) s m args below meth c H locs 0 0 Q (F0 m 34 ls [.int t0]) := by
        intro x2 t0 σ H locs ls h hH hl
        unfold fX6_liveIslands_34 at h
        refine lv_iconst (v := 0) hF.x hF.b dX6_liveIslands_34 (by decide) ?_
        exact w35 _ _ _ _ _ _ _ h hH (lv_sub hl [0, 1] rfl)
      intro x1 x2 σ H locs ls h hH hl
      rw [it_eq] at h
      unfold fX6_liveIslands_L4 at h
      refine lv_iload_n hF.x hF.b dX6_liveIslands_4 rfl (lv_at hl 2 rfl) ?_
      refine lv_bipush (v := 6) hF.x hF.b dX6_liveIslands_5 (by decide) ?_
      refine lv_icmp_ge (tgt := 43) hF.x hF.b dX6_liveIslands_7 (by decide) (fun c3 => ?_) (fun c3 => ?_)
      · rw [if_pos c3] at h
        refine lv_iload_n hF.x hF.b dX6_liveIslands_43 rfl (lv_at hl 1 rfl) ?_
        exact hret _ _ _ _ _ _ hH h dX6_liveIslands_44
      · rw [if_neg c3] at h
        refine lv_iload_n hF.x hF.b dX6_liveIslands_10 rfl (lv_at hl 1 rfl) ?_
        refine lv_aload_n hF.x hF.b dX6_liveIslands_11 rfl (lv_at hl 0 rfl) ?_
        refine gfM_0_5 hF hH tk_483 dX6_liveIslands_12 ?_
        refine lv_iload_n hF.x hF.b dX6_liveIslands_15 rfl (lv_at hl 2 rfl) ?_
        refine alM_6 hF hH (gd_some h).1 dX6_liveIslands_16 ?_
        replace h := (gd_some h).2
        refine lv_iload_n hF.x hF.b dX6_liveIslands_17 rfl (lv_at hl 2 rfl) ?_
        refine lv_icmp_ne (tgt := 34) hF.x hF.b dX6_liveIslands_18 (by decide) (fun c4 => ?_) (fun c4 => ?_)
        · rw [if_neg c4] at h
          exact w34 _ _ _ _ _ _ h hH (lv_sub hl [0, 2] rfl)
        · rw [if_pos c4] at h
          refine lv_aload_n hF.x hF.b dX6_liveIslands_21 rfl (lv_at hl 0 rfl) ?_
          refine gfM_0_7 hF hH tk_485 dX6_liveIslands_22 ?_
          refine lv_iload_n hF.x hF.b dX6_liveIslands_25 rfl (lv_at hl 2 rfl) ?_
          refine alM_8 hF hH (gd_some h).1 dX6_liveIslands_26 ?_
          replace h := (gd_some h).2
          refine lv_if_eq (tgt := 34) hF.x hF.b dX6_liveIslands_27 (by decide) (fun c5 => ?_) (fun c5 => ?_)
          · rw [if_pos c5] at h
            exact w34 _ _ _ _ _ _ h hH (lv_sub hl [0, 2] rfl)
          · rw [if_neg c5] at h
            refine lv_iconst (v := 1) hF.x hF.b dX6_liveIslands_30 (by decide) ?_
            refine lv_goto (tgt := 35) hF.x hF.b dX6_liveIslands_31 (by decide) ?_
            exact w35 _ _ _ _ _ _ _ h hH (lv_sub hl [0, 2] rfl)
  unfold fX6_liveIslands at h
  refine lv_iconst (v := 0) hF.x hF.b dX6_liveIslands_0 (by decide) ?_
  refine lv_istore_n (lv' := [(1, .int 0), (0, .ref (eA E 0))]) hF.x hF.b dX6_liveIslands_1 rfl hl (by decide) rfl (fun ls hl => ?_)
  refine lv_iconst (v := 0) hF.x hF.b dX6_liveIslands_2 (by decide) ?_
  refine lv_istore_n (lv' := [(2, .int 0), (1, .int 0), (0, .ref (eA E 0))]) hF.x hF.b dX6_liveIslands_3 rfl hl (by decide) rfl (fun ls hl => ?_)
  exact w4 _ _ _ _ _ _ _ h hH (lv_sub hl [2, 1, 0] rfl)
theorem hdX6_count : yX6_count.cls = RX6 ∧ yX6_count.cls ≠ "java/lang/invoke/MethodHandle" ∧ yX6_count.cls ≠ "java/lang/invoke/VarHandle" ∧ (parseMethodDescriptor yX6_count.desc).map (fun d => d.parameters.length) = some 1 := by decide +kernel
set_option maxHeartbeats 4000000 in
set_option maxRecDepth 100000 in
theorem tX6_count (l : Launch) (E : Ev) (hj : Inj kM E) (a1 : Int32) (σ : Sg) (r : Int32 × Sg) (h : fX6_count a1 σ = some r) : CI l yX6_count cX6_count 2 (some FieldType.int) (rmk 3 69) kM E [.ref (eA E 0), .int a1] σ r := by
  refine CI_i (lv := [(0, .ref (eA E 0)), (1, .int a1)]) (by decide) hj (Nat.le_of_ble_eq_true rfl) rfl (fun p e s m args below meth c ls Q hF hret hH hl => ?_)
  have w157 : ∀ (t0 t1 : Int32) (σ : Sg) (H : Heap) (locs : List Loc) (ls : Array Slot), fX6_count_157 t0 t1 σ = some r → HP kM E s σ H locs → lv_has ls 2 [(0, .ref (eA E 0))] → W p l e (rmk 3 69) s m args below meth c H locs 0 0 Q (F0 m 157 ls [.int t0, .int t1]) := by
    intro t0 t1 σ H locs ls h hH hl
    unfold fX6_count_157 at h
    refine lv_iadd hF.x hF.b dX6_count_157 ?_
    exact hret _ _ _ _ _ _ hH h dX6_count_158
  have w143 : ∀ (t0 : Int32) (σ : Sg) (H : Heap) (locs : List Loc) (ls : Array Slot), fX6_count_143 t0 σ = some r → HP kM E s σ H locs → lv_has ls 2 [(0, .ref (eA E 0))] → W p l e (rmk 3 69) s m args below meth c H locs 0 0 Q (F0 m 143 ls [.int t0]) := by
    intro t0 σ H locs ls h hH hl
    unfold fX6_count_143 at h
    refine lv_aload_n hF.x hF.b dX6_count_143 rfl (lv_at hl 0 rfl) ?_
    refine gfM_0_2 hF hH tk_480 dX6_count_144 ?_
    refine lv_iconst (v := 1) hF.x hF.b dX6_count_147 (by decide) ?_
    refine alM_3 hF hH (gd_some h).1 dX6_count_148 ?_
    replace h := (gd_some h).2
    refine lv_if_eq (tgt := 156) hF.x hF.b dX6_count_149 (by decide) (fun c1 => ?_) (fun c1 => ?_)
    · rw [if_pos c1] at h
      refine lv_iconst (v := 0) hF.x hF.b dX6_count_156 (by decide) ?_
      exact w157 _ _ _ _ _ _ h hH (lv_sub hl [0] rfl)
    · rw [if_neg c1] at h
      refine lv_iconst (v := 2) hF.x hF.b dX6_count_152 (by decide) ?_
      refine lv_goto (tgt := 157) hF.x hF.b dX6_count_153 (by decide) ?_
      exact w157 _ _ _ _ _ _ h hH (lv_sub hl [0] rfl)
  unfold fX6_count at h
  refine lv_aload_n hF.x hF.b dX6_count_0 rfl (lv_at hl 0 rfl) ?_
  replace h := bd_some h
  obtain ⟨v2, σ3, hv2, h⟩ := h
  refine w_cVv (As := []) (rest := []) hF hH hl 0 (by decide) rfl rfl (tX6_layNow l E hF.j _ _ hv2) tk_554 tk_556 tk_11 tk_46 tk_557 rfl rfl hdX6_layNow ⟨Nat.le_of_ble_eq_true rfl, Nat.le_of_ble_eq_true rfl⟩ rfl rfl (Nat.le_of_ble_eq_true rfl) dX6_count_1 (fun H locs hH => ?_)
  refine lv_iload_n hF.x hF.b dX6_count_4 rfl (lv_at hl 1 rfl) ?_
  by_cases c4 : a1 = 0
  · rw [if_pos c4] at h
    refine lv_tableIn (off := 51) (tgt := 56) hF.x hF.b dX6_count_5 (by rw [c4]; decide) (by rw [c4]; decide) (by rw [c4]; rfl) (by decide) ?_
    refine lv_aload_n hF.x hF.b dX6_count_56 rfl (lv_at hl 0 rfl) ?_
    refine gfM_0_0 hF hH tk_478 dX6_count_57 ?_
    refine lv_bipush (v := 39) hF.x hF.b dX6_count_60 (by decide) ?_
    refine alM_1 hF hH (gd_some h).1 dX6_count_62 ?_
    replace h := (gd_some h).2
    exact hret _ _ _ _ _ _ hH h dX6_count_63
  rw [if_neg c4] at h
  by_cases c5 : a1 = 1
  · rw [if_pos c5] at h
    refine lv_tableIn (off := 59) (tgt := 64) hF.x hF.b dX6_count_5 (by rw [c5]; decide) (by rw [c5]; decide) (by rw [c5]; rfl) (by decide) ?_
    refine lv_aload_n hF.x hF.b dX6_count_64 rfl (lv_at hl 0 rfl) ?_
    refine gfM_0_0 hF hH tk_478 dX6_count_65 ?_
    refine lv_bipush (v := 40) hF.x hF.b dX6_count_68 (by decide) ?_
    refine alM_1 hF hH (gd_some h).1 dX6_count_70 ?_
    replace h := (gd_some h).2
    exact hret _ _ _ _ _ _ hH h dX6_count_71
  rw [if_neg c5] at h
  by_cases c6 : a1 = 2
  · rw [if_pos c6] at h
    refine lv_tableIn (off := 67) (tgt := 72) hF.x hF.b dX6_count_5 (by rw [c6]; decide) (by rw [c6]; decide) (by rw [c6]; rfl) (by decide) ?_
    refine lv_aload_n hF.x hF.b dX6_count_72 rfl (lv_at hl 0 rfl) ?_
    refine lv_bipush (v := 18) hF.x hF.b dX6_count_73 (by decide) ?_
    refine lv_aload_n hF.x hF.b dX6_count_75 rfl (lv_at hl 0 rfl) ?_
    refine gfM_0_0 hF hH tk_478 dX6_count_76 ?_
    refine lv_bipush (v := 39) hF.x hF.b dX6_count_79 (by decide) ?_
    refine alM_1 hF hH (gd_some h).1 dX6_count_81 ?_
    replace h := (gd_some h).2
    replace h := bd_some h
    obtain ⟨v7, σ8, hv7, h⟩ := h
    refine w_cVi (As := [.int 18, .int (σ3 1 (Int32.toNatClampNeg 39))]) (rest := []) hF hH hl 0 (by decide) rfl rfl (tX6_sumOf l E hF.j _ _ _ _ hv7) tk_706 tk_708 tk_38 tk_46 tk_709 rfl rfl hdX6_sumOf ⟨Nat.le_of_ble_eq_true rfl, Nat.le_of_ble_eq_true rfl⟩ rfl rfl (Nat.le_of_ble_eq_true rfl) dX6_count_82 (fun H locs hH => ?_)
    exact hret _ _ _ _ _ _ hH h dX6_count_85
  rw [if_neg c6] at h
  by_cases c9 : a1 = 3
  · rw [if_pos c9] at h
    refine lv_tableIn (off := 81) (tgt := 86) hF.x hF.b dX6_count_5 (by rw [c9]; decide) (by rw [c9]; decide) (by rw [c9]; rfl) (by decide) ?_
    refine lv_aload_n hF.x hF.b dX6_count_86 rfl (lv_at hl 0 rfl) ?_
    refine lv_bipush (v := 36) hF.x hF.b dX6_count_87 (by decide) ?_
    refine lv_aload_n hF.x hF.b dX6_count_89 rfl (lv_at hl 0 rfl) ?_
    refine gfM_0_0 hF hH tk_478 dX6_count_90 ?_
    refine lv_bipush (v := 40) hF.x hF.b dX6_count_93 (by decide) ?_
    refine alM_1 hF hH (gd_some h).1 dX6_count_95 ?_
    replace h := (gd_some h).2
    replace h := bd_some h
    obtain ⟨v10, σ11, hv10, h⟩ := h
    refine w_cVi (As := [.int 36, .int (σ3 1 (Int32.toNatClampNeg 40))]) (rest := []) hF hH hl 0 (by decide) rfl rfl (tX6_sumOf l E hF.j _ _ _ _ hv10) tk_706 tk_708 tk_38 tk_46 tk_709 rfl rfl hdX6_sumOf ⟨Nat.le_of_ble_eq_true rfl, Nat.le_of_ble_eq_true rfl⟩ rfl rfl (Nat.le_of_ble_eq_true rfl) dX6_count_96 (fun H locs hH => ?_)
    exact hret _ _ _ _ _ _ hH h dX6_count_99
  rw [if_neg c9] at h
  by_cases c12 : a1 = 4
  · rw [if_pos c12] at h
    refine lv_tableIn (off := 95) (tgt := 100) hF.x hF.b dX6_count_5 (by rw [c12]; decide) (by rw [c12]; decide) (by rw [c12]; rfl) (by decide) ?_
    refine lv_aload_n hF.x hF.b dX6_count_100 rfl (lv_at hl 0 rfl) ?_
    replace h := bd_some h
    obtain ⟨v13, σ14, hv13, h⟩ := h
    refine w_cVi (As := []) (rest := []) hF hH hl 0 (by decide) rfl rfl (tX6_readySet l E hF.j _ _ hv13) tk_654 tk_656 tk_31 tk_46 tk_657 rfl rfl hdX6_readySet ⟨Nat.le_of_ble_eq_true rfl, Nat.le_of_ble_eq_true rfl⟩ rfl rfl (Nat.le_of_ble_eq_true rfl) dX6_count_101 (fun H locs hH => ?_)
    replace h := bd_some h
    obtain ⟨v15, σ16, hv15, h⟩ := h
    refine w_cSi (As := [.int v13]) (rest := []) hF hH hl (tX6_size l E hF.j _ _ _ hv15) tk_710 tk_711 tk_46 tk_712 rfl rfl hdX6_size ⟨Nat.le_of_ble_eq_true rfl, Nat.le_of_ble_eq_true rfl⟩ rfl rfl (Nat.le_of_ble_eq_true rfl) dX6_count_104 (fun H locs hH => ?_)
    exact hret _ _ _ _ _ _ hH h dX6_count_107
  rw [if_neg c12] at h
  by_cases c17 : a1 = 5
  · rw [if_pos c17] at h
    refine lv_tableIn (off := 103) (tgt := 108) hF.x hF.b dX6_count_5 (by rw [c17]; decide) (by rw [c17]; decide) (by rw [c17]; rfl) (by decide) ?_
    refine lv_aload_n hF.x hF.b dX6_count_108 rfl (lv_at hl 0 rfl) ?_
    replace h := bd_some h
    obtain ⟨v18, σ19, hv18, h⟩ := h
    refine w_cVi (As := []) (rest := []) hF hH hl 0 (by decide) rfl rfl (tX6_liveSet l E hF.j _ _ hv18) tk_658 tk_660 tk_32 tk_46 tk_661 rfl rfl hdX6_liveSet ⟨Nat.le_of_ble_eq_true rfl, Nat.le_of_ble_eq_true rfl⟩ rfl rfl (Nat.le_of_ble_eq_true rfl) dX6_count_109 (fun H locs hH => ?_)
    replace h := bd_some h
    obtain ⟨v20, σ21, hv20, h⟩ := h
    refine w_cSi (As := [.int v18]) (rest := []) hF hH hl (tX6_size l E hF.j _ _ _ hv20) tk_710 tk_711 tk_46 tk_712 rfl rfl hdX6_size ⟨Nat.le_of_ble_eq_true rfl, Nat.le_of_ble_eq_true rfl⟩ rfl rfl (Nat.le_of_ble_eq_true rfl) dX6_count_112 (fun H locs hH => ?_)
    exact hret _ _ _ _ _ _ hH h dX6_count_115
  rw [if_neg c17] at h
  by_cases c22 : a1 = 6
  · rw [if_pos c22] at h
    refine lv_tableIn (off := 111) (tgt := 116) hF.x hF.b dX6_count_5 (by rw [c22]; decide) (by rw [c22]; decide) (by rw [c22]; rfl) (by decide) ?_
    refine lv_aload_n hF.x hF.b dX6_count_116 rfl (lv_at hl 0 rfl) ?_
    replace h := bd_some h
    obtain ⟨v23, σ24, hv23, h⟩ := h
    refine w_cVi (As := []) (rest := []) hF hH hl 0 (by decide) rfl rfl (tX6_liveIslands l E hF.j _ _ hv23) tk_713 tk_715 tk_39 tk_46 tk_716 rfl rfl hdX6_liveIslands ⟨Nat.le_of_ble_eq_true rfl, Nat.le_of_ble_eq_true rfl⟩ rfl rfl (Nat.le_of_ble_eq_true rfl) dX6_count_117 (fun H locs hH => ?_)
    exact hret _ _ _ _ _ _ hH h dX6_count_120
  rw [if_neg c22] at h
  by_cases c25 : a1 = 7
  · rw [if_pos c25] at h
    refine lv_tableIn (off := 116) (tgt := 121) hF.x hF.b dX6_count_5 (by rw [c25]; decide) (by rw [c25]; decide) (by rw [c25]; rfl) (by decide) ?_
    refine lv_aload_n hF.x hF.b dX6_count_121 rfl (lv_at hl 0 rfl) ?_
    refine gfM_0_0 hF hH tk_478 dX6_count_122 ?_
    refine lv_bipush (v := 41) hF.x hF.b dX6_count_125 (by decide) ?_
    refine alM_1 hF hH (gd_some h).1 dX6_count_127 ?_
    replace h := (gd_some h).2
    exact hret _ _ _ _ _ _ hH h dX6_count_128
  rw [if_neg c25] at h
  by_cases c26 : a1 = 8
  · rw [if_pos c26] at h
    refine lv_tableIn (off := 124) (tgt := 129) hF.x hF.b dX6_count_5 (by rw [c26]; decide) (by rw [c26]; decide) (by rw [c26]; rfl) (by decide) ?_
    refine lv_aload_n hF.x hF.b dX6_count_129 rfl (lv_at hl 0 rfl) ?_
    refine gfM_0_2 hF hH tk_480 dX6_count_130 ?_
    refine lv_iconst (v := 0) hF.x hF.b dX6_count_133 (by decide) ?_
    refine alM_3 hF hH (gd_some h).1 dX6_count_134 ?_
    replace h := (gd_some h).2
    refine lv_if_eq (tgt := 142) hF.x hF.b dX6_count_135 (by decide) (fun c27 => ?_) (fun c27 => ?_)
    · rw [if_pos c27] at h
      refine lv_iconst (v := 0) hF.x hF.b dX6_count_142 (by decide) ?_
      exact w143 _ _ _ _ _ h hH (lv_sub hl [0] rfl)
    · rw [if_neg c27] at h
      refine lv_iconst (v := 1) hF.x hF.b dX6_count_138 (by decide) ?_
      refine lv_goto (tgt := 143) hF.x hF.b dX6_count_139 (by decide) ?_
      exact w143 _ _ _ _ _ h hH (lv_sub hl [0] rfl)
  rw [if_neg c26] at h
  have zc4 := lv_neT c4 (show (0 : Int32).toInt = 0 by decide)
  have zc5 := lv_neT c5 (show (1 : Int32).toInt = 1 by decide)
  have zc6 := lv_neT c6 (show (2 : Int32).toInt = 2 by decide)
  have zc9 := lv_neT c9 (show (3 : Int32).toInt = 3 by decide)
  have zc12 := lv_neT c12 (show (4 : Int32).toInt = 4 by decide)
  have zc17 := lv_neT c17 (show (5 : Int32).toInt = 5 by decide)
  have zc22 := lv_neT c22 (show (6 : Int32).toInt = 6 by decide)
  have zc25 := lv_neT c25 (show (7 : Int32).toInt = 7 by decide)
  have zc26 := lv_neT c26 (show (8 : Int32).toInt = 8 by decide)
  refine lv_tableOut (tgt := 159) hF.x hF.b dX6_count_5 (by omega) (by decide) ?_
  refine lv_bipush (v := (-2)) hF.x hF.b dX6_count_159 (by decide) ?_
  exact hret _ _ _ _ _ _ hH h dX6_count_161
