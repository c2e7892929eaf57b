section Fail
variable {A : Nat → Nat → Nat} {nl nm N : Nat} {now : Int32} {σ μ : Sg}
noncomputable def lst (A : Nat → Nat → Nat) (nm N l : Nat) : Bool := decide (N / 2 ^ l % 2 = 1) && (!lvP A N nm (A 0 l) || !decide (dr A (N % 64) (A 0 l) ≤ pwP A (N % 64) N nm (A 0 l)))
theorem lost_ok (hC : CG A nl nm σ) (hV : VN nl nm N) : fX3_lostLines (nI (cd N)) σ = some (nI (ms (lst A nm N) nl), σ) := by
  have hc := pow_le64 hC.2.1 hV.2.1
  have hlv := mk6_lt (lvP A N nm)
  have hl6 := hC.2.1
  have hm3 := hC.2.2.1
  unfold fX3_lostLines
  rw [closed_ok, bd_ok, live_ok hC hV, bd_ok]
  refine lc5 (fun _ => nI (cd N)) (fun _ => nI (N % 64)) (fun _ => nI (mk6 (lvP A N nm))) (fun i => nI (ms (lst A nm N) i)) (fun i => nI i) (fun _ => σ) nl _ (fun i hi k => ?_) (fun k => ?_) (Nat.lt_of_le_of_lt hl6 (by decide)) rfl rfl rfl rfl rfl rfl
  · have hi6 : i < 6 := by omega
    have ha := (hC.1.1 i hi6).1
    have hp := pwP_le hC.1 (N % 64) N (A 0 i) nm hm3
    have hd := dr_le A (fun l hl => (hC.1.1 l hl).2.2) (N % 64) (A 0 i)
    unfold fX3_lostLines_L17 fX3_lostLines_69 fX3_lostLines_78
    rw [hC.2.2.2.1, if_neg (show ¬ nI nl ≤ nI i by rw [N_le (by omega) (by omega)]; omega), N_gd hi6 (by omega), N_cl (by omega), sv_ok, (hC.2.2.2.2.2.1 i hi6).1, bit_ok (by omega) (by omega), bd_ok, bit64 hi6]
    by_cases hb : N / 2 ^ i % 2 = 1
    · rw [if_neg (show ¬ nI (N / 2 ^ i % 2) = 0 by rw [hb]; decide), bit_ok (by omega) (by omega), bd_ok, mk6_bit _ _ ha]
      cases hv : lvP A N nm (A 0 i)
      · have e : lst A nm N i = true := by unfold lst; rw [decide_eq_true hb, hv]; rfl
        rw [if_pos (show nI (b01 false) = 0 from rfl), sv_ok, sv_ok, shl1 (by omega), N_or, ms_or _ i e, show (1 : Int32) = nI 1 from rfl, nI_add]
      · rw [if_neg (show ¬ nI (b01 true) = 0 by decide), spare_ok hC hV ha, bd_ok]
        by_cases hq : dr A (N % 64) (A 0 i) ≤ pwP A (N % 64) N nm (A 0 i)
        · have e : lst A nm N i = false := by unfold lst; rw [decide_eq_true hb, hv, decide_eq_true hq]; rfl
          rw [if_pos (by rw [cmp0 (by omega) (by omega)]; exact hq), sv_ok, ms_no _ i e, show (1 : Int32) = nI 1 from rfl, nI_add]
        · have e : lst A nm N i = true := by unfold lst; rw [decide_eq_true hb, hv, decide_eq_false hq]; rfl
          rw [if_neg (by rw [cmp0 (by omega) (by omega)]; exact hq), sv_ok, sv_ok, shl1 (by omega), N_or, ms_or _ i e, show (1 : Int32) = nI 1 from rfl, nI_add]
    · have e : lst A nm N i = false := by unfold lst; rw [decide_eq_false hb]; rfl
      rw [if_pos (show nI (N / 2 ^ i % 2) = 0 by rw [show N / 2 ^ i % 2 = 0 by omega]; rfl), sv_ok, ms_no _ i e, show (1 : Int32) = nI 1 from rfl, nI_add]
  · unfold fX3_lostLines_L17
    rw [hC.2.2.2.1, if_pos (show nI nl ≤ nI nl by rw [N_le (by omega) (by omega)]; omega)]
theorem openAll_ok (hM : MG A nl nm μ) (hV : VN nl nm N) (hN : Now N μ) : ∃ r, fX6_openAll μ = some r ∧ (r.1 = nI (sm (fun l => b01 (lst A nm N l)) nl) ∧ (∀ k, (0 < k ∧ k < 4) → k ≠ 1 → r.2 k = μ k) ∧ (∀ j, (j < 18 ∨ 24 ≤ j) → r.2 1 j = μ 1 j) ∧ ∀ j, j < 6 → r.2 1 (18 + j) = nI (if (decide (j < nl) && lst A nm N j) = true then 0 else N / 2 ^ j % 2)) := by
  have hM' := hM
  obtain ⟨hA, hl6, hm3, g1, g2, g3, g4⟩ := hM
  unfold fX6_openAll
  obtain ⟨⟨v, τ⟩, e, fr, hL⟩ := layNow_ok hM' hV hN
  dsimp only at fr hL
  rw [e, bd_ok]
  refine lpA2 (fun x1 x2 ρ => ∃ l, x2 = nI l ∧ l ≤ nl ∧ x1 = nI (sm (fun l => b01 (lst A nm N l)) l) ∧ (∀ k, k ≠ 1 → ρ k = τ k) ∧ (∀ j, (j < 18 ∨ 24 ≤ j) → ρ 1 j = μ 1 j) ∧ ∀ j, j < 6 → ρ 1 (18 + j) = nI (if (decide (j < l) && lst A nm N j) = true then 0 else N / 2 ^ j % 2)) (fun _ x2 _ => 7 - x2.toNatClampNeg) _ ?_ FU _ _ _ ⟨0, rfl, by omega, rfl, fun _ _ => rfl, fun j _ => by rw [fr 1 (by omega)], fun j hj => by rw [fr 1 (by omega), hN.1 j hj]; simp⟩ (Nat.lt_of_le_of_lt (Nat.sub_le _ _) (by decide))
  rintro k x1 x2 ρ ⟨l, rfl, hl, rfl, fr2, fj, fo⟩ ih
  have r39 : ρ 1 39 = nI nl := by rw [fj 39 (by omega)]; exact g1
  unfold fX6_openAll_L8
  rw [show (39 : Int32) = nI 39 from rfl, N_gd (by omega) (by omega), N_cl (by omega), r39]
  by_cases he : l = nl
  · subst he
    rw [if_pos (show nI l ≤ nI l by rw [N_le (by omega) (by omega)]; omega)]
    exact ⟨_, rfl, rfl, fun q h1 h2 => by show ρ q = μ q; rw [fr2 q h2, fr q (by omega)], fj, fo⟩
  · have hi6 : l < 6 := by omega
    obtain ⟨ha, -, -⟩ := hA.1 l hi6
    have hlb := (lb_in (A := A) (c := N % 64) ha).1
    have hp := pwP_le hA (N % 64) N (A 0 l) nm hm3
    have hd := dr_le A (fun l hl => (hA.1 l hl).2.2) (N % 64) (A 0 l)
    rw [if_neg (show ¬ nI nl ≤ nI l by rw [N_le (by omega) (by omega)]; omega), show (0 : Int32) + nI l = nI l from by rw [show (0 : Int32) = nI 0 from rfl, nI_add, Nat.zero_add], N_gd (by omega) (by omega), N_cl (by omega), fj l (by omega), (g3 l hi6).1, N_gd ha (by omega), N_cl (by omega), fr2 6 (by decide), hL.2.2.1 _ ha, sv_ok, N_gd hi6 (by omega), fr2 4 (by decide), hL.1 l hi6]
    have yes : lst A nm N l = true → ∃ r, fX6_openAll_61 k (nI (sm (fun l => b01 (lst A nm N l)) l)) (nI l) ρ = some r ∧ (r.1 = nI (sm (fun l => b01 (lst A nm N l)) nl) ∧ (∀ k, (0 < k ∧ k < 4) → k ≠ 1 → r.2 k = μ k) ∧ (∀ j, (j < 18 ∨ 24 ≤ j) → r.2 1 j = μ 1 j) ∧ ∀ j, j < 6 → r.2 1 (18 + j) = nI (if (decide (j < nl) && lst A nm N j) = true then 0 else N / 2 ^ j % 2)) := by
      intro hy
      unfold fX6_openAll_61 fX6_openAll_74
      rw [show (18 : Int32) + nI l = nI (18 + l) from nI_add 18 l, N_gd (by omega) (by omega), N_cl (by omega), sv_ok, sv_ok, sv_ok, show (1 : Int32) = nI 1 from rfl, nI_add, nI_add]
      refine ih _ _ _ ⟨l + 1, rfl, by omega, ?_, fun q hq => by rw [wr_ne hq]; exact fr2 q hq, fun j hj => by rw [wr_eq, if_neg (by omega)]; exact fj j hj, fun j hj => ?_⟩ ?_
      · show _ = nI (sm _ l + b01 (lst A nm N l))
        rw [hy]
        rfl
      · rw [wr_eq]
        by_cases ej : j = l
        · subst ej
          rw [if_pos rfl, decide_eq_true (show j < j + 1 by omega), hy]
          rfl
        · rw [if_neg (by omega), fo j hj]
          have : (j < l + 1) ↔ (j < l) := by omega
          simp only [this]
      · rw [N_cl (by omega), N_cl (by omega)]
        omega
    have no : lst A nm N l = false → ∃ r, fX6_openAll_74 k (nI (sm (fun l => b01 (lst A nm N l)) l)) (nI l) ρ = some r ∧ (r.1 = nI (sm (fun l => b01 (lst A nm N l)) nl) ∧ (∀ k, (0 < k ∧ k < 4) → k ≠ 1 → r.2 k = μ k) ∧ (∀ j, (j < 18 ∨ 24 ≤ j) → r.2 1 j = μ 1 j) ∧ ∀ j, j < 6 → r.2 1 (18 + j) = nI (if (decide (j < nl) && lst A nm N j) = true then 0 else N / 2 ^ j % 2)) := by
      intro hy
      unfold fX6_openAll_74
      rw [sv_ok, show (1 : Int32) = nI 1 from rfl, nI_add]
      refine ih _ _ _ ⟨l + 1, rfl, by omega, ?_, fr2, fj, fun j hj => ?_⟩ ?_
      · show _ = nI (sm _ l + b01 (lst A nm N l))
        rw [hy]
        rfl
      · rw [fo j hj]
        by_cases ej : j = l
        · subst ej
          rw [hy, Bool.and_false, Bool.and_false]
        · have : (j < l + 1) ↔ (j < l) := by omega
          simp only [this]
      · rw [N_cl (by omega), N_cl (by omega)]
        omega
    by_cases hb : N / 2 ^ l % 2 = 1
    · rw [if_pos (by rw [hb]; rfl), N_gd hlb (by omega), N_cl (by omega), fr2 8 (by decide), hL.2.2.2.2 _ ha]
      cases hv : lvP A N nm (A 0 l)
      · rw [if_pos (show nI (b01 false) = 0 from rfl)]
        exact yes (by unfold lst; rw [decide_eq_true hb, hv]; rfl)
      · rw [if_neg (show ¬ nI (b01 true) = 0 by decide), N_gd hlb (by omega), fr2 7 (by decide), hL.2.2.2.1 _ ha]
        by_cases hq : dr A (N % 64) (A 0 l) ≤ pwP A (N % 64) N nm (A 0 l)
        · rw [if_pos (by rw [cmp0 (by omega) (by omega)]; exact hq)]
          exact no (by unfold lst; rw [decide_eq_true hb, hv, decide_eq_true hq]; rfl)
        · rw [if_neg (by rw [cmp0 (by omega) (by omega)]; exact hq)]
          exact yes (by unfold lst; rw [decide_eq_true hb, hv, decide_eq_false hq]; rfl)
    · rw [if_neg (show ¬ nI (N / 2 ^ l % 2) = 1 by rw [litI, N_eq (by omega) (by omega)]; exact hb)]
      exact no (by unfold lst; rw [decide_eq_false hb]; rfl)
theorem open_c (hCu : Cur A nl nm N now σ μ) (hK : Kep σ μ) : ∃ (v : Int32) (σ1 μ1 : Sg), fX5_openLost σ = some (v, σ1) ∧ fX6_openAll μ = some (v, μ1) ∧ Rel0 σ1 μ1 := by
  have hCu' := hCu
  obtain ⟨hC, hV, h9, h10, hM, hN, h41⟩ := hCu
  have hl6 := hC.2.1
  have hx : ms (lst A nm N) nl = ms (fun i => decide (i < nl) && lst A nm N i) 6 := by
    have h1 := ms_up (fun i => decide (i < nl) && lst A nm N i) nl (6 - nl) (fun i a b => by rw [decide_eq_false (by omega), Bool.false_and])
    rw [show nl + (6 - nl) = 6 by omega] at h1
    rw [h1]
    exact ms_cong nl (fun i hi => by rw [decide_eq_true hi, Bool.true_and])
  obtain ⟨o1, o2, o3, o4⟩ := opn_ok hV (fun i => decide (i < nl) && lst A nm N i) (fun i hi h => by
    simp only [Bool.and_eq_true] at h
    have := h.2
    unfold lst at this
    simp only [Bool.and_eq_true, decide_eq_true_eq] at this
    exact this.1)
  obtain ⟨⟨v, τ⟩, e, hv, fr, fj, fo⟩ := openAll_ok hM hV hN
  dsimp only at hv fr fj fo
  have hlt : ms (lst A nm N) nl < 2 ^ nl := ms_lt _ nl
  have hp : 2 ^ nl ≤ 2 ^ 6 := Nat.pow_le_pow_right (by decide) hl6
  simp only [Nat.reducePow] at hp
  have hcnt : sm (fun i => ms (lst A nm N) nl / 2 ^ i % 2) 6 = sm (fun l => b01 (lst A nm N l)) nl := by
    rw [sm_to hl6 (fun i h1 h2 => mask_hi hlt h1)]
    exact sm_cong nl (fun i hi => ms_bit _ nl i hi)
  unfold fX5_openLost
  rw [h9, lost_ok hC hV, bd_ok, h9]
  unfold fX0_withOpened
  rw [bd_ok, sv_ok, N_andn, bc_ok (by omega), bd_ok, hcnt, e, hv, hx, o1]
  refine ⟨_, _, _, rfl, rfl, ⟨A, nl, nm, N - ms (fun i => decide (i < nl) && lst A nm N i) 6, now, ?_⟩, hK.cong (wr_ne (by decide)) (fun k hk => wr_ne (by omega)) (fr 2 (by omega) (by decide)) (fr 3 (by omega) (by decide))⟩
  refine hCu'.move (fun k hk hk1 => wr_ne hk1) ?_ ?_ ?_ ?_ o2 (fun j hj => fj j (by omega)) ⟨fun l hl => by rw [fo l hl, o3 l hl], fun m hm => ?_⟩ ?_
  · rw [wr_eq, if_neg (by decide)]
  · rw [wr_eq, if_neg (by decide)]
  · rw [wr_eq, if_pos rfl]
  · rw [wr_eq, if_neg (by decide)]; exact h10
  · rw [fj (36 + m) (by omega), o4 m hm]; exact hN.2 m hm
  · rw [fj 41 (by omega)]; exact h41
theorem sp_fail : SP1 Rel0 fX5_fail fX6_fail := by
  rintro σ μ hR a
  obtain ⟨⟨A, nl, nm, N, now, hCu⟩, hK⟩ := hR
  have hR : Rel0 σ μ := ⟨⟨A, nl, nm, N, now, hCu⟩, hK⟩
  have hCu' := hCu
  obtain ⟨hC, hV, h9, h10, hM, hN, h41⟩ := hCu
  have hm3 := hC.2.2.1
  unfold fX5_fail fX6_fail
  rcases mach_c hC.2.2.2.2.1 hM a with ⟨e1, e2⟩ | ⟨l, hln, rfl, e1, e2⟩
  · rw [e1, e2, bd_ok, bd_ok, if_pos b0, if_pos b0]
    exact ⟨_, _, _, rfl, rfl, hR⟩
  · have hr := nr_lt N l
    rw [e1, e2, bd_ok, bd_ok, if_neg b1, if_neg b1, h9, isRunning_ok (by omega), bd_ok, show (36 : Int32) + nI l = nI (36 + l) from nI_add 36 l, N_gd (by omega) (by omega), N_cl (by omega), hN.2 l (by omega)]
    by_cases hz : nr N l = 0
    · rw [hz, if_pos (by rfl), if_pos (by rfl)]
      exact ⟨_, _, _, rfl, rfl, hR⟩
    · rw [if_neg (show ¬ nI (min (nr N l) 1) = 0 by rw [litI, N_eq (by omega) (by omega)]; omega), if_neg (show ¬ nI (nr N l) = 0 by rw [litI, N_eq (by omega) (by omega)]; omega), h9, stop_ok l (by omega), bd_ok, sv_ok, N_gd (by omega) (by omega), sv_ok]
      have hCu1 : Cur A nl nm (stp N l) now (wr σ 1 9 (nI (cd (stp N l)))) (wr μ 1 (36 + l) 0) := by
        refine hCu'.move (fun k hk hk1 => wr_ne hk1) ?_ ?_ ?_ ?_ (hV.stp l) (fun j hj => ?_) ⟨fun i hi => ?_, fun m hm => ?_⟩ ?_
        · rw [wr_eq, if_neg (by decide)]
        · rw [wr_eq, if_neg (by decide)]
        · rw [wr_eq, if_pos rfl]
        · rw [wr_eq, if_neg (by decide)]; exact h10
        · rw [wr_eq, if_neg (by omega)]
        · rw [wr_eq, if_neg (by omega), hN.1 i hi, ← bit64 hi (stp N l), stp_c, bit64 hi]
        · rw [wr_eq, stp_r l m hm]
          by_cases c : m = l
          · rw [if_pos (by omega), if_pos c]; rfl
          · rw [if_neg (by omega), if_neg c]; exact hN.2 m hm
        · rw [wr_eq, if_neg (by omega)]; exact h41
      obtain ⟨v, σ1, μ1, d1, d2, d3⟩ := open_c hCu1 (hK.cong (wr_ne (by decide)) (fun k hk => wr_ne (by omega)) (wr_ne (by decide)) (wr_ne (by decide)))
      rw [d1, d2, bd_ok, bd_ok]
      exact ⟨_, _, _, rfl, rfl, d3⟩
theorem pow_ms : ∀ l, l < 6 → ms (fun i => decide (i = l)) 6 = 2 ^ l := by decide
theorem sp_trip : SP1 Rel0 fX5_trip fX6_trip := by
  rintro σ μ hR a
  obtain ⟨⟨A, nl, nm, N, now, hCu⟩, hK⟩ := hR
  have hR : Rel0 σ μ := ⟨⟨A, nl, nm, N, now, hCu⟩, hK⟩
  have hCu' := hCu
  obtain ⟨hC, hV, h9, h10, hM, hN, h41⟩ := hCu
  have hl6 := hC.2.1
  unfold fX5_trip fX6_trip
  rcases line_c hC.2.2.2.1 hM a with ⟨e1, e2⟩ | ⟨l, hln, rfl, e1, e2⟩
  · rw [e1, e2, bd_ok, bd_ok, if_pos b0, if_pos b0]
    exact ⟨_, _, _, rfl, rfl, hR⟩
  · have hl : l < 6 := by omega
    rw [e1, e2, bd_ok, bd_ok, if_neg b1, if_neg b1, h9, closed_ok, bd_ok, bit_ok (by omega) (by omega), bd_ok, bit64 hl, show (18 : Int32) + nI l = nI (18 + l) from nI_add 18 l, N_gd (by omega) (by omega), N_cl (by omega), hN.1 l hl]
    by_cases hz : N / 2 ^ l % 2 = 0
    · rw [hz, if_pos (by rfl), if_pos (by rfl)]
      exact ⟨_, _, _, rfl, rfl, hR⟩
    · obtain ⟨o1, o2, o3, o4⟩ := opn_ok hV (fun i => decide (i = l)) (fun i hi h => by
        have h := of_decide_eq_true h
        rw [h]; omega)
      rw [pow_ms l hl] at o1 o2 o3 o4
      rw [if_neg (show ¬ nI (N / 2 ^ l % 2) = 0 by rw [litI, N_eq (by omega) (by omega)]; exact hz), if_neg (show ¬ nI (N / 2 ^ l % 2) = 0 by rw [litI, N_eq (by omega) (by omega)]; exact hz), h9]
      unfold fX0_withOpened
      rw [bd_ok, sv_ok, shl1 (by omega), N_andn, o1, N_gd (by omega) (by omega), sv_ok]
      have hCu1 : Cur A nl nm (N - 2 ^ l) now (wr σ 1 9 (nI (cd (N - 2 ^ l)))) (wr μ 1 (18 + l) 0) := by
        refine hCu'.move (fun k hk hk1 => wr_ne hk1) ?_ ?_ ?_ ?_ o2 (fun j hj => ?_) ⟨fun i hi => ?_, fun m hm => ?_⟩ ?_
        · rw [wr_eq, if_neg (by decide)]
        · rw [wr_eq, if_neg (by decide)]
        · rw [wr_eq, if_pos rfl]
        · rw [wr_eq, if_neg (by decide)]; exact h10
        · rw [wr_eq, if_neg (by omega)]
        · rw [wr_eq, o3 i hi]
          by_cases c : i = l
          · rw [if_pos (by omega), if_pos (decide_eq_true c)]; rfl
          · rw [if_neg (by omega), if_neg (by rw [decide_eq_false c]; decide)]; exact hN.1 i hi
        · rw [wr_eq, if_neg (by omega), o4 m hm]; exact hN.2 m hm
        · rw [wr_eq, if_neg (by omega)]; exact h41
      obtain ⟨v, σ1, μ1, d1, d2, d3⟩ := open_c hCu1 (hK.cong (wr_ne (by decide)) (fun k hk => wr_ne (by omega)) (wr_ne (by decide)) (wr_ne (by decide)))
      rw [d1, d2, bd_ok, bd_ok]
      exact ⟨_, _, _, rfl, by rw [Int32.add_comm], d3⟩
end Fail
