section Can
variable {A : Nat → Nat → Nat} {nl nm N : Nat} {μ : Sg}
theorem isLive_ok (hL : Laid A nm N μ) {b : Nat} (hb : b < 6) : fX6_isLive (nI b) μ = some (nI (b01 (lvP A N nm b)), μ) := by
  have hlb := lb_in (A := A) (c := N % 64) hb
  unfold fX6_isLive
  rw [N_gd hb (by omega), N_cl (by omega), hL.2.2.1 b hb, N_gd hlb.1 (by omega), N_cl (by omega), hL.2.2.2.2 b hb, zr_b (b01_le _)]
theorem rdm_ms (N : Nat) : ms (fun m => nr N m == 1) 3 = rdm N := by
  unfold rdm
  show ((0 + b01 (nr N 0 == 1) * 2 ^ 0) + b01 (nr N 1 == 1) * 2 ^ 1) + b01 (nr N 2 == 1) * 2 ^ 2 = _
  simp only [Nat.reducePow]
  omega
theorem mk6_ms (f : Nat → Bool) : ms f 6 = mk6 f := by
  unfold mk6
  show (((((0 + b01 (f 0) * 2 ^ 0) + b01 (f 1) * 2 ^ 1) + b01 (f 2) * 2 ^ 2) + b01 (f 3) * 2 ^ 3) + b01 (f 4) * 2 ^ 4) + b01 (f 5) * 2 ^ 5 = _
  simp only [Nat.reducePow]
  omega
theorem ready_m (hG : MG A nl nm μ) (hV : VN nl nm N) (hL : Laid A nm N μ) : fX6_readySet μ = some (nI (rdm N), μ) := by
  obtain ⟨hA, hl, hm3, g1, g2, g3, g4⟩ := hG
  unfold fX6_readySet
  refine lc2 (fun i => nI (ms (fun m => nr N m == 1) i)) (fun i => nI i) (fun _ => μ) nm _ (fun i hi k => ?_) (fun k => ?_) (Nat.lt_of_le_of_lt hm3 (by decide)) rfl rfl rfl
  · have := nr_lt N i
    unfold fX6_readySet_L4 fX6_readySet_33
    rw [show (40 : Int32) = nI 40 from rfl, N_gd (by decide) (by decide), N_cl (by decide), g2, if_neg (show ¬ nI nm ≤ nI i by rw [N_le (by omega) (by omega)]; omega), N_gd (by omega) (by omega), N_cl (by omega), hL.2.1 i (by omega)]
    by_cases h : nr N i = 1
    · rw [if_pos (by rw [h]; rfl), sv_ok, sv_ok, shl1 (by omega), N_or, ms_or (fun m => nr N m == 1) i (by simp [h]), show (1 : Int32) = nI 1 from rfl, nI_add]
    · rw [if_neg (show ¬ nI (nr N i) = 1 by rw [litI, N_eq (by omega) (by omega)]; exact h), sv_ok, sv_ok, show (0 : Int32) = nI 0 from rfl, N_or, Nat.or_zero, ms_no (fun m => nr N m == 1) i (by simp [h]), show (1 : Int32) = nI 1 from rfl, nI_add]
  · unfold fX6_readySet_L4
    rw [show (40 : Int32) = nI 40 from rfl, N_gd (by decide) (by decide), N_cl (by decide), g2, if_pos (show nI nm ≤ nI nm by rw [N_le (by omega) (by omega)]; omega), ← rdm_ms, ← ms_up (fun m => nr N m == 1) nm (3 - nm) (fun i h1 h2 => by simp [hV.2.2 i (by omega) h1]), show nm + (3 - nm) = 3 by omega]
theorem live_m (hL : Laid A nm N μ) : fX6_liveSet μ = some (nI (mk6 (lvP A N nm)), μ) := by
  unfold fX6_liveSet
  refine lc2 (fun i => nI (ms (lvP A N nm) i)) (fun i => nI i) (fun _ => μ) 6 _ (fun i hi k => ?_) (fun k => ?_) (by decide) rfl rfl rfl
  · unfold fX6_liveSet_L4 fX6_liveSet_26
    rw [if_neg (show ¬ (6 : Int32) ≤ nI i by rw [litI, N_le (by omega) (by omega)]; omega), isLive_ok hL hi, bd_ok]
    cases h : lvP A N nm i
    · rw [if_pos (show nI (b01 false) = 0 from rfl), sv_ok, sv_ok, show (0 : Int32) = nI 0 from rfl, N_or, Nat.or_zero, ms_no _ i h, show (1 : Int32) = nI 1 from rfl, nI_add]
    · rw [if_neg (show ¬ nI (b01 true) = 0 by decide), sv_ok, sv_ok, shl1 (by omega), N_or, ms_or _ i h, show (1 : Int32) = nI 1 from rfl, nI_add]
  · unfold fX6_liveSet_L4
    rw [if_pos (by decide), mk6_ms]
theorem goal_m (hG : MG A nl nm μ) (hV : VN nl nm N) (g h : Int32) : ∃ τ, fX6_isGoal (nI N) g h μ = some (nI (b01 (gl A nm g h N)), τ) ∧ (∀ k, (k < 4 ∨ 8 < k) → τ k = μ k) := by
  unfold fX6_isGoal gl
  obtain ⟨⟨v, τ⟩, e, fr, hL⟩ := layN hG hV
  dsimp only at fr hL
  have hG' := hG.cong (fr 1 (by decide))
  rw [e, bd_ok, ready_m hG' hV hL, bd_ok]
  refine ⟨τ, ?_, fr⟩
  by_cases h1 : (g &&& (nI (rdm N) ^^^ (-1 : Int32))) = 0
  · rw [if_pos h1, live_m hL, bd_ok]
    by_cases h2 : (h &&& (nI (mk6 (lvP A N nm)) ^^^ (-1 : Int32))) = 0
    · rw [if_pos h2]
      simp only [h1, h2, decide_true, Bool.true_and]
      rfl
    · rw [if_neg h2]
      simp only [h1, h2, decide_true, decide_false, Bool.true_and]
      rfl
  · rw [if_neg h1]
    simp only [h1, decide_false, Bool.false_and]
    rfl
theorem start_m (hG : MG A nl nm μ) (hL : Laid A nm N μ) {m : Nat} (hm : m < 3) : fX6_canStart (nI m) μ = some (nI (b01 (decide (nr N m = 0) && ckB A nm N m)), μ) := by
  obtain ⟨hA, hl, hm3, g1, g2, g3, g4⟩ := hG
  obtain ⟨a3, a4, a5, a6⟩ := hA.2 m hm
  have hp := pwP_le hA (N % 64) N (A 3 m) nm hm3
  have hd := dr_le A (fun l hl => (hA.1 l hl).2.2) (N % 64) (A 3 m)
  have hlb := lb_in (A := A) (c := N % 64) a3
  have := nr_lt N m
  unfold fX6_canStart
  rw [show (24 : Int32) + nI m = nI (24 + m) from nI_add 24 m, N_gd (by omega) (by omega), N_cl (by omega), (g4 m hm).1, sv_ok, N_gd hm (by omega), N_cl (by omega), hL.2.1 m hm]
  by_cases h0 : nr N m = 0
  · rw [if_pos (by rw [h0]; rfl), decide_eq_true h0, Bool.true_and, show (27 : Int32) + nI m = nI (27 + m) from nI_add 27 m, N_gd (by omega) (by omega), N_cl (by omega), (g4 m hm).2.1]
    unfold ckB
    by_cases h4 : A 4 m = 0
    · rw [if_pos (by rw [h4]; rfl)]
      simp only [h4, decide_true, Bool.true_or]
      rfl
    · rw [if_neg (show ¬ nI (A 4 m) = 0 by rw [litI, N_eq (by omega) (by omega)]; exact h4), isLive_ok hL a3, bd_ok]
      simp only [h4, decide_false, Bool.false_or]
      cases hv : lvP A N nm (A 3 m)
      · rw [if_pos (show nI (b01 false) = 0 from rfl)]
        rfl
      · rw [if_neg (show ¬ nI (b01 true) = 0 by decide), N_gd a3 (by omega), N_cl (by omega), hL.2.2.1 _ a3, N_gd hlb.1 (by omega), N_gd (by omega) (by omega), N_cl (by omega), hL.2.2.2.1 _ a3, (g4 m hm).2.1]
        by_cases hh : dr A (N % 64) (A 3 m) + A 4 m ≤ pwP A (N % 64) N nm (A 3 m)
        · rw [if_neg (by rw [cmpS (by omega) (by omega) (by omega)]; omega)]
          simp only [hh, decide_true, Bool.true_and]
          rfl
        · rw [if_pos (by rw [cmpS (by omega) (by omega) (by omega)]; omega)]
          simp only [hh, decide_false, Bool.true_and]
          rfl
  · rw [if_neg (show ¬ nI (nr N m) = 0 by rw [litI, N_eq (by omega) (by omega)]; exact h0), decide_eq_false h0, Bool.false_and]
    rfl
theorem pw_joined {c c' l0 : Nat} (hl0 : l0 < 6) (hc : ∀ l, l < 6 → (c' / 2 ^ l % 2 = 1 ↔ (c / 2 ^ l % 2 = 1 ∨ l = l0))) : ∀ m, pwP A c' N m (A 0 l0) = pwP A c N m (A 0 l0) + (if J A c (A 0 l0) (A 1 l0) = true then 0 else pwP A c N m (A 1 l0)) := by
  intro m
  induction m with
  | zero => show 0 = 0 + _; split <;> rfl
  | succ m ih =>
    show pwP A c' N m (A 0 l0) + (if nr N m = 1 ∧ J A c' (A 0 l0) (A 3 m) = true then A 5 m else 0) = (pwP A c N m (A 0 l0) + (if nr N m = 1 ∧ J A c (A 0 l0) (A 3 m) = true then A 5 m else 0)) + (if J A c (A 0 l0) (A 1 l0) = true then 0 else (pwP A c N m (A 1 l0) + (if nr N m = 1 ∧ J A c (A 1 l0) (A 3 m) = true then A 5 m else 0)))
    rw [ih, J_joined hl0 hc (a := A 0 l0) (by rw [J_re, Bool.true_or]) (A 3 m)]
    by_cases hj : J A c (A 0 l0) (A 1 l0) = true
    · rw [if_pos hj, if_pos hj]
      have e : J A c (A 1 l0) (A 3 m) = J A c (A 0 l0) (A 3 m) := J_eq ⟨fun g => (J_iff.mp hj).tr g, fun g => (J_iff.mp hj).sym.tr g⟩
      rw [e, Bool.or_self]
      omega
    · rw [if_neg hj, if_neg hj]
      cases h1 : J A c (A 0 l0) (A 3 m) <;> cases h2 : J A c (A 1 l0) (A 3 m)
      · simp
      · simp [Nat.add_assoc]
      · simp only [Bool.true_or, and_true, Bool.false_eq_true, and_false, if_false]
        omega
      · exact absurd (J_iff.mpr ((J_iff.mp h1).tr (J_iff.mp h2).sym)) hj
theorem i32_2 (p d p2 d2 : Nat) : (nI p - nI d) + (nI p2 - nI d2) = nI (p + p2) - nI (d + d2) := by
  rw [← nI_add, ← nI_add, Int32.sub_eq_add_neg, Int32.sub_eq_add_neg, Int32.sub_eq_add_neg, Int32.neg_add, Int32.sub_eq_add_neg (-nI d), Int32.add_assoc, Int32.add_assoc, ← Int32.add_assoc (-nI d) (nI p2), Int32.add_comm (-nI d) (nI p2), Int32.add_assoc]
theorem close_m (hG : MG A nl nm μ) (hL : Laid A nm N μ) {l : Nat} (hl6 : l < 6) : fX6_canClose (nI l) μ = some (nI (b01 (decide (N / 2 ^ l % 2 = 0) && cyB A nm N l)), μ) := by
  obtain ⟨hA, hl, hm3, g1, g2, g3, g4⟩ := hG
  obtain ⟨a0, a1, a2⟩ := hA.1 l hl6
  have l0 := lb_in (A := A) (c := N % 64) a0
  have l1 := lb_in (A := A) (c := N % 64) a1
  have p0 := pwP_le hA (N % 64) N (A 0 l) nm hm3
  have p1 := pwP_le hA (N % 64) N (A 1 l) nm hm3
  have d0 := dr_le A (fun l hl => (hA.1 l hl).2.2) (N % 64) (A 0 l)
  have d1 := dr_le A (fun l hl => (hA.1 l hl).2.2) (N % 64) (A 1 l)
  have hj := lb_eq (A := A) (c := N % 64) a0 a1
  -- the rest, for what the two islands can spare
  have key : ∀ p d : Nat, p ≤ 240 → d ≤ 108 → (N / 2 ^ l % 2 = 0 → (dr A (N % 64 + 2 ^ l) (A 0 l) ≤ pwP A (N % 64 + 2 ^ l) N nm (A 0 l) ↔ d + A 2 l ≤ p)) → fX6_canClose_56 (nI l) (nI (lb A (N % 64) (A 0 l))) (nI (lb A (N % 64) (A 1 l))) (nI p - nI d) μ = some (nI (b01 (decide (N / 2 ^ l % 2 = 0) && cyB A nm N l)), μ) := by
    intro p d hp hd hpd
    unfold fX6_canClose_56
    rw [N_gd hl6 (by omega), N_cl (by omega), hL.1 l hl6]
    by_cases hb : N / 2 ^ l % 2 = 0
    · rw [if_pos (by rw [hb]; rfl), decide_eq_true hb, Bool.true_and, N_gd l0.1 (by omega), N_cl (by omega), hL.2.2.2.2 _ a0]
      have fin : fX6_canClose_85 (nI l) (nI p - nI d) μ = some (nI (b01 (decide (dr A (N % 64 + 2 ^ l) (A 0 l) ≤ pwP A (N % 64 + 2 ^ l) N nm (A 0 l)))), μ) := by
        unfold fX6_canClose_85
        rw [show (12 : Int32) + nI l = nI (12 + l) from nI_add 12 l, N_gd (by omega) (by omega), N_cl (by omega), (g3 l hl6).2.2]
        by_cases hh : d + A 2 l ≤ p
        · rw [if_neg (by rw [cmpS (by omega) (by omega) (by omega)]; omega), decide_eq_true ((hpd hb).mpr hh)]
          rfl
        · rw [if_pos (by rw [cmpS (by omega) (by omega) (by omega)]; omega), decide_eq_false (fun h => hh ((hpd hb).mp h))]
          rfl
      unfold cyB
      cases h0 : lvP A N nm (A 0 l)
      · rw [if_pos (show nI (b01 false) = 0 from rfl), N_gd l1.1 (by omega), N_cl (by omega), hL.2.2.2.2 _ a1]
        cases h1 : lvP A N nm (A 1 l)
        · rw [if_pos (show nI (b01 false) = 0 from rfl)]
          rfl
        · rw [if_neg (show ¬ nI (b01 true) = 0 by decide)]
          exact fin
      · rw [if_neg (show ¬ nI (b01 true) = 0 by decide)]
        exact fin
    · rw [if_neg (show ¬ nI (N / 2 ^ l % 2) = 0 by rw [litI, N_eq (by omega) (by omega)]; exact hb), decide_eq_false hb, Bool.false_and]
      rfl
  unfold fX6_canClose
  rw [show (0 : Int32) + nI l = nI l from by rw [show (0 : Int32) = nI 0 from rfl, nI_add, Nat.zero_add], N_gd (by omega) (by omega), N_cl (by omega), (g3 l hl6).1, N_gd a0 (by omega), N_cl (by omega), hL.2.2.1 _ a0, sv_ok, show (6 : Int32) + nI l = nI (6 + l) from nI_add 6 l, N_gd (by omega) (by omega), N_cl (by omega), (g3 l hl6).2.1, N_gd a1 (by omega), N_cl (by omega), hL.2.2.1 _ a1, sv_ok]
  have hadd : N / 2 ^ l % 2 = 0 → (∀ i, i < 6 → ((N % 64 + 2 ^ l) / 2 ^ i % 2 = 1 ↔ (N % 64 / 2 ^ i % 2 = 1 ∨ i = l))) ∧ ¬ N % 64 / 2 ^ l % 2 = 1 := fun hb => by
    have hb6 : N % 64 / 2 ^ l % 2 = 0 := by rw [bit64 hl6]; exact hb
    exact ⟨(bits_add l hl6 (N % 64) (by omega) hb6).1, by omega⟩
  by_cases hc : J A (N % 64) (A 0 l) (A 1 l) = true
  · rw [if_pos (by rw [hj.mpr hc]), N_gd l0.1 (by omega), N_cl (by omega), hL.2.2.2.1 _ a0]
    refine key _ _ (by omega) (by omega) (fun hb => ?_)
    obtain ⟨hbits, hnb⟩ := hadd hb
    rw [dr_joined hl6 hbits hnb (a := A 0 l) (by rw [J_re, Bool.true_or]), pw_joined hl6 hbits, if_pos hc, if_pos hc]
    omega
  · rw [if_neg (by rw [N_eq (by omega) (by omega)]; exact fun e => hc (hj.mp e)), N_gd l0.1 (by omega), N_gd l1.1 (by omega), N_cl (by omega), N_cl (by omega), hL.2.2.2.1 _ a0, hL.2.2.2.1 _ a1, i32_2]
    refine key _ _ (by omega) (by omega) (fun hb => ?_)
    obtain ⟨hbits, hnb⟩ := hadd hb
    rw [dr_joined hl6 hbits hnb (a := A 0 l) (by rw [J_re, Bool.true_or]), pw_joined hl6 hbits, if_neg hc, if_neg hc]
    omega
theorem in_ok {x lo hi : Int32} : fX6_in x lo hi μ = some (nI (b01 (!decide (x < lo) && !decide (hi < x))), μ) := by
  unfold fX6_in
  by_cases h1 : x < lo
  · rw [if_pos h1, decide_eq_true h1]; rfl
  · rw [if_neg h1, decide_eq_false h1]
    by_cases h2 : hi < x
    · rw [if_pos h2, decide_eq_true h2]; rfl
    · rw [if_neg h2, decide_eq_false h2]; rfl
theorem isLine_m (hG : MG A nl nm μ) (x : Int32) : fX6_isLine x μ = some (nI (b01 (!decide (x < 0) && !decide (nI nl ≤ x))), μ) := by
  obtain ⟨hA, hl, hm3, g1, g2, g3, g4⟩ := hG
  unfold fX6_isLine
  rw [show (39 : Int32) = nI 39 from rfl, N_gd (by decide) (by decide), N_cl (by decide), g1, in_ok, bd_ok, zr_b (b01_le _)]
  have e : (nI nl - 1 < x) = (nI nl ≤ x) := by
    rw [Int32.lt_iff_toInt_lt, Int32.le_iff_toInt_le, show (1 : Int32) = nI 1 from rfl, pk_sub_toInt (by omega) (by decide), nI_toInt (by omega)]
    exact propext ⟨fun h => by omega, fun h => by omega⟩
  simp only [e]
theorem isMach_m (hG : MG A nl nm μ) (x : Int32) : fX6_isMachine x μ = some (nI (b01 (!decide (x < 0) && !decide (nI nm ≤ x))), μ) := by
  obtain ⟨hA, hl, hm3, g1, g2, g3, g4⟩ := hG
  unfold fX6_isMachine
  rw [show (40 : Int32) = nI 40 from rfl, N_gd (by decide) (by decide), N_cl (by decide), g2, in_ok, bd_ok, zr_b (b01_le _)]
  have e : (nI nm - 1 < x) = (nI nm ≤ x) := by
    rw [Int32.lt_iff_toInt_lt, Int32.le_iff_toInt_le, show (1 : Int32) = nI 1 from rfl, pk_sub_toInt (by omega) (by decide), nI_toInt (by omega)]
    exact propext ⟨fun h => by omega, fun h => by omega⟩
  simp only [e]
theorem nn_lt {a n : Nat} (ha : a < 2147483648) (hn : n < 2147483648) : (!decide (nI a < 0) && !decide (nI n ≤ nI a)) = decide (a < n) := by
  rw [decide_eq_false (show ¬ nI a < 0 by rw [litI, N_lt (by omega) (by omega)]; omega)]
  by_cases h : a < n
  · rw [decide_eq_true h, decide_eq_false (by rw [N_le (by omega) (by omega)]; omega)]; rfl
  · rw [decide_eq_false h, decide_eq_true (by rw [N_le (by omega) (by omega)]; omega)]; rfl
theorem canStep_m (hG : MG A nl nm μ) (hL : Laid A nm N μ) {s : Nat} (hs : s < 10) : fX6_canStep (nI s) μ = some (nI (b01 (cs A nl nm N s)), μ) := by
  have hl := hG.2.1
  have hm := hG.2.2.1
  unfold fX6_canStep
  by_cases h0 : s = 0
  · subst h0
    rw [if_pos (show nI 0 = 0 from rfl)]
    rfl
  · rw [if_neg (show ¬ nI s = 0 by rw [litI, N_eq (by omega) (by omega)]; exact h0)]
    by_cases h4 : 4 ≤ s
    · obtain ⟨l, rfl⟩ : ∃ l, s = 4 + l := ⟨s - 4, by omega⟩
      rw [if_pos (show (4 : Int32) ≤ nI (4 + l) by rw [litI, N_le (by omega) (by omega)]; omega), show (4 : Int32) = nI 4 from rfl, N_sub (by omega), show 4 + l - 4 = l by omega, isLine_m hG, bd_ok, nn_lt (by omega) (by omega), cs_l]
      by_cases h : l < nl
      · rw [decide_eq_true h, if_neg (show ¬ nI (b01 true) = 0 by decide), close_m hG hL (by omega), bd_ok, Bool.true_and]
        cases (decide (N / 2 ^ l % 2 = 0) && cyB A nm N l)
        · rw [if_pos (show nI (b01 false) = 0 from rfl)]; rfl
        · rw [if_neg (show ¬ nI (b01 true) = 0 by decide)]; rfl
      · rw [decide_eq_false h, if_pos (show nI (b01 false) = 0 from rfl), Bool.false_and]; rfl
    · obtain ⟨m, rfl⟩ : ∃ m, s = 1 + m := ⟨s - 1, by omega⟩
      rw [if_neg (show ¬ (4 : Int32) ≤ nI (1 + m) by rw [litI, N_le (by omega) (by omega)]; omega), show (1 : Int32) = nI 1 from rfl, N_sub (by omega), show 1 + m - 1 = m by omega, isMach_m hG, bd_ok, nn_lt (by omega) (by omega), cs_m (by omega)]
      by_cases h : m < nm
      · rw [decide_eq_true h, if_neg (show ¬ nI (b01 true) = 0 by decide), start_m hG hL (by omega), bd_ok, Bool.true_and]
        cases (decide (nr N m = 0) && ckB A nm N m)
        · rw [if_pos (show nI (b01 false) = 0 from rfl)]; rfl
        · rw [if_neg (show ¬ nI (b01 true) = 0 by decide)]; rfl
      · rw [decide_eq_false h, if_pos (show nI (b01 false) = 0 from rfl), Bool.false_and]; rfl
end Can
