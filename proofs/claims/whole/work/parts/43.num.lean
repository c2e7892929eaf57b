def rs (N : Nat) : Nat → Nat
  | 0 => N / 64
  | m + 1 => rs N m / 5
theorem rs_nr (N : Nat) : ∀ m, m < 3 → rs N m % 5 = nr N m := by
  refine three rfl ?_ ?_
  · show N / 64 / 5 % 5 = N / 320 % 5
    rw [Nat.div_div_eq_div_mul]
  · show N / 64 / 5 / 5 % 5 = N / 1600 % 5
    rw [Nat.div_div_eq_div_mul, Nat.div_div_eq_div_mul]
theorem rs_le (N : Nat) : ∀ m, rs N m ≤ N := by
  intro m
  induction m with
  | zero => exact Nat.div_le_self _ _
  | succ m ih => exact Nat.le_trans (Nat.div_le_self _ _) ih
theorem rem5 {a : Nat} (h : a < 2147483648) : nI a - nI a / (5 : Int32) * (5 : Int32) = nI (a % 5) := pk_rem (d := 5) h (by decide) (by decide)
theorem div5 {a : Nat} (h : a < 2147483648) : nI a / (5 : Int32) = nI (a / 5) := pk_div (d := 5) h (by decide) (by decide)
theorem div64 {a : Nat} (h : a < 2147483648) : nI a / (64 : Int32) = nI (a / 64) := pk_div (d := 64) h (by decide) (by decide)
theorem bitN {N l : Nat} (hN : N < 2147483648) (hl : l < 32) : (nI N >>> (nI l &&& 31)) &&& (1 : Int32) = nI (N / 2 ^ l % 2) := by
  rw [show (31 : Int32) = nI 31 from rfl, N_31 hl, N_shr hN hl, show (1 : Int32) = nI 1 from rfl, N_a1]
section Nm
variable {A : Nat → Nat → Nat} {nl nm N : Nat} {μ : Sg}
theorem layN (hG : MG A nl nm μ) (hV : VN nl nm N) : ∃ r, fX6_layNumber (nI N) μ = some r ∧ ((∀ k, (k < 4 ∨ 8 < k) → r.2 k = μ k) ∧ Laid A nm N r.2) := by
  have hN := hV.1
  unfold fX6_layNumber
  refine lpA2 (fun x0 x1 τ => x0 = nI N ∧ ∃ l, x1 = nI l ∧ l ≤ 6 ∧ (∀ k, k ≠ 4 → τ k = μ k) ∧ ∀ j, j < l → τ 4 j = nI (N / 2 ^ j % 2)) (fun _ x1 _ => 7 - x1.toNatClampNeg) _ ?_ FU _ _ _ ⟨rfl, 0, rfl, by omega, fun _ _ => rfl, fun j h => by omega⟩ (Nat.lt_of_le_of_lt (Nat.sub_le _ _) (by decide))
  rintro k x0 x1 τ ⟨rfl, l, rfl, hl, fr, f4⟩ ih
  unfold fX6_layNumber_L2
  by_cases he : l = 6
  · subst he
    rw [if_pos (by decide), div64 (by omega), sv_ok]
    clear ih
    refine lpA2 (fun x0 x1 τ2 => ∃ m, x0 = nI (rs N m) ∧ x1 = nI m ∧ m ≤ 3 ∧ (∀ k, k ≠ 5 → τ2 k = τ k) ∧ ∀ j, j < m → τ2 5 j = nI (nr N j)) (fun _ x1 _ => 4 - x1.toNatClampNeg) _ ?_ FU _ _ _ ⟨0, rfl, rfl, by omega, fun _ _ => rfl, fun j h => by omega⟩ (Nat.lt_of_le_of_lt (Nat.sub_le _ _) (by decide))
    rintro k2 x0 x1 τ2 ⟨m, rfl, rfl, hm, fr2, f5⟩ ih
    have hrs := rs_le N m
    unfold fX6_layNumber_L32
    by_cases he : m = 3
    · subst he
      rw [if_pos (by decide)]
      have t1 : τ2 1 = μ 1 := by rw [fr2 1 (by decide), fr 1 (by decide)]
      obtain ⟨⟨v, τ3⟩, e, g1, g2⟩ := layI (hG.cong t1) hV (fun l hl => by rw [fr2 4 (by decide)]; exact f4 l hl) f5
      dsimp only at g1 g2
      rw [e, bd_ok]
      exact ⟨_, rfl, fun q hq => by show τ3 q = μ q; rw [g1 q (by omega) (by omega) (by omega), fr2 q (by omega), fr q (by omega)], g2⟩
    · have hm3 : m < 3 := by omega
      rw [if_neg (show ¬ (3 : Int32) ≤ nI m by rw [litI, N_le (by omega) (by omega)]; omega), N_gd hm3 (by omega), N_cl (by omega), rem5 (by omega), div5 (by omega), rs_nr N m hm3, sv_ok, sv_ok, sv_ok, show (1 : Int32) = nI 1 from rfl, nI_add]
      refine ih _ _ _ ⟨m + 1, rfl, rfl, by omega, fun q hq => by rw [wr_ne hq]; exact fr2 q hq, fun j hj => ?_⟩ ?_
      · rw [wr_eq]
        by_cases ej : j = m
        · rw [if_pos ej, ej]
        · rw [if_neg ej]; exact f5 j (by omega)
      · rw [N_cl (by omega), N_cl (by omega)]
        omega
  · have hl6 : l < 6 := by omega
    rw [if_neg (show ¬ (6 : Int32) ≤ nI l by rw [litI, N_le (by omega) (by omega)]; omega), N_gd hl6 (by omega), N_cl (by omega), bitN (by omega) (by omega), sv_ok, sv_ok, show (1 : Int32) = nI 1 from rfl, nI_add]
    refine ih _ _ _ ⟨rfl, l + 1, rfl, by omega, fun q hq => by rw [wr_ne hq]; exact fr q hq, fun j hj => ?_⟩ ?_
    · rw [wr_eq]
      by_cases ej : j = l
      · rw [if_pos ej, ej]
      · rw [if_neg ej]; exact f4 j (by omega)
    · rw [N_cl (by omega), N_cl (by omega)]
      omega
theorem become_ok (hN : N < 8000) : ∃ r, fX6_become (nI N) μ = some r ∧ ((∀ k, k ≠ 1 → r.2 k = μ k) ∧ (∀ j, (j < 18 ∨ (24 ≤ j ∧ j < 36) ∨ 39 ≤ j) → r.2 1 j = μ 1 j) ∧ Now N r.2) := by
  unfold fX6_become
  refine lpA2 (fun x0 x1 τ => x0 = nI N ∧ ∃ l, x1 = nI l ∧ l ≤ 6 ∧ (∀ k, k ≠ 1 → τ k = μ k) ∧ (∀ j, (j < 18 ∨ 24 ≤ j) → τ 1 j = μ 1 j) ∧ ∀ j, j < l → τ 1 (18 + j) = nI (N / 2 ^ j % 2)) (fun _ x1 _ => 7 - x1.toNatClampNeg) _ ?_ FU _ _ _ ⟨rfl, 0, rfl, by omega, fun _ _ => rfl, fun _ _ => rfl, fun j h => by omega⟩ (Nat.lt_of_le_of_lt (Nat.sub_le _ _) (by decide))
  rintro k x0 x1 τ ⟨rfl, l, rfl, hl, fr, fj, f4⟩ ih
  unfold fX6_become_L2
  by_cases he : l = 6
  · subst he
    rw [if_pos (by decide), div64 (by omega), sv_ok]
    clear ih
    refine lpA2 (fun x0 x1 τ2 => ∃ m, x0 = nI (rs N m) ∧ x1 = nI m ∧ m ≤ 3 ∧ (∀ k, k ≠ 1 → τ2 k = τ k) ∧ (∀ j, (j < 36 ∨ 39 ≤ j) → τ2 1 j = τ 1 j) ∧ ∀ j, j < m → τ2 1 (36 + j) = nI (nr N j)) (fun _ x1 _ => 4 - x1.toNatClampNeg) _ ?_ FU _ _ _ ⟨0, rfl, rfl, by omega, fun _ _ => rfl, fun _ _ => rfl, fun j h => by omega⟩ (Nat.lt_of_le_of_lt (Nat.sub_le _ _) (by decide))
    rintro k2 x0 x1 τ2 ⟨m, rfl, rfl, hm, fr2, fj2, f5⟩ ih
    have hrs := rs_le N m
    unfold fX6_become_L35
    by_cases he : m = 3
    · subst he
      rw [if_pos (by decide)]
      refine ⟨_, rfl, fun q hq => by show τ2 q = μ q; rw [fr2 q hq, fr q hq], fun j hj => by show τ2 1 j = μ 1 j; rw [fj2 j (by omega), fj j (by omega)], fun j hj => ?_, f5⟩
      show τ2 1 (18 + j) = _
      rw [fj2 (18 + j) (by omega)]
      exact f4 j hj
    · have hm3 : m < 3 := by omega
      rw [if_neg (show ¬ (3 : Int32) ≤ nI m by rw [litI, N_le (by omega) (by omega)]; omega), show (36 : Int32) + nI m = nI (36 + m) from nI_add 36 m, N_gd (by omega) (by omega), N_cl (by omega), rem5 (by omega), div5 (by omega), rs_nr N m hm3, sv_ok, sv_ok, sv_ok, show (1 : Int32) = nI 1 from rfl, nI_add]
      refine ih _ _ _ ⟨m + 1, rfl, rfl, by omega, fun q hq => by rw [wr_ne hq]; exact fr2 q hq, fun j hj => by rw [wr_eq, if_neg (by omega)]; exact fj2 j hj, fun j hj => ?_⟩ ?_
      · rw [wr_eq]
        by_cases ej : j = m
        · rw [if_pos (by omega), ej]
        · rw [if_neg (by omega)]; exact f5 j (by omega)
      · rw [N_cl (by omega), N_cl (by omega)]
        omega
  · have hl6 : l < 6 := by omega
    rw [if_neg (show ¬ (6 : Int32) ≤ nI l by rw [litI, N_le (by omega) (by omega)]; omega), show (18 : Int32) + nI l = nI (18 + l) from nI_add 18 l, N_gd (by omega) (by omega), N_cl (by omega), bitN (by omega) (by omega), sv_ok, sv_ok, show (1 : Int32) = nI 1 from rfl, nI_add]
    refine ih _ _ _ ⟨rfl, l + 1, rfl, by omega, fun q hq => by rw [wr_ne hq]; exact fr q hq, fun j hj => by rw [wr_eq, if_neg (by omega)]; exact fj j hj, fun j hj => ?_⟩ ?_
    · rw [wr_eq]
      by_cases ej : j = l
      · rw [if_pos (by omega), ej]
      · rw [if_neg (by omega)]; exact f4 j (by omega)
    · rw [N_cl (by omega), N_cl (by omega)]
      omega
theorem nnow_ok (hN8 : N < 8000) (hN : Now N μ) : fX6_numberNow μ = some (nI N, μ) := by
  have n0 := nr_lt N 0; have n1 := nr_lt N 1; have n2 := nr_lt N 2
  unfold fX6_numberNow
  refine lc2 (fun i => nI (N % 2 ^ i)) (fun i => nI i) (fun _ => μ) 6 _ (fun i hi k => ?_) (fun k => ?_) (by decide) (by show (0 : Int32) = nI (N % 1); rw [Nat.mod_one]; rfl) rfl rfl
  · have hp := pow6 i hi
    have hlt : N % 2 ^ i < 2 ^ i := Nat.mod_lt _ (by omega)
    have hb : N / 2 ^ i % 2 < 2 := Nat.mod_lt _ (by decide)
    unfold fX6_numberNow_L4
    rw [if_neg (show ¬ (6 : Int32) ≤ nI i by rw [litI, N_le (by omega) (by omega)]; omega), show (18 : Int32) + nI i = nI (18 + i) from nI_add 18 i, N_gd (by omega) (by omega), N_cl (by omega), hN.1 i hi, show (31 : Int32) = nI 31 from rfl, N_31 (by omega), N_shl (by omega) (by
      have : N / 2 ^ i % 2 * 2 ^ i ≤ 1 * 2 ^ i := Nat.mul_le_mul_right _ (by omega)
      omega), N_or, or_free (w := 1) (by rw [Nat.div_eq_of_lt hlt]) (by omega), sv_ok, sv_ok, show (1 : Int32) = nI 1 from rfl, nI_add, Nat.mod_pow_succ, Nat.mul_comm (2 ^ i)]
  · have e : N % 2 ^ 6 + 64 * (nr N 0 + 5 * nr N 1 + 25 * nr N 2) = N := mkN_eta hN8
    unfold fX6_numberNow_L4
    rw [if_pos (by decide), show (36 : Int32) = nI 36 from rfl, show (37 : Int32) = nI 37 from rfl, show (38 : Int32) = nI 38 from rfl, N_gd (by decide) (by decide), N_gd (by decide) (by decide), N_gd (by decide) (by decide), N_cl (by decide), N_cl (by decide), N_cl (by decide), hN.2 0 (by decide), hN.2 1 (by decide), hN.2 2 (by decide), show (5 : Int32) = nI 5 from rfl, pk_mul, nI_add, show (25 : Int32) = nI 25 from rfl, pk_mul, nI_add, show (64 : Int32) = nI 64 from rfl, pk_mul, nI_add, e]
theorem ranOn_ok (hG : MG A nl nm μ) (hL : Laid A nm N μ) {m s : Nat} (hm : m < 3) (hs : s < 10) : fX6_ranOn (nI m) (nI s) μ = some (nI (nq A N s m), μ) := by
  obtain ⟨hA, hl, hm3, g1, g2, g3, g4⟩ := hG
  have := nr_lt N m
  have := (hA.2 m hm).2.2.2
  unfold fX6_ranOn nq
  rw [show (1 : Int32) = nI 1 from rfl, nI_add]
  by_cases h : s = m + 1
  · rw [if_pos (by rw [h]), if_pos h, show (33 : Int32) + nI m = nI (33 + m) from nI_add 33 m, N_gd (by omega) (by omega), N_cl (by omega), (g4 m hm).2.2.2, nI_add]
    rfl
  · rw [if_neg (by rw [N_eq (by omega) (by omega)]; exact h), if_neg h, N_gd hm (by omega), N_cl (by omega), hL.2.1 m hm, N_gd hm (by omega), N_gd hm (by omega)]
    unfold tr fX6_ranOn_48
    by_cases h2 : nr N m ≤ 1
    · rw [if_pos (by rw [N_le (by omega) (by omega)]; exact h2), if_pos h2]
    · rw [if_neg (by rw [N_le (by omega) (by omega)]; exact h2), if_neg h2, N_sub (by omega)]
theorem ncl_ms {s : Nat} (hs : s < 10) : ms (fun l => decide (N / 2 ^ l % 2 = 1) || decide (s = l + 4)) 6 = ncl N s := by
  refine eq64 (ms_lt _ 6) (ncl_lt hs) (fun i hi => ?_)
  rw [ms_bit _ 6 i hi]
  unfold ncl
  split
  · rw [or_bit, Nat.testBit_two_pow]
    have e1 : (N % 64).testBit i = decide (N / 2 ^ i % 2 = 1) := by rw [Bool.eq_iff_iff, tb_iff, bit64 hi, decide_eq_true_iff]
    rw [e1]
    congr 2
    rw [Bool.eq_iff_iff, decide_eq_true_iff, decide_eq_true_iff]
    omega
  · rw [bit64 hi, decide_eq_false (show ¬ s = i + 4 by omega), Bool.or_false]
    by_cases h : N / 2 ^ i % 2 = 1
    · rw [h]; rfl
    · rw [decide_eq_false h, show N / 2 ^ i % 2 = 0 by omega]; rfl
theorem behind_ok (hG : MG A nl nm μ) (hL : Laid A nm N μ) {s : Nat} (hs : s < 10) : fX6_numberBehind (nI s) μ = some (nI (nx A N s), μ) := by
  unfold fX6_numberBehind
  refine lc3 (fun _ => nI s) (fun i => nI (ms (fun l => decide (N / 2 ^ l % 2 = 1) || decide (s = l + 4)) i)) (fun i => nI i) (fun _ => μ) 6 _ (fun i hi k => ?_) (fun k => ?_) (by decide) rfl rfl rfl rfl
  · unfold fX6_numberBehind_L4 fX6_numberBehind_28 fX6_numberBehind_35
    rw [if_neg (show ¬ (6 : Int32) ≤ nI i by rw [litI, N_le (by omega) (by omega)]; omega), N_gd hi (by omega), N_cl (by omega), hL.1 i hi, shl1 (by omega), show (4 : Int32) = nI 4 from rfl, nI_add]
    have yes : (decide (N / 2 ^ i % 2 = 1) || decide (s = i + 4)) = true → ms (fun l => decide (N / 2 ^ l % 2 = 1) || decide (s = l + 4)) i ||| 2 ^ i = ms (fun l => decide (N / 2 ^ l % 2 = 1) || decide (s = l + 4)) (i + 1) := fun h => ms_or _ i h
    by_cases h1 : N / 2 ^ i % 2 = 1
    · rw [if_pos (by rw [h1]; rfl), sv_ok, sv_ok, N_or, yes (by simp [h1]), show (1 : Int32) = nI 1 from rfl, nI_add]
    · rw [if_neg (show ¬ nI (N / 2 ^ i % 2) = 1 by rw [litI, N_eq (by omega) (by omega)]; exact h1)]
      by_cases h2 : s = i + 4
      · rw [if_pos (by rw [h2]), sv_ok, sv_ok, N_or, yes (by simp [h2]), show (1 : Int32) = nI 1 from rfl, nI_add]
      · rw [if_neg (by rw [N_eq (by omega) (by omega)]; exact h2), sv_ok, sv_ok, show (0 : Int32) = nI 0 from rfl, N_or, Nat.or_zero, ms_no _ i (by simp [h1, h2]), show (1 : Int32) = nI 1 from rfl, nI_add]
  · unfold fX6_numberBehind_L4
    rw [if_pos (by decide), show (0 : Int32) = nI 0 from rfl, ranOn_ok hG hL (by decide) hs, bd_ok, show (1 : Int32) = nI 1 from rfl, ranOn_ok hG hL (by decide) hs, bd_ok, show (2 : Int32) = nI 2 from rfl, ranOn_ok hG hL (by decide) hs, bd_ok, ncl_ms hs, show (5 : Int32) = nI 5 from rfl, pk_mul, nI_add, show (25 : Int32) = nI 25 from rfl, pk_mul, nI_add, show (64 : Int32) = nI 64 from rfl, pk_mul, nI_add]
    rfl
end Nm
