section Need
variable {A : Nat → Nat → Nat} {nl nm N : Nat} {now : Int32} {σ μ : Sg}
/-- whether it cannot be reached by these steps -/
noncomputable def cant (A : Nat → Nat → Nat) (nl nm : Nat) (g h : Int32) (N st : Nat) : Bool := @decide (∀ k, ¬ GP (abM A nl nm st) (nx A) (gl A nm g h) k N) (Classical.propDecidable _)
theorem cant_t {g h : Int32} {st : Nat} (hn : ∀ k, ¬ GP (abM A nl nm st) (nx A) (gl A nm g h) k N) : cant A nl nm g h N st = true := @decide_eq_true _ (Classical.propDecidable _) hn
theorem cant_f {g h : Int32} {st : Nat} (hn : ∃ k, GP (abM A nl nm st) (nx A) (gl A nm g h) k N) : cant A nl nm g h N st = false := @decide_eq_false _ (Classical.propDecidable _) (fun c => by obtain ⟨k, hk⟩ := hn; exact c k hk)
theorem cant_no {g h : Int32} {st : Nat} (hn : cant A nl nm g h N st = false) : ∃ k, GP (abM A nl nm st) (nx A) (gl A nm g h) k N := by
  have := @of_decide_eq_false _ (Classical.propDecidable _) hn
  exact Classical.byContradiction (fun c => this (fun k hk => c ⟨k, hk⟩))
theorem explN (hC : CG A nl nm σ) (hV : VN nl nm N) {st : Nat} (h1 : st % 2 = 1) (g h : Int32) : ∃ r, fX4_explore (nI (cd N)) 511 (nI st) g h σ = some r ∧ ((∀ k, k < 13 ∨ 16 < k → r.2 k = σ k) ∧ ((r.1 = -1) ↔ cant A nl nm g h N st = true)) := by
  obtain ⟨r, e, fr, hr⟩ := explS hC hV st g h
  refine ⟨r, e, fr, ?_⟩
  have hs := settle_iff (A := A) (nl := nl) (g := g) (h := h) (hA6 hC) hC.2.2.1 h1 hV.1
  rcases hr with ⟨r1, r2⟩ | ⟨r1, r2⟩
  · refine ⟨fun _ => cant_t (fun k hk => ?_), fun _ => r1⟩
    obtain ⟨k', hk'⟩ := hs.mpr ⟨k, hk⟩
    exact r2 k' hk'
  · refine ⟨fun c => absurd c r1, fun c => ?_⟩
    rw [cant_f (hs.mp r2)] at c
    exact absurd c (by decide)
theorem st_x : ∀ x, x < 10 → (1023 : Int32) &&& (((1 : Int32) <<< (nI x &&& 31)) ^^^ (-1 : Int32)) = nI (1023 - 2 ^ x) := by decide +kernel
theorem hw_x : ∀ x, x < 10 → ∀ s, s < 10 → (s = x ↔ (1023 - 2 ^ x) / 2 ^ s % 2 = 0) := by decide +kernel
theorem st_odd : ∀ x, x < 10 → 0 < x → (1023 - 2 ^ x) % 2 = 1 := by decide +kernel
theorem among_ok (hC : CG A nl nm σ) (hV : VN nl nm N) (g h : Int32) {x : Nat} (hx : x < 2147483648) (P : Nat → Bool) (hP : ∀ s, s < 10 → x / 2 ^ s % 2 = b01 (P s)) (hP0 : P 0 = false) : ∃ r, fX4_neededAmong (nI x) (nI (cd N)) g h σ = some r ∧ (r.1 = nI (ms (fun s => P s && cant A nl nm g h N (1023 - 2 ^ s)) 10) ∧ ∀ k, k < 13 ∨ 16 < k → r.2 k = σ k) := by
  unfold fX4_neededAmong
  refine lpA6 (fun x1 x2 x3 x4 x5 x6 τ => x1 = nI x ∧ x2 = nI (cd N) ∧ x3 = g ∧ x4 = h ∧ ∃ s, x6 = nI s ∧ s ≤ 10 ∧ x5 = nI (ms (fun s => P s && cant A nl nm g h N (1023 - 2 ^ s)) s) ∧ ∀ k, k < 13 ∨ 16 < k → τ k = σ k) (fun _ _ _ _ _ x6 _ => 11 - x6.toNatClampNeg) _ ?_ FU _ _ _ _ _ _ _ ⟨rfl, rfl, rfl, rfl, 0, rfl, by omega, rfl, fun _ _ => rfl⟩ (Nat.lt_of_le_of_lt (Nat.sub_le _ _) (by decide))
  rintro k x1 x2 x3 x4 x5 x6 τ ⟨rfl, rfl, rfl, rfl, s, rfl, hs, rfl, fr⟩ ih
  unfold fX4_neededAmong_L6
  by_cases he : s = 10
  · subst he
    rw [if_pos (by decide)]
    exact ⟨_, rfl, rfl, fr⟩
  · have hsl : s < 10 := by omega
    have next : ∀ (y : Nat) (τ' : Sg), y = ms (fun s => P s && cant A nl nm x3 x4 N (1023 - 2 ^ s)) (s + 1) → (∀ k, k < 13 ∨ 16 < k → τ' k = σ k) → ∃ r, fX4_neededAmong_60 k (nI x) (nI (cd N)) x3 x4 (nI y) (nI s) τ' = some r ∧ (r.1 = nI (ms (fun s => P s && cant A nl nm x3 x4 N (1023 - 2 ^ s)) 10) ∧ ∀ k, k < 13 ∨ 16 < k → r.2 k = σ k) := by
      intro y τ' hy fr'
      unfold fX4_neededAmong_60
      rw [sv_ok, show (1 : Int32) = nI 1 from rfl, nI_add]
      refine ih _ _ _ _ _ _ _ ⟨rfl, rfl, rfl, rfl, s + 1, rfl, by omega, by rw [hy], fr'⟩ ?_
      rw [N_cl (by omega), N_cl (by omega)]
      omega
    rw [if_neg (show ¬ (10 : Int32) ≤ nI s by rw [litI, N_le (by omega) (by omega)]; omega), st_x s hsl, sv_ok, bit_ok hx (by omega), bd_ok, hP s hsl]
    cases hp : P s
    · rw [if_pos (show nI (b01 false) = 0 from rfl)]
      exact next _ τ (by rw [ms_no _ s (by simp [hp])]) fr
    · rw [if_neg (show ¬ nI (b01 true) = 0 by decide)]
      have hs0 : 0 < s := by
        rcases Nat.eq_zero_or_pos s with z | z
        · rw [z, hP0] at hp; exact absurd hp (by decide)
        · exact z
      obtain ⟨⟨v, τ2⟩, e, fr2, hv⟩ := explN (hC.cong (fun k hk => fr k (by omega))) hV (st_odd s hsl hs0) x3 x4
      dsimp only at fr2 hv
      have frr : ∀ k, k < 13 ∨ 16 < k → τ2 k = σ k := fun q hq => by rw [fr2 q hq]; exact fr q hq
      rw [e, bd_ok]
      by_cases c : v = -1
      · rw [if_pos c, sv_ok, shl1 (by omega), N_or]
        exact next _ τ2 (ms_or (fun s => P s && cant A nl nm x3 x4 N (1023 - 2 ^ s)) s (by simp [hp, hv.mp c])) frr
      · rw [if_neg c]
        have hf : cant A nl nm x3 x4 N (1023 - 2 ^ s) = false := by
          cases h : cant A nl nm x3 x4 N (1023 - 2 ^ s)
          · rfl
          · exact absurd (hv.mpr h) c
        exact next _ τ2 (by rw [ms_no _ s (by simp [hf])]) frr
theorem nLines_ok (hM : MG A nl nm μ) (hV : VN nl nm N) (hN : Now N μ) (g h : Int32) : ∃ r, fX6_neededLines g h μ = some r ∧ (r.1 = nI (ms (fun l => decide (N / 2 ^ l % 2 = 0) && cant A nl nm g h N (1023 - 2 ^ (l + 4))) nl) ∧ ∀ k, (k < 4 ∨ 9 < k) → r.2 k = μ k) := by
  have hl6 := hM.2.1
  unfold fX6_neededLines
  refine lpA4 (fun x1 x2 x3 x4 τ => x1 = g ∧ x2 = h ∧ ∃ l, x4 = nI l ∧ l ≤ nl ∧ x3 = nI (ms (fun l => decide (N / 2 ^ l % 2 = 0) && cant A nl nm g h N (1023 - 2 ^ (l + 4))) l) ∧ ∀ k, (k < 4 ∨ 9 < k) → τ k = μ k) (fun _ _ _ x4 _ => 7 - x4.toNatClampNeg) _ ?_ FU _ _ _ _ _ ⟨rfl, rfl, 0, rfl, by omega, rfl, fun _ _ => rfl⟩ (Nat.lt_of_le_of_lt (Nat.sub_le _ _) (by decide))
  rintro k x1 x2 x3 x4 τ ⟨rfl, rfl, l, rfl, hl, rfl, fr⟩ ih
  have hMt : MG A nl nm τ := hM.cong (fr 1 (by omega))
  have hNt : Now N τ := by
    unfold Now
    rw [fr 1 (by omega)]
    exact hN
  unfold fX6_neededLines_L5
  rw [show (39 : Int32) = nI 39 from rfl, N_gd (by omega) (by omega), N_cl (by omega), hMt.2.2.2.1]
  by_cases he : l = nl
  · subst he
    rw [if_pos (show nI l ≤ nI l by rw [N_le (by omega) (by omega)]; omega)]
    exact ⟨_, rfl, rfl, fr⟩
  · have hl6' : l < 6 := by omega
    have next : ∀ (y z : Nat) (τ' : Sg), y ||| z = ms (fun l => decide (N / 2 ^ l % 2 = 0) && cant A nl nm x1 x2 N (1023 - 2 ^ (l + 4))) (l + 1) → (∀ k, (k < 4 ∨ 9 < k) → τ' k = μ k) → ∃ r, fX6_neededLines_52 k x1 x2 (nI l) (nI z) (nI y) τ' = some r ∧ (r.1 = nI (ms (fun l => decide (N / 2 ^ l % 2 = 0) && cant A nl nm x1 x2 N (1023 - 2 ^ (l + 4))) nl) ∧ ∀ k, (k < 4 ∨ 9 < k) → r.2 k = μ k) := by
      intro y z τ' hy fr'
      unfold fX6_neededLines_52
      rw [sv_ok, sv_ok, N_or, show (1 : Int32) = nI 1 from rfl, nI_add]
      refine ih _ _ _ _ _ ⟨rfl, rfl, l + 1, rfl, by omega, by rw [hy], fr'⟩ ?_
      rw [N_cl (by omega), N_cl (by omega)]
      omega
    rw [if_neg (show ¬ nI nl ≤ nI l by rw [N_le (by omega) (by omega)]; omega), show (18 : Int32) + nI l = nI (18 + l) from nI_add 18 l, N_gd (by omega) (by omega), N_cl (by omega), hNt.1 l hl6']
    by_cases hb : N / 2 ^ l % 2 = 0
    · rw [if_pos (by rw [hb]; rfl), show (4 : Int32) = nI 4 from rfl, nI_add]
      obtain ⟨⟨v, τ2⟩, e, fr2, hv⟩ := canW_ok (st := 1023 - 2 ^ (l + 4)) (w := nI (l + 4)) hMt hV hNt (fun s hs => by rw [N_eq (by omega) (by omega)]; exact hw_x (l + 4) (by omega) s hs) x1 x2
      dsimp only at fr2 hv
      have frr : ∀ k, (k < 4 ∨ 9 < k) → τ2 k = μ k := fun q hq => by rw [fr2 q hq]; exact fr q hq
      rw [e, bd_ok]
      rcases hv with ⟨v1, v2⟩ | ⟨v1, v2⟩
      · rw [v1, if_pos (by rfl), shl1 (by omega)]
        exact next _ _ τ2 (ms_or (fun l => decide (N / 2 ^ l % 2 = 0) && cant A nl nm x1 x2 N (1023 - 2 ^ (l + 4))) l (by simp [hb, cant_t v2])) frr
      · rw [v1, if_neg (by decide)]
        exact next _ 0 τ2 (by rw [Nat.or_zero, ms_no _ l (by simp [cant_f v2])]) frr
    · rw [if_neg (show ¬ nI (N / 2 ^ l % 2) = 0 by rw [litI, N_eq (by omega) (by omega)]; exact hb)]
      exact next _ 0 τ (by rw [Nat.or_zero, ms_no _ l (by simp [hb])]) fr
theorem nMach_ok (hM : MG A nl nm μ) (hV : VN nl nm N) (hN : Now N μ) (g h : Int32) : ∃ r, fX6_neededMachines g h μ = some r ∧ (r.1 = nI (ms (fun l => decide (nr N l = 0) && cant A nl nm g h N (1023 - 2 ^ (l + 1))) nm) ∧ ∀ k, (k < 4 ∨ 9 < k) → r.2 k = μ k) := by
  have hl6 := hM.2.2.1
  unfold fX6_neededMachines
  refine lpA4 (fun x1 x2 x3 x4 τ => x1 = g ∧ x2 = h ∧ ∃ l, x4 = nI l ∧ l ≤ nm ∧ x3 = nI (ms (fun l => decide (nr N l = 0) && cant A nl nm g h N (1023 - 2 ^ (l + 1))) l) ∧ ∀ k, (k < 4 ∨ 9 < k) → τ k = μ k) (fun _ _ _ x4 _ => 4 - x4.toNatClampNeg) _ ?_ FU _ _ _ _ _ ⟨rfl, rfl, 0, rfl, by omega, rfl, fun _ _ => rfl⟩ (Nat.lt_of_le_of_lt (Nat.sub_le _ _) (by decide))
  rintro k x1 x2 x3 x4 τ ⟨rfl, rfl, l, rfl, hl, rfl, fr⟩ ih
  have hMt : MG A nl nm τ := hM.cong (fr 1 (by omega))
  have hNt : Now N τ := by
    unfold Now
    rw [fr 1 (by omega)]
    exact hN
  unfold fX6_neededMachines_L5
  rw [show (40 : Int32) = nI 40 from rfl, N_gd (by omega) (by omega), N_cl (by omega), hMt.2.2.2.2.1]
  by_cases he : l = nm
  · subst he
    rw [if_pos (show nI l ≤ nI l by rw [N_le (by omega) (by omega)]; omega)]
    exact ⟨_, rfl, rfl, fr⟩
  · have hl3 : l < 3 := by omega
    have hrl := nr_lt N l
    have next : ∀ (y z : Nat) (τ' : Sg), y ||| z = ms (fun l => decide (nr N l = 0) && cant A nl nm x1 x2 N (1023 - 2 ^ (l + 1))) (l + 1) → (∀ k, (k < 4 ∨ 9 < k) → τ' k = μ k) → ∃ r, fX6_neededMachines_52 k x1 x2 (nI l) (nI z) (nI y) τ' = some r ∧ (r.1 = nI (ms (fun l => decide (nr N l = 0) && cant A nl nm x1 x2 N (1023 - 2 ^ (l + 1))) nm) ∧ ∀ k, (k < 4 ∨ 9 < k) → r.2 k = μ k) := by
      intro y z τ' hy fr'
      unfold fX6_neededMachines_52
      rw [sv_ok, sv_ok, N_or, show (1 : Int32) = nI 1 from rfl, nI_add]
      refine ih _ _ _ _ _ ⟨rfl, rfl, l + 1, rfl, by omega, by rw [hy], fr'⟩ ?_
      rw [N_cl (by omega), N_cl (by omega)]
      omega
    rw [if_neg (show ¬ nI nm ≤ nI l by rw [N_le (by omega) (by omega)]; omega), show (36 : Int32) + nI l = nI (36 + l) from nI_add 36 l, N_gd (by omega) (by omega), N_cl (by omega), hNt.2 l hl3]
    by_cases hb : nr N l = 0
    · rw [if_pos (by rw [hb]; rfl), show (1 : Int32) = nI 1 from rfl, nI_add]
      obtain ⟨⟨v, τ2⟩, e, fr2, hv⟩ := canW_ok (st := 1023 - 2 ^ (l + 1)) (w := nI (l + 1)) hMt hV hNt (fun s hs => by rw [N_eq (by omega) (by omega)]; exact hw_x (l + 1) (by omega) s hs) x1 x2
      dsimp only at fr2 hv
      have frr : ∀ k, (k < 4 ∨ 9 < k) → τ2 k = μ k := fun q hq => by rw [fr2 q hq]; exact fr q hq
      rw [e, bd_ok]
      rcases hv with ⟨v1, v2⟩ | ⟨v1, v2⟩
      · rw [v1, if_pos (by rfl), show nI 1 = 1 from rfl, shl1 (by omega)]
        exact next _ _ τ2 (ms_or (fun l => decide (nr N l = 0) && cant A nl nm x1 x2 N (1023 - 2 ^ (l + 1))) l (by simp [hb, cant_t v2])) frr
      · rw [v1, if_neg (by decide)]
        exact next _ 0 τ2 (by rw [Nat.or_zero, ms_no _ l (by simp [cant_f v2])]) frr
    · rw [if_neg (show ¬ nI (nr N l) = 0 by rw [litI, N_eq (by omega) (by omega)]; exact hb)]
      exact next _ 0 τ (by rw [Nat.or_zero, ms_no _ l (by simp [hb])]) fr
theorem ones : ∀ n, n ≤ 6 → ms (fun i => decide (i < n)) 6 = 2 ^ n - 1 := by decide +kernel
theorem free_l (hV : VN nl nm N) (hl : nl ≤ 6) : nI (2 ^ nl - 1) &&& (nI (N % 64) ^^^ (-1 : Int32)) = nI (ms (fun i => decide (i < nl) && !decide (N % 64 / 2 ^ i % 2 = 1)) 6) := by
  have h1 := subm (fun i => decide (N % 64 / 2 ^ i % 2 = 1)) (fun i => decide (i < nl)) 6 (fun i hi h => by
    rw [decide_eq_true_iff] at h ⊢
    rw [bit64 hi] at h
    by_cases c : i < nl
    · exact c
    · rw [bhi hV hi (by omega)] at h; omega)
  rw [ms_self (by omega), ones nl hl] at h1
  rw [N_andn, Nat.and_comm, Nat.and_two_pow_sub_one_eq_mod, Nat.mod_eq_of_lt hV.2.1]
  congr 1
  omega
theorem free_m (hV : VN nl nm N) (hm : nm ≤ 3) : nI (2 ^ nm - 1) &&& (nI (rnm N) ^^^ (-1 : Int32)) = nI (ms (fun i => decide (i < nm) && !decide (rnm N / 2 ^ i % 2 = 1)) 6) := by
  have hr := rnm_lt N
  have hi : ∀ i, i < 6 → rnm N / 2 ^ i % 2 = 1 → i < nm := fun i hi h => by
    by_cases c : i < nm
    · exact c
    · by_cases c3 : i < 3
      · rw [rnm_bit N i c3, hV.2.2 i c3 (by omega)] at h; exact absurd h (by decide)
      · rw [mask_hi (n := 3) hr (by omega)] at h; omega
  have h1 := subm (fun i => decide (rnm N / 2 ^ i % 2 = 1)) (fun i => decide (i < nm)) 6 (fun i hi' h => by
    rw [decide_eq_true_iff] at h ⊢
    exact hi i hi' h)
  rw [ms_self (by omega), ones nm (by omega)] at h1
  have hlt : rnm N < 2 ^ nm := by have := Nat.two_pow_pos nm; omega
  rw [N_andn, Nat.and_comm, Nat.and_two_pow_sub_one_eq_mod, Nat.mod_eq_of_lt hlt]
  congr 1
  omega
theorem shl_bit (y k s : Nat) : y * 2 ^ k / 2 ^ s % 2 = if k ≤ s then y / 2 ^ (s - k) % 2 else 0 := by
  by_cases h : k ≤ s
  · rw [if_pos h]
    have e : 2 ^ s = 2 ^ k * 2 ^ (s - k) := by rw [← Nat.pow_add, show k + (s - k) = s by omega]
    rw [e, ← Nat.div_div_eq_div_mul, Nat.mul_div_cancel _ (Nat.two_pow_pos k)]
  · rw [if_neg h]
    have e : 2 ^ k = 2 * 2 ^ (k - s - 1) * 2 ^ s := by
      rw [← Nat.pow_add_one', ← Nat.pow_add, show k - s - 1 + 1 + s = k by omega]
    rw [e, ← Nat.mul_assoc, Nat.mul_div_cancel _ (Nat.two_pow_pos s), ← Nat.mul_assoc, Nat.mul_comm y 2, Nat.mul_assoc, Nat.mul_mod_right]
theorem shr_bit (y k s : Nat) : y / 2 ^ k / 2 ^ s % 2 = y / 2 ^ (s + k) % 2 := by
  rw [Nat.div_div_eq_div_mul, ← Nat.pow_add, Nat.add_comm k s]
theorem sp_needed : SP3 Rel0 fX5_needed fX6_needed := by
  rintro σ μ hR a b c
  obtain ⟨⟨A, nl, nm, N, now, hCu⟩, hK⟩ := hR
  have hR : Rel0 σ μ := ⟨⟨A, nl, nm, N, now, hCu⟩, hK⟩
  obtain ⟨hC, hV, h9, h10, hM, hN, h41⟩ := hCu
  have hl6 := hC.2.1
  have hm3 := hC.2.2.1
  unfold fX5_needed fX6_needed
  rcases goal_c hC.2.2.2.2.1 hM a b with ⟨e1, e2⟩ | ⟨e1, e2⟩
  · rw [e1, e2, bd_ok, bd_ok, if_pos b0, if_pos b0]
    exact ⟨_, _, _, rfl, rfl, hR⟩
  rw [e1, e2, bd_ok, bd_ok, if_neg b1, if_neg b1]
  rcases win_c c (hi := 1) 1 rfl (by omega) with ⟨-, e3, e4⟩ | ⟨j, hj, rfl, e3, e4⟩
  · rw [e3, e4, bd_ok, bd_ok, if_pos b0, if_pos b0]
    exact ⟨_, _, _, rfl, rfl, hR⟩
  rw [e3, e4, bd_ok, bd_ok, if_neg b1, if_neg b1, h9]
  obtain ⟨⟨v, σ1⟩, e5, fr, hv⟩ := explN hC hV (show 1023 % 2 = 1 from rfl) a b
  obtain ⟨⟨w, μ1⟩, e6, fr2, hw⟩ := canW_ok (st := 1023) hM hV hN hw_all a b
  dsimp only at fr hv fr2 hw
  have hR2 : Rel0 σ1 μ1 := hR.cong fr (fun k h1 h2 => fr2 k (by omega))
  unfold fX4_canReach
  rw [show (1023 : Int32) = nI 1023 from rfl, e5, bd_ok, e6, bd_ok]
  rcases hw with ⟨w1, w2⟩ | ⟨w1, w2⟩
  · rw [w1, if_pos (hv.mpr (cant_t w2)), if_pos (by rfl)]
    exact ⟨_, _, _, rfl, rfl, hR2⟩
  · have hv1 : ¬ v = -1 := fun c => by
      have := hv.mp c
      rw [cant_f w2] at this
      exact absurd this (by decide)
    rw [w1, if_neg hv1, if_neg (show ¬ nI 1 = 0 by decide), show fX4_canReach_22 1 σ1 = some (1, σ1) from rfl, bd_ok, if_neg b1]
    have hC1 : CG A nl nm σ1 := hC.cong (fun k hk => fr k (by omega))
    have hM1 : MG A nl nm μ1 := hM.cong (fr2 1 (by omega))
    have hN1 : Now N μ1 := by
      unfold Now
      rw [fr2 1 (by omega)]
      exact hN
    have h91 : σ1 1 9 = nI (cd N) := by rw [fr 1 (by omega)]; exact h9
    have hy : ∀ f : Nat → Bool, ms f 6 < 64 := fun f => ms_lt f 6
    have : j = 0 ∨ j = 1 := by omega
    rcases this with rfl | rfl
    · have hyl := hy (fun i => decide (i < nl) && !decide (N % 64 / 2 ^ i % 2 = 1))
      obtain ⟨⟨w3, μ2⟩, e8, hw3, fr4⟩ := nLines_ok hM1 hV hN1 a b
      dsimp only at hw3 fr4
      obtain ⟨⟨v3, σ2⟩, e7, hv3, fr3⟩ := among_ok hC1 hV a b (x := ms (fun i => decide (i < nl) && !decide (N % 64 / 2 ^ i % 2 = 1)) 6 * 2 ^ 4) (by simp only [Nat.reducePow]; omega) (fun s => decide (4 ≤ s) && (decide (s - 4 < nl) && decide (N / 2 ^ (s - 4) % 2 = 0))) (fun s hs => by
        rw [shl_bit]
        by_cases h4 : 4 ≤ s
        · rw [if_pos h4, ms_bit _ 6 (s - 4) (by omega), decide_eq_true h4, Bool.true_and, bit64 (by omega)]
          by_cases c : N / 2 ^ (s - 4) % 2 = 1
          · rw [decide_eq_true c, decide_eq_false (show ¬ N / 2 ^ (s - 4) % 2 = 0 by omega)]; rfl
          · rw [decide_eq_false c, decide_eq_true (show N / 2 ^ (s - 4) % 2 = 0 by omega)]; rfl
        · rw [if_neg h4, decide_eq_false h4, Bool.false_and]; rfl) rfl
      dsimp only at hv3 fr3
      have hlt10 := ms_lt (fun s => (decide (4 ≤ s) && (decide (s - 4 < nl) && decide (N / 2 ^ (s - 4) % 2 = 0))) && cant A nl nm a b N (1023 - 2 ^ s)) 10
      simp only [Nat.reducePow] at hlt10
      rw [if_pos (by rfl), if_pos (by rfl), hC1.2.2.2.1, setF (by omega), bd_ok, h91, closed_ok, bd_ok, sv_ok, free_l hV hl6, show (4 : Int32) &&& 31 = nI 4 from rfl, N_shl (by omega) (by simp only [Nat.reducePow]; omega), h91, e7, bd_ok, e8, bd_ok, hv3, hw3, N_shr (by omega) (by omega)]
      have key : ms (fun s => (decide (4 ≤ s) && (decide (s - 4 < nl) && decide (N / 2 ^ (s - 4) % 2 = 0))) && cant A nl nm a b N (1023 - 2 ^ s)) 10 / 2 ^ 4 = ms (fun l => decide (N / 2 ^ l % 2 = 0) && cant A nl nm a b N (1023 - 2 ^ (l + 4))) nl := by
        have hp : 2 ^ nl ≤ 2 ^ 6 := Nat.pow_le_pow_right (by decide) hl6
        have hl2 := ms_lt (fun l => decide (N / 2 ^ l % 2 = 0) && cant A nl nm a b N (1023 - 2 ^ (l + 4))) nl
        simp only [Nat.reducePow] at hp
        refine eq64 (by simp only [Nat.reducePow]; omega) (by omega) (fun i hi => ?_)
        rw [shr_bit, ms_bit _ 10 (i + 4) (by omega), decide_eq_true (show 4 ≤ i + 4 by omega), Nat.add_sub_cancel, Bool.true_and]
        by_cases c : i < nl
        · rw [ms_bit _ nl i c, decide_eq_true c, Bool.true_and]
        · rw [mask_hi hl2 (by omega), decide_eq_false c]; rfl
      rw [key]
      exact ⟨_, _, _, rfl, rfl, hR2.cong fr3 (fun k h1 h2 => fr4 k (by omega))⟩
    · have hyl := hy (fun i => decide (i < nm) && !decide (rnm N / 2 ^ i % 2 = 1))
      obtain ⟨⟨w3, μ2⟩, e8, hw3, fr4⟩ := nMach_ok hM1 hV hN1 a b
      dsimp only at hw3 fr4
      obtain ⟨⟨v3, σ2⟩, e7, hv3, fr3⟩ := among_ok hC1 hV a b (x := ms (fun i => decide (i < nm) && !decide (rnm N / 2 ^ i % 2 = 1)) 6 * 2 ^ 1) (by simp only [Nat.reducePow]; omega) (fun s => decide (1 ≤ s) && (decide (s - 1 < nm) && decide (nr N (s - 1) = 0))) (fun s hs => by
        rw [shl_bit]
        by_cases h4 : 1 ≤ s
        · rw [if_pos h4, decide_eq_true h4, Bool.true_and]
          by_cases h6 : s - 1 < nm
          · rw [ms_bit _ 6 (s - 1) (by omega), rnm_bit N (s - 1) (by omega)]
            by_cases c : nr N (s - 1) = 0
            · rw [decide_eq_true c, decide_eq_false (show ¬ min (nr N (s - 1)) 1 = 1 by omega)]; rfl
            · rw [decide_eq_false c, decide_eq_true (show min (nr N (s - 1)) 1 = 1 by omega)]; rfl
          · rw [decide_eq_false h6, Bool.false_and]
            by_cases h7 : s - 1 < 6
            · rw [ms_bit _ 6 (s - 1) h7, decide_eq_false h6, Bool.false_and]
            · rw [mask_hi (n := 6) (ms_lt _ 6) (by omega)]; rfl
        · rw [if_neg h4, decide_eq_false h4, Bool.false_and]; rfl) rfl
      dsimp only at hv3 fr3
      have hup : ms (fun s => (decide (1 ≤ s) && (decide (s - 1 < nm) && decide (nr N (s - 1) = 0))) && cant A nl nm a b N (1023 - 2 ^ s)) 10 = ms (fun s => (decide (1 ≤ s) && (decide (s - 1 < nm) && decide (nr N (s - 1) = 0))) && cant A nl nm a b N (1023 - 2 ^ s)) 4 := ms_up _ 4 6 (fun i h1 h2 => by rw [decide_eq_false (show ¬ i - 1 < nm by omega), Bool.false_and, Bool.and_false, Bool.false_and])
      have hlt10 := ms_lt (fun s => (decide (1 ≤ s) && (decide (s - 1 < nm) && decide (nr N (s - 1) = 0))) && cant A nl nm a b N (1023 - 2 ^ s)) 4
      simp only [Nat.reducePow] at hlt10
      rw [if_neg (by decide), if_neg (by decide), hC1.2.2.2.2.1, setF (by omega), bd_ok, h91, running_ok, bd_ok, sv_ok, free_m hV hm3, show (1 : Int32) &&& 31 = nI 1 from rfl, N_shl (by omega) (by simp only [Nat.reducePow]; omega), h91, e7, bd_ok, e8, bd_ok, hv3, hw3, hup, N_shr (by omega) (by omega)]
      have key : ms (fun s => (decide (1 ≤ s) && (decide (s - 1 < nm) && decide (nr N (s - 1) = 0))) && cant A nl nm a b N (1023 - 2 ^ s)) 4 / 2 ^ 1 = ms (fun l => decide (nr N l = 0) && cant A nl nm a b N (1023 - 2 ^ (l + 1))) nm := by
        have hp : 2 ^ nm ≤ 2 ^ 3 := Nat.pow_le_pow_right (by decide) hm3
        have hl2 := ms_lt (fun l => decide (nr N l = 0) && cant A nl nm a b N (1023 - 2 ^ (l + 1))) nm
        simp only [Nat.reducePow] at hp
        refine eq64 (by simp only [Nat.reducePow]; omega) (by omega) (fun i hi => ?_)
        rw [shr_bit]
        by_cases c : i < nm
        · rw [ms_bit _ 4 (i + 1) (by omega), decide_eq_true (show 1 ≤ i + 1 by omega), Nat.add_sub_cancel, Bool.true_and, ms_bit _ nm i c, decide_eq_true c, Bool.true_and]
        · rw [mask_hi hl2 (by omega)]
          by_cases c2 : i + 1 < 4
          · rw [ms_bit _ 4 (i + 1) c2, Nat.add_sub_cancel, decide_eq_false c, Bool.false_and, Bool.and_false, Bool.false_and]; rfl
          · rw [mask_hi (n := 4) (ms_lt _ 4) (by omega)]
      rw [key]
      exact ⟨_, _, _, rfl, rfl, hR2.cong fr3 (fun k h1 h2 => fr4 k (by omega))⟩
end Need
