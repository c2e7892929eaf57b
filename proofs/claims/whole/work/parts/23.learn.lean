theorem bits_top : ∀ k, k < 6 → ∀ c, 2 ^ k ≤ c → c < 2 * 2 ^ k → (∀ l, l < 6 → (c / 2 ^ l % 2 = 1 ↔ ((c - 2 ^ k) / 2 ^ l % 2 = 1 ∨ l = k))) ∧ ¬ (c - 2 ^ k) / 2 ^ k % 2 = 1 := by
  refine six ?_ ?_ ?_ ?_ ?_ ?_ <;>
    (simp only [Nat.reducePow, Nat.reduceMul]; intro c h1 h2; refine ⟨six ?_ ?_ ?_ ?_ ?_ ?_, ?_⟩ <;> (try simp only [Nat.reducePow, or_true, iff_true]) <;> omega)
theorem bits_add : ∀ k, k < 6 → ∀ c, c < 64 → c / 2 ^ k % 2 = 0 → (∀ l, l < 6 → ((c + 2 ^ k) / 2 ^ l % 2 = 1 ↔ (c / 2 ^ l % 2 = 1 ∨ l = k))) ∧ c + 2 ^ k < 64 := by
  refine six ?_ ?_ ?_ ?_ ?_ ?_ <;>
    (simp only [Nat.reducePow]; intro c h1 h2; refine ⟨six ?_ ?_ ?_ ?_ ?_ ?_, ?_⟩ <;> (try simp only [Nat.reducePow, or_true, iff_true]) <;> omega)
theorem pow6 : ∀ k, k < 6 → 2 ^ k ≤ 32 ∧ 1 ≤ 2 ^ k := by
  refine six ?_ ?_ ?_ ?_ ?_ ?_ <;> decide
theorem or_add : ∀ k, k < 6 → ∀ c, c < 64 → c / 2 ^ k % 2 = 0 → c ||| 2 ^ k = c + 2 ^ k := by
  intro k hk c hc h
  obtain ⟨hb, hlt⟩ := bits_add k hk c hc h
  have hp := pow6 k hk
  refine eq64 (or_lt64 hc (by omega)) hlt (fun i hi => ?_)
  rw [or_bit]
  have h1 := hb i hi
  rw [Nat.testBit_two_pow]
  cases e : c.testBit i
  · have e1 : ¬ c / 2 ^ i % 2 = 1 := by rw [← tb_iff, e]; decide
    by_cases ek : k = i
    · subst ek
      rw [h1.mpr (Or.inr rfl)]
      simp [b01]
    · have : ¬ (c + 2 ^ k) / 2 ^ i % 2 = 1 := fun g => (h1.mp g).elim e1 (fun g => ek g.symm)
      simp [b01, ek]
      omega
  · have e1 : c / 2 ^ i % 2 = 1 := by rw [← tb_iff, e]
    rw [h1.mpr (Or.inl e1)]
    simp [b01]
theorem shl1 {k : Nat} (hk : k < 31) : (1 : Int32) <<< (nI k &&& 31) = nI (2 ^ k) := by
  rw [show (31 : Int32) = nI 31 from rfl, N_31 (by omega), show (1 : Int32) = nI 1 from rfl, N_shl (by omega) (by
    have : 2 ^ k < 2 ^ 31 := Nat.pow_lt_pow_right (by decide) hk
    omega), Nat.one_mul]
theorem shl2 {k : Nat} (hk : k < 30) : (2 : Int32) <<< (nI k &&& 31) = nI (2 * 2 ^ k) := by
  rw [show (31 : Int32) = nI 31 from rfl, N_31 (by omega), show (2 : Int32) = nI 2 from rfl, N_shl (by omega) (by
    have : 2 ^ k < 2 ^ 30 := Nat.pow_lt_pow_right (by decide) hk
    omega)]
theorem learn_ok {A : Nat → Nat → Nat} {σ : Sg} {k : Nat} (hk : k < 6) (hA0 : A 0 k < 6) (hA1 : A 1 k < 6) (hA2 : ∀ l, l < 6 → A 2 l ≤ 9) (s2 : σ 2 k = nI (A 0 k)) (s3 : σ 3 k = nI (A 1 k)) (s4 : σ 4 k = nI (A 2 k)) (hR : ∀ c, c < 2 ^ k → Row A σ c) :
    ∃ r, fX2_learnLine (nI k) σ = some r ∧ (r.1 = 0 ∧ (∀ q, q ≠ 10 → q ≠ 11 → r.2 q = σ q) ∧ ∀ c, c < 2 * 2 ^ k → Row A r.2 c) := by
  have hp := pow6 k hk
  unfold fX2_learnLine
  rw [shl1 (by omega), shl2 (by omega), sv_ok, sv_ok]
  refine lpA3 (fun x2 x3 x4 τ => x2 = nI k ∧ x3 = nI (2 * 2 ^ k) ∧ ∃ c, 2 ^ k ≤ c ∧ c ≤ 2 * 2 ^ k ∧ x4 = nI c ∧ (∀ q, q ≠ 10 → q ≠ 11 → τ q = σ q) ∧ ∀ d, d < c → Row A τ d) (fun _ _ x4 _ => 64 - x4.toNatClampNeg) _ ?_ FU _ _ _ _ ⟨rfl, rfl, 2 ^ k, Nat.le_refl _, by omega, rfl, fun _ _ _ => rfl, hR⟩ (Nat.lt_of_le_of_lt (Nat.sub_le _ _) (by decide))
  rintro kk x2 x3 x4 τ ⟨rfl, rfl, c, h1, h2, rfl, f1, f2⟩ ih
  unfold fX2_learnLine_L9
  by_cases he : c = 2 * 2 ^ k
  · subst he
    refine ⟨_, if_pos (by rw [N_le (by omega) (by omega)]; omega), rfl, f1, f2⟩
  · rw [if_neg (show ¬ nI (2 * 2 ^ k) ≤ nI c by rw [N_le (by omega) (by omega)]; omega), shl1 (by omega), N_sub h1]
    obtain ⟨hb, hb0⟩ := bits_top k hk c h1 (by omega)
    obtain ⟨r, e, -, g1, g2, g3⟩ := join_ok (A := A) (σ := τ) (c := c - 2 ^ k) (c' := c) hk hb hb0 (by omega) (by omega) hA0 hA1 hA2 (by rw [f1 2 (by decide) (by decide)]; exact s2) (by rw [f1 3 (by decide) (by decide)]; exact s3) (by rw [f1 4 (by decide) (by decide)]; exact s4) (f2 _ (by omega))
    obtain ⟨v, τ1⟩ := r
    dsimp only at g1 g2 g3
    rw [e, bd_ok, sv_ok, show (1 : Int32) = nI 1 from rfl, nI_add]
    refine ih _ _ _ _ ⟨rfl, rfl, c + 1, by omega, by omega, rfl, fun q h3 h4 => by rw [g1 q h3 h4]; exact f1 q h3 h4, fun d hd => ?_⟩ ?_
    · by_cases ed : d = c
      · subst ed
        exact g3
      · intro a ha
        have := g2 (d * 6 + a) (Or.inl (by omega))
        rw [this.1, this.2]
        exact f2 d (by omega) a ha
    · rw [N_cl (by omega), N_cl (by omega)]
      omega
