/-! the class's table of islands -/
theorem zr_b {b : Nat} {σ : Sg} (h : b ≤ 1) : zr (nI b) σ = some (nI b, σ) := by
  match b, h with
  | 0, _ => rfl
  | 1, _ => rfl
  | b + 2, h => omega
theorem bit_ok {x k : Nat} {σ : Sg} (hx : x < 2147483648) (hk : k < 32) : fX5_bit (nI x) (nI k) σ = some (nI (x / 2 ^ k % 2), σ) := by
  have e : (nI x >>> (nI k &&& 31)) &&& (1 : Int32) = nI (x / 2 ^ k % 2) := by
    rw [show (31 : Int32) = nI 31 from rfl, N_31 hk, N_shr hx hk, show (1 : Int32) = nI 1 from rfl, N_a1]
  unfold fX5_bit
  rw [e]
theorem mul6 {c a : Nat} : (nI c * (6 : Int32)) + nI a = nI (c * 6 + a) := by
  rw [show (6 : Int32) = nI 6 from rfl, pk_mul, nI_add]
theorem bw_ok {c a : Nat} {σ : Sg} (h : c * 6 + a < 384) : fX2_busesWith (nI c) (nI a) σ = some (σ 10 (c * 6 + a), σ) := by
  unfold fX2_busesWith
  rw [mul6, N_gd h (by omega), N_cl (by omega)]
theorem da_ok {c a : Nat} {σ : Sg} (h : c * 6 + a < 384) : fX2_drawAround (nI c) (nI a) σ = some (σ 11 (c * 6 + a), σ) := by
  unfold fX2_drawAround
  rw [mul6, N_gd h (by omega), N_cl (by omega)]
noncomputable def dt (A : Nat → Nat → Nat) (c a l : Nat) : Nat := if c / 2 ^ l % 2 = 1 ∧ J A c a (A 0 l) = true then A 2 l else 0
noncomputable def dr (A : Nat → Nat → Nat) (c a : Nat) : Nat := dt A c a 0 + dt A c a 1 + dt A c a 2 + dt A c a 3 + dt A c a 4 + dt A c a 5
def Row (A : Nat → Nat → Nat) (σ : Sg) (c : Nat) : Prop := ∀ a, a < 6 → σ 10 (c * 6 + a) = nI (mk6 (J A c a)) ∧ σ 11 (c * 6 + a) = nI (dr A c a)
section AddLine
variable {A : Nat → Nat → Nat} {c c' l0 : Nat} (hl0 : l0 < 6) (hc : ∀ l, l < 6 → (c' / 2 ^ l % 2 = 1 ↔ (c / 2 ^ l % 2 = 1 ∨ l = l0)))
theorem J_joined (hl0 : l0 < 6) (hc : ∀ l, l < 6 → (c' / 2 ^ l % 2 = 1 ↔ (c / 2 ^ l % 2 = 1 ∨ l = l0))) {a : Nat} (h : (J A c (A 0 l0) a || J A c (A 1 l0) a) = true) (b : Nat) : J A c' a b = (J A c (A 0 l0) b || J A c (A 1 l0) b) := by
  rw [Bool.or_eq_true, J_iff, J_iff] at h
  rw [Bool.eq_iff_iff, J_iff, Bool.or_eq_true, J_iff, J_iff, Cn.add hl0 hc]
  constructor
  · rintro (g | ⟨g, g2⟩ | ⟨g, g2⟩)
    · exact h.elim (fun h => Or.inl (h.tr g)) (fun h => Or.inr (h.tr g))
    · exact Or.inr g2
    · exact Or.inl g2
  · rintro (g | g)
    · rcases h with h | h
      · exact Or.inl (h.sym.tr g)
      · exact Or.inr (Or.inr ⟨h.sym, g⟩)
    · rcases h with h | h
      · exact Or.inr (Or.inl ⟨h.sym, g⟩)
      · exact Or.inl (h.sym.tr g)
theorem J_apart (hl0 : l0 < 6) (hc : ∀ l, l < 6 → (c' / 2 ^ l % 2 = 1 ↔ (c / 2 ^ l % 2 = 1 ∨ l = l0))) {a : Nat} (h : (J A c (A 0 l0) a || J A c (A 1 l0) a) = false) (b : Nat) : J A c' a b = J A c a b := by
  rw [Bool.or_eq_false_iff, J_no, J_no] at h
  refine J_eq ?_
  rw [Cn.add hl0 hc]
  constructor
  · rintro (g | ⟨g, -⟩ | ⟨g, -⟩)
    · exact g
    · exact absurd g.sym h.1
    · exact absurd g.sym h.2
  · exact Or.inl
theorem dt_joined (hl0 : l0 < 6) (hc : ∀ l, l < 6 → (c' / 2 ^ l % 2 = 1 ↔ (c / 2 ^ l % 2 = 1 ∨ l = l0))) (h0 : ¬ c / 2 ^ l0 % 2 = 1) {a : Nat} (h : (J A c (A 0 l0) a || J A c (A 1 l0) a) = true) : ∀ l, l < 6 → dt A c' a l = (if l = l0 then A 2 l0 else 0) + dt A c (A 0 l0) l + (if J A c (A 0 l0) (A 1 l0) = true then 0 else dt A c (A 1 l0) l) := by
  intro l hl
  unfold dt
  rw [J_joined hl0 hc h]
  by_cases e : l = l0
  · subst e
    have h1 : c' / 2 ^ l % 2 = 1 := (hc l hl).mpr (Or.inr rfl)
    simp [h0, h1, J_re]
  · have h1 : (c' / 2 ^ l % 2 = 1) ↔ (c / 2 ^ l % 2 = 1) := by rw [hc l hl]; simp [e]
    by_cases hb : c / 2 ^ l % 2 = 1
    · by_cases hj : J A c (A 0 l0) (A 1 l0) = true
      · have e2 : J A c (A 1 l0) (A 0 l) = J A c (A 0 l0) (A 0 l) := J_eq ⟨fun g => (J_iff.mp hj).tr g, fun g => (J_iff.mp hj).sym.tr g⟩
        simp [h1, hb, hj, e, e2]
      · cases h2 : J A c (A 0 l0) (A 0 l) <;> cases h3 : J A c (A 1 l0) (A 0 l) <;> simp [h1, hb, hj, e]
        exact absurd (J_iff.mpr ((J_iff.mp h2).tr (J_iff.mp h3).sym)) hj
    · simp [h1, hb, e]
theorem dr_joined (hl0 : l0 < 6) (hc : ∀ l, l < 6 → (c' / 2 ^ l % 2 = 1 ↔ (c / 2 ^ l % 2 = 1 ∨ l = l0))) (h0 : ¬ c / 2 ^ l0 % 2 = 1) {a : Nat} (h : (J A c (A 0 l0) a || J A c (A 1 l0) a) = true) : dr A c' a = A 2 l0 + dr A c (A 0 l0) + (if J A c (A 0 l0) (A 1 l0) = true then 0 else dr A c (A 1 l0)) := by
  have t := dt_joined hl0 hc h0 h
  unfold dr
  rw [t 0 (by omega), t 1 (by omega), t 2 (by omega), t 3 (by omega), t 4 (by omega), t 5 (by omega)]
  have hs : (if 0 = l0 then A 2 l0 else 0) + (if 1 = l0 then A 2 l0 else 0) + (if 2 = l0 then A 2 l0 else 0) + (if 3 = l0 then A 2 l0 else 0) + (if 4 = l0 then A 2 l0 else 0) + (if 5 = l0 then A 2 l0 else 0) = A 2 l0 := by
    revert hl0
    exact (fun hl0 => six (P := fun l0 => (if 0 = l0 then A 2 l0 else 0) + (if 1 = l0 then A 2 l0 else 0) + (if 2 = l0 then A 2 l0 else 0) + (if 3 = l0 then A 2 l0 else 0) + (if 4 = l0 then A 2 l0 else 0) + (if 5 = l0 then A 2 l0 else 0) = A 2 l0) (by simp) (by simp) (by simp) (by simp) (by simp) (by simp) l0 hl0)
  by_cases hj : J A c (A 0 l0) (A 1 l0) = true
  · simp only [if_pos hj]
    omega
  · simp only [if_neg hj]
    omega
theorem dr_apart (hl0 : l0 < 6) (hc : ∀ l, l < 6 → (c' / 2 ^ l % 2 = 1 ↔ (c / 2 ^ l % 2 = 1 ∨ l = l0))) {a : Nat} (h : (J A c (A 0 l0) a || J A c (A 1 l0) a) = false) : dr A c' a = dr A c a := by
  have t : ∀ l, l < 6 → dt A c' a l = dt A c a l := by
    intro l hl
    unfold dt
    rw [J_apart hl0 hc h]
    by_cases e : l = l0
    · subst e
      rw [Bool.or_eq_false_iff] at h
      rw [J_sym A c a, h.1]
      simp
    · have h1 : (c' / 2 ^ l % 2 = 1) ↔ (c / 2 ^ l % 2 = 1) := by rw [hc l hl]; simp [e]
      simp [h1]
  unfold dr
  rw [t 0 (by omega), t 1 (by omega), t 2 (by omega), t 3 (by omega), t 4 (by omega), t 5 (by omega)]
theorem dr_le (A : Nat → Nat → Nat) (hA : ∀ l, l < 6 → A 2 l ≤ 9) (c a : Nat) : dr A c a ≤ 54 := by
  have t : ∀ l, l < 6 → dt A c a l ≤ 9 := by
    intro l hl
    unfold dt
    split
    · exact hA l hl
    · omega
  have := t 0 (by omega); have := t 1 (by omega); have := t 2 (by omega); have := t 3 (by omega); have := t 4 (by omega); have := t 5 (by omega)
  unfold dr
  omega
end AddLine
theorem join_ok {A : Nat → Nat → Nat} {σ : Sg} {c c' l0 : Nat} (hl0 : l0 < 6) (hc : ∀ l, l < 6 → (c' / 2 ^ l % 2 = 1 ↔ (c / 2 ^ l % 2 = 1 ∨ l = l0))) (h0 : ¬ c / 2 ^ l0 % 2 = 1) (hlt : c < c') (hlt2 : c' < 64)
    (hA0 : A 0 l0 < 6) (hA1 : A 1 l0 < 6) (hA2 : ∀ l, l < 6 → A 2 l ≤ 9) (s2 : σ 2 l0 = nI (A 0 l0)) (s3 : σ 3 l0 = nI (A 1 l0)) (s4 : σ 4 l0 = nI (A 2 l0)) (hR : Row A σ c) :
    ∃ r, fX2_join (nI c) (nI c') (nI l0) σ = some r ∧ (r.1 = 0 ∧ (∀ k, k ≠ 10 → k ≠ 11 → r.2 k = σ k) ∧ (∀ j, (j < c' * 6 ∨ c' * 6 + 6 ≤ j) → r.2 10 j = σ 10 j ∧ r.2 11 j = σ 11 j) ∧ Row A r.2 c') := by
  have r0 := hR _ hA0
  have r1 := hR _ hA1
  have hloop : ∃ r, it fX2_join_L82 (fun _ _ _ _ _ _ => none) FU (nI c) (nI c') (nI (mk6 (fun b => J A c (A 0 l0) b || J A c (A 1 l0) b))) (nI (A 2 l0 + dr A c (A 0 l0) + (if J A c (A 0 l0) (A 1 l0) = true then 0 else dr A c (A 1 l0)))) 0 σ = some r ∧ (r.1 = 0 ∧ (∀ k, k ≠ 10 → k ≠ 11 → r.2 k = σ k) ∧ (∀ j, (j < c' * 6 ∨ c' * 6 + 6 ≤ j) → r.2 10 j = σ 10 j ∧ r.2 11 j = σ 11 j) ∧ Row A r.2 c') := by
    refine lpA5 (fun x1 x2 x7 x8 x9 τ => x1 = nI c ∧ x2 = nI c' ∧ x7 = nI (mk6 (fun b => J A c (A 0 l0) b || J A c (A 1 l0) b)) ∧ x8 = nI (A 2 l0 + dr A c (A 0 l0) + (if J A c (A 0 l0) (A 1 l0) = true then 0 else dr A c (A 1 l0))) ∧ ∃ i, i ≤ 6 ∧ x9 = nI i ∧ (∀ k, k ≠ 10 → k ≠ 11 → τ k = σ k) ∧ (∀ j, (j < c' * 6 ∨ c' * 6 + 6 ≤ j) → τ 10 j = σ 10 j ∧ τ 11 j = σ 11 j) ∧ (∀ a, a < i → τ 10 (c' * 6 + a) = nI (mk6 (J A c' a)) ∧ τ 11 (c' * 6 + a) = nI (dr A c' a))) (fun _ _ _ _ x9 _ => 6 - x9.toNatClampNeg) _ ?_ FU _ _ _ _ _ _ ⟨rfl, rfl, rfl, rfl, 0, by omega, rfl, fun _ _ _ => rfl, fun _ _ => ⟨rfl, rfl⟩, fun a h => absurd h (by omega)⟩ (Nat.lt_of_le_of_lt (Nat.sub_le _ _) (by decide))
    rintro k x1 x2 x7 x8 x9 τ ⟨rfl, rfl, rfl, rfl, i, hi, rfl, f1, f2, f3⟩ ih
    unfold fX2_join_L82
    by_cases h6 : i = 6
    · subst h6
      refine ⟨_, if_pos (by decide), rfl, f1, f2, f3⟩
    · have hi6 : i < 6 := by omega
      rw [if_neg (show ¬ (6 : Int32) ≤ nI i by rw [litI, N_le (by omega) (by omega)]; omega), bit_ok (Nat.lt_trans (mk6_lt _) (by omega)) (by omega), bd_ok, mk6_bit _ i hi6]
      have hj : ∃ t0 : Nat, t0 ≤ 1 ∧ t0 = b01 (J A c (A 0 l0) i || J A c (A 1 l0) i) ∧ (if nI (b01 (J A c (A 0 l0) i || J A c (A 1 l0) i)) = 0 then fX2_join_104 k (nI c) (nI c') (nI (mk6 (fun b => J A c (A 0 l0) b || J A c (A 1 l0) b))) (nI (A 2 l0 + dr A c (A 0 l0) + (if J A c (A 0 l0) (A 1 l0) = true then 0 else dr A c (A 1 l0)))) (nI i) 0 τ else fX2_join_104 k (nI c) (nI c') (nI (mk6 (fun b => J A c (A 0 l0) b || J A c (A 1 l0) b))) (nI (A 2 l0 + dr A c (A 0 l0) + (if J A c (A 0 l0) (A 1 l0) = true then 0 else dr A c (A 1 l0)))) (nI i) 1 τ) = fX2_join_104 k (nI c) (nI c') (nI (mk6 (fun b => J A c (A 0 l0) b || J A c (A 1 l0) b))) (nI (A 2 l0 + dr A c (A 0 l0) + (if J A c (A 0 l0) (A 1 l0) = true then 0 else dr A c (A 1 l0)))) (nI i) (nI t0) τ := by
        cases (J A c (A 0 l0) i || J A c (A 1 l0) i)
        · exact ⟨0, by omega, rfl, if_pos rfl⟩
        · exact ⟨1, by omega, rfl, if_neg (by decide)⟩
      obtain ⟨t0, ht, et, e1⟩ := hj
      rw [e1]
      unfold fX2_join_104
      have rowc : τ 10 (c * 6 + i) = nI (mk6 (J A c i)) ∧ τ 11 (c * 6 + i) = nI (dr A c i) := by
        have := f2 (c * 6 + i) (Or.inl (by omega))
        rw [this.1, this.2]
        exact hR i hi6
      have fin : ∀ (v w : Int32), v = nI (mk6 (J A c' i)) → w = nI (dr A c' i) → ∃ r, fX2_join_163 k (nI c) (nI c') (nI (mk6 (fun b => J A c (A 0 l0) b || J A c (A 1 l0) b))) (nI (A 2 l0 + dr A c (A 0 l0) + (if J A c (A 0 l0) (A 1 l0) = true then 0 else dr A c (A 1 l0)))) (nI i) w ((nI c' * (6 : Int32)) + nI i) (wr τ 10 (c' * 6 + i) v) = some r ∧ (r.1 = 0 ∧ (∀ k, k ≠ 10 → k ≠ 11 → r.2 k = σ k) ∧ (∀ j, (j < c' * 6 ∨ c' * 6 + 6 ≤ j) → r.2 10 j = σ 10 j ∧ r.2 11 j = σ 11 j) ∧ Row A r.2 c') := by
        intro v w hv hw
        unfold fX2_join_163
        rw [mul6, N_gd (by omega) (by omega), sv_ok, N_cl (by omega), sv_ok, show (1 : Int32) = nI 1 from rfl, nI_add]
        refine ih _ _ _ _ _ _ ⟨rfl, rfl, rfl, rfl, i + 1, by omega, rfl, fun k hk1 hk2 => ?_, fun j hj => ?_, fun a ha => ?_⟩ ?_
        · rw [wr_ne hk2, wr_ne hk1]
          exact f1 k hk1 hk2
        · rw [wr_ne (by decide), wr_eq, if_neg (by omega), wr_eq, if_neg (by omega), wr_ne (by decide)]
          exact f2 j hj
        · rw [wr_ne (by decide), wr_eq, wr_eq, wr_ne (by decide)]
          by_cases e : a = i
          · subst e
            rw [if_pos rfl, if_pos rfl]
            exact ⟨hv, hw⟩
          · rw [if_neg (by omega), if_neg (by omega)]
            exact f3 a (by omega)
        · rw [N_cl (by omega), N_cl (by omega)]
          omega
      cases hjn : (J A c (A 0 l0) i || J A c (A 1 l0) i)
      · rw [hjn] at et
        subst et
        rw [if_pos (show nI (b01 false) = 0 from rfl), bw_ok (by omega), bd_ok]
        unfold fX2_join_134
        rw [mul6, N_gd (by omega) (by omega), sv_ok, N_cl (by omega), if_pos (show nI (b01 false) = 0 from rfl), da_ok (by omega), bd_ok, ← mul6]
        refine fin _ _ ?_ ?_
        · rw [rowc.1]
          exact congrArg nI (mk6_cong (fun b _ => (J_apart hl0 hc hjn b).symm))
        · rw [wr_ne (by decide), rowc.2, dr_apart hl0 hc hjn]
      · rw [hjn] at et
        subst et
        rw [if_neg (show ¬ nI (b01 true) = 0 by decide)]
        unfold fX2_join_134
        rw [mul6, N_gd (by omega) (by omega), sv_ok, N_cl (by omega), if_neg (show ¬ nI (b01 true) = 0 by decide), ← mul6]
        refine fin _ _ ?_ ?_
        · exact congrArg nI (mk6_cong (fun b _ => (J_joined hl0 hc hjn b).symm))
        · rw [dr_joined hl0 hc h0 hjn]
  unfold fX2_join
  rw [N_gd hl0 (by omega), sv_ok, N_cl (by omega), s2, N_gd hl0 (by omega), sv_ok, s3, bw_ok (by omega), bd_ok, r0.1, bw_ok (by omega), bd_ok, r1.1, sv_ok, N_gd hl0 (by omega), da_ok (by omega), bd_ok, r0.2, s4, sv_ok, bw_ok (by omega), bd_ok, r0.1, bit_ok (Nat.lt_trans (mk6_lt _) (by omega)) (by omega), bd_ok, mk6_bit _ _ hA1, N_or, mk6_or, nI_add]
  unfold fX2_join_79
  cases hj : J A c (A 0 l0) (A 1 l0)
  · rw [hj] at hloop
    rw [if_pos (show nI (b01 false) = 0 from rfl), da_ok (by omega), bd_ok, r1.2, sv_ok, nI_add]
    exact hloop
  · rw [hj] at hloop
    rw [if_neg (show ¬ nI (b01 true) = 0 by decide)]
    exact hloop
