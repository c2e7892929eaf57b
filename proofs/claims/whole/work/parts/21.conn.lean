/-! islands: the least equivalence that the closed lines make -/
def Cn (A : Nat → Nat → Nat) (c a b : Nat) : Prop := ∀ R : Nat → Nat → Prop, (∀ x, R x x) → (∀ x y, R x y → R y x) → (∀ x y z, R x y → R y z → R x z) → (∀ l, l < 6 → c / 2 ^ l % 2 = 1 → R (A 0 l) (A 1 l)) → R a b
section Cn
variable {A A' : Nat → Nat → Nat} {c c' a b d l : Nat}
theorem Cn.re (a : Nat) : Cn A c a a := fun _ r _ _ _ => r a
theorem Cn.sym (h : Cn A c a b) : Cn A c b a := fun R r s t l => s _ _ (h R r s t l)
theorem Cn.tr (h : Cn A c a b) (h2 : Cn A c b d) : Cn A c a d := fun R r s t l => t _ _ _ (h R r s t l) (h2 R r s t l)
theorem Cn.ln (hl : l < 6) (hb : c / 2 ^ l % 2 = 1) : Cn A c (A 0 l) (A 1 l) := fun _ _ _ _ ln => ln l hl hb
theorem Cn.mono (h : Cn A c a b) (hs : ∀ l, l < 6 → c / 2 ^ l % 2 = 1 → c' / 2 ^ l % 2 = 1 ∧ A' 0 l = A 0 l ∧ A' 1 l = A 1 l) : Cn A' c' a b := by
  refine h (Cn A' c') Cn.re (fun _ _ h => h.sym) (fun _ _ _ h h2 => h.tr h2) (fun l hl hb => ?_)
  obtain ⟨h1, h2, h3⟩ := hs l hl hb
  rw [← h2, ← h3]
  exact Cn.ln hl h1
theorem Cn.zero (h : Cn A 0 a b) : a = b := h (fun x y => x = y) (fun _ => rfl) (fun _ _ h => h.symm) (fun _ _ _ h h2 => h.trans h2) (fun l _ hb => by simp at hb)
/-- one line more -/
theorem Cn.add {l0 : Nat} (hl0 : l0 < 6) (hc : ∀ l, l < 6 → (c' / 2 ^ l % 2 = 1 ↔ (c / 2 ^ l % 2 = 1 ∨ l = l0))) : Cn A c' a b ↔ Cn A c a b ∨ (Cn A c a (A 0 l0) ∧ Cn A c (A 1 l0) b) ∨ (Cn A c a (A 1 l0) ∧ Cn A c (A 0 l0) b) := by
  have up : ∀ {a b}, Cn A c a b → Cn A c' a b := fun h => h.mono (fun l hl hb => ⟨(hc l hl).mpr (Or.inl hb), rfl, rfl⟩)
  have l1 : Cn A c' (A 0 l0) (A 1 l0) := Cn.ln hl0 ((hc l0 hl0).mpr (Or.inr rfl))
  constructor
  · intro h
    refine h (fun a b => Cn A c a b ∨ (Cn A c a (A 0 l0) ∧ Cn A c (A 1 l0) b) ∨ (Cn A c a (A 1 l0) ∧ Cn A c (A 0 l0) b)) (fun x => Or.inl (Cn.re x)) ?_ ?_ ?_
    · rintro x y (h | ⟨h, h2⟩ | ⟨h, h2⟩)
      · exact Or.inl h.sym
      · exact Or.inr (Or.inr ⟨h2.sym, h.sym⟩)
      · exact Or.inr (Or.inl ⟨h2.sym, h.sym⟩)
    · rintro x y z (h | ⟨h, h2⟩ | ⟨h, h2⟩) (g | ⟨g, g2⟩ | ⟨g, g2⟩)
      · exact Or.inl (h.tr g)
      · exact Or.inr (Or.inl ⟨h.tr g, g2⟩)
      · exact Or.inr (Or.inr ⟨h.tr g, g2⟩)
      · exact Or.inr (Or.inl ⟨h, h2.tr g⟩)
      · exact Or.inr (Or.inl ⟨h, g2⟩)
      · exact Or.inl (h.tr g2)
      · exact Or.inr (Or.inr ⟨h, h2.tr g⟩)
      · exact Or.inl (h.tr g2)
      · exact Or.inr (Or.inr ⟨h, g2⟩)
    · intro l hl hb
      rcases (hc l hl).mp hb with h | rfl
      · exact Or.inl (Cn.ln hl h)
      · exact Or.inr (Or.inl ⟨Cn.re _, Cn.re _⟩)
  · rintro (h | ⟨h, h2⟩ | ⟨h, h2⟩)
    · exact up h
    · exact ((up h).tr l1).tr (up h2)
    · exact ((up h).tr l1.sym).tr (up h2)
end Cn
noncomputable def J (A : Nat → Nat → Nat) (c a b : Nat) : Bool := @decide (Cn A c a b) (Classical.propDecidable _)
theorem J_iff {A : Nat → Nat → Nat} {c a b : Nat} : J A c a b = true ↔ Cn A c a b := by simp [J]
theorem J_no {A : Nat → Nat → Nat} {c a b : Nat} : J A c a b = false ↔ ¬ Cn A c a b := by simp [J]
theorem J_eq {A A' : Nat → Nat → Nat} {c c' a b a' b' : Nat} (h : Cn A c a b ↔ Cn A' c' a' b') : J A c a b = J A' c' a' b' := by
  rw [Bool.eq_iff_iff, J_iff, J_iff]
  exact h
theorem J_sym (A : Nat → Nat → Nat) (c a b : Nat) : J A c a b = J A c b a := J_eq ⟨Cn.sym, Cn.sym⟩
theorem J_re (A : Nat → Nat → Nat) (c a : Nat) : J A c a a = true := J_iff.mpr (Cn.re a)
/-- bits of six, as a number -/
def b01 (b : Bool) : Nat := if b then 1 else 0
theorem b01_le (b : Bool) : b01 b ≤ 1 := by cases b <;> decide
theorem b01_1 {b : Bool} : b01 b = 1 ↔ b = true := by cases b <;> decide
theorem b01_0 {b : Bool} : b01 b = 0 ↔ b = false := by cases b <;> decide
def mk6 (f : Nat → Bool) : Nat := b01 (f 0) + 2 * b01 (f 1) + 4 * b01 (f 2) + 8 * b01 (f 3) + 16 * b01 (f 4) + 32 * b01 (f 5)
theorem mk6_lt (f : Nat → Bool) : mk6 f < 64 := by
  have h0 := b01_le (f 0); have h1 := b01_le (f 1); have h2 := b01_le (f 2); have h3 := b01_le (f 3); have h4 := b01_le (f 4); have h5 := b01_le (f 5)
  unfold mk6
  omega
theorem six {P : Nat → Prop} (h0 : P 0) (h1 : P 1) (h2 : P 2) (h3 : P 3) (h4 : P 4) (h5 : P 5) : ∀ i, i < 6 → P i := by
  intro i hi
  match i, hi with
  | 0, _ => exact h0
  | 1, _ => exact h1
  | 2, _ => exact h2
  | 3, _ => exact h3
  | 4, _ => exact h4
  | 5, _ => exact h5
  | i + 6, h => omega
theorem three {P : Nat → Prop} (h0 : P 0) (h1 : P 1) (h2 : P 2) : ∀ i, i < 3 → P i := by
  intro i hi
  match i, hi with
  | 0, _ => exact h0
  | 1, _ => exact h1
  | 2, _ => exact h2
  | i + 3, h => omega
theorem mk6_bit (f : Nat → Bool) : ∀ i, i < 6 → mk6 f / 2 ^ i % 2 = b01 (f i) := by
  have h0 := b01_le (f 0); have h1 := b01_le (f 1); have h2 := b01_le (f 2); have h3 := b01_le (f 3); have h4 := b01_le (f 4); have h5 := b01_le (f 5)
  unfold mk6
  refine six ?_ ?_ ?_ ?_ ?_ ?_ <;> simp only [Nat.reducePow] <;> omega
theorem eq64 {a b : Nat} (ha : a < 64) (hb : b < 64) (h : ∀ i, i < 6 → a / 2 ^ i % 2 = b / 2 ^ i % 2) : a = b := by
  have h0 := h 0 (by omega); have h1 := h 1 (by omega); have h2 := h 2 (by omega); have h3 := h 3 (by omega); have h4 := h 4 (by omega); have h5 := h 5 (by omega)
  simp only [Nat.reducePow] at h0 h1 h2 h3 h4 h5
  omega
theorem tb_dm (x i : Nat) : x / 2 ^ i % 2 = b01 (x.testBit i) := by
  rw [Nat.testBit_eq_decide_div_mod_eq]
  by_cases h : x / 2 ^ i % 2 = 1
  · simp [h, b01]
  · have : x / 2 ^ i % 2 = 0 := by omega
    simp [this, b01]
theorem or_bit (a b i : Nat) : (a ||| b) / 2 ^ i % 2 = b01 (a.testBit i || b.testBit i) := by
  rw [tb_dm, Nat.testBit_or]
theorem and_bit (a b i : Nat) : (a &&& b) / 2 ^ i % 2 = b01 (a.testBit i && b.testBit i) := by
  rw [tb_dm, Nat.testBit_and]
theorem tb_iff (x i : Nat) : x.testBit i = true ↔ x / 2 ^ i % 2 = 1 := by
  rw [tb_dm, b01_1]
theorem mk6_tb (f : Nat → Bool) {i : Nat} (h : i < 6) : (mk6 f).testBit i = f i := by
  have := mk6_bit f i h
  rw [tb_dm] at this
  cases h1 : (mk6 f).testBit i <;> cases h2 : f i <;> simp [h1, h2, b01] at this ⊢
theorem or_lt64 {a b : Nat} (ha : a < 64) (hb : b < 64) : a ||| b < 64 := Nat.or_lt_two_pow (n := 6) ha hb
theorem mk6_or (f g : Nat → Bool) : mk6 f ||| mk6 g = mk6 (fun i => f i || g i) := by
  refine eq64 (or_lt64 (mk6_lt f) (mk6_lt g)) (mk6_lt _) (fun i hi => ?_)
  rw [or_bit, mk6_bit _ i hi, mk6_tb f hi, mk6_tb g hi]
theorem mk6_cong {f g : Nat → Bool} (h : ∀ i, i < 6 → f i = g i) : mk6 f = mk6 g := by
  unfold mk6
  rw [h 0 (by omega), h 1 (by omega), h 2 (by omega), h 3 (by omega), h 4 (by omega), h 5 (by omega)]
