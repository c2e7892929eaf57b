section Lay3
variable {A : Nat → Nat → Nat} {nl nm N : Nat} {μ : Sg}
theorem bit_hi {c nl l : Nat} (hc : c < 2 ^ nl) (h : c / 2 ^ l % 2 = 1) : l < nl := by
  by_cases e : l < nl
  · exact e
  · have : c / 2 ^ l = 0 := Nat.div_eq_of_lt (Nat.lt_of_lt_of_le hc (Nat.pow_le_pow_right (by decide) (by omega)))
    rw [this] at h
    exact absurd h (by decide)
theorem fix_lb {c : Nat} {f : Nat → Nat} (hc : c < 2 ^ nl) (hI : IV A c f) (hf : ∀ l, l < nl → c / 2 ^ l % 2 = 1 → f (A 0 l) = f (A 1 l)) : ∀ b, b < 6 → f b = lb A c b := by
  have hcn : ∀ a b, Cn A c a b → f a = f b := fun a b h => h (fun x y => f x = f y) (fun _ => rfl) (fun _ _ h => h.symm) (fun _ _ _ h h2 => h.trans h2) (fun l _ hb => hf l (bit_hi hc hb) hb)
  intro b hb
  obtain ⟨h1, h2, h3⟩ := hI b hb
  obtain ⟨g1, g2, g3⟩ := lb_in (A := A) (c := c) hb
  refine Nat.le_antisymm ?_ (lb_min _ h1 (J_iff.mpr h3))
  rw [hcn b _ g3]
  exact (hI _ g1).2.1
theorem layB {τ0 : Sg} (hG : MG A nl nm μ) (hV : VN nl nm N) (fr0 : ∀ k, k ≠ 6 → k ≠ 7 → k ≠ 8 → τ0 k = μ k) (h4 : ∀ l, l < 6 → μ 4 l = nI (N / 2 ^ l % 2)) (h5 : ∀ m, m < 3 → μ 5 m = nI (nr N m)) (h6 : ∀ b, b < 6 → τ0 6 b = nI b) (h7 : ∀ b, b < 6 → τ0 7 b = nI 0) (h8 : ∀ b, b < 6 → τ0 8 b = nI 0) :
    ∃ r, it fX6_layIslands_L37 (fun _ _ => none) FU 1 τ0 = some r ∧ ((∀ k, k ≠ 6 → k ≠ 7 → k ≠ 8 → r.2 k = μ k) ∧ Laid A nm N r.2) := by
  have ms6 : ∀ {τ : Sg} {f : Nat → Nat}, (∀ b, b < 6 → τ 6 b = nI (f b)) → IV A (N % 64) f → ((τ 6 0).toNatClampNeg + (τ 6 1).toNatClampNeg + (τ 6 2).toNatClampNeg + (τ 6 3).toNatClampNeg + (τ 6 4).toNatClampNeg + (τ 6 5).toNatClampNeg) = sum6 f := by
    intro τ f hf hi
    have := (hi 0 (by omega)).1; have := (hi 1 (by omega)).1; have := (hi 2 (by omega)).1; have := (hi 3 (by omega)).1; have := (hi 4 (by omega)).1; have := (hi 5 (by omega)).1
    rw [hf 0 (by omega), hf 1 (by omega), hf 2 (by omega), hf 3 (by omega), hf 4 (by omega), hf 5 (by omega), N_cl (by omega), N_cl (by omega), N_cl (by omega), N_cl (by omega), N_cl (by omega), N_cl (by omega)]
    rfl
  refine lpA1 (fun x1 τ => ∃ ch f, x1 = nI ch ∧ ch ≤ 1 ∧ (∀ k, k ≠ 6 → τ k = τ0 k) ∧ (∀ b, b < 6 → τ 6 b = nI (f b)) ∧ IV A (N % 64) f ∧ (ch = 0 → ∀ l, l < nl → N % 64 / 2 ^ l % 2 = 1 → f (A 0 l) = f (A 1 l))) (fun x1 τ => 2 * ((τ 6 0).toNatClampNeg + (τ 6 1).toNatClampNeg + (τ 6 2).toNatClampNeg + (τ 6 3).toNatClampNeg + (τ 6 4).toNatClampNeg + (τ 6 5).toNatClampNeg) + x1.toNatClampNeg) _ ?_ FU _ _ ⟨1, fun b => b, rfl, by omega, fun _ _ => rfl, h6, fun b hb => ⟨hb, Nat.le_refl _, Cn.re b⟩, fun h => by omega⟩ (by
      rw [ms6 h6 (fun b hb => ⟨hb, Nat.le_refl _, Cn.re b⟩)]
      decide)
  rintro k x1 τ ⟨ch, f, rfl, hch, fr, ff, hI, hfix⟩ ih
  unfold fX6_layIslands_L37
  by_cases hc : ch = 0
  · subst hc
    rw [if_pos (show nI 0 = 0 from rfl)]
    refine layC hG hV (fun q a b c => by rw [fr q a, fr0 q a b c]) h4 h5 (fun b hb => ?_) (fun b hb => by rw [fr 7 (by decide)]; exact h7 b hb) (fun b hb => by rw [fr 8 (by decide)]; exact h8 b hb)
    rw [ff b hb, fix_lb hV.2.1 hI (hfix rfl) b hb]
  · have h1 : ch = 1 := by omega
    subst h1
    rw [if_neg (show ¬ nI 1 = 0 by decide)]
    have hGτ : MG A nl nm τ := hG.cong (by rw [fr 1 (by decide), fr0 1 (by decide) (by decide) (by decide)])
    obtain ⟨⟨v, τ1⟩, e, fr1, f1, g1, g2, g3⟩ := join1 (c := N % 64) hGτ (fun l hl => by rw [fr 4 (by decide), fr0 4 (by decide) (by decide) (by decide), h4 l hl, bit64 hl]) ff hI
    dsimp only at fr1 g1 g3
    rw [e, bd_ok]
    have e1 := ms6 ff hI
    have e2 := ms6 g1 g2
    rcases g3 with ⟨rfl, c1, c2⟩ | ⟨rfl, c1⟩
    · refine ih _ _ ⟨0, f1, rfl, by omega, fun q hq => by rw [fr1 q hq, fr q hq], g1, g2, fun _ l hl hb => ?_⟩ ?_
      · rw [c1, c1]; exact c2 l hl hb
      · rw [e1, e2, N_cl (by decide), N_cl (by decide)]
        have : sum6 f1 = sum6 f := by unfold sum6; rw [c1, c1, c1, c1, c1, c1]
        omega
    · refine ih _ _ ⟨1, f1, rfl, by omega, fun q hq => by rw [fr1 q hq, fr q hq], g1, g2, fun h => by omega⟩ ?_
      rw [e1, e2, N_cl (by decide)]
      omega
theorem layI (hG : MG A nl nm μ) (hV : VN nl nm N) (h4 : ∀ l, l < 6 → μ 4 l = nI (N / 2 ^ l % 2)) (h5 : ∀ m, m < 3 → μ 5 m = nI (nr N m)) :
    ∃ r, fX6_layIslands μ = some r ∧ ((∀ k, k ≠ 6 → k ≠ 7 → k ≠ 8 → r.2 k = μ k) ∧ Laid A nm N r.2) := by
  unfold fX6_layIslands
  refine lpA1 (fun x1 τ => ∃ b, x1 = nI b ∧ b ≤ 6 ∧ (∀ k, k ≠ 6 → k ≠ 7 → k ≠ 8 → τ k = μ k) ∧ ∀ j, j < b → τ 6 j = nI j ∧ τ 7 j = nI 0 ∧ τ 8 j = nI 0) (fun x1 _ => 7 - x1.toNatClampNeg) _ ?_ FU _ _ ⟨0, rfl, by omega, fun _ _ _ _ => rfl, fun j h => by omega⟩ (Nat.lt_of_le_of_lt (Nat.sub_le _ _) (by decide))
  rintro k x1 τ ⟨b, rfl, hb, fr, f6⟩ ih
  unfold fX6_layIslands_L2
  by_cases he : b = 6
  · subst he
    rw [if_pos (by decide)]
    exact layB hG hV fr h4 h5 (fun b hb => (f6 b hb).1) (fun b hb => (f6 b hb).2.1) (fun b hb => (f6 b hb).2.2)
  · have hb6 : b < 6 := by omega
    rw [if_neg (show ¬ (6 : Int32) ≤ nI b by rw [litI, N_le (by omega) (by omega)]; omega), N_gd hb6 (by omega), N_cl (by omega), sv_ok, N_gd hb6 (by omega), sv_ok, N_gd hb6 (by omega), sv_ok, sv_ok, nar0, show (1 : Int32) = nI 1 from rfl, nI_add]
    refine ih _ _ ⟨b + 1, rfl, by omega, fun q a c d => ?_, fun j hj => ?_⟩ ?_
    · rw [wr_ne d, wr_ne c, wr_ne a]; exact fr q a c d
    · rw [wr_ne (by decide), wr_ne (by decide), wr_eq, wr_ne (by decide), wr_eq, wr_ne (by decide), wr_eq, wr_ne (by decide), wr_ne (by decide)]
      by_cases ej : j = b
      · subst ej
        rw [if_pos rfl, if_pos rfl, if_pos rfl]
        exact ⟨rfl, rfl, rfl⟩
      · rw [if_neg ej, if_neg ej, if_neg ej]
        exact f6 j (by omega)
    · rw [N_cl (by omega), N_cl (by omega)]
      omega
/-- the state's own number -/
def Now (N : Nat) (μ : Sg) : Prop := (∀ l, l < 6 → μ 1 (18 + l) = nI (N / 2 ^ l % 2)) ∧ ∀ m, m < 3 → μ 1 (36 + m) = nI (nr N m)
theorem layNow_ok (hG : MG A nl nm μ) (hV : VN nl nm N) (hN : Now N μ) : ∃ r, fX6_layNow μ = some r ∧ ((∀ k, (k < 4 ∨ 8 < k) → r.2 k = μ k) ∧ Laid A nm N r.2) := by
  unfold fX6_layNow
  refine lpA1 (fun x1 τ => ∃ l, x1 = nI l ∧ l ≤ 6 ∧ (∀ k, k ≠ 4 → τ k = μ k) ∧ ∀ j, j < l → τ 4 j = nI (N / 2 ^ j % 2)) (fun x1 _ => 7 - x1.toNatClampNeg) _ ?_ FU _ _ ⟨0, rfl, by omega, fun _ _ => rfl, fun j h => by omega⟩ (Nat.lt_of_le_of_lt (Nat.sub_le _ _) (by decide))
  rintro k x1 τ ⟨l, rfl, hl, fr, f4⟩ ih
  unfold fX6_layNow_L2
  by_cases he : l = 6
  · subst he
    rw [if_pos (by decide)]
    clear ih
    refine lpA1 (fun x1 τ2 => ∃ m, x1 = nI m ∧ m ≤ 3 ∧ (∀ k, k ≠ 5 → τ2 k = τ k) ∧ ∀ j, j < m → τ2 5 j = nI (nr N j)) (fun x1 _ => 4 - x1.toNatClampNeg) _ ?_ FU _ _ ⟨0, rfl, by omega, fun _ _ => rfl, fun j h => by omega⟩ (Nat.lt_of_le_of_lt (Nat.sub_le _ _) (by decide))
    rintro k2 x1 τ2 ⟨m, rfl, hm, fr2, f5⟩ ih
    unfold fX6_layNow_L31
    by_cases he : m = 3
    · subst he
      rw [if_pos (by decide)]
      have t1 : τ2 1 = μ 1 := by rw [fr2 1 (by decide), fr 1 (by decide)]
      obtain ⟨⟨v, τ3⟩, e, g1, g2⟩ := layI (hG.cong t1) hV (fun l hl => by rw [fr2 4 (by decide)]; exact f4 l hl) f5
      dsimp only at g1 g2
      rw [e, bd_ok]
      exact ⟨_, rfl, fun q hq => by show τ3 q = μ q; rw [g1 q (by omega) (by omega) (by omega), fr2 q (by omega), fr q (by omega)], g2⟩
    · have hm3 : m < 3 := by omega
      rw [if_neg (show ¬ (3 : Int32) ≤ nI m by rw [litI, N_le (by omega) (by omega)]; omega), show (36 : Int32) + nI m = nI (36 + m) from nI_add 36 m, N_gd (by omega) (by omega), N_gd hm3 (by omega), N_cl (by omega), N_cl (by omega), fr2 1 (by decide), fr 1 (by decide), hN.2 m hm3, sv_ok, sv_ok, show (1 : Int32) = nI 1 from rfl, nI_add]
      refine ih _ _ ⟨m + 1, rfl, by omega, fun q hq => by rw [wr_ne hq]; exact fr2 q hq, fun j hj => ?_⟩ ?_
      · rw [wr_eq]
        by_cases ej : j = m
        · rw [if_pos ej, ej]
        · rw [if_neg ej]; exact f5 j (by omega)
      · rw [N_cl (by omega), N_cl (by omega)]
        omega
  · have hl6 : l < 6 := by omega
    rw [if_neg (show ¬ (6 : Int32) ≤ nI l by rw [litI, N_le (by omega) (by omega)]; omega), show (18 : Int32) + nI l = nI (18 + l) from nI_add 18 l, N_gd (by omega) (by omega), N_gd hl6 (by omega), N_cl (by omega), N_cl (by omega), fr 1 (by decide), hN.1 l hl6, sv_ok, sv_ok, show (1 : Int32) = nI 1 from rfl, nI_add]
    refine ih _ _ ⟨l + 1, rfl, by omega, fun q hq => by rw [wr_ne hq]; exact fr q hq, fun j hj => ?_⟩ ?_
    · rw [wr_eq]
      by_cases ej : j = l
      · rw [if_pos ej, ej]
      · rw [if_neg ej]; exact f4 j (by omega)
    · rw [N_cl (by omega), N_cl (by omega)]
      omega
end Lay3
