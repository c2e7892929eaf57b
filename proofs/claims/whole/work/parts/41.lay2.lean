noncomputable def drP (A : Nat → Nat → Nat) (c : Nat) : Nat → Nat → Nat
  | 0, _ => 0
  | l + 1, b => drP A c l b + dt A c b l
theorem drP_6 (A : Nat → Nat → Nat) (c b : Nat) : drP A c 6 b = dr A c b := by
  unfold dr
  show ((((((0 + dt A c b 0) + dt A c b 1) + dt A c b 2) + dt A c b 3) + dt A c b 4) + dt A c b 5) = _
  omega
theorem drP_up {A : Nat → Nat → Nat} {c b nl : Nat} (hc : c < 2 ^ nl) : ∀ d, drP A c (nl + d) b = drP A c nl b := by
  intro d
  induction d with
  | zero => rfl
  | succ d ih =>
    show drP A c (nl + d) b + dt A c b (nl + d) = _
    rw [ih]
    have : c / 2 ^ (nl + d) = 0 := Nat.div_eq_of_lt (Nat.lt_of_lt_of_le hc (Nat.pow_le_pow_right (by decide) (by omega)))
    unfold dt
    rw [this]
    simp
/-- the rows that layIslands lays, for a number -/
def Laid (A : Nat → Nat → Nat) (nm N : Nat) (μ : Sg) : Prop := (∀ l, l < 6 → μ 4 l = nI (N / 2 ^ l % 2)) ∧ (∀ m, m < 3 → μ 5 m = nI (nr N m)) ∧ (∀ b, b < 6 → μ 6 b = nI (lb A (N % 64) b)) ∧ (∀ b, b < 6 → μ 7 (lb A (N % 64) b) = nI (pwP A (N % 64) N nm b) - nI (dr A (N % 64) b)) ∧ (∀ b, b < 6 → μ 8 (lb A (N % 64) b) = nI (b01 (lvP A N nm b)))
section Lay
variable {A : Nat → Nat → Nat} {nl nm N : Nat} {μ : Sg}
theorem nar0 : vp_nar .boolean 0 = 0 := rfl
theorem nar1 : vp_nar .boolean 1 = 1 := rfl
theorem layD {τ0 : Sg} (hG : MG A nl nm μ) (fr0 : ∀ k, k ≠ 6 → k ≠ 7 → k ≠ 8 → τ0 k = μ k) (h4 : ∀ l, l < 6 → μ 4 l = nI (N / 2 ^ l % 2)) (h5 : ∀ m, m < 3 → μ 5 m = nI (nr N m)) (h6 : ∀ b, b < 6 → τ0 6 b = nI (lb A (N % 64) b)) (h7 : ∀ b, b < 6 → τ0 7 (lb A (N % 64) b) = nI 0 - nI (dr A (N % 64) b)) (h8 : ∀ b, b < 6 → τ0 8 (lb A (N % 64) b) = nI 0) :
    ∃ r, it fX6_layIslands_L114 (fun _ _ => none) FU 0 τ0 = some r ∧ ((∀ k, k ≠ 6 → k ≠ 7 → k ≠ 8 → r.2 k = μ k) ∧ Laid A nm N r.2) := by
  obtain ⟨hA, hl, hm, g1, g2, g3, g4⟩ := hG
  refine lpA1 (fun x2 τ => ∃ m, x2 = nI m ∧ m ≤ nm ∧ (∀ k, k ≠ 7 → k ≠ 8 → τ k = τ0 k) ∧ (∀ b, b < 6 → τ 7 (lb A (N % 64) b) = nI (pwP A (N % 64) N m b) - nI (dr A (N % 64) b)) ∧ (∀ b, b < 6 → τ 8 (lb A (N % 64) b) = nI (b01 (lvP A N m b)))) (fun x2 _ => 4 - x2.toNatClampNeg) _ ?_ FU _ _ ⟨0, rfl, by omega, fun _ _ _ => rfl, h7, h8⟩ (Nat.lt_of_le_of_lt (Nat.sub_le _ _) (by decide))
  rintro k x2 τ ⟨m, rfl, hmn, fr, f7, f8⟩ ih
  have t1 : τ 1 = μ 1 := by rw [fr 1 (by decide) (by decide), fr0 1 (by decide) (by decide) (by decide)]
  have t5 : τ 5 = μ 5 := by rw [fr 5 (by decide) (by decide), fr0 5 (by decide) (by decide) (by decide)]
  have t6 : τ 6 = τ0 6 := fr 6 (by decide) (by decide)
  unfold fX6_layIslands_L114
  rw [show (40 : Int32) = nI 40 from rfl, N_gd (by decide) (by decide), N_cl (by decide), t1, g2]
  by_cases he : m = nm
  · subst he
    rw [if_pos (show nI m ≤ nI m by rw [N_le (by omega) (by omega)]; omega)]
    have fr2 : ∀ k, k ≠ 6 → k ≠ 7 → k ≠ 8 → τ k = μ k := fun k h6 h7 h8 => by rw [fr k h7 h8, fr0 k h6 h7 h8]
    refine ⟨_, rfl, fr2, fun l hl => ?_, fun q hq => ?_, fun b hb => ?_, f7, f8⟩
    · show τ 4 l = _
      rw [fr2 4 (by decide) (by decide) (by decide)]; exact h4 l hl
    · show τ 5 q = _
      rw [t5]; exact h5 q hq
    · show τ 6 b = _
      rw [t6]; exact h6 b hb
  · have hm3 : m < 3 := by omega
    obtain ⟨a3, a4, a5, a6⟩ := hA.2 m hm3
    have hlb := lb_in (A := A) (c := N % 64) a3
    have hnr := nr_lt N m
    rw [if_neg (show ¬ nI nm ≤ nI m by rw [N_le (by omega) (by omega)]; omega), show (24 : Int32) + nI m = nI (24 + m) from nI_add 24 m, N_gd (by omega) (by omega), N_cl (by omega), (g4 m hm3).1, N_gd a3 (by omega), N_cl (by omega), t6, h6 _ a3, sv_ok, N_gd hlb.1 (by omega), N_gd hm3 (by omega), N_cl (by omega), t5, h5 m hm3, N_cl (by omega), f7 _ a3]
    -- what comes on top
    have key : ∀ p : Nat, p = (if nr N m = 1 then A 5 m else 0) → ∃ r, fX6_layIslands_170 k (nI m) (nI (lb A (N % 64) (A 3 m))) (nI p) (nI (pwP A (N % 64) N m (A 3 m)) - nI (dr A (N % 64) (A 3 m))) (nI (lb A (N % 64) (A 3 m))) τ = some r ∧ ((∀ k, k ≠ 6 → k ≠ 7 → k ≠ 8 → r.2 k = μ k) ∧ Laid A nm N r.2) := by
      intro p hp
      unfold fX6_layIslands_170
      rw [N_gd hlb.1 (by omega), N_cl (by omega), sv_ok, N_gd hlb.1 (by omega), wr_ne (by decide), f8 _ a3]
      have key2 : ∀ q : Nat, q ≤ 1 → q = b01 (lvP A N m (A 3 m) || decide (0 < nr N m)) → ∃ r, fX6_layIslands_200 k (nI m) (nI q) (nI (lb A (N % 64) (A 3 m))) (wr τ 7 (lb A (N % 64) (A 3 m)) (nI (pwP A (N % 64) N m (A 3 m)) - nI (dr A (N % 64) (A 3 m)) + nI p)) = some r ∧ ((∀ k, k ≠ 6 → k ≠ 7 → k ≠ 8 → r.2 k = μ k) ∧ Laid A nm N r.2) := by
        intro q hq1 hq
        have hnar : vp_nar .boolean (nI q) = nI q := by
          match q, hq1 with
          | 0, _ => rfl
          | 1, _ => rfl
          | q + 2, h => omega
        unfold fX6_layIslands_200
        rw [N_gd hlb.1 (by omega), N_cl (by omega), hnar, sv_ok, sv_ok, show (1 : Int32) = nI 1 from rfl, nI_add]
        refine ih _ _ ⟨m + 1, rfl, by omega, fun q h7 h8 => ?_, fun b hb => ?_, fun b hb => ?_⟩ ?_
        · rw [wr_ne h8, wr_ne h7]; exact fr q h7 h8
        · rw [wr_ne (by decide), wr_eq]
          show _ = nI (pwP A (N % 64) N m b + (if nr N m = 1 ∧ J A (N % 64) b (A 3 m) = true then A 5 m else 0)) - _
          by_cases ej : J A (N % 64) b (A 3 m) = true
          · have el := (lb_eq hb a3).mpr ej
            rw [if_pos el, ← f7 _ a3, ← el, f7 b hb, i32_a, nI_add, hp]
            simp only [ej, and_true]
          · rw [if_neg (fun e => ej ((lb_eq hb a3).mp e)), f7 b hb, if_neg (fun e => ej e.2), Nat.add_zero]
        · rw [wr_eq]
          show _ = nI (b01 (lvP A N m b || (decide (0 < nr N m) && J A (N % 64) (A 3 m) b)))
          rw [J_sym A (N % 64) (A 3 m) b]
          by_cases ej : J A (N % 64) b (A 3 m) = true
          · have el := (lb_eq hb a3).mpr ej
            have e8 : b01 (lvP A N m b) = b01 (lvP A N m (A 3 m)) := by
              have q1 := f8 b hb
              have q2 := f8 _ a3
              rw [el, q2] at q1
              have := b01_le (lvP A N m b)
              have := b01_le (lvP A N m (A 3 m))
              exact ((nI_eq (by omega) (by omega)).mp q1).symm
            have e9 : lvP A N m b = lvP A N m (A 3 m) := by
              cases x1 : lvP A N m b <;> cases x2 : lvP A N m (A 3 m) <;> rw [x1, x2] at e8 <;> first | rfl | exact absurd e8 (by decide)
            rw [if_pos el, hq, e9, ej, Bool.and_true]
          · have ejf : J A (N % 64) b (A 3 m) = false := by simpa using ej
            rw [if_neg (fun e => ej ((lb_eq hb a3).mp e)), wr_ne (by decide), f8 b hb, ejf, Bool.and_false, Bool.or_false]
        · rw [N_cl (by omega), N_cl (by omega)]
          omega
      unfold fX6_layIslands_195
      cases hv : lvP A N m (A 3 m)
      · rw [if_pos (show nI (b01 false) = 0 from rfl), N_gd hm3 (by omega), N_cl (by omega), wr_ne (by decide), t5, h5 m hm3]
        by_cases hr : nr N m = 0
        · rw [if_pos (show nI (nr N m) ≤ 0 by rw [litI, N_le (by omega) (by omega)]; omega)]
          exact key2 0 (by omega) (by rw [hv, hr]; rfl)
        · rw [if_neg (show ¬ nI (nr N m) ≤ 0 by rw [litI, N_le (by omega) (by omega)]; omega)]
          exact key2 1 (by omega) (by rw [hv, decide_eq_true (Nat.pos_of_ne_zero hr)]; rfl)
      · rw [if_neg (show ¬ nI (b01 true) = 0 by decide)]
        exact key2 1 (by omega) (by rw [hv]; rfl)
    by_cases hr : nr N m = 1
    · rw [if_pos (show nI (nr N m) = 1 by rw [hr]; rfl), show (30 : Int32) + nI m = nI (30 + m) from nI_add 30 m, N_gd (by omega) (by omega), N_cl (by omega), (g4 m hm3).2.2.1]
      exact key _ (by rw [if_pos hr])
    · rw [if_neg (show ¬ nI (nr N m) = 1 by rw [litI, N_eq (by omega) (by omega)]; exact hr)]
      exact key 0 (by rw [if_neg hr])
theorem layC {τ0 : Sg} (hG : MG A nl nm μ) (hV : VN nl nm N) (fr0 : ∀ k, k ≠ 6 → k ≠ 7 → k ≠ 8 → τ0 k = μ k) (h4 : ∀ l, l < 6 → μ 4 l = nI (N / 2 ^ l % 2)) (h5 : ∀ m, m < 3 → μ 5 m = nI (nr N m)) (h6 : ∀ b, b < 6 → τ0 6 b = nI (lb A (N % 64) b)) (h7 : ∀ b, b < 6 → τ0 7 b = nI 0) (h8 : ∀ b, b < 6 → τ0 8 b = nI 0) :
    ∃ r, it fX6_layIslands_L51 (fun _ _ => none) FU 0 τ0 = some r ∧ ((∀ k, k ≠ 6 → k ≠ 7 → k ≠ 8 → r.2 k = μ k) ∧ Laid A nm N r.2) := by
  have hG' := hG
  obtain ⟨hA, hl, hm, g1, g2, g3, g4⟩ := hG
  refine lpA1 (fun x2 τ => ∃ l, x2 = nI l ∧ l ≤ nl ∧ (∀ k, k ≠ 7 → τ k = τ0 k) ∧ (∀ b, b < 6 → τ 7 (lb A (N % 64) b) = nI 0 - nI (drP A (N % 64) l b))) (fun x2 _ => 7 - x2.toNatClampNeg) _ ?_ FU _ _ ⟨0, rfl, by omega, fun _ _ => rfl, fun b hb => by rw [h7 _ (lb_in hb).1]; show nI 0 = nI 0 - nI 0; decide⟩ (Nat.lt_of_le_of_lt (Nat.sub_le _ _) (by decide))
  rintro k x2 τ ⟨l, rfl, hln, fr, f7⟩ ih
  have t1 : τ 1 = μ 1 := by rw [fr 1 (by decide), fr0 1 (by decide) (by decide) (by decide)]
  have t4 : τ 4 = μ 4 := by rw [fr 4 (by decide), fr0 4 (by decide) (by decide) (by decide)]
  have t6 : τ 6 = τ0 6 := fr 6 (by decide)
  unfold fX6_layIslands_L51
  rw [show (39 : Int32) = nI 39 from rfl, N_gd (by decide) (by decide), N_cl (by decide), t1, g1]
  by_cases he : l = nl
  · subst he
    rw [if_pos (show nI l ≤ nI l by rw [N_le (by omega) (by omega)]; omega)]
    refine layD hG' (fun q h6 h7 h8 => by rw [fr q h7, fr0 q h6 h7 h8]) h4 h5 (fun b hb => by rw [t6]; exact h6 b hb) (fun b hb => ?_) (fun b hb => by rw [fr 8 (by decide)]; exact h8 _ (lb_in hb).1)
    rw [f7 b hb, ← drP_6, ← drP_up hV.2.1 (6 - l), show l + (6 - l) = 6 by omega]
  · have hl6 : l < 6 := by omega
    obtain ⟨a0, a1, a2⟩ := hA.1 l hl6
    have hlb := lb_in (A := A) (c := N % 64) a0
    rw [if_neg (show ¬ nI nl ≤ nI l by rw [N_le (by omega) (by omega)]; omega), show (0 : Int32) + nI l = nI l from by rw [show (0 : Int32) = nI 0 from rfl, nI_add, Nat.zero_add], N_gd (by omega) (by omega), N_cl (by omega), (g3 l hl6).1, N_gd a0 (by omega), N_cl (by omega), t6, h6 _ a0, sv_ok, N_gd hlb.1 (by omega), N_gd hl6 (by omega), t4, h4 l hl6, N_cl (by omega), f7 _ a0]
    have key : ∀ p : Nat, p = (if N / 2 ^ l % 2 = 1 then A 2 l else 0) → ∃ r, fX6_layIslands_104 k (nI l) (nI p) (nI 0 - nI (drP A (N % 64) l (A 0 l))) (nI (lb A (N % 64) (A 0 l))) τ = some r ∧ ((∀ k, k ≠ 6 → k ≠ 7 → k ≠ 8 → r.2 k = μ k) ∧ Laid A nm N r.2) := by
      intro p hp
      unfold fX6_layIslands_104
      rw [N_gd hlb.1 (by omega), N_cl (by omega), sv_ok, sv_ok, show (1 : Int32) = nI 1 from rfl, nI_add]
      refine ih _ _ ⟨l + 1, rfl, by omega, fun q h7 => ?_, fun b hb => ?_⟩ ?_
      · rw [wr_ne h7]; exact fr q h7
      · rw [wr_eq]
        show _ = nI 0 - nI (drP A (N % 64) l b + dt A (N % 64) b l)
        unfold dt
        rw [bit64 hl6]
        by_cases ej : J A (N % 64) b (A 0 l) = true
        · have el := (lb_eq hb a0).mpr ej
          rw [if_pos el, ← f7 _ a0, ← el, f7 b hb, hp]
          simp only [ej, and_true]
          rw [← nI_add, Int32.sub_eq_add_neg, Int32.sub_eq_add_neg, Int32.sub_eq_add_neg, Int32.neg_add, Int32.add_assoc, ← Int32.sub_eq_add_neg (-_)]
        · rw [if_neg (fun e => ej ((lb_eq hb a0).mp e)), f7 b hb, if_neg (fun e => ej e.2), Nat.add_zero]
      · rw [N_cl (by omega), N_cl (by omega)]
        omega
    by_cases hr : N / 2 ^ l % 2 = 1
    · rw [if_pos (show nI (N / 2 ^ l % 2) = 1 by rw [hr]; rfl), show (12 : Int32) + nI l = nI (12 + l) from nI_add 12 l, N_gd (by omega) (by omega), N_cl (by omega), (g3 l hl6).2.2]
      exact key _ (by rw [if_pos hr])
    · rw [if_neg (show ¬ nI (N / 2 ^ l % 2) = 1 by rw [litI, N_eq (by omega) (by omega)]; exact hr)]
      exact key 0 (by rw [if_neg hr])
end Lay
