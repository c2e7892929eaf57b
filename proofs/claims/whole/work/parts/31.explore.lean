/-! the class's search -/
def sbt (w : Int32) (k : Nat) : Bool := w.toBitVec.getLsbD k
theorem mark_bv : ∀ k, k < 32 → (nI (2 ^ k)).toBitVec = BitVec.twoPow 32 k := by decide
theorem mark_and {w : Int32} {k : Nat} (hk : k < 32) : (w &&& nI (2 ^ k)) = 0 ↔ sbt w k = false := by
  rw [← Int32.toBitVec_inj]
  show w.toBitVec &&& (nI (2 ^ k)).toBitVec = 0#32 ↔ _
  rw [mark_bv k hk, BitVec.and_twoPow]
  unfold sbt
  cases h : w.toBitVec.getLsbD k
  · simp
  · simp only [if_true]
    constructor
    · intro e
      have : (BitVec.twoPow 32 k).getLsbD k = (0#32).getLsbD k := by rw [e]
      simp [BitVec.getLsbD_twoPow, hk] at this
    · intro e
      exact absurd e (by decide)
theorem mark_or {w : Int32} {j k : Nat} (hj : j < 32) (hk : k < 32) : sbt (w ||| nI (2 ^ k)) j = (sbt w j || decide (j = k)) := by
  show (w.toBitVec ||| (nI (2 ^ k)).toBitVec).getLsbD j = _
  rw [mark_bv k hk, BitVec.getLsbD_or, BitVec.getLsbD_twoPow]
  unfold sbt
  congr 1
  rw [Bool.eq_iff_iff]
  simp
  omega
theorem sbt_0 (k : Nat) : sbt 0 k = false := by
  show (0#32).getLsbD k = false
  simp
def QI (mk n : Nat) (q ev : Nat → Nat) (τ : Sg) : Prop := τ 13 4 = nI n ∧ n ≤ 8000 ∧ (∀ i, i < n → τ 14 i = nI (cd (q i))) ∧ (∀ i, 0 < i → i < n → τ 15 i = nI (16 * (ev i / 10) + ev i % 10)) ∧ (∀ C, C ≤ mk → (sbt (τ 16 (C / 32)) (C % 32) = true ↔ ∃ i, i < n ∧ cd (q i) = C))
theorem set5 {σ : Sg} : fX5_setOfFirst 5 σ = some (nI 31, σ) := rfl
theorem add_ok {mk n : Nat} {q ev : Nat → Nat} {τ : Sg} {C : Nat} (o : Int32) (hmk : mk < 32768) (hC : C ≤ mk) (hQ : QI mk n q ev τ) :
    ((∃ i, i < n ∧ cd (q i) = C) → fX4_add (nI C) o τ = some (nI 0, τ)) ∧
    ((¬ ∃ i, i < n ∧ cd (q i) = C) → n < 8000 → ∃ τ', fX4_add (nI C) o τ = some (nI 1, τ') ∧ (∀ k, k < 13 ∨ 16 < k → τ' k = τ k) ∧ (∀ X E, cd X = C → (0 < n → o = nI (16 * (E / 10) + E % 10)) → QI mk (n + 1) (upN q n X) (upN ev n E) τ')) := by
  obtain ⟨q1, q2, q3, q4, q5⟩ := hQ
  have hm : (1 : Int32) <<< ((nI C &&& nI 31) &&& 31) = nI (2 ^ (C % 32)) := by
    rw [N_and, show C &&& 31 = C % 32 from Nat.and_two_pow_sub_one_eq_mod C 5, show (31 : Int32) = nI 31 from rfl, N_31 (by omega), show (1 : Int32) = nI 1 from rfl, N_shl (by omega) (by
      have : 2 ^ (C % 32) ≤ 2 ^ 31 := Nat.pow_le_pow_right (by decide) (by omega)
      omega), Nat.one_mul]
  have hw : nI C >>> ((5 : Int32) &&& 31) = nI (C / 32) := by
    rw [show (5 : Int32) &&& 31 = nI 5 from rfl, N_shr (by omega) (by omega)]
  have hb := q5 C hC
  constructor
  · intro hin
    unfold fX4_add
    rw [hw, sv_ok, set5, bd_ok, hm, sv_ok, N_gd (by omega) (by omega), N_cl (by omega), if_neg (by rw [mark_and (by omega), hb.mpr hin]; decide)]
    rfl
  · intro hno hn
    have h0 : sbt (τ 16 (C / 32)) (C % 32) = false := by
      cases e : sbt (τ 16 (C / 32)) (C % 32)
      · rfl
      · exact absurd (hb.mp e) hno
    refine ⟨wr (wr (wr (wr τ 16 (C / 32) (τ 16 (C / 32) ||| nI (2 ^ (C % 32)))) 14 n (nI C)) 15 n o) 13 4 (nI (n + 1)), ?_, ?_, ?_⟩
    · unfold fX4_add
      rw [hw, sv_ok, set5, bd_ok, hm, sv_ok, N_gd (by omega) (by omega), N_cl (by omega), if_pos ((mark_and (by omega)).mpr h0), q1, if_pos (show nI n < 8000 by rw [litI, N_lt (by omega) (by omega)]; exact hn), N_gd (by omega) (by omega), N_gd (by omega) (by omega), sv_ok, wr_ne (by decide), q1, N_gd hn (by omega), sv_ok, N_cl (by omega), wr_ne (by decide), wr_ne (by decide), q1, N_gd hn (by omega), sv_ok, N_cl (by omega), sv_ok, wr_ne (by decide), wr_ne (by decide), wr_ne (by decide), q1, show (1 : Int32) = nI 1 from rfl, nI_add]
      rfl
    · intro k hk
      rw [wr_ne (by omega), wr_ne (by omega), wr_ne (by omega), wr_ne (by omega)]
    · intro X E hX ho
      refine ⟨by rw [wr_eq, if_pos rfl], by omega, fun i hi => ?_, fun i h0i hi => ?_, fun D hD => ?_⟩
      · rw [wr_ne (by decide), wr_ne (by decide), wr_eq]
        by_cases e : i = n
        · subst e
          rw [if_pos rfl, upN_s, hX]
        · rw [if_neg e, upN_n e, wr_ne (by decide)]
          exact q3 i (by omega)
      · rw [wr_ne (by decide), wr_eq]
        by_cases e : i = n
        · subst e
          rw [if_pos rfl, upN_s]
          exact ho h0i
        · rw [if_neg e, upN_n e, wr_ne (by decide), wr_ne (by decide)]
          exact q4 i h0i (by omega)
      · rw [wr_ne (by decide), wr_ne (by decide), wr_ne (by decide), wr_eq]
        have hD5 := q5 D hD
        have hex : (∃ i, i < n + 1 ∧ cd (upN q n X i) = D) ↔ ((∃ i, i < n ∧ cd (q i) = D) ∨ D = C) := by
          constructor
          · rintro ⟨i, hi, e⟩
            by_cases ei : i = n
            · subst ei
              rw [upN_s] at e
              exact Or.inr (e.symm.trans hX)
            · rw [upN_n ei] at e
              exact Or.inl ⟨i, by omega, e⟩
          · rintro (⟨i, hi, e⟩ | e)
            · exact ⟨i, by omega, by rw [upN_n (by omega)]; exact e⟩
            · exact ⟨n, by omega, by rw [upN_s]; exact hX.trans e.symm⟩
        rw [hex]
        by_cases ew : D / 32 = C / 32
        · rw [if_pos ew, mark_or (by omega) (by omega), Bool.or_eq_true, ← ew, hD5, decide_eq_true_iff]
          constructor
          · rintro (h | h)
            · exact Or.inl h
            · exact Or.inr (by omega)
          · rintro (h | h)
            · exact Or.inl h
            · exact Or.inr (by omega)
        · rw [if_neg ew, hD5]
          constructor
          · exact Or.inl
          · rintro (h | h)
            · exact h
            · exact absurd (by rw [h]) ew
theorem forget_ok {mk : Nat} {σ : Sg} (hmk : mk < 32768) : ∃ r, fX4_forget (nI mk) σ = some r ∧ ((∀ k, k < 13 ∨ 16 < k → r.2 k = σ k) ∧ r.2 13 4 = nI 0 ∧ ∀ w, w ≤ mk / 32 → r.2 16 w = 0) := by
  have hw : nI mk >>> ((5 : Int32) &&& 31) = nI (mk / 32) := by
    rw [show (5 : Int32) &&& 31 = nI 5 from rfl, N_shr (by omega) (by omega)]
  unfold fX4_forget
  rw [hw, sv_ok]
  refine lpA2 (fun x2 x3 τ => x2 = nI (mk / 32) ∧ ∃ i, i ≤ mk / 32 + 1 ∧ x3 = nI i ∧ (∀ k, k < 13 ∨ 16 < k → τ k = σ k) ∧ ∀ w, w < i → τ 16 w = 0) (fun _ x3 _ => 1100 - x3.toNatClampNeg) _ ?_ FU _ _ _ ⟨rfl, 0, by omega, rfl, fun _ _ => rfl, fun w h => by omega⟩ (Nat.lt_of_le_of_lt (Nat.sub_le _ _) (by decide))
  rintro k x2 x3 τ ⟨rfl, i, hi, rfl, f1, f2⟩ ih
  unfold fX4_forget_L6
  by_cases he : i = mk / 32 + 1
  · subst he
    rw [if_pos (by rw [N_lt (by omega) (by omega)]; omega), sv_ok]
    refine ⟨_, rfl, fun k hk => ?_, ?_, fun w hw => ?_⟩
    · show wr τ 13 4 0 k = σ k
      rw [wr_ne (by omega)]; exact f1 k hk
    · show wr τ 13 4 0 13 4 = nI 0
      rw [wr_eq, if_pos rfl]; rfl
    · show wr τ 13 4 0 16 w = 0
      rw [wr_ne (by decide)]; exact f2 w (by omega)
  · rw [if_neg (by rw [N_lt (by omega) (by omega)]; omega), N_gd (by omega) (by omega), N_cl (by omega), sv_ok, sv_ok, show (1 : Int32) = nI 1 from rfl, nI_add]
    refine ih _ _ _ ⟨rfl, i + 1, by omega, rfl, fun k hk => ?_, fun w hw => ?_⟩ ?_
    · rw [wr_ne (by omega)]; exact f1 k hk
    · rw [wr_eq]
      split
      · rfl
      · exact f2 w (by omega)
    · rw [N_cl (by omega), N_cl (by omega)]
      omega
