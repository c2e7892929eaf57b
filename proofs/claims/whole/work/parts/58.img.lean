/-! the images -/
theorem c6 : (6 : Int32).toNatClampNeg = 6 := by decide
theorem c3 : (3 : Int32).toNatClampNeg = 3 := by decide
/-- what a copy does, from the cells o to the cells q -/
def Cpd (σ τ : Sg) (o q : Nat) : Prop := (∀ k, (k < q ∨ q + 7 < k) → τ k = σ k) ∧ (∀ j, j ≠ 0 → j ≠ 4 → j ≠ 9 → j ≠ 10 → τ q j = σ q j) ∧ (τ q 0 = σ o 0 ∧ τ q 4 = σ o 4 ∧ τ q 9 = σ o 9 ∧ τ q 10 = σ o 10) ∧ (∀ i, i < 6 → τ (q + 1) i = σ (o + 1) i ∧ τ (q + 2) i = σ (o + 2) i ∧ τ (q + 3) i = σ (o + 3) i) ∧ ∀ i, i < 3 → τ (q + 4) i = σ (o + 4) i ∧ τ (q + 5) i = σ (o + 5) i ∧ τ (q + 6) i = σ (o + 6) i ∧ τ (q + 7) i = σ (o + 7) i
def cpyS (σ : Sg) (o q : Nat) : Sg :=
  let σ4 := wr (wr (wr (wr σ q 0 (σ o 0)) q 4 (σ o 4)) q 9 (σ o 9)) q 10 (σ o 10)
  ups (ups (ups (ups (ups (ups (ups σ4 (q + 1) (va_cpy (σ (o + 1)) (σ (q + 1)) 0 0 6)) (q + 2) (va_cpy (σ (o + 2)) (σ (q + 2)) 0 0 6)) (q + 3) (va_cpy (σ (o + 3)) (σ (q + 3)) 0 0 6)) (q + 4) (va_cpy (σ (o + 4)) (σ (q + 4)) 0 0 3)) (q + 5) (va_cpy (σ (o + 5)) (σ (q + 5)) 0 0 3)) (q + 6) (va_cpy (σ (o + 6)) (σ (q + 6)) 0 0 3)) (q + 7) (va_cpy (σ (o + 7)) (σ (q + 7)) 0 0 3)
theorem cpyS_ok (σ : Sg) (o q : Nat) : Cpd σ (cpyS σ o q) o q := by
  unfold cpyS
  refine ⟨fun k hk => ?_, fun j h0 h4 h9 h10 => ?_, ⟨?_, ?_, ?_, ?_⟩, fun i hi => ⟨?_, ?_, ?_⟩, fun i hi => ⟨?_, ?_, ?_, ?_⟩⟩
  · rw [ups_ne (by omega), ups_ne (by omega), ups_ne (by omega), ups_ne (by omega), ups_ne (by omega), ups_ne (by omega), ups_ne (by omega), wr_ne (by omega), wr_ne (by omega), wr_ne (by omega), wr_ne (by omega)]
  · rw [ups_ne (by omega), ups_ne (by omega), ups_ne (by omega), ups_ne (by omega), ups_ne (by omega), ups_ne (by omega), ups_ne (by omega), wr_eq, if_neg h10, wr_eq, if_neg h9, wr_eq, if_neg h4, wr_eq, if_neg h0]
  · rw [ups_ne (by omega), ups_ne (by omega), ups_ne (by omega), ups_ne (by omega), ups_ne (by omega), ups_ne (by omega), ups_ne (by omega), wr_eq, if_neg (by decide), wr_eq, if_neg (by decide), wr_eq, if_neg (by decide), wr_eq, if_pos rfl]
  · rw [ups_ne (by omega), ups_ne (by omega), ups_ne (by omega), ups_ne (by omega), ups_ne (by omega), ups_ne (by omega), ups_ne (by omega), wr_eq, if_neg (by decide), wr_eq, if_neg (by decide), wr_eq, if_pos rfl]
  · rw [ups_ne (by omega), ups_ne (by omega), ups_ne (by omega), ups_ne (by omega), ups_ne (by omega), ups_ne (by omega), ups_ne (by omega), wr_eq, if_neg (by decide), wr_eq, if_pos rfl]
  · rw [ups_ne (by omega), ups_ne (by omega), ups_ne (by omega), ups_ne (by omega), ups_ne (by omega), ups_ne (by omega), ups_ne (by omega), wr_eq, if_pos rfl]
  · rw [ups_ne (by omega), ups_ne (by omega), ups_ne (by omega), ups_ne (by omega), ups_ne (by omega), ups_ne (by omega), ups_eq, sb_cpy0 hi]
  · rw [ups_ne (by omega), ups_ne (by omega), ups_ne (by omega), ups_ne (by omega), ups_ne (by omega), ups_eq, sb_cpy0 hi]
  · rw [ups_ne (by omega), ups_ne (by omega), ups_ne (by omega), ups_ne (by omega), ups_eq, sb_cpy0 hi]
  · rw [ups_ne (by omega), ups_ne (by omega), ups_ne (by omega), ups_eq, sb_cpy0 hi]
  · rw [ups_ne (by omega), ups_ne (by omega), ups_eq, sb_cpy0 hi]
  · rw [ups_ne (by omega), ups_eq, sb_cpy0 hi]
  · rw [ups_eq, sb_cpy0 hi]
theorem cpy_a (σ : Sg) : fX1_copyFrom_18_1 σ = some (0, cpyS σ 1 18) := rfl
theorem cpy_b (σ : Sg) : fX1_copyFrom_26_1 σ = some (0, cpyS σ 1 26) := rfl
theorem cpy_c (σ : Sg) : fX1_copyFrom_1_18 σ = some (0, cpyS σ 18 1) := rfl
theorem cpy_d (σ : Sg) : fX1_copyFrom_1_26 σ = some (0, cpyS σ 26 1) := rfl
