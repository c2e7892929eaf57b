/-! what runs and what is closed as one number N below 8000 (the reference's), and the class's code of it -/
def nr (N : Nat) : Nat → Nat
  | 0 => N / 64 % 5
  | 1 => N / 320 % 5
  | 2 => N / 1600 % 5
  | _ => 0
theorem nr0 (N : Nat) : nr N 0 = N / 64 % 5 := rfl
theorem nr1 (N : Nat) : nr N 1 = N / 320 % 5 := rfl
theorem nr2 (N : Nat) : nr N 2 = N / 1600 % 5 := rfl
theorem nr_lt (N m : Nat) : nr N m < 5 := by
  match m with
  | 0 => rw [nr0]; omega
  | 1 => rw [nr1]; omega
  | 2 => rw [nr2]; omega
  | m + 3 => show 0 < 5; omega
def mkN (c r0 r1 r2 : Nat) : Nat := c + 64 * (r0 + 5 * r1 + 25 * r2)
theorem mkN_c {c r0 r1 r2 : Nat} (hc : c < 64) : mkN c r0 r1 r2 % 64 = c := by unfold mkN; omega
theorem mkN_lt {c r0 r1 r2 : Nat} (hc : c < 64) (h0 : r0 < 5) (h1 : r1 < 5) (h2 : r2 < 5) : mkN c r0 r1 r2 < 8000 := by unfold mkN; omega
theorem mkN_r {c r0 r1 r2 : Nat} (hc : c < 64) (h0 : r0 < 5) (h1 : r1 < 5) (h2 : r2 < 5) : nr (mkN c r0 r1 r2) 0 = r0 ∧ nr (mkN c r0 r1 r2) 1 = r1 ∧ nr (mkN c r0 r1 r2) 2 = r2 := by
  rw [nr0, nr1, nr2]; unfold mkN; omega
theorem mkN_eta {N : Nat} (h : N < 8000) : mkN (N % 64) (nr N 0) (nr N 1) (nr N 2) = N := by
  rw [nr0, nr1, nr2]; unfold mkN; omega
def fld (c x0 x1 x2 y0 y1 y2 : Nat) : Nat := c + 64 * (x0 + 2 * x1 + 4 * x2) + 512 * (y0 + 4 * y1 + 16 * y2)
theorem fld_all {c x0 x1 x2 y0 y1 y2 : Nat} (hc : c < 64) (h0 : x0 ≤ 1) (h1 : x1 ≤ 1) (h2 : x2 ≤ 1) (g0 : y0 < 4) (g1 : y1 < 4) (g2 : y2 < 4) : fld c x0 x1 x2 y0 y1 y2 < 32768 ∧ fld c x0 x1 x2 y0 y1 y2 % 64 = c ∧ fld c x0 x1 x2 y0 y1 y2 / 64 % 8 = x0 + 2 * x1 + 4 * x2 ∧ fld c x0 x1 x2 y0 y1 y2 / 512 % 4 = y0 ∧ fld c x0 x1 x2 y0 y1 y2 / 2048 % 4 = y1 ∧ fld c x0 x1 x2 y0 y1 y2 / 8192 % 4 = y2 := by
  unfold fld
  refine ⟨?_, ?_, ?_, ?_, ?_, ?_⟩ <;> omega
def cdM (c r0 r1 r2 : Nat) : Nat := fld c (min r0 1) (min r1 1) (min r2 1) (r0 - 1) (r1 - 1) (r2 - 1)
theorem cdM_all {c r0 r1 r2 : Nat} (hc : c < 64) (h0 : r0 < 5) (h1 : r1 < 5) (h2 : r2 < 5) : cdM c r0 r1 r2 < 32768 ∧ cdM c r0 r1 r2 % 64 = c ∧ cdM c r0 r1 r2 / 64 % 8 = min r0 1 + 2 * min r1 1 + 4 * min r2 1 ∧ cdM c r0 r1 r2 / 512 % 4 = r0 - 1 ∧ cdM c r0 r1 r2 / 2048 % 4 = r1 - 1 ∧ cdM c r0 r1 r2 / 8192 % 4 = r2 - 1 :=
  fld_all hc (Nat.min_le_right _ _) (Nat.min_le_right _ _) (Nat.min_le_right _ _) (by omega) (by omega) (by omega)
def cd (N : Nat) : Nat := cdM (N % 64) (nr N 0) (nr N 1) (nr N 2)
theorem cdM_lt {c r0 r1 r2 : Nat} (hc : c < 64) (h0 : r0 < 5) (h1 : r1 < 5) (h2 : r2 < 5) : cdM c r0 r1 r2 < 32768 := (cdM_all hc h0 h1 h2).1
theorem cd_lt (N : Nat) : cd N < 32768 := cdM_lt (by omega) (nr_lt N 0) (nr_lt N 1) (nr_lt N 2)
theorem cd_mk {c r0 r1 r2 : Nat} (hc : c < 64) (h0 : r0 < 5) (h1 : r1 < 5) (h2 : r2 < 5) : cd (mkN c r0 r1 r2) = cdM c r0 r1 r2 := by
  have := mkN_r hc h0 h1 h2
  unfold cd
  rw [mkN_c hc, this.1, this.2.1, this.2.2]
theorem cdM_inj {c r0 r1 r2 c' s0 s1 s2 : Nat} (hc : c < 64) (h0 : r0 < 5) (h1 : r1 < 5) (h2 : r2 < 5) (hc' : c' < 64) (g0 : s0 < 5) (g1 : s1 < 5) (g2 : s2 < 5) (e : cdM c r0 r1 r2 = cdM c' s0 s1 s2) : c = c' ∧ r0 = s0 ∧ r1 = s1 ∧ r2 = s2 := by
  obtain ⟨-, a1, a2, a3, a4, a5⟩ := cdM_all hc h0 h1 h2
  obtain ⟨-, b1, b2, b3, b4, b5⟩ := cdM_all hc' g0 g1 g2
  rw [e] at a1 a2 a3 a4 a5
  have c1 := a1.symm.trans b1
  have c2 := a2.symm.trans b2
  have c3 := a3.symm.trans b3
  have c4 := a4.symm.trans b4
  have c5 := a5.symm.trans b5
  clear a1 a2 a3 a4 a5 b1 b2 b3 b4 b5 e
  have x0 := Nat.min_le_right r0 1; have x1 := Nat.min_le_right r1 1; have x2 := Nat.min_le_right r2 1
  have y0 := Nat.min_le_right s0 1; have y1 := Nat.min_le_right s1 1; have y2 := Nat.min_le_right s2 1
  have m0 : min r0 1 = min s0 1 := by generalize min r0 1 = p at *; generalize min r1 1 = q at *; generalize min r2 1 = r at *; generalize min s0 1 = p' at *; generalize min s1 1 = q' at *; generalize min s2 1 = r' at *; clear c3 c4 c5; omega
  have m1 : min r1 1 = min s1 1 := by generalize min r0 1 = p at *; generalize min r1 1 = q at *; generalize min r2 1 = r at *; generalize min s0 1 = p' at *; generalize min s1 1 = q' at *; generalize min s2 1 = r' at *; clear c3 c4 c5; omega
  have m2 : min r2 1 = min s2 1 := by generalize min r0 1 = p at *; generalize min r1 1 = q at *; generalize min r2 1 = r at *; generalize min s0 1 = p' at *; generalize min s1 1 = q' at *; generalize min s2 1 = r' at *; clear c3 c4 c5; omega
  refine ⟨c1, ?_, ?_, ?_⟩
  · clear c2 m1 m2 c4 c5; omega
  · clear c2 m0 m2 c3 c5; omega
  · clear c2 m0 m1 c3 c4; omega
theorem cd_inj {N M : Nat} (hN : N < 8000) (hM : M < 8000) (e : cd N = cd M) : N = M := by
  obtain ⟨e1, e2, e3, e4⟩ := cdM_inj (by omega) (nr_lt N 0) (nr_lt N 1) (nr_lt N 2) (by omega) (nr_lt M 0) (nr_lt M 1) (nr_lt M 2) e
  rw [← mkN_eta hN, ← mkN_eta hM, e1, e2, e3, e4]
def rnm (N : Nat) : Nat := min (nr N 0) 1 + 2 * min (nr N 1) 1 + 4 * min (nr N 2) 1
def rdm (N : Nat) : Nat := b01 (nr N 0 == 1) + 2 * b01 (nr N 1 == 1) + 4 * b01 (nr N 2 == 1)
theorem rnm_lt (N : Nat) : rnm N < 8 := by unfold rnm; omega
theorem rdm_lt (N : Nat) : rdm N < 8 := by
  have h0 := b01_le (nr N 0 == 1); have h1 := b01_le (nr N 1 == 1); have h2 := b01_le (nr N 2 == 1)
  unfold rdm; omega
theorem b3 {x0 x1 x2 : Nat} (h0 : x0 ≤ 1) (h1 : x1 ≤ 1) (h2 : x2 ≤ 1) : (x0 + 2 * x1 + 4 * x2) / 2 ^ 0 % 2 = x0 ∧ (x0 + 2 * x1 + 4 * x2) / 2 ^ 1 % 2 = x1 ∧ (x0 + 2 * x1 + 4 * x2) / 2 ^ 2 % 2 = x2 := by
  simp only [Nat.reducePow]
  omega
theorem rnm_bit (N : Nat) : ∀ m, m < 3 → rnm N / 2 ^ m % 2 = min (nr N m) 1 := by
  obtain ⟨h0, h1, h2⟩ := b3 (Nat.min_le_right (nr N 0) 1) (Nat.min_le_right (nr N 1) 1) (Nat.min_le_right (nr N 2) 1)
  exact three h0 h1 h2
theorem rdm_bit (N : Nat) : ∀ m, m < 3 → rdm N / 2 ^ m % 2 = b01 (nr N m == 1) := by
  obtain ⟨h0, h1, h2⟩ := b3 (b01_le (nr N 0 == 1)) (b01_le (nr N 1 == 1)) (b01_le (nr N 2 == 1))
  exact three h0 h1 h2
theorem cd_c (N : Nat) : cd N % 64 = N % 64 := (cdM_all (by omega) (nr_lt N 0) (nr_lt N 1) (nr_lt N 2)).2.1
theorem cd_r (N : Nat) : cd N / 64 % 8 = rnm N := (cdM_all (by omega) (nr_lt N 0) (nr_lt N 1) (nr_lt N 2)).2.2.1
theorem cd_l (N : Nat) : ∀ m, m < 3 → cd N / 2 ^ (9 + 2 * m) % 4 = nr N m - 1 := by
  obtain ⟨-, -, -, h0, h1, h2⟩ := cdM_all (c := N % 64) (by omega) (nr_lt N 0) (nr_lt N 1) (nr_lt N 2)
  exact three h0 h1 h2
theorem closed_ok {N : Nat} {σ : Sg} : fX0_closed (nI (cd N)) σ = some (nI (N % 64), σ) := by
  unfold fX0_closed
  rw [show (63 : Int32) = nI 63 from rfl, N_a63, cd_c]
theorem running_ok {N : Nat} {σ : Sg} : fX0_running (nI (cd N)) σ = some (nI (rnm N), σ) := by
  have := cd_lt N
  have e : (nI (cd N) >>> ((6 : Int32) &&& 31)) &&& (7 : Int32) = nI (rnm N) := by
    rw [show (6 : Int32) &&& 31 = nI 6 from rfl, N_shr (by omega) (by omega), show (7 : Int32) = nI 7 from rfl, N_a7, ← cd_r]
  unfold fX0_running
  rw [e]
theorem isRunning_ok {N m : Nat} {σ : Sg} (hm : m < 3) : fX0_isRunning (nI (cd N)) (nI m) σ = some (nI (min (nr N m) 1), σ) := by
  have := rnm_lt N
  unfold fX0_isRunning
  rw [running_ok, bd_ok, bit_ok (by omega) (by omega), bd_ok, rnm_bit N m hm]
  unfold fX0_isRunning_16
  by_cases h : nr N m = 0
  · rw [h]; rfl
  · have : min (nr N m) 1 = 1 := by omega
    rw [this]; rfl
theorem leftAt_ok {m : Nat} {σ : Sg} : fX0_leftAt (nI m) σ = some (nI (9 + 2 * m), σ) := by
  unfold fX0_leftAt
  rw [show (2 : Int32) = nI 2 from rfl, show (9 : Int32) = nI 9 from rfl, pk_mul, nI_add]
theorem left_ok {N m : Nat} {σ : Sg} (hm : m < 3) : fX0_left (nI (cd N)) (nI m) σ = some (nI (nr N m - 1), σ) := by
  have := cd_lt N
  have e : (nI (cd N) >>> (nI (9 + 2 * m) &&& 31)) &&& (3 : Int32) = nI (nr N m - 1) := by
    rw [show (31 : Int32) = nI 31 from rfl, N_31 (by omega), N_shr (by omega) (by omega), show (3 : Int32) = nI 3 from rfl, N_a3, cd_l N m hm]
  unfold fX0_left
  rw [leftAt_ok, bd_ok, e]
/-! clearing bits -/
theorem N_andn (a b : Nat) : nI a &&& (nI b ^^^ (-1 : Int32)) = nI (a - (a &&& b)) := by
  have h : nI a &&& (nI b ^^^ (-1 : Int32)) = nI a - (nI a &&& nI b) := by
    apply Int32.toBitVec_inj.1
    show (nI a).toBitVec &&& ((nI b).toBitVec ^^^ (-1#32)) = (nI a).toBitVec - ((nI a).toBitVec &&& (nI b).toBitVec)
    generalize (nI a).toBitVec = x
    generalize (nI b).toBitVec = y
    have e1 : y ^^^ (-1#32) = ~~~y := by
      rw [show (-1#32) = BitVec.allOnes 32 by decide, BitVec.xor_allOnes]
    have e2 : (x &&& ~~~y) + (x &&& y) = x := by
      rw [BitVec.add_eq_or_of_and_eq_zero]
      · ext i hi
        simp
        cases x[i] <;> cases y[i] <;> rfl
      · ext i hi
        simp
        cases x[i] <;> cases y[i] <;> simp
    rw [e1]
    exact BitVec.eq_sub_iff_add_eq.mpr e2
  rw [h, N_and, N_sub Nat.and_le_left]
