theorem or_free {a k w x : Nat} (h : a / 2 ^ k % 2 ^ w = 0) (hx : x < 2 ^ w) : a ||| x * 2 ^ k = a + x * 2 ^ k := by
  have e1 : a / 2 ^ k = 2 ^ w * (a / 2 ^ k / 2 ^ w) := by
    have := Nat.div_add_mod (a / 2 ^ k) (2 ^ w)
    omega
  generalize a / 2 ^ k / 2 ^ w = q at e1
  have e2 : a = 2 ^ k * (2 ^ w * q) + a % 2 ^ k := by
    rw [← e1]
    exact (Nat.div_add_mod a (2 ^ k)).symm
  have hs : a % 2 ^ k < 2 ^ k := Nat.mod_lt _ (Nat.two_pow_pos k)
  generalize a % 2 ^ k = s at e2 hs
  subst e2
  have e3 : 2 ^ k * (2 ^ w * q) ||| 2 ^ k * x = 2 ^ k * (2 ^ w * q + x) := by
    rw [Nat.two_pow_add_eq_or_of_lt hx]
    have := Nat.shiftLeft_or_distrib (a := 2 ^ w * q) (b := x) (i := k)
    simp only [Nat.shiftLeft_eq] at this
    rw [Nat.mul_comm (2 ^ k) (2 ^ w * q), Nat.mul_comm (2 ^ k) x, Nat.mul_comm (2 ^ k) (2 ^ w * q ||| x)]
    exact this.symm
  rw [Nat.two_pow_add_eq_or_of_lt hs, Nat.mul_comm x, Nat.or_assoc, Nat.or_comm s, ← Nat.or_assoc, e3, ← Nat.two_pow_add_eq_or_of_lt hs, ← Nat.two_pow_add_eq_or_of_lt hs, Nat.mul_add]
  omega
/-- a machine's ticks go on -/
def tr (r : Nat) : Nat := if r ≤ 1 then r else r - 1
theorem tr_lt {r : Nat} (h : r < 5) : tr r < 5 := by unfold tr; split <;> omega
def tk (N : Nat) : Nat := mkN (N % 64) (tr (nr N 0)) (tr (nr N 1)) (tr (nr N 2))
def rdS (N : Nat) : Nat → Nat
  | 0 => rnm N
  | i + 1 => if nr N i ≤ 1 then rdS N i else rdS N i - (rdS N i &&& 2 ^ i)
theorem rdS_3 (N : Nat) : rdS N 3 = rdm N ∧ rdS N 0 < 8 ∧ rdS N 1 < 8 ∧ rdS N 2 < 8 := by
  have key : ∀ r0, r0 < 5 → ∀ r1, r1 < 5 → ∀ r2, r2 < 5 →
    (let a := min r0 1 + 2 * min r1 1 + 4 * min r2 1
     let b := if r0 ≤ 1 then a else a - (a &&& 1)
     let c := if r1 ≤ 1 then b else b - (b &&& 2)
     let d := if r2 ≤ 1 then c else c - (c &&& 4)
     d = b01 (r0 == 1) + 2 * b01 (r1 == 1) + 4 * b01 (r2 == 1) ∧ a < 8 ∧ b < 8 ∧ c < 8) := by decide
  exact key _ (nr_lt N 0) _ (nr_lt N 1) _ (nr_lt N 2)
theorem ready_ok {N : Nat} {σ : Sg} : fX0_ready (nI (cd N)) σ = some (nI (rdm N), σ) := by
  obtain ⟨h3, h0, h1, h2⟩ := rdS_3 N
  have hlt : ∀ i, i < 3 → rdS N i < 8 := three h0 h1 h2
  unfold fX0_ready
  rw [running_ok, bd_ok]
  refine lc3 (fun _ => nI (cd N)) (fun i => nI (rdS N i)) (fun i => nI i) (fun _ => σ) 3 _ (fun i hi k => ?_) (fun k => ?_) (by decide) rfl rfl rfl rfl
  · have := nr_lt N i
    have := hlt i hi
    unfold fX0_ready_L7
    rw [if_neg (show ¬ (3 : Int32) ≤ nI i by rw [litI, N_le (by omega) (by omega)]; omega), left_ok hi, bd_ok]
    unfold fX0_ready_28
    by_cases h : nr N i ≤ 1
    · rw [if_pos (show nI (nr N i - 1) ≤ 0 by rw [litI, N_le (by omega) (by omega)]; omega), sv_ok, show (1 : Int32) = nI 1 from rfl, nI_add, show rdS N (i + 1) = rdS N i by show (if nr N i ≤ 1 then _ else _) = _; rw [if_pos h]]
    · rw [if_neg (show ¬ nI (nr N i - 1) ≤ 0 by rw [litI, N_le (by omega) (by omega)]; omega), sv_ok, sv_ok, shl1 (by omega), N_andn, show (1 : Int32) = nI 1 from rfl, nI_add, show rdS N (i + 1) = rdS N i - (rdS N i &&& 2 ^ i) by show (if nr N i ≤ 1 then _ else _) = _; rw [if_neg h]]
  · unfold fX0_ready_L7
    rw [if_pos (by decide), h3]
def tkS (N : Nat) : Nat → Nat
  | 0 => cd N
  | i + 1 => if nr N i ≤ 1 then tkS N i else tkS N i - 2 ^ (9 + 2 * i)
theorem fld_s {c x0 x1 x2 y0 y1 y2 : Nat} : (1 ≤ y0 → 512 ≤ fld c x0 x1 x2 y0 y1 y2 ∧ fld c x0 x1 x2 y0 y1 y2 - 512 = fld c x0 x1 x2 (y0 - 1) y1 y2) ∧ (1 ≤ y1 → 2048 ≤ fld c x0 x1 x2 y0 y1 y2 ∧ fld c x0 x1 x2 y0 y1 y2 - 2048 = fld c x0 x1 x2 y0 (y1 - 1) y2) ∧ (1 ≤ y2 → 8192 ≤ fld c x0 x1 x2 y0 y1 y2 ∧ fld c x0 x1 x2 y0 y1 y2 - 8192 = fld c x0 x1 x2 y0 y1 (y2 - 1)) := by
  unfold fld
  refine ⟨fun h => ?_, fun h => ?_, fun h => ?_⟩ <;> omega
theorem tr_1 (r : Nat) : (r ≤ 1 → tr r - 1 = r - 1) ∧ (¬ r ≤ 1 → tr r - 1 = r - 1 - 1 ∧ 1 ≤ r - 1) ∧ min (tr r) 1 = min r 1 := by
  unfold tr
  split <;> omega
theorem tkS_ok (N : Nat) : tkS N 3 = cd (tk N) ∧ tkS N 0 < 32768 ∧ tkS N 1 < 32768 ∧ tkS N 2 < 32768 ∧ (¬ nr N 0 ≤ 1 → 2 ^ (9 + 2 * 0) ≤ tkS N 0) ∧ (¬ nr N 1 ≤ 1 → 2 ^ (9 + 2 * 1) ≤ tkS N 1) ∧ (¬ nr N 2 ≤ 1 → 2 ^ (9 + 2 * 2) ≤ tkS N 2) := by
  have l0 := nr_lt N 0; have l1 := nr_lt N 1; have l2 := nr_lt N 2
  obtain ⟨a0, b0, c0⟩ := tr_1 (nr N 0)
  obtain ⟨a1, b1, c1⟩ := tr_1 (nr N 1)
  obtain ⟨a2, b2, c2⟩ := tr_1 (nr N 2)
  have t0 := tr_lt l0; have t1 := tr_lt l1; have t2 := tr_lt l2
  have e0 : tkS N 0 = fld (N % 64) (min (nr N 0) 1) (min (nr N 1) 1) (min (nr N 2) 1) (nr N 0 - 1) (nr N 1 - 1) (nr N 2 - 1) := rfl
  have e1 : tkS N 1 = fld (N % 64) (min (nr N 0) 1) (min (nr N 1) 1) (min (nr N 2) 1) (tr (nr N 0) - 1) (nr N 1 - 1) (nr N 2 - 1) := by
    show (if nr N 0 ≤ 1 then tkS N 0 else tkS N 0 - 512) = _
    rw [e0]
    split
    · rw [a0 ‹_›]
    · rw [(b0 ‹_›).1, (fld_s.1 (b0 ‹_›).2).2]
  have e2 : tkS N 2 = fld (N % 64) (min (nr N 0) 1) (min (nr N 1) 1) (min (nr N 2) 1) (tr (nr N 0) - 1) (tr (nr N 1) - 1) (nr N 2 - 1) := by
    show (if nr N 1 ≤ 1 then tkS N 1 else tkS N 1 - 2048) = _
    rw [e1]
    split
    · rw [a1 ‹_›]
    · rw [(b1 ‹_›).1, (fld_s.2.1 (b1 ‹_›).2).2]
  have e3 : tkS N 3 = fld (N % 64) (min (nr N 0) 1) (min (nr N 1) 1) (min (nr N 2) 1) (tr (nr N 0) - 1) (tr (nr N 1) - 1) (tr (nr N 2) - 1) := by
    show (if nr N 2 ≤ 1 then tkS N 2 else tkS N 2 - 8192) = _
    rw [e2]
    split
    · rw [a2 ‹_›]
    · rw [(b2 ‹_›).1, (fld_s.2.2 (b2 ‹_›).2).2]
  have e4 : cd (tk N) = cdM (N % 64) (tr (nr N 0)) (tr (nr N 1)) (tr (nr N 2)) := cd_mk (by omega) t0 t1 t2
  have m0 := Nat.min_le_right (nr N 0) 1; have m1 := Nat.min_le_right (nr N 1) 1; have m2 := Nat.min_le_right (nr N 2) 1
  refine ⟨?_, ?_, ?_, ?_, fun h => ?_, fun h => ?_, fun h => ?_⟩
  · rw [e3, e4]
    unfold cdM
    rw [c0, c1, c2]
  · rw [e0]; exact (fld_all (by omega) m0 m1 m2 (by omega) (by omega) (by omega)).1
  · rw [e1]; exact (fld_all (by omega) m0 m1 m2 (by omega) (by omega) (by omega)).1
  · rw [e2]; exact (fld_all (by omega) m0 m1 m2 (by omega) (by omega) (by omega)).1
  · rw [e0]; exact (fld_s.1 (b0 h).2).1
  · rw [e1]; exact (fld_s.2.1 (b1 h).2).1
  · rw [e2]; exact (fld_s.2.2 (b2 h).2).1
theorem ticked_ok {N : Nat} {σ : Sg} : fX0_ticked (nI (cd N)) σ = some (nI (cd (tk N)), σ) := by
  obtain ⟨h3, h0, h1, h2, g0, g1, g2⟩ := tkS_ok N
  have hlt : ∀ i, i < 3 → tkS N i < 32768 := three h0 h1 h2
  have hle : ∀ i, i < 3 → ¬ nr N i ≤ 1 → 2 ^ (9 + 2 * i) ≤ tkS N i := three g0 g1 g2
  unfold fX0_ticked
  refine lc3 (fun _ => nI (cd N)) (fun i => nI (tkS N i)) (fun i => nI i) (fun _ => σ) 3 _ (fun i hi k => ?_) (fun k => ?_) (by decide) rfl rfl rfl rfl
  · have := nr_lt N i
    have := hlt i hi
    unfold fX0_ticked_L4
    rw [if_neg (show ¬ (3 : Int32) ≤ nI i by rw [litI, N_le (by omega) (by omega)]; omega), left_ok hi, bd_ok]
    unfold fX0_ticked_26
    by_cases h : nr N i ≤ 1
    · rw [if_pos (show nI (nr N i - 1) ≤ 0 by rw [litI, N_le (by omega) (by omega)]; omega), sv_ok, show (1 : Int32) = nI 1 from rfl, nI_add, show tkS N (i + 1) = tkS N i by show (if nr N i ≤ 1 then _ else _) = _; rw [if_pos h]]
    · rw [if_neg (show ¬ nI (nr N i - 1) ≤ 0 by rw [litI, N_le (by omega) (by omega)]; omega), leftAt_ok, bd_ok, sv_ok, sv_ok, shl1 (by omega), N_sub (hle i hi h), show (1 : Int32) = nI 1 from rfl, nI_add, show tkS N (i + 1) = tkS N i - 2 ^ (9 + 2 * i) by show (if nr N i ≤ 1 then _ else _) = _; rw [if_neg h]]
  · unfold fX0_ticked_L4
    rw [if_pos (by decide), h3]
/-- the number behind a tick with a step -/
def nq (A : Nat → Nat → Nat) (N s m : Nat) : Nat := if s = m + 1 then A 6 m + 1 else tr (nr N m)
def ncl (N s : Nat) : Nat := if 4 ≤ s then N % 64 ||| 2 ^ (s - 4) else N % 64
def nx (A : Nat → Nat → Nat) (N s : Nat) : Nat := mkN (ncl N s) (nq A N s 0) (nq A N s 1) (nq A N s 2)
theorem nq_lt {A : Nat → Nat → Nat} {m : Nat} (hA : A 6 m ≤ 3) (N s : Nat) : nq A N s m < 5 := by
  unfold nq
  split
  · omega
  · exact tr_lt (nr_lt N m)
theorem ncl_lt {N s : Nat} (hs : s < 10) : ncl N s < 64 := by
  unfold ncl
  split
  · exact or_lt64 (by omega) (by have := pow6 (s - 4) (by omega); omega)
  · omega
theorem nx_lt {A : Nat → Nat → Nat} (hA : ∀ m, m < 3 → A 6 m ≤ 3) {N s : Nat} (hs : s < 10) : nx A N s < 8000 :=
  mkN_lt (ncl_lt hs) (nq_lt (hA 0 (by omega)) N s) (nq_lt (hA 1 (by omega)) N s) (nq_lt (hA 2 (by omega)) N s)
theorem cd_nx {A : Nat → Nat → Nat} (hA : ∀ m, m < 3 → A 6 m ≤ 3) {N s : Nat} (hs : s < 10) : cd (nx A N s) = cdM (ncl N s) (nq A N s 0) (nq A N s 1) (nq A N s 2) :=
  cd_mk (ncl_lt hs) (nq_lt (hA 0 (by omega)) N s) (nq_lt (hA 1 (by omega)) N s) (nq_lt (hA 2 (by omega)) N s)
theorem cd_tk (N : Nat) : cd (tk N) = cdM (N % 64) (tr (nr N 0)) (tr (nr N 1)) (tr (nr N 2)) := cd_mk (by omega) (tr_lt (nr_lt N 0)) (tr_lt (nr_lt N 1)) (tr_lt (nr_lt N 2))
