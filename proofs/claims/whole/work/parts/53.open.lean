/-! lines fall out, machines stop -/
theorem and_field (C k w M : Nat) (hM : M = 2 ^ w - 1) : C &&& (M * 2 ^ k) = (C / 2 ^ k % 2 ^ w) * 2 ^ k := by
  subst hM
  apply Nat.eq_of_testBit_eq
  intro j
  rw [Nat.testBit_and, Nat.testBit_mul_two_pow, Nat.testBit_mul_two_pow, Nat.testBit_two_pow_sub_one, Nat.testBit_mod_two_pow, Nat.testBit_div_two_pow]
  by_cases h : k ≤ j
  · rw [Nat.sub_add_cancel h, decide_eq_true h, Bool.true_and, Bool.true_and, Bool.and_comm]
  · rw [decide_eq_false h, Bool.false_and, Bool.false_and, Bool.and_false]
def stp (N m : Nat) : Nat := mkN (N % 64) (if m = 0 then 0 else nr N 0) (if m = 1 then 0 else nr N 1) (if m = 2 then 0 else nr N 2)
theorem ite_lt5 {p : Prop} [Decidable p] {r : Nat} (h : r < 5) : (if p then 0 else r) < 5 := by split <;> omega
section Open
variable {A : Nat → Nat → Nat} {nl nm N : Nat} {now : Int32} {σ μ : Sg}
theorem stp_c (m : Nat) : stp N m % 64 = N % 64 := mkN_c (by omega)
theorem stp_r (m : Nat) : ∀ m', m' < 3 → nr (stp N m) m' = if m' = m then 0 else nr N m' := by
  have h := mkN_r (c := N % 64) (by omega) (ite_lt5 (p := m = 0) (nr_lt N 0)) (ite_lt5 (p := m = 1) (nr_lt N 1)) (ite_lt5 (p := m = 2) (nr_lt N 2))
  refine three ?_ ?_ ?_
  · rw [show nr (stp N m) 0 = _ from h.1]
    by_cases e : m = 0
    · rw [if_pos e, if_pos e.symm]
    · rw [if_neg e, if_neg (fun c => e c.symm)]
  · rw [show nr (stp N m) 1 = _ from h.2.1]
    by_cases e : m = 1
    · rw [if_pos e, if_pos e.symm]
    · rw [if_neg e, if_neg (fun c => e c.symm)]
  · rw [show nr (stp N m) 2 = _ from h.2.2]
    by_cases e : m = 2
    · rw [if_pos e, if_pos e.symm]
    · rw [if_neg e, if_neg (fun c => e c.symm)]
theorem VN.stp (hV : VN nl nm N) (m : Nat) : VN nl nm (stp N m) := by
  refine ⟨mkN_lt (by omega) (ite_lt5 (nr_lt N 0)) (ite_lt5 (nr_lt N 1)) (ite_lt5 (nr_lt N 2)), by rw [stp_c]; exact hV.2.1, fun m' hm' hle => ?_⟩
  rw [stp_r m m' hm', hV.2.2 m' hm' hle]
  split <;> rfl
theorem fld_0 {c x0 x1 x2 y0 y1 y2 : Nat} (hc : c < 64) (h0 : x0 ≤ 1) (h1 : x1 ≤ 1) (h2 : x2 ≤ 1) (g0 : y0 < 4) (g1 : y1 < 4) (g2 : y2 < 4) : (fld c x0 x1 x2 y0 y1 y2 / 64 % 2 = x0 ∧ fld c x0 x1 x2 y0 y1 y2 - x0 * 64 = fld c 0 x1 x2 y0 y1 y2) ∧ (fld c x0 x1 x2 y0 y1 y2 / 128 % 2 = x1 ∧ fld c x0 x1 x2 y0 y1 y2 - x1 * 128 = fld c x0 0 x2 y0 y1 y2) ∧ (fld c x0 x1 x2 y0 y1 y2 / 256 % 2 = x2 ∧ fld c x0 x1 x2 y0 y1 y2 - x2 * 256 = fld c x0 x1 0 y0 y1 y2) := by
  unfold fld
  refine ⟨⟨?_, ?_⟩, ⟨?_, ?_⟩, ⟨?_, ?_⟩⟩ <;> omega
theorem fld_y {c x0 x1 x2 y0 y1 y2 : Nat} : (fld c x0 x1 x2 y0 y1 y2 - y0 * 512 = fld c x0 x1 x2 0 y1 y2) ∧ (fld c x0 x1 x2 y0 y1 y2 - y1 * 2048 = fld c x0 x1 x2 y0 0 y2) ∧ (fld c x0 x1 x2 y0 y1 y2 - y2 * 8192 = fld c x0 x1 x2 y0 y1 0) := by
  unfold fld
  refine ⟨?_, ?_, ?_⟩ <;> omega
theorem stop_ok : ∀ m, m < 3 → fX0_withStopped (nI (cd N)) (nI m) σ = some (nI (cd (stp N m)), σ) := by
  have r0 := nr_lt N 0; have r1 := nr_lt N 1; have r2 := nr_lt N 2
  have q0 := Nat.min_le_right (nr N 0) 1; have q1 := Nat.min_le_right (nr N 1) 1; have q2 := Nat.min_le_right (nr N 2) 1
  have hcd : cd N = fld (N % 64) (min (nr N 0) 1) (min (nr N 1) 1) (min (nr N 2) 1) (nr N 0 - 1) (nr N 1 - 1) (nr N 2 - 1) := rfl
  have hst : ∀ m, cd (stp N m) = cdM (N % 64) (if m = 0 then 0 else nr N 0) (if m = 1 then 0 else nr N 1) (if m = 2 then 0 else nr N 2) := fun m => cd_mk (by omega) (ite_lt5 r0) (ite_lt5 r1) (ite_lt5 r2)
  have hf : ∀ m, m < 3 → fX0_withStopped (nI (cd N)) (nI m) σ = some (nI (cd N - (cd N / 2 ^ (6 + m) % 2) * 2 ^ (6 + m) - ((cd N - (cd N / 2 ^ (6 + m) % 2) * 2 ^ (6 + m)) / 2 ^ (9 + 2 * m) % 4) * 2 ^ (9 + 2 * m)), σ) := by
    intro m hm
    have hs : (3 : Int32) <<< (nI (9 + 2 * m) &&& 31) = nI (3 * 2 ^ (9 + 2 * m)) := by
      rw [show (31 : Int32) = nI 31 from rfl, N_31 (by omega), show (3 : Int32) = nI 3 from rfl, N_shl (by omega) (by
        have : 2 ^ (9 + 2 * m) ≤ 2 ^ 13 := Nat.pow_le_pow_right (by decide) (by omega)
        simp only [Nat.reducePow] at this
        omega)]
    have a1 := and_field (cd N) (6 + m) 1 1 rfl
    have a2 := and_field (cd N - (cd N / 2 ^ (6 + m) % 2 ^ 1) * 2 ^ (6 + m)) (9 + 2 * m) 2 3 rfl
    rw [Nat.one_mul] at a1
    unfold fX0_withStopped
    rw [leftAt_ok, bd_ok, show (6 : Int32) + nI m = nI (6 + m) from nI_add 6 m, shl1 (by omega), hs, N_andn, N_andn, a1, a2]
  refine three ?_ ?_ ?_
  · rw [hf 0 (by omega), hst 0, if_pos rfl, if_neg (by decide), if_neg (by decide), hcd]
    obtain ⟨⟨f1, f2⟩, -, -⟩ := fld_0 (c := N % 64) (by omega) q0 q1 q2 (show nr N 0 - 1 < 4 by omega) (show nr N 1 - 1 < 4 by omega) (show nr N 2 - 1 < 4 by omega)
    have g := (fld_all (c := N % 64) (by omega) (show 0 ≤ 1 by omega) q1 q2 (show nr N 0 - 1 < 4 by omega) (show nr N 1 - 1 < 4 by omega) (show nr N 2 - 1 < 4 by omega)).2.2.2.1
    rw [show 2 ^ (6 + 0) = 64 from rfl, show 2 ^ (9 + 2 * 0) = 512 from rfl, f1, f2, g, fld_y.1]
    rfl
  · rw [hf 1 (by omega), hst 1, if_neg (by decide), if_pos rfl, if_neg (by decide), hcd]
    obtain ⟨-, ⟨f1, f2⟩, -⟩ := fld_0 (c := N % 64) (by omega) q0 q1 q2 (show nr N 0 - 1 < 4 by omega) (show nr N 1 - 1 < 4 by omega) (show nr N 2 - 1 < 4 by omega)
    have g := (fld_all (c := N % 64) (by omega) q0 (show 0 ≤ 1 by omega) q2 (show nr N 0 - 1 < 4 by omega) (show nr N 1 - 1 < 4 by omega) (show nr N 2 - 1 < 4 by omega)).2.2.2.2.1
    rw [show 2 ^ (6 + 1) = 128 from rfl, show 2 ^ (9 + 2 * 1) = 2048 from rfl, f1, f2, g, fld_y.2.1]
    rfl
  · rw [hf 2 (by omega), hst 2, if_neg (by decide), if_neg (by decide), if_pos rfl, hcd]
    obtain ⟨-, -, f1, f2⟩ := fld_0 (c := N % 64) (by omega) q0 q1 q2 (show nr N 0 - 1 < 4 by omega) (show nr N 1 - 1 < 4 by omega) (show nr N 2 - 1 < 4 by omega)
    have g := (fld_all (c := N % 64) (by omega) q0 q1 (show 0 ≤ 1 by omega) (show nr N 0 - 1 < 4 by omega) (show nr N 1 - 1 < 4 by omega) (show nr N 2 - 1 < 4 by omega)).2.2.2.2.2
    rw [show 2 ^ (6 + 2) = 256 from rfl, show 2 ^ (9 + 2 * 2) = 8192 from rfl, f1, f2, g, fld_y.2.2]
    rfl
theorem subm (f g : Nat → Bool) : ∀ n, (∀ i, i < n → f i = true → g i = true) → ms f n + ms (fun i => g i && !f i) n = ms g n := by
  intro n
  induction n with
  | zero => intro _; rfl
  | succ n ih =>
    intro h
    have h1 := ih (fun i hi => h i (by omega))
    have h2 := h n (by omega)
    show (ms f n + b01 (f n) * 2 ^ n) + (ms (fun i => g i && !f i) n + b01 (g n && !f n) * 2 ^ n) = ms g n + b01 (g n) * 2 ^ n
    cases hf : f n
    · rw [Bool.not_false, Bool.and_true]
      have : b01 false * 2 ^ n = 0 := by show 0 * 2 ^ n = 0; omega
      omega
    · rw [h2 hf]
      have : b01 (true && !true) * 2 ^ n = 0 := by show 0 * 2 ^ n = 0; omega
      omega
theorem ms_self {a : Nat} (h : a < 64) : ms (fun i => decide (a / 2 ^ i % 2 = 1)) 6 = a := by
  refine eq64 (ms_lt _ 6) h (fun i hi => ?_)
  rw [ms_bit _ 6 i hi]
  by_cases c : a / 2 ^ i % 2 = 1
  · rw [decide_eq_true c, c]; rfl
  · rw [decide_eq_false c, show a / 2 ^ i % 2 = 0 by omega]; rfl
theorem opn_ok (hV : VN nl nm N) (F : Nat → Bool) (hF : ∀ i, i < 6 → F i = true → N / 2 ^ i % 2 = 1) : cd N - (cd N &&& ms F 6) = cd (N - ms F 6) ∧ VN nl nm (N - ms F 6) ∧ (∀ i, i < 6 → (N - ms F 6) / 2 ^ i % 2 = if F i = true then 0 else N / 2 ^ i % 2) ∧ ∀ m, m < 3 → nr (N - ms F 6) m = nr N m := by
  have hx : ms F 6 < 64 := ms_lt F 6
  have hg := subm F (fun i => decide (N % 64 / 2 ^ i % 2 = 1)) 6 (fun i hi h => by rw [decide_eq_true_iff, bit64 hi]; exact hF i hi h)
  have hy : ms (fun i => decide (N % 64 / 2 ^ i % 2 = 1) && !F i) 6 < 64 := ms_lt _ 6
  have hyb := ms_bit (fun i => decide (N % 64 / 2 ^ i % 2 = 1) && !F i) 6
  rw [ms_self (show N % 64 < 64 by omega)] at hg
  have hand : cd N &&& ms F 6 = ms F 6 := by
    have e1 : cd N &&& ms F 6 = N % 64 &&& ms F 6 := by
      have : ms F 6 &&& 63 = ms F 6 := by rw [show (63 : Nat) = 2 ^ 6 - 1 from rfl, Nat.and_two_pow_sub_one_eq_mod]; omega
      rw [← this, Nat.and_comm (ms F 6), ← Nat.and_assoc, ← Nat.and_assoc, show (63 : Nat) = 2 ^ 6 - 1 from rfl, Nat.and_two_pow_sub_one_eq_mod, Nat.and_two_pow_sub_one_eq_mod, show 2 ^ 6 = 64 from rfl, cd_c]
      rw [Nat.mod_mod]
    rw [e1]
    refine eq64 (Nat.lt_of_le_of_lt Nat.and_le_right hx) hx (fun i hi => ?_)
    rw [and_bit]
    have h1 := ms_bit F 6 i hi
    rw [tb_dm] at h1
    cases h : F i
    · rw [h] at h1
      have : (ms F 6).testBit i = false := b01_0.mp h1
      rw [tb_dm, this, Bool.and_false]
    · rw [h] at h1
      have : (ms F 6).testBit i = true := b01_1.mp h1
      have h2 : (N % 64).testBit i = true := by rw [tb_iff, bit64 hi]; exact hF i hi h
      rw [tb_dm, this, h2]
      rfl
  have hc : (N - ms F 6) % 64 = ms (fun i => decide (N % 64 / 2 ^ i % 2 = 1) && !F i) 6 := by omega
  have hd : (N - ms F 6) / 64 = N / 64 := by omega
  have hr : ∀ m, m < 3 → nr (N - ms F 6) m = nr N m := by
    refine three ?_ ?_ ?_
    · show (N - ms F 6) / 64 % 5 = N / 64 % 5; rw [hd]
    · show (N - ms F 6) / 320 % 5 = N / 320 % 5; rw [show 320 = 64 * 5 from rfl, ← Nat.div_div_eq_div_mul, ← Nat.div_div_eq_div_mul, hd]
    · show (N - ms F 6) / 1600 % 5 = N / 1600 % 5; rw [show 1600 = 64 * 25 from rfl, ← Nat.div_div_eq_div_mul, ← Nat.div_div_eq_div_mul, hd]
  refine ⟨?_, ⟨by have := hV.1; omega, by have := hV.2.1; omega, fun m hm hle => by rw [hr m hm]; exact hV.2.2 m hm hle⟩, fun i hi => ?_, hr⟩
  · rw [hand]
    have e : cd (N - ms F 6) = cdM ((N - ms F 6) % 64) (nr N 0) (nr N 1) (nr N 2) := by
      rw [← hr 0 (by omega), ← hr 1 (by omega), ← hr 2 (by omega)]
      rfl
    rw [e, hc, show cd N = cdM (N % 64) (nr N 0) (nr N 1) (nr N 2) from rfl]
    unfold cdM fld
    omega
  · rw [← bit64 hi, hc, hyb i hi]
    cases h : F i
    · rw [Bool.not_false, Bool.and_true, if_neg (by decide), bit64 hi]
      by_cases c : N / 2 ^ i % 2 = 1
      · rw [decide_eq_true c, c]; rfl
      · rw [decide_eq_false c, show N / 2 ^ i % 2 = 0 by omega]; rfl
    · rw [Bool.not_true, Bool.and_false, if_pos rfl]
      rfl
end Open
