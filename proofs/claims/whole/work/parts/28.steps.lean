/-! which steps can be done -/
noncomputable def ckB (A : Nat → Nat → Nat) (nm N m : Nat) : Bool := decide (A 4 m = 0) || (lvP A N nm (A 3 m) && decide (dr A (N % 64) (A 3 m) + A 4 m ≤ pwP A (N % 64) N nm (A 3 m)))
noncomputable def cyB (A : Nat → Nat → Nat) (nm N l : Nat) : Bool := (lvP A N nm (A 0 l) || lvP A N nm (A 1 l)) && decide (dr A (N % 64 + 2 ^ l) (A 0 l) ≤ pwP A (N % 64 + 2 ^ l) N nm (A 0 l))
noncomputable def cs (A : Nat → Nat → Nat) (nl nm N s : Nat) : Bool := if s = 0 then true else if s < 4 then (decide (s - 1 < nm) && (decide (nr N (s - 1) = 0) && ckB A nm N (s - 1))) else (decide (s - 4 < nl) && (decide (N / 2 ^ (s - 4) % 2 = 0) && cyB A nm N (s - 4)))
section Steps
variable {A : Nat → Nat → Nat} {nl nm N : Nat} {σ : Sg}
theorem cs_0 : cs A nl nm N 0 = true := rfl
theorem cs_m {m : Nat} (hm : m < 3) : cs A nl nm N (1 + m) = (decide (m < nm) && (decide (nr N m = 0) && ckB A nm N m)) := by
  unfold cs
  rw [if_neg (by omega), if_pos (by omega), show 1 + m - 1 = m by omega]
theorem cs_l {l : Nat} : cs A nl nm N (4 + l) = (decide (l < nl) && (decide (N / 2 ^ l % 2 = 0) && cyB A nm N l)) := by
  unfold cs
  rw [if_neg (by omega), if_neg (by omega), show 4 + l - 4 = l by omega]
theorem bit64 {l : Nat} (hl : l < 6) (N : Nat) : N % 64 / 2 ^ l % 2 = N / 2 ^ l % 2 := by
  have := low6 l hl (N % 64) (N / 64)
  rw [Nat.mod_add_div] at this
  exact this.symm
theorem add_lt {c l nl : Nat} (hc : c < 2 ^ nl) (hl : l < nl) (hb : c / 2 ^ l % 2 = 0) : c + 2 ^ l < 2 ^ nl := by
  rw [← or_1 hb]
  exact Nat.or_lt_two_pow hc (Nat.pow_lt_pow_right (by decide) hl)
theorem crank_ok (hG : CG A nl nm σ) (hV : VN nl nm N) {m : Nat} (hm : m < 3) : fX3_canCrank (nI (N % 64)) (nI (rdm N)) (nI (mk6 (lvP A N nm))) (nI m) σ = some (nI (b01 (ckB A nm N m)), σ) := by
  have hG' := hG
  obtain ⟨hA, hl, hm3, h4, h5, h6, h7, h8⟩ := hG
  obtain ⟨a3, a4, a5, a6⟩ := hA.2 m hm
  have hp := pwP_le hA (N % 64) N (A 3 m) nm hm3
  have hd := dr_le A (fun l hl => (hA.1 l hl).2.2) (N % 64) (A 3 m)
  unfold fX3_canCrank
  rw [N_gd hm (by omega), N_cl (by omega), (h7 m hm).2.1, sv_ok, N_gd hm (by omega), (h7 m hm).1, sv_ok]
  unfold ckB
  by_cases h0 : A 4 m = 0
  · rw [if_pos (show nI (A 4 m) = 0 by rw [h0]; rfl)]
    simp only [h0, decide_true, Bool.true_or]
    rfl
  · rw [if_neg (show ¬ nI (A 4 m) = 0 by rw [litI, N_eq (by omega) (by omega)]; exact h0), bit_ok (Nat.lt_trans (mk6_lt _) (by omega)) (by omega), bd_ok, mk6_bit _ _ a3]
    simp only [h0, decide_false, Bool.false_or]
    cases hv : lvP A N nm (A 3 m)
    · rw [if_pos (show nI (b01 false) = 0 from rfl)]
      rfl
    · rw [if_neg (show ¬ nI (b01 true) = 0 by decide), spareOf_ok hG' hV.2.1 a3, bd_ok]
      by_cases hh : dr A (N % 64) (A 3 m) + A 4 m ≤ pwP A (N % 64) N nm (A 3 m)
      · rw [if_neg (by rw [cmpS (by omega) (by omega) (by omega)]; omega)]
        simp only [hh, decide_true, Bool.true_and]
        rfl
      · rw [if_pos (by rw [cmpS (by omega) (by omega) (by omega)]; omega)]
        simp only [hh, decide_false, Bool.true_and]
        rfl
theorem carry_ok (hG : CG A nl nm σ) (hV : VN nl nm N) {l : Nat} (hlt : l < nl) (hb : N / 2 ^ l % 2 = 0) : fX3_canCarry (nI (N % 64)) (nI (rdm N)) (nI (mk6 (lvP A N nm))) (nI l) σ = some (nI (b01 (cyB A nm N l)), σ) := by
  have hG' := hG
  obtain ⟨hA, hl, hm3, h4, h5, h6, h7, h8⟩ := hG
  have hl6 : l < 6 := by omega
  obtain ⟨a0, a1, a2⟩ := hA.1 l hl6
  have hp := pwP_le hA (N % 64 + 2 ^ l) N (A 0 l) nm hm3
  have hd := dr_le A (fun l hl => (hA.1 l hl).2.2) (N % 64 + 2 ^ l) (A 0 l)
  have hb6 : N % 64 / 2 ^ l % 2 = 0 := by rw [bit64 hl6]; exact hb
  have fin : ∀ t : Bool, fX3_canCarry_43 (nI (N % 64)) (nI (rdm N)) (nI l) (nI (A 0 l)) (nI (b01 t)) σ = some (nI (b01 (t && decide (dr A (N % 64 + 2 ^ l) (A 0 l) ≤ pwP A (N % 64 + 2 ^ l) N nm (A 0 l)))), σ) := by
    intro t
    unfold fX3_canCarry_43
    cases t
    · rw [if_pos (show nI (b01 false) = 0 from rfl)]
      rfl
    · rw [if_neg (show ¬ nI (b01 true) = 0 by decide), shl1 (by omega), N_or, or_1 hb6, spareOf_ok hG' (add_lt hV.2.1 hlt hb6) a0, bd_ok, show (0 : Int32) = nI 0 from rfl]
      by_cases hh : dr A (N % 64 + 2 ^ l) (A 0 l) ≤ pwP A (N % 64 + 2 ^ l) N nm (A 0 l)
      · rw [if_neg (by rw [cmpS (by omega) (by omega) (by omega)]; omega)]
        simp only [hh, decide_true, Bool.true_and]
        rfl
      · rw [if_pos (by rw [cmpS (by omega) (by omega) (by omega)]; omega)]
        simp only [hh, decide_false, Bool.true_and]
        rfl
  unfold fX3_canCarry
  rw [N_gd hl6 (by omega), N_cl (by omega), (h6 l hl6).1, sv_ok, bit_ok (Nat.lt_trans (mk6_lt _) (by omega)) (by omega), bd_ok, mk6_bit _ _ a0]
  unfold cyB
  cases h0 : lvP A N nm (A 0 l)
  · rw [if_pos (show nI (b01 false) = 0 from rfl), N_gd hl6 (by omega), (h6 l hl6).2.1, bit_ok (Nat.lt_trans (mk6_lt _) (by omega)) (by omega), bd_ok, mk6_bit _ _ a1]
    cases h1 : lvP A N nm (A 1 l)
    · rw [if_pos (show nI (b01 false) = 0 from rfl)]
      exact fin false
    · rw [if_neg (show ¬ nI (b01 true) = 0 by decide)]
      exact fin true
  · rw [if_neg (show ¬ nI (b01 true) = 0 by decide)]
    exact fin true
theorem steps_ok (hG : CG A nl nm σ) (hV : VN nl nm N) : fX3_stepsFrom (nI (cd N)) σ = some (nI (ms (cs A nl nm N) 10), σ) := by
  have hG' := hG
  obtain ⟨hA, hl, hm3, h4, h5, h6, h7, h8⟩ := hG
  have hrn := rnm_lt N
  unfold fX3_stepsFrom
  rw [closed_ok, bd_ok, running_ok, bd_ok, ready_ok, bd_ok, live_ok hG' hV, bd_ok]
  refine lc6 (fun _ => nI (N % 64)) (fun _ => nI (rnm N)) (fun _ => nI (rdm N)) (fun _ => nI (mk6 (lvP A N nm))) (fun i => nI (ms (cs A nl nm N) (1 + i))) (fun i => nI i) (fun _ => σ) nm _ (fun i hi k => ?_) (fun k => ?_) (Nat.lt_of_le_of_lt hm3 (by decide)) rfl rfl rfl rfl rfl rfl rfl
  · have hi3 : i < 3 := by omega
    unfold fX3_stepsFrom_L29
    rw [h5, if_neg (show ¬ nI nm ≤ nI i by rw [N_le (by omega) (by omega)]; omega), bit_ok (by omega) (by omega), bd_ok, rnm_bit N i hi3]
    unfold fX3_stepsFrom_75
    have hcs := cs_m (A := A) (nl := nl) (nm := nm) (N := N) hi3
    rw [decide_eq_true hi, Bool.true_and] at hcs
    by_cases h : nr N i = 0
    · rw [decide_eq_true h, Bool.true_and] at hcs
      rw [if_pos (show nI (min (nr N i) 1) = 0 by rw [h]; rfl), crank_ok hG' hV hi3, bd_ok]
      cases hk : ckB A nm N i
      · rw [hk] at hcs
        rw [if_pos (show nI (b01 false) = 0 from rfl), sv_ok, show (1 : Int32) = nI 1 from rfl, nI_add, ← Nat.add_assoc, ms_no _ _ hcs]
      · rw [hk] at hcs
        rw [if_neg (show ¬ nI (b01 true) = 0 by decide), sv_ok, sv_ok, show (1 : Int32) + nI i = nI (1 + i) from nI_add 1 i, shl1 (by omega), N_or, ms_or _ _ hcs, show (1 : Int32) = nI 1 from rfl, nI_add, Nat.add_assoc]
    · rw [decide_eq_false h, Bool.false_and] at hcs
      have hm1 : min (nr N i) 1 = 1 := by omega
      rw [if_neg (show ¬ nI (min (nr N i) 1) = 0 by rw [hm1]; decide), sv_ok, show (1 : Int32) = nI 1 from rfl, nI_add, ← Nat.add_assoc, ms_no _ _ hcs]
  · unfold fX3_stepsFrom_L29
    rw [h5, if_pos (show nI nm ≤ nI nm by rw [N_le (by omega) (by omega)]; omega)]
    have e4 : ms (cs A nl nm N) (1 + nm) = ms (cs A nl nm N) (4 + 0) := by
      have := ms_up (cs A nl nm N) (1 + nm) (3 - nm) (fun i h1 h2 => by
        obtain ⟨m, rfl⟩ : ∃ m, i = 1 + m := ⟨i - 1, by omega⟩
        rw [cs_m (by omega), decide_eq_false (by omega), Bool.false_and])
      rw [← this, show 1 + nm + (3 - nm) = 4 + 0 by omega]
    rw [e4]
    refine lc5 (fun _ => nI (N % 64)) (fun _ => nI (rdm N)) (fun _ => nI (mk6 (lvP A N nm))) (fun i => nI (ms (cs A nl nm N) (4 + i))) (fun i => nI i) (fun _ => σ) nl _ (fun i hi k => ?_) (fun k => ?_) (Nat.lt_of_le_of_lt hl (by decide)) rfl rfl rfl rfl rfl rfl
    · have hi6 : i < 6 := by omega
      unfold fX3_stepsFrom_L84
      rw [h4, if_neg (show ¬ nI nl ≤ nI i by rw [N_le (by omega) (by omega)]; omega), bit_ok (by omega) (by omega), bd_ok, bit64 hi6]
      unfold fX3_stepsFrom_130
      have hcs := cs_l (A := A) (nl := nl) (nm := nm) (N := N) (l := i)
      rw [decide_eq_true hi, Bool.true_and] at hcs
      by_cases h : N / 2 ^ i % 2 = 0
      · rw [decide_eq_true h, Bool.true_and] at hcs
        rw [h, if_pos (show nI 0 = 0 from rfl), carry_ok hG' hV hi h, bd_ok]
        cases hk : cyB A nm N i
        · rw [hk] at hcs
          rw [if_pos (show nI (b01 false) = 0 from rfl), sv_ok, show (1 : Int32) = nI 1 from rfl, nI_add, ← Nat.add_assoc, ms_no _ _ hcs]
        · rw [hk] at hcs
          rw [if_neg (show ¬ nI (b01 true) = 0 by decide), sv_ok, sv_ok, show (4 : Int32) + nI i = nI (4 + i) from nI_add 4 i, shl1 (by omega), N_or, ms_or _ _ hcs, show (1 : Int32) = nI 1 from rfl, nI_add, Nat.add_assoc]
      · rw [decide_eq_false h, Bool.false_and] at hcs
        have h1 : N / 2 ^ i % 2 = 1 := by omega
        rw [h1, if_neg (show ¬ nI 1 = 0 by decide), sv_ok, show (1 : Int32) = nI 1 from rfl, nI_add, ← Nat.add_assoc, ms_no _ _ hcs]
    · unfold fX3_stepsFrom_L84
      rw [h4, if_pos (show nI nl ≤ nI nl by rw [N_le (by omega) (by omega)]; omega)]
      have := ms_up (cs A nl nm N) (4 + nl) (6 - nl) (fun i h1 h2 => by
        obtain ⟨m, rfl⟩ : ∃ m, i = 4 + m := ⟨i - 4, by omega⟩
        rw [cs_l, decide_eq_false (by omega), Bool.false_and])
      rw [← this, show 4 + nl + (6 - nl) = 10 by omega]
/-- whether a goal is reached at a number: both programs ask it so -/
noncomputable def gl (A : Nat → Nat → Nat) (nm : Nat) (g h : Int32) (N : Nat) : Bool := decide ((g &&& (nI (rdm N) ^^^ (-1 : Int32))) = 0) && decide ((h &&& (nI (mk6 (lvP A N nm)) ^^^ (-1 : Int32))) = 0)
theorem reach_ok (hG : CG A nl nm σ) (hV : VN nl nm N) (g h : Int32) : fX3_isReached (nI (cd N)) g h σ = some (nI (b01 (gl A nm g h N)), σ) := by
  unfold fX3_isReached gl
  rw [ready_ok, bd_ok]
  by_cases h1 : (g &&& (nI (rdm N) ^^^ (-1 : Int32))) = 0
  · rw [if_pos h1, live_ok hG hV, bd_ok]
    by_cases h2 : (h &&& (nI (mk6 (lvP A N nm)) ^^^ (-1 : Int32))) = 0
    · rw [if_pos h2]
      simp only [h1, h2, decide_true, Bool.true_and]
      rfl
    · rw [if_neg h2]
      simp only [h1, h2, decide_true, decide_false, Bool.true_and]
      rfl
  · rw [if_neg h1]
    simp only [h1, decide_false, Bool.false_and]
    rfl
end Steps
