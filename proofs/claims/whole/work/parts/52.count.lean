/-! counting -/
def sm (f : Nat → Nat) : Nat → Nat
  | 0 => 0
  | n + 1 => sm f n + f n
theorem sm_cong {f g : Nat → Nat} : ∀ n, (∀ i, i < n → f i = g i) → sm f n = sm g n := by
  intro n
  induction n with
  | zero => intro _; rfl
  | succ n ih => intro h; show sm f n + f n = sm g n + g n; rw [ih (fun i hi => h i (by omega)), h n (by omega)]
theorem sm_up (f : Nat → Nat) (n : Nat) : ∀ d, (∀ i, n ≤ i → i < n + d → f i = 0) → sm f (n + d) = sm f n := by
  intro d
  induction d with
  | zero => intro _; rfl
  | succ d ih => intro h; show sm f (n + d) + f (n + d) = sm f n; rw [ih (fun i a b => h i a (by omega)), h (n + d) (by omega) (by omega), Nat.add_zero]
theorem sm_to {f : Nat → Nat} {n m : Nat} (h : n ≤ m) (hz : ∀ i, n ≤ i → i < m → f i = 0) : sm f m = sm f n := by
  have := sm_up f n (m - n) (fun i a b => hz i a (by omega))
  rwa [show n + (m - n) = m by omega] at this
theorem sm_le {f : Nat → Nat} (h : ∀ i, f i ≤ 1) : ∀ n, sm f n ≤ n := by
  intro n
  induction n with
  | zero => exact Nat.le_refl _
  | succ n ih => have := h n; show sm f n + f n ≤ n + 1; omega
def bcE (a0 : Int32) : Int32 :=
  let y1 := a0 - (((a0).toUInt32 >>> (((1 : Int32)).toUInt32 &&& Int32.toUInt32 31)).toInt32 &&& (1431655765 : Int32))
  let y2 := (y1 &&& (858993459 : Int32)) + (((y1).toUInt32 >>> (((2 : Int32)).toUInt32 &&& Int32.toUInt32 31)).toInt32 &&& (858993459 : Int32))
  let y3 := (y2 + ((y2).toUInt32 >>> (((4 : Int32)).toUInt32 &&& Int32.toUInt32 31)).toInt32) &&& (252645135 : Int32)
  let y4 := y3 + ((y3).toUInt32 >>> (((8 : Int32)).toUInt32 &&& Int32.toUInt32 31)).toInt32
  let y5 := y4 + ((y4).toUInt32 >>> (((16 : Int32)).toUInt32 &&& Int32.toUInt32 31)).toInt32
  y5 &&& (63 : Int32)
theorem bc_key : ∀ x, x < 64 → bcE (nI x) = nI (sm (fun i => x / 2 ^ i % 2) 6) := by decide +kernel
theorem bc_ok {x : Nat} {σ : Sg} (hx : x < 64) : fJ6_bitCount_0f7a4 (nI x) σ = some (nI (sm (fun i => x / 2 ^ i % 2) 6), σ) := by
  have h : fJ6_bitCount_0f7a4 (nI x) σ = some (bcE (nI x), σ) := rfl
  rw [h, bc_key x hx]
theorem bhi {nl nm N l : Nat} (hV : VN nl nm N) (hl : l < 6) (h : nl ≤ l) : N / 2 ^ l % 2 = 0 := by
  have h1 : N % 64 < 2 ^ l := Nat.lt_of_lt_of_le hV.2.1 (Nat.pow_le_pow_right (by decide) h)
  rw [← bit64 hl, Nat.div_eq_of_lt h1]
theorem mask_hi {x n : Nat} (hx : x < 2 ^ n) {i : Nat} (h : n ≤ i) : x / 2 ^ i % 2 = 0 := by
  have h1 : x < 2 ^ i := Nat.lt_of_lt_of_le hx (Nat.pow_le_pow_right (by decide) h)
  rw [Nat.div_eq_of_lt h1]
section Cnt
variable {A : Nat → Nat → Nat} {nl nm N : Nat} {now : Int32} {σ μ : Sg}
theorem sm_rn (hV : VN nl nm N) (hm : nm ≤ 3) : sm (fun i => rnm N / 2 ^ i % 2) 6 = sm (fun m => min (nr N m) 1) nm := by
  rw [sm_to (n := 3) (by omega) (fun i h1 h2 => mask_hi (n := 3) (rnm_lt N) h1), sm_cong (g := fun m => min (nr N m) 1) 3 (fun i hi => rnm_bit N i hi), sm_to hm (fun i h1 h2 => by show min (nr N i) 1 = 0; rw [hV.2.2 i h2 h1]; rfl)]
theorem sm_cl (hV : VN nl nm N) (hl : nl ≤ 6) : sm (fun i => N % 64 / 2 ^ i % 2) 6 = sm (fun l => N / 2 ^ l % 2) nl := by
  rw [sm_cong (g := fun l => N / 2 ^ l % 2) 6 (fun i hi => bit64 hi N), sm_to hl (fun i h1 h2 => bhi hV h2 h1)]
theorem size_ok {x : Nat} (hx : x < 64) : fX6_size (nI x) μ = some (nI (sm (fun i => x / 2 ^ i % 2) 6), μ) := by
  unfold fX6_size
  refine lc3 (fun _ => nI x) (fun i => nI (sm (fun i => x / 2 ^ i % 2) i)) (fun i => nI i) (fun _ => μ) 6 _ (fun i hi k => ?_) (fun k => ?_) (by decide) rfl rfl rfl rfl
  · unfold fX6_size_L4
    rw [if_neg (show ¬ (6 : Int32) ≤ nI i by rw [litI, N_le (by omega) (by omega)]; omega), bitN (by omega) (by omega), sv_ok, sv_ok, nI_add, show (1 : Int32) = nI 1 from rfl, nI_add]
    rfl
  · unfold fX6_size_L4
    rw [if_pos (by decide)]
theorem sumOf_ok {o n : Nat} (f : Nat → Nat) (hf : ∀ i, i < n → f i < 1000) (ho : o + n ≤ 42) (h : ∀ i, i < n → μ 1 (o + i) = nI (f i)) : fX6_sumOf (nI o) (nI n) μ = some (nI (sm (fun i => min (f i) 1) n), μ) := by
  unfold fX6_sumOf
  refine lc4 (fun _ => nI o) (fun _ => nI n) (fun i => nI (sm (fun i => min (f i) 1) i)) (fun i => nI i) (fun _ => μ) n _ (fun i hi k => ?_) (fun k => ?_) (Nat.lt_of_le_of_lt (show n ≤ 42 by omega) (by decide)) rfl rfl rfl rfl rfl
  · have := hf i hi
    unfold fX6_sumOf_L5 fX6_sumOf_29
    rw [if_neg (show ¬ nI n ≤ nI i by rw [N_le (by omega) (by omega)]; omega), nI_add, N_gd (by omega) (by omega), N_cl (by omega), h i hi]
    by_cases hz : f i = 0
    · rw [if_pos (by rw [hz]; decide), sv_ok, sv_ok, show (0 : Int32) = nI 0 from rfl, nI_add, show (1 : Int32) = nI 1 from rfl, nI_add, show sm (fun i => min (f i) 1) (i + 1) = sm (fun i => min (f i) 1) i + min (f i) 1 from rfl, hz]
      rfl
    · rw [if_neg (show ¬ nI (f i) ≤ 0 by rw [litI, N_le (by omega) (by omega)]; omega), sv_ok, sv_ok, show (1 : Int32) = nI 1 from rfl, nI_add, nI_add, show sm (fun i => min (f i) 1) (i + 1) = sm (fun i => min (f i) 1) i + min (f i) 1 from rfl, show min (f i) 1 = 1 by omega]
  · unfold fX6_sumOf_L5
    rw [if_pos (show nI n ≤ nI n by rw [N_le (by omega) (by omega)]; omega)]
theorem mk6_low (f : Nat → Bool) : ∀ b, b < 6 → (mk6 f % 2 ^ b = 0 ↔ ∀ i, i < b → f i = false) := by
  have h0 := b01_le (f 0); have h1 := b01_le (f 1); have h2 := b01_le (f 2); have h3 := b01_le (f 3); have h4 := b01_le (f 4); have h5 := b01_le (f 5)
  have k : ∀ i, f i = false ↔ b01 (f i) = 0 := fun i => b01_0.symm
  unfold mk6
  refine six ?_ ?_ ?_ ?_ ?_ ?_
  · exact ⟨fun _ i hi => by omega, fun _ => Nat.mod_one _⟩
  · refine ⟨fun h i hi => ?_, fun h => ?_⟩
    · rw [k, show i = 0 by omega]; simp only [Nat.reducePow] at h; omega
    · have := (k 0).mp (h 0 (by omega)); simp only [Nat.reducePow]; omega
  · refine ⟨fun h i hi => ?_, fun h => ?_⟩
    · simp only [Nat.reducePow] at h
      have : i = 0 ∨ i = 1 := by omega
      rcases this with rfl | rfl <;> rw [k] <;> omega
    · have a0 := (k 0).mp (h 0 (by omega)); have a1 := (k 1).mp (h 1 (by omega)); simp only [Nat.reducePow]; omega
  · refine ⟨fun h i hi => ?_, fun h => ?_⟩
    · simp only [Nat.reducePow] at h
      have : i = 0 ∨ i = 1 ∨ i = 2 := by omega
      rcases this with rfl | rfl | rfl <;> rw [k] <;> omega
    · have a0 := (k 0).mp (h 0 (by omega)); have a1 := (k 1).mp (h 1 (by omega)); have a2 := (k 2).mp (h 2 (by omega)); simp only [Nat.reducePow]; omega
  · refine ⟨fun h i hi => ?_, fun h => ?_⟩
    · simp only [Nat.reducePow] at h
      have : i = 0 ∨ i = 1 ∨ i = 2 ∨ i = 3 := by omega
      rcases this with rfl | rfl | rfl | rfl <;> rw [k] <;> omega
    · have a0 := (k 0).mp (h 0 (by omega)); have a1 := (k 1).mp (h 1 (by omega)); have a2 := (k 2).mp (h 2 (by omega)); have a3 := (k 3).mp (h 3 (by omega)); simp only [Nat.reducePow]; omega
  · refine ⟨fun h i hi => ?_, fun h => ?_⟩
    · simp only [Nat.reducePow] at h
      have : i = 0 ∨ i = 1 ∨ i = 2 ∨ i = 3 ∨ i = 4 := by omega
      rcases this with rfl | rfl | rfl | rfl | rfl <;> rw [k] <;> omega
    · have a0 := (k 0).mp (h 0 (by omega)); have a1 := (k 1).mp (h 1 (by omega)); have a2 := (k 2).mp (h 2 (by omega)); have a3 := (k 3).mp (h 3 (by omega)); have a4 := (k 4).mp (h 4 (by omega)); simp only [Nat.reducePow]; omega
theorem lb_self {c b : Nat} (hb : b < 6) : lb A c b = b ↔ ∀ i, i < b → J A c b i = false := by
  obtain ⟨h1, h2, h3⟩ := lb_in (A := A) (c := c) hb
  constructor
  · intro e i hi
    cases h : J A c b i
    · rfl
    · have := lb_min i (by omega) h; omega
  · intro h
    by_cases e : lb A c b = b
    · exact e
    · have := h _ (show lb A c b < b by omega)
      rw [J_no] at this
      exact absurd h3 this
noncomputable def isl (A : Nat → Nat → Nat) (nm N b : Nat) : Nat := if lb A (N % 64) b = b ∧ lvP A N nm b = true then 1 else 0
theorem setF {k : Nat} (hk : k < 31) : fX5_setOfFirst (nI k) σ = some (nI (2 ^ k - 1), σ) := by
  unfold fX5_setOfFirst
  rw [shl1 hk, show (1 : Int32) = nI 1 from rfl, N_sub (Nat.two_pow_pos k)]
theorem cli_ok (hC : CG A nl nm σ) (hV : VN nl nm N) : fX3_countLiveIslands (nI (cd N)) σ = some (nI (sm (isl A nm N) 6), σ) := by
  have hc := pow_le64 hC.2.1 hV.2.1
  have hlv := mk6_lt (lvP A N nm)
  unfold fX3_countLiveIslands
  rw [live_ok hC hV, bd_ok]
  refine lc4 (fun _ => nI (cd N)) (fun _ => nI (mk6 (lvP A N nm))) (fun i => nI (sm (isl A nm N) i)) (fun i => nI i) (fun _ => σ) 6 _ (fun i hi k => ?_) (fun k => ?_) (by decide) rfl rfl rfl rfl rfl
  · unfold fX3_countLiveIslands_L11
    rw [if_neg (show ¬ (6 : Int32) ≤ nI i by rw [litI, N_le (by omega) (by omega)]; omega), closed_ok, bd_ok, bw_ok (by omega), bd_ok, (hC.2.2.2.2.2.2.2 _ hV.2.1 i hi).1, setF (by omega), bd_ok, N_and, Nat.and_two_pow_sub_one_eq_mod]
    have hmm := mk6_lt (J A (N % 64) i)
    have hle := Nat.mod_le (mk6 (J A (N % 64) i)) (2 ^ i)
    have key : (nI (mk6 (J A (N % 64) i) % 2 ^ i) = 0) ↔ lb A (N % 64) i = i := by
      rw [litI, N_eq (by omega) (by omega), mk6_low _ i hi, lb_self hi]
    unfold fX3_countLiveIslands_49 fX3_countLiveIslands_68
    by_cases h : lb A (N % 64) i = i
    · rw [if_pos (key.mpr h), if_neg b1, bit_ok (by omega) (by omega), bd_ok, mk6_bit _ i hi]
      cases hl : lvP A N nm i
      · have e : sm (isl A nm N) (i + 1) = sm (isl A nm N) i := by
          show sm (isl A nm N) i + (if _ then 1 else 0) = _
          rw [if_neg (by rw [hl]; simp), Nat.add_zero]
        rw [if_pos (show nI (b01 false) = 0 from rfl), sv_ok, show (1 : Int32) = nI 1 from rfl, nI_add, e]
      · have e : sm (isl A nm N) (i + 1) = sm (isl A nm N) i + 1 := by
          show sm (isl A nm N) i + (if _ then 1 else 0) = _
          rw [if_pos ⟨h, hl⟩]
        rw [if_neg (show ¬ nI (b01 true) = 0 by decide), sv_ok, sv_ok, show (1 : Int32) = nI 1 from rfl, nI_add, nI_add, e]
    · have e : sm (isl A nm N) (i + 1) = sm (isl A nm N) i := by
        show sm (isl A nm N) i + (if _ then 1 else 0) = _
        rw [if_neg (fun c => h c.1), Nat.add_zero]
      rw [if_neg (fun c => h (key.mp c)), if_pos b0, sv_ok, show (1 : Int32) = nI 1 from rfl, nI_add, e]
  · unfold fX3_countLiveIslands_L11
    rw [if_pos (by decide)]
theorem mli_ok (hL : Laid A nm N μ) : fX6_liveIslands μ = some (nI (sm (isl A nm N) 6), μ) := by
  unfold fX6_liveIslands
  refine lc2 (fun i => nI (sm (isl A nm N) i)) (fun i => nI i) (fun _ => μ) 6 _ (fun i hi k => ?_) (fun k => ?_) (by decide) rfl rfl rfl
  · have hlb := (lb_in (A := A) (c := N % 64) hi).1
    unfold fX6_liveIslands_L4 fX6_liveIslands_34 fX6_liveIslands_35
    rw [if_neg (show ¬ (6 : Int32) ≤ nI i by rw [litI, N_le (by omega) (by omega)]; omega), N_gd hi (by omega), N_cl (by omega), hL.2.2.1 i hi]
    by_cases h : lb A (N % 64) i = i
    · have h8 := hL.2.2.2.2 i hi
      rw [h] at h8
      rw [if_pos (by rw [h]), N_gd hi (by omega), h8]
      cases hl : lvP A N nm i
      · have e : sm (isl A nm N) (i + 1) = sm (isl A nm N) i := by
          show sm (isl A nm N) i + (if _ then 1 else 0) = _
          rw [if_neg (by rw [hl]; simp), Nat.add_zero]
        rw [if_pos (show nI (b01 false) = 0 from rfl), sv_ok, sv_ok, show (0 : Int32) = nI 0 from rfl, nI_add, show (1 : Int32) = nI 1 from rfl, nI_add, e, Nat.add_zero]
      · have e : sm (isl A nm N) (i + 1) = sm (isl A nm N) i + 1 := by
          show sm (isl A nm N) i + (if _ then 1 else 0) = _
          rw [if_pos ⟨h, hl⟩]
        rw [if_neg (show ¬ nI (b01 true) = 0 by decide), sv_ok, sv_ok, show (1 : Int32) = nI 1 from rfl, nI_add, nI_add, e]
    · have e : sm (isl A nm N) (i + 1) = sm (isl A nm N) i := by
        show sm (isl A nm N) i + (if _ then 1 else 0) = _
        rw [if_neg (fun c => h c.1), Nat.add_zero]
      rw [if_neg (by rw [N_eq (by omega) (by omega)]; exact h), sv_ok, sv_ok, show (0 : Int32) = nI 0 from rfl, nI_add, show (1 : Int32) = nI 1 from rfl, nI_add, e, Nat.add_zero]
  · unfold fX6_liveIslands_L4
    rw [if_pos (by decide)]
theorem sp_count : SP1 Rel0 fX5_count fX6_count := by
  rintro σ μ hR a
  obtain ⟨⟨A, nl, nm, N, now, hC, hV, h9, h10, hM, hN, h41⟩, hK⟩ := hR
  have hR : Rel0 σ μ := ⟨⟨A, nl, nm, N, now, hC, hV, h9, h10, hM, hN, h41⟩, hK⟩
  have hl6 := hC.2.1
  have hm3 := hC.2.2.1
  unfold fX5_count fX6_count
  obtain ⟨⟨v, τ⟩, e, fr, hL⟩ := layNow_ok hM hV hN
  dsimp only at fr hL
  have hR2 : Rel0 σ τ := hR.cong (fun _ _ => rfl) (fun k h1 h2 => fr k (by omega))
  have f1 : τ 1 = μ 1 := fr 1 (by omega)
  have hMt : MG A nl nm τ := hM.cong f1
  have t39 : τ 1 39 = nI nl := hMt.2.2.2.1
  have t40 : τ 1 40 = nI nm := hMt.2.2.2.2.1
  rw [e, bd_ok]
  by_cases a0 : a = 0
  · rw [if_pos a0, if_pos a0, show (39 : Int32) = nI 39 from rfl, N_gd (by omega) (by omega), N_cl (by omega), t39, hC.2.2.2.1]
    exact ⟨_, _, _, rfl, rfl, hR2⟩
  rw [if_neg a0, if_neg a0]
  by_cases a1 : a = 1
  · rw [if_pos a1, if_pos a1, show (40 : Int32) = nI 40 from rfl, N_gd (by omega) (by omega), N_cl (by omega), t40, hC.2.2.2.2.1]
    exact ⟨_, _, _, rfl, rfl, hR2⟩
  rw [if_neg a1, if_neg a1]
  by_cases a2 : a = 2
  · have hs := sumOf_ok (μ := τ) (o := 18) (n := nl) (fun i => N / 2 ^ i % 2) (fun i _ => by have := Nat.mod_lt (N / 2 ^ i) (show 0 < 2 by decide); omega) (by omega) (fun i hi => by rw [f1]; exact hN.1 i (by omega))
    rw [if_pos a2, if_pos a2, h9, closed_ok, bd_ok, bc_ok (by omega), bd_ok, show (39 : Int32) = nI 39 from rfl, N_gd (by omega) (by omega), N_cl (by omega), t39, show (18 : Int32) = nI 18 from rfl, hs, bd_ok, sm_cl hV hl6, sm_cong (f := fun i => min (N / 2 ^ i % 2) 1) (g := fun i => N / 2 ^ i % 2) nl (fun i hi => by show min (N / 2 ^ i % 2) 1 = N / 2 ^ i % 2; omega)]
    exact ⟨_, _, _, rfl, rfl, hR2⟩
  rw [if_neg a2, if_neg a2]
  by_cases a3 : a = 3
  · have hs := sumOf_ok (μ := τ) (o := 36) (n := nm) (fun i => nr N i) (fun i _ => by have := nr_lt N i; omega) (by omega) (fun i hi => by rw [f1]; exact hN.2 i (by omega))
    rw [if_pos a3, if_pos a3, h9, running_ok, bd_ok, bc_ok (by have := rnm_lt N; omega), bd_ok, show (40 : Int32) = nI 40 from rfl, N_gd (by omega) (by omega), N_cl (by omega), t40, show (36 : Int32) = nI 36 from rfl, hs, bd_ok, sm_rn hV hm3]
    exact ⟨_, _, _, rfl, rfl, hR2⟩
  rw [if_neg a3, if_neg a3]
  by_cases a4 : a = 4
  · rw [if_pos a4, if_pos a4, h9, ready_ok, bd_ok, bc_ok (by have := rdm_lt N; omega), bd_ok, ready_m hMt hV hL, bd_ok, size_ok (by have := rdm_lt N; omega), bd_ok]
    exact ⟨_, _, _, rfl, rfl, hR2⟩
  rw [if_neg a4, if_neg a4]
  by_cases a5 : a = 5
  · rw [if_pos a5, if_pos a5, h9, live_ok hC hV, bd_ok, bc_ok (mk6_lt _), bd_ok, live_m hL, bd_ok, size_ok (mk6_lt _), bd_ok]
    exact ⟨_, _, _, rfl, rfl, hR2⟩
  rw [if_neg a5, if_neg a5]
  by_cases a6 : a = 6
  · rw [if_pos a6, if_pos a6, h9, cli_ok hC hV, bd_ok, mli_ok hL, bd_ok]
    exact ⟨_, _, _, rfl, rfl, hR2⟩
  rw [if_neg a6, if_neg a6]
  by_cases a7 : a = 7
  · rw [if_pos a7, if_pos a7, show (41 : Int32) = nI 41 from rfl, N_gd (by omega) (by omega), N_cl (by omega), f1, h41, h10]
    exact ⟨_, _, _, rfl, rfl, hR2⟩
  rw [if_neg a7, if_neg a7]
  by_cases a8 : a = 8
  · obtain ⟨kp, k1, k2, k3, -⟩ := hK
    have c0 := k3 0 (by omega)
    have c1 := k3 1 (by omega)
    rw [if_pos a8, if_pos a8, k2, show (0 : Int32) = nI 0 from rfl, N_gd (by omega) (by omega), N_cl (by omega), fr 3 (by omega), c0]
    unfold fX6_count_143 fX6_count_157
    rw [show (1 : Int32) = nI 1 from rfl, N_gd (by omega) (by omega), N_gd (by omega) (by omega), N_cl (by omega), fr 3 (by omega), c1]
    have : kp = 0 ∨ kp = 1 ∨ kp = 2 ∨ kp = 3 := by omega
    rcases this with rfl | rfl | rfl | rfl
    · exact ⟨_, _, _, rfl, rfl, hR2⟩
    · exact ⟨_, _, _, rfl, rfl, hR2⟩
    · exact ⟨_, _, _, rfl, rfl, hR2⟩
    · exact ⟨_, _, _, rfl, rfl, hR2⟩
  rw [if_neg a8, if_neg a8]
  exact ⟨_, _, _, rfl, rfl, hR2⟩
end Cnt
