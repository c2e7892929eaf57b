/-! what is told, and the rules of the class over it -/
def AOK (A : Nat → Nat → Nat) : Prop := (∀ l, l < 6 → A 0 l < 6 ∧ A 1 l < 6 ∧ A 2 l ≤ 9) ∧ (∀ m, m < 3 → A 3 m < 6 ∧ A 4 m ≤ 20 ∧ A 5 m ≤ 40 ∧ A 6 m ≤ 3)
def CG (A : Nat → Nat → Nat) (nl nm : Nat) (σ : Sg) : Prop := AOK A ∧ nl ≤ 6 ∧ nm ≤ 3 ∧ σ 1 0 = nI nl ∧ σ 1 4 = nI nm ∧ (∀ i, i < 6 → σ 2 i = nI (A 0 i) ∧ σ 3 i = nI (A 1 i) ∧ σ 4 i = nI (A 2 i)) ∧ (∀ i, i < 3 → σ 5 i = nI (A 3 i) ∧ σ 6 i = nI (A 4 i) ∧ σ 7 i = nI (A 5 i) ∧ σ 8 i = nI (A 6 i)) ∧ (∀ c, c < 2 ^ nl → Row A σ c)
def VN (nl nm N : Nat) : Prop := N < 8000 ∧ N % 64 < 2 ^ nl ∧ ∀ m, m < 3 → nm ≤ m → nr N m = 0
theorem CG.cong {A : Nat → Nat → Nat} {nl nm : Nat} {σ τ : Sg} (h : CG A nl nm σ) (hc : ∀ k, k < 12 → τ k = σ k) : CG A nl nm τ := by
  obtain ⟨h1, h2, h3, h4, h5, h6, h7, h8⟩ := h
  refine ⟨h1, h2, h3, ?_, ?_, ?_, ?_, ?_⟩
  · rw [hc 1 (by decide)]; exact h4
  · rw [hc 1 (by decide)]; exact h5
  · rw [hc 2 (by decide), hc 3 (by decide), hc 4 (by decide)]; exact h6
  · rw [hc 5 (by decide), hc 6 (by decide), hc 7 (by decide), hc 8 (by decide)]; exact h7
  · intro c h a ha
    rw [hc 10 (by decide), hc 11 (by decide)]
    exact h8 c h a ha
theorem pow_le64 {nl c : Nat} (h : nl ≤ 6) (hc : c < 2 ^ nl) : c < 64 := Nat.lt_of_lt_of_le hc (Nat.pow_le_pow_right (n := 2) (by decide) h)
noncomputable def lvP (A : Nat → Nat → Nat) (N : Nat) : Nat → Nat → Bool
  | 0, _ => false
  | m + 1, b => lvP A N m b || (decide (0 < nr N m) && J A (N % 64) (A 3 m) b)
noncomputable def pwP (A : Nat → Nat → Nat) (c N : Nat) : Nat → Nat → Nat
  | 0, _ => 0
  | m + 1, b => pwP A c N m b + (if nr N m = 1 ∧ J A c b (A 3 m) = true then A 5 m else 0)
theorem pwP_le {A : Nat → Nat → Nat} (hA : AOK A) (c N : Nat) (b : Nat) : ∀ m, m ≤ 3 → pwP A c N m b ≤ 40 * m := by
  intro m
  induction m with
  | zero => intro _; exact Nat.le_refl _
  | succ m ih =>
    intro hm
    have := ih (by omega)
    have := (hA.2 m (by omega)).2.2.1
    show pwP A c N m b + (if nr N m = 1 ∧ J A c b (A 3 m) = true then A 5 m else 0) ≤ _
    split <;> omega
section Rules
variable {A : Nat → Nat → Nat} {nl nm N : Nat} {σ : Sg}
theorem live_ok (hG : CG A nl nm σ) (hV : VN nl nm N) : fX3_liveBuses (nI (cd N)) σ = some (nI (mk6 (lvP A N nm)), σ) := by
  obtain ⟨hA, hl, hm, h4, h5, h6, h7, h8⟩ := hG
  obtain ⟨v1, v2, v3⟩ := hV
  have hc := pow_le64 hl v2
  unfold fX3_liveBuses
  refine lc3 (fun _ => nI (cd N)) (fun i => nI (mk6 (lvP A N i))) (fun i => nI i) (fun _ => σ) nm _ (fun i hi k => ?_) (fun k => ?_) (Nat.lt_of_le_of_lt hm (by decide)) rfl rfl rfl rfl
  · have hi3 : i < 3 := by omega
    have ha := (hA.2 i hi3).1
    unfold fX3_liveBuses_L4
    rw [h5, if_neg (show ¬ nI nm ≤ nI i by rw [N_le (by omega) (by omega)]; omega), isRunning_ok hi3, bd_ok]
    unfold fX3_liveBuses_46
    by_cases h : nr N i = 0
    · have e : lvP A N (i + 1) = lvP A N i := by
        funext b
        show (lvP A N i b || (decide (0 < nr N i) && _)) = _
        simp [h]
      rw [if_pos (show nI (min (nr N i) 1) = 0 by rw [h]; rfl), sv_ok, show (1 : Int32) = nI 1 from rfl, nI_add, e]
    · have hm1 : min (nr N i) 1 = 1 := by omega
      have e : mk6 (lvP A N (i + 1)) = mk6 (lvP A N i) ||| mk6 (J A (N % 64) (A 3 i)) := by
        rw [mk6_or]
        refine mk6_cong (fun b _ => ?_)
        show (lvP A N i b || (decide (0 < nr N i) && _)) = _
        simp [Nat.pos_of_ne_zero h]
      rw [if_neg (show ¬ nI (min (nr N i) 1) = 0 by rw [hm1]; decide), closed_ok, bd_ok, N_gd hi3 (by omega), N_cl (by omega), (h7 i hi3).1, bw_ok (by omega), bd_ok, (h8 _ v2 _ ha).1, sv_ok, sv_ok, N_or, show (1 : Int32) = nI 1 from rfl, nI_add, e]
  · unfold fX3_liveBuses_L4
    rw [h5, if_pos (show nI nm ≤ nI nm by rw [N_le (by omega) (by omega)]; omega)]
theorem i32_a (a d q : Int32) : a - d + q = a + q - d := by
  rw [Int32.sub_eq_add_neg, Int32.sub_eq_add_neg, Int32.add_assoc, Int32.add_comm (-d) q, ← Int32.add_assoc]
theorem spareOf_ok (hG : CG A nl nm σ) {c b : Nat} (hc : c < 2 ^ nl) (hb : b < 6) : fX3_spareOf (nI c) (nI (rdm N)) (nI b) σ = some (nI (pwP A c N nm b) - nI (dr A c b), σ) := by
  obtain ⟨hA, hl, hm, h4, h5, h6, h7, h8⟩ := hG
  have hc64 := pow_le64 hl hc
  have hrd := rdm_lt N
  unfold fX3_spareOf
  rw [bw_ok (by omega), bd_ok, da_ok (by omega), bd_ok, (h8 c hc b hb).1, (h8 c hc b hb).2, sv_ok]
  refine lc4 (fun _ => nI (rdm N)) (fun _ => nI (mk6 (J A c b))) (fun i => nI (pwP A c N i b) - nI (dr A c b)) (fun i => nI i) (fun _ => σ) nm _ (fun i hi k => ?_) (fun k => ?_) (Nat.lt_of_le_of_lt hm (by decide)) rfl rfl (by
    show -nI (dr A c b) = nI 0 - nI (dr A c b)
    rw [nI_0, Int32.zero_sub]) rfl rfl
  · have hi3 : i < 3 := by omega
    have ha := (hA.2 i hi3).1
    unfold fX3_spareOf_L26
    rw [h5, if_neg (show ¬ nI nm ≤ nI i by rw [N_le (by omega) (by omega)]; omega), bit_ok (by omega) (by omega), bd_ok, rdm_bit N i hi3]
    unfold fX3_spareOf_80
    have key : ∀ x, pwP A c N (i + 1) b = x → k (nI (rdm N)) (nI (mk6 (J A c b))) (nI x - nI (dr A c b)) (nI i + 1) σ = k (nI (rdm N)) (nI (mk6 (J A c b))) (nI (pwP A c N (i + 1) b) - nI (dr A c b)) (nI (i + 1)) σ := by
      intro x hx
      rw [hx, show (1 : Int32) = nI 1 from rfl, nI_add]
    cases hr : (nr N i == 1)
    · rw [if_pos (show nI (b01 false) = 0 from rfl), sv_ok]
      refine key _ ?_
      show pwP A c N i b + (if nr N i = 1 ∧ _ then _ else 0) = _
      rw [if_neg (fun h => by simp [h.1] at hr), Nat.add_zero]
    · rw [if_neg (show ¬ nI (b01 true) = 0 by decide), N_gd hi3 (by omega), N_cl (by omega), (h7 i hi3).1, bit_ok (Nat.lt_trans (mk6_lt _) (by omega)) (by omega), bd_ok, mk6_bit _ _ ha]
      have hr1 : nr N i = 1 := by simpa using hr
      cases hj : J A c b (A 3 i)
      · rw [if_pos (show nI (b01 false) = 0 from rfl), sv_ok]
        refine key _ ?_
        show pwP A c N i b + (if nr N i = 1 ∧ _ then _ else 0) = _
        rw [if_neg (fun h => by rw [hj] at h; exact absurd h.2 (by decide)), Nat.add_zero]
      · rw [if_neg (show ¬ nI (b01 true) = 0 by decide), N_gd hi3 (by omega), (h7 i hi3).2.2.1, sv_ok, sv_ok, i32_a, nI_add]
        refine key _ ?_
        show pwP A c N i b + (if nr N i = 1 ∧ _ then _ else 0) = _
        rw [if_pos ⟨hr1, hj⟩]
  · unfold fX3_spareOf_L26
    rw [h5, if_pos (show nI nm ≤ nI nm by rw [N_le (by omega) (by omega)]; omega)]
theorem spare_ok (hG : CG A nl nm σ) (hV : VN nl nm N) {b : Nat} (hb : b < 6) : fX3_spare (nI (cd N)) (nI b) σ = some (nI (pwP A (N % 64) N nm b) - nI (dr A (N % 64) b), σ) := by
  unfold fX3_spare
  rw [closed_ok, bd_ok, ready_ok, bd_ok, spareOf_ok hG hV.2.1 hb, bd_ok]
theorem cmpS {p d q : Nat} (hp : p < 1000000) (hd : d < 1000000) (hq : q < 1000000) : (nI p - nI d < nI q) = (p < d + q) := by
  rw [Int32.lt_iff_toInt_lt, pk_sub_toInt (by omega) (by omega), nI_toInt (by omega)]
  refine propext ⟨fun h => by omega, fun h => by omega⟩
theorem cmp0 {p d : Nat} (hp : p < 1000000) (hd : d < 1000000) : (0 ≤ nI p - nI d) = (d ≤ p) := by
  rw [Int32.le_iff_toInt_le, pk_sub_toInt (by omega) (by omega), show (0 : Int32).toInt = 0 from rfl]
  refine propext ⟨fun h => by omega, fun h => by omega⟩
/-! sums of bits -/
def ms (f : Nat → Bool) : Nat → Nat
  | 0 => 0
  | s + 1 => ms f s + b01 (f s) * 2 ^ s
theorem ms_lt (f : Nat → Bool) : ∀ n, ms f n < 2 ^ n := by
  intro n
  induction n with
  | zero => show 0 < 1; omega
  | succ n ih =>
    have := b01_le (f n)
    have h2 : b01 (f n) * 2 ^ n ≤ 1 * 2 ^ n := Nat.mul_le_mul_right _ this
    show ms f n + b01 (f n) * 2 ^ n < _
    rw [Nat.pow_succ]
    omega
theorem ms_bit (f : Nat → Bool) : ∀ n s, s < n → ms f n / 2 ^ s % 2 = b01 (f s) := by
  intro n
  induction n with
  | zero => intro s h; omega
  | succ n ih =>
    intro s h
    show (ms f n + b01 (f n) * 2 ^ n) / 2 ^ s % 2 = _
    have hlt := ms_lt f n
    by_cases e : s = n
    · subst e
      rw [Nat.add_mul_div_right _ _ (Nat.two_pow_pos s), Nat.div_eq_of_lt hlt, Nat.zero_add]
      have := b01_le (f s)
      omega
    · have hs : s < n := by omega
      obtain ⟨d, rfl⟩ : ∃ d, n = s + 1 + d := ⟨n - s - 1, by omega⟩
      have e2 : b01 (f (s + 1 + d)) * 2 ^ (s + 1 + d) = 2 ^ s * (2 * (b01 (f (s + 1 + d)) * 2 ^ d)) := by
        rw [Nat.pow_add, Nat.pow_succ]
        simp [Nat.mul_comm, Nat.mul_left_comm, Nat.mul_assoc]
      rw [e2, Nat.add_mul_div_left _ _ (Nat.two_pow_pos s), Nat.add_mul_mod_self_left]
      exact ih s hs
theorem ms_or (f : Nat → Bool) (n : Nat) (h : f n = true) : ms f n ||| 2 ^ n = ms f (n + 1) := by
  rw [or_1 (by rw [Nat.div_eq_of_lt (ms_lt f n)])]
  show _ = ms f n + b01 (f n) * 2 ^ n
  rw [h]
  simp [b01]
theorem ms_no (f : Nat → Bool) (n : Nat) (h : f n = false) : ms f (n + 1) = ms f n := by
  show ms f n + b01 (f n) * 2 ^ n = _
  rw [h]
  simp [b01]
theorem ms_cong {f g : Nat → Bool} : ∀ n, (∀ i, i < n → f i = g i) → ms f n = ms g n := by
  intro n
  induction n with
  | zero => intro _; rfl
  | succ n ih =>
    intro h
    show ms f n + b01 (f n) * 2 ^ n = ms g n + b01 (g n) * 2 ^ n
    rw [ih (fun i hi => h i (by omega)), h n (by omega)]
theorem ms_up (f : Nat → Bool) (n : Nat) : ∀ d, (∀ i, n ≤ i → i < n + d → f i = false) → ms f (n + d) = ms f n := by
  intro d
  induction d with
  | zero => intro _; rfl
  | succ d ih =>
    intro h
    rw [← Nat.add_assoc, ms_no f (n + d) (h _ (by omega) (by omega))]
    exact ih (fun i h1 h2 => h i h1 (by omega))
end Rules
