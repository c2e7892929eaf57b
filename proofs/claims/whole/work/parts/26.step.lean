theorem or_1 {a k : Nat} (h : a / 2 ^ k % 2 = 0) : a ||| 2 ^ k = a + 2 ^ k := by
  have := or_free (a := a) (k := k) (w := 1) (x := 1) (by simpa using h) (by decide)
  rwa [Nat.one_mul] at this
theorem low6 : ∀ l, l < 6 → ∀ c K, (c + 64 * K) / 2 ^ l % 2 = c / 2 ^ l % 2 := by
  refine six ?_ ?_ ?_ ?_ ?_ ?_ <;> simp only [Nat.reducePow] <;> intro c K <;> omega
theorem wst0 {c x1 x2 y1 y2 q : Nat} (hc : c < 64) (h1 : x1 ≤ 1) (h2 : x2 ≤ 1) (g1 : y1 < 4) (g2 : y2 < 4) (hq : q ≤ 3) : (fld c 0 x1 x2 0 y1 y2 ||| 2 ^ 6) ||| q * 2 ^ 9 = fld c 1 x1 x2 q y1 y2 := by
  have e1 : fld c 0 x1 x2 0 y1 y2 ||| 2 ^ 6 = fld c 1 x1 x2 0 y1 y2 := by
    rw [or_1 (by unfold fld; simp only [Nat.reducePow]; omega)]
    unfold fld; simp only [Nat.reducePow]; omega
  rw [e1, or_free (w := 2) (by unfold fld; simp only [Nat.reducePow]; omega) (by omega)]
  unfold fld; simp only [Nat.reducePow]; omega
theorem wst1 {c x0 x2 y0 y2 q : Nat} (hc : c < 64) (h0 : x0 ≤ 1) (h2 : x2 ≤ 1) (g0 : y0 < 4) (g2 : y2 < 4) (hq : q ≤ 3) : (fld c x0 0 x2 y0 0 y2 ||| 2 ^ 7) ||| q * 2 ^ 11 = fld c x0 1 x2 y0 q y2 := by
  have e1 : fld c x0 0 x2 y0 0 y2 ||| 2 ^ 7 = fld c x0 1 x2 y0 0 y2 := by
    rw [or_1 (by unfold fld; simp only [Nat.reducePow]; omega)]
    unfold fld; simp only [Nat.reducePow]; omega
  rw [e1, or_free (w := 2) (by unfold fld; simp only [Nat.reducePow]; omega) (by omega)]
  unfold fld; simp only [Nat.reducePow]; omega
theorem wst2 {c x0 x1 y0 y1 q : Nat} (hc : c < 64) (h0 : x0 ≤ 1) (h1 : x1 ≤ 1) (g0 : y0 < 4) (g1 : y1 < 4) (hq : q ≤ 3) : (fld c x0 x1 0 y0 y1 0 ||| 2 ^ 8) ||| q * 2 ^ 13 = fld c x0 x1 1 y0 y1 q := by
  have e1 : fld c x0 x1 0 y0 y1 0 ||| 2 ^ 8 = fld c x0 x1 1 y0 y1 0 := by
    rw [or_1 (by unfold fld; simp only [Nat.reducePow]; omega)]
    unfold fld; simp only [Nat.reducePow]; omega
  rw [e1, or_free (w := 2) (by unfold fld; simp only [Nat.reducePow]; omega) (by omega)]
  unfold fld; simp only [Nat.reducePow]; omega
theorem wcl {c x0 x1 x2 y0 y1 y2 l : Nat} (hl : l < 6) (hc : c < 64) (hb : c / 2 ^ l % 2 = 0) : fld c x0 x1 x2 y0 y1 y2 ||| 2 ^ l = fld (c ||| 2 ^ l) x0 x1 x2 y0 y1 y2 := by
  have e : fld c x0 x1 x2 y0 y1 y2 = c + 64 * (x0 + 2 * x1 + 4 * x2 + 8 * (y0 + 4 * y1 + 16 * y2)) := by unfold fld; omega
  rw [or_1 (by rw [e, low6 l hl]; exact hb), or_1 hb]
  unfold fld
  omega
theorem started_ok {C m q : Nat} {σ : Sg} (hC : C < 32768) (hm : m < 3) (hq : q ≤ 3) : fX0_withStarted (nI C) (nI m) (nI q) σ = some (nI ((C ||| 2 ^ (6 + m)) ||| q * 2 ^ (9 + 2 * m)), σ) := by
  have hp : 2 ^ (9 + 2 * m) ≤ 2 ^ 13 := Nat.pow_le_pow_right (by decide) (by omega)
  have hmul : q * 2 ^ (9 + 2 * m) ≤ 3 * 2 ^ 13 := Nat.mul_le_mul hq hp
  unfold fX0_withStarted
  rw [leftAt_ok, bd_ok, show (6 : Int32) = nI 6 from rfl, nI_add, shl1 (by omega), N_or, show (31 : Int32) = nI 31 from rfl, N_31 (by omega), N_shl (by omega) (by omega), N_or]
theorem nq_ne {A : Nat → Nat → Nat} {N s m : Nat} (h : s ≠ m + 1) : nq A N s m = tr (nr N m) := if_neg h
theorem nq_eq {A : Nat → Nat → Nat} {N m : Nat} : nq A N (m + 1) m = A 6 m + 1 := if_pos rfl
theorem ws_ok {A : Nat → Nat → Nat} {N s : Nat} {σ : Sg} (hA : ∀ m, m < 3 → A 6 m ≤ 3) (hs : s < 10) (h8 : ∀ m, m < 3 → σ 8 m = nI (A 6 m)) (hm : ∀ m, m < 3 → s = m + 1 → nr N m = 0) (hl : ∀ l, l < 6 → s = l + 4 → N / 2 ^ l % 2 = 0) : fX3_withStep (nI (cd (tk N))) (nI s) σ = some (nI (cd (nx A N s)), σ) := by
  have l0 := tr_lt (nr_lt N 0); have l1 := tr_lt (nr_lt N 1); have l2 := tr_lt (nr_lt N 2)
  have m0 := Nat.min_le_right (tr (nr N 0)) 1; have m1 := Nat.min_le_right (tr (nr N 1)) 1; have m2 := Nat.min_le_right (tr (nr N 2)) 1
  have hct := cd_lt (tk N)
  rw [cd_nx hA hs]
  unfold fX3_withStep
  by_cases h4 : s < 4
  · rw [if_pos (show nI s < 4 by rw [litI, N_lt (by omega) (by omega)]; omega)]
    have hn : ncl N s = N % 64 := if_neg (by omega)
    by_cases h0 : s = 0
    · subst h0
      rw [if_pos (by decide), hn, cd_tk, nq_ne (by omega), nq_ne (by omega), nq_ne (by omega)]
    · obtain ⟨m, rfl⟩ : ∃ m, s = m + 1 := ⟨s - 1, by omega⟩
      have hm3 : m < 3 := by omega
      rw [if_neg (show ¬ nI (m + 1) < 1 by rw [litI, N_lt (by omega) (by omega)]; omega), show (1 : Int32) = nI 1 from rfl, N_sub (by omega), Nat.add_sub_cancel, sv_ok, N_gd hm3 (by omega), N_cl (by omega), h8 m hm3, started_ok hct hm3 (hA m hm3), bd_ok, hn]
      have hr := hm m hm3 rfl
      have ha := hA m hm3
      have : (cd (tk N) ||| 2 ^ (6 + m)) ||| A 6 m * 2 ^ (9 + 2 * m) = cdM (N % 64) (nq A N (m + 1) 0) (nq A N (m + 1) 1) (nq A N (m + 1) 2) := by
        rw [cd_tk]
        unfold cdM
        match m, hm3, hr, ha with
        | 0, _, hr, ha =>
          rw [nq_eq, nq_ne (by omega), nq_ne (by omega), hr, show tr 0 = 0 from rfl]
          have := wst0 (c := N % 64) (q := A 6 0) (by omega) m1 m2 (show tr (nr N 1) - 1 < 4 by omega) (show tr (nr N 2) - 1 < 4 by omega) ha
          rw [show min (A 6 0 + 1) 1 = 1 by omega, Nat.add_sub_cancel]
          exact this
        | 1, _, hr, ha =>
          rw [nq_eq, nq_ne (by omega), nq_ne (by omega), hr, show tr 0 = 0 from rfl]
          have := wst1 (c := N % 64) (q := A 6 1) (by omega) m0 m2 (show tr (nr N 0) - 1 < 4 by omega) (show tr (nr N 2) - 1 < 4 by omega) ha
          rw [show min (A 6 1 + 1) 1 = 1 by omega, Nat.add_sub_cancel]
          exact this
        | 2, _, hr, ha =>
          rw [nq_eq, nq_ne (by omega), nq_ne (by omega), hr, show tr 0 = 0 from rfl]
          have := wst2 (c := N % 64) (q := A 6 2) (by omega) m0 m1 (show tr (nr N 0) - 1 < 4 by omega) (show tr (nr N 1) - 1 < 4 by omega) ha
          rw [show min (A 6 2 + 1) 1 = 1 by omega, Nat.add_sub_cancel]
          exact this
        | m + 3, h, _, _ => omega
      rw [this]
  · obtain ⟨l, rfl⟩ : ∃ l, s = l + 4 := ⟨s - 4, by omega⟩
    have hl6 : l < 6 := by omega
    have hb : N % 64 / 2 ^ l % 2 = 0 := by
      have := low6 l hl6 (N % 64) (N / 64)
      rw [Nat.mod_add_div] at this
      rw [← this]
      exact hl l hl6 rfl
    rw [if_neg (show ¬ nI (l + 4) < 4 by rw [litI, N_lt (by omega) (by omega)]; omega), show (4 : Int32) = nI 4 from rfl, N_sub (by omega), Nat.add_sub_cancel]
    unfold fX0_withClosed
    rw [bd_ok, shl1 (by omega), N_or, cd_tk, show ncl N (l + 4) = N % 64 ||| 2 ^ l by unfold ncl; rw [if_pos (by omega), Nat.add_sub_cancel], nq_ne (by omega), nq_ne (by omega), nq_ne (by omega)]
    unfold cdM
    rw [wcl hl6 (by omega) hb]
/-- all that run are ready -/
def stl (N : Nat) : Nat := mkN (N % 64) (min (nr N 0) 1) (min (nr N 1) 1) (min (nr N 2) 1)
theorem stl_lt (N : Nat) : stl N < 8000 := mkN_lt (by omega) (by omega) (by omega) (by omega)
theorem stl_c (N : Nat) : stl N % 64 = N % 64 := mkN_c (by omega)
theorem stl_r (N : Nat) : ∀ m, m < 3 → nr (stl N) m = min (nr N m) 1 := by
  obtain ⟨h0, h1, h2⟩ := mkN_r (c := N % 64) (r0 := min (nr N 0) 1) (r1 := min (nr N 1) 1) (r2 := min (nr N 2) 1) (by omega) (by omega) (by omega) (by omega)
  exact three h0 h1 h2
theorem cd_stl (N : Nat) : cd N % 512 = cd (stl N) := by
  have e1 : cd (stl N) = cdM (N % 64) (min (nr N 0) 1) (min (nr N 1) 1) (min (nr N 2) 1) := cd_mk (by omega) (by omega) (by omega) (by omega)
  have m0 := Nat.min_le_right (nr N 0) 1; have m1 := Nat.min_le_right (nr N 1) 1; have m2 := Nat.min_le_right (nr N 2) 1
  rw [e1]
  unfold cd cdM
  generalize nr N 0 - 1 = y0
  generalize nr N 1 - 1 = y1
  generalize nr N 2 - 1 = y2
  generalize min (nr N 0) 1 = x0 at *
  generalize min (nr N 1) 1 = x1 at *
  generalize min (nr N 2) 1 = x2 at *
  unfold fld
  rw [show min x0 1 = x0 by omega, show min x1 1 = x1 by omega, show min x2 1 = x2 by omega, show x0 - 1 = 0 by omega, show x1 - 1 = 0 by omega, show x2 - 1 = 0 by omega]
  omega
theorem cd_all (N : Nat) : cd N % 32768 = cd N := Nat.mod_eq_of_lt (cd_lt N)
theorem mkN_ext {N M : Nat} (hN : N < 8000) (hM : M < 8000) (hc : N % 64 = M % 64) (hr : ∀ m, m < 3 → nr N m = nr M m) : N = M := by
  rw [← mkN_eta hN, ← mkN_eta hM, hc, hr 0 (by omega), hr 1 (by omega), hr 2 (by omega)]
theorem nx_c {A : Nat → Nat → Nat} {N s : Nat} (hs : s < 10) : nx A N s % 64 = ncl N s := mkN_c (ncl_lt hs)
theorem nx_r {A : Nat → Nat → Nat} (hA : ∀ m, m < 3 → A 6 m ≤ 3) {N s : Nat} (hs : s < 10) : ∀ m, m < 3 → nr (nx A N s) m = nq A N s m := by
  obtain ⟨h0, h1, h2⟩ := mkN_r (c := ncl N s) (ncl_lt hs) (nq_lt (hA 0 (by omega)) N s) (nq_lt (hA 1 (by omega)) N s) (nq_lt (hA 2 (by omega)) N s)
  exact three h0 h1 h2
