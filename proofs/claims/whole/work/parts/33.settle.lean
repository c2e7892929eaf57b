/-! with time, and without it: one may wait until all that run are ready -/
theorem lvP_stl (A : Nat → Nat → Nat) (N : Nat) : ∀ m, m ≤ 3 → lvP A (stl N) m = lvP A N m := by
  intro m
  induction m with
  | zero => intro _; rfl
  | succ m ih =>
    intro hm
    funext b
    show (lvP A (stl N) m b || (decide (0 < nr (stl N) m) && J A (stl N % 64) (A 3 m) b)) = (lvP A N m b || (decide (0 < nr N m) && J A (N % 64) (A 3 m) b))
    rw [ih (by omega), stl_c, stl_r N m (by omega)]
    have : (0 < min (nr N m) 1) ↔ (0 < nr N m) := by omega
    simp only [this]
theorem pwP_stl (A : Nat → Nat → Nat) (c N b : Nat) : ∀ m, m ≤ 3 → pwP A c N m b ≤ pwP A c (stl N) m b := by
  intro m
  induction m with
  | zero => intro _; exact Nat.le_refl _
  | succ m ih =>
    intro hm
    have := ih (by omega)
    show pwP A c N m b + (if nr N m = 1 ∧ J A c b (A 3 m) = true then A 5 m else 0) ≤ pwP A c (stl N) m b + (if nr (stl N) m = 1 ∧ J A c b (A 3 m) = true then A 5 m else 0)
    rw [stl_r N m (by omega)]
    by_cases h : nr N m = 1 ∧ J A c b (A 3 m) = true
    · rw [if_pos h, if_pos ⟨by omega, h.2⟩]
      omega
    · rw [if_neg h]
      omega
theorem cs_stl {A : Nat → Nat → Nat} {nl nm N s : Nat} (hm : nm ≤ 3) (hs : s < 10) (h : cs A nl nm N s = true) : cs A nl nm (stl N) s = true := by
  by_cases h0 : s = 0
  · subst h0; rfl
  · by_cases h4 : s < 4
    · obtain ⟨m, rfl⟩ : ∃ m, s = 1 + m := ⟨s - 1, by omega⟩
      have hm3 : m < 3 := by omega
      rw [cs_m hm3] at h ⊢
      rw [stl_r N m hm3]
      simp only [Bool.and_eq_true, decide_eq_true_eq] at h ⊢
      obtain ⟨h1, h2, h3⟩ := h
      refine ⟨h1, by omega, ?_⟩
      unfold ckB at h3 ⊢
      rw [stl_c, lvP_stl A N nm hm]
      simp only [Bool.or_eq_true, Bool.and_eq_true, decide_eq_true_eq] at h3 ⊢
      rcases h3 with h3 | ⟨h3, h5⟩
      · exact Or.inl h3
      · exact Or.inr ⟨h3, Nat.le_trans h5 (pwP_stl A _ N _ nm hm)⟩
    · obtain ⟨l, rfl⟩ : ∃ l, s = 4 + l := ⟨s - 4, by omega⟩
      have hl6 : l < 6 := by omega
      rw [cs_l] at h ⊢
      rw [← bit64 hl6 (stl N), stl_c, bit64 hl6 N]
      simp only [Bool.and_eq_true, decide_eq_true_eq] at h ⊢
      obtain ⟨h1, h2, h3⟩ := h
      refine ⟨h1, h2, ?_⟩
      unfold cyB at h3 ⊢
      rw [stl_c, lvP_stl A N nm hm]
      simp only [Bool.or_eq_true, Bool.and_eq_true, decide_eq_true_eq] at h3 ⊢
      exact ⟨h3.1, Nat.le_trans h3.2 (pwP_stl A _ N _ nm hm)⟩
theorem tr_dec (r : Nat) : tr r - 1 ≤ r - 1 ∧ (¬ r ≤ 1 → tr r - 1 < r - 1) := by
  unfold tr
  split <;> omega
theorem min_tr (r : Nat) : min (tr (min r 1)) 1 = min (tr r) 1 := by
  rw [(tr_1 r).2.2, (tr_1 (min r 1)).2.2]
  omega
theorem stl_nx (A : Nat → Nat → Nat) (hA : ∀ m, m < 3 → A 6 m ≤ 3) {N s : Nat} (hs : s < 10) : stl (nx A (stl N) s) = stl (nx A N s) := by
  refine mkN_ext (stl_lt _) (stl_lt _) ?_ (fun m hm => ?_)
  · rw [stl_c, stl_c, nx_c hs, nx_c hs]
    unfold ncl
    rw [stl_c]
  · rw [stl_r _ m hm, stl_r _ m hm, nx_r hA hs m hm, nx_r hA hs m hm]
    unfold nq
    split
    · rfl
    · rw [stl_r N m hm]
      exact min_tr _
theorem sub_mask {g r r' : Int32} (h : r &&& r' = r) (h2 : g &&& (r ^^^ (-1 : Int32)) = 0) : g &&& (r' ^^^ (-1 : Int32)) = 0 := by
  rw [← Int32.toBitVec_inj] at h h2 ⊢
  have h1 : r.toBitVec &&& r'.toBitVec = r.toBitVec := h
  have h3 : g.toBitVec &&& (r.toBitVec ^^^ (-1#32)) = 0#32 := h2
  show g.toBitVec &&& (r'.toBitVec ^^^ (-1#32)) = 0#32
  generalize g.toBitVec = x at h3 ⊢
  generalize r.toBitVec = y at h1 h3
  generalize r'.toBitVec = z at h1 ⊢
  have e : ∀ w : BitVec 32, w ^^^ (-1#32) = ~~~w := fun w => by rw [show (-1#32) = BitVec.allOnes 32 by decide, BitVec.xor_allOnes]
  rw [e] at h3 ⊢
  apply BitVec.eq_of_getLsbD_eq
  intro i hi
  have a1 : (y &&& z).getLsbD i = y.getLsbD i := by rw [h1]
  have a2 : (x &&& ~~~y).getLsbD i = (0#32).getLsbD i := by rw [h3]
  simp only [BitVec.getLsbD_and, BitVec.getLsbD_not, BitVec.getLsbD_zero, hi, decide_true, Bool.true_and] at a1 a2 ⊢
  cases hx : x.getLsbD i <;> cases hy : y.getLsbD i <;> cases hz : z.getLsbD i <;> simp [hx, hy, hz] at a1 a2 ⊢
theorem rdm_sub (N : Nat) : rdm N &&& rdm (stl N) = rdm N := by
  refine eq64 (Nat.lt_of_le_of_lt Nat.and_le_left (by have := rdm_lt N; omega)) (by have := rdm_lt N; omega) (fun i hi => ?_)
  rw [and_bit]
  by_cases h : i < 3
  · have e1 := rdm_bit N i h
    have e2 := rdm_bit (stl N) i h
    rw [stl_r N i h] at e2
    rw [tb_dm] at e1 e2
    rw [tb_dm]
    cases h1 : (rdm N).testBit i
    · rfl
    · rw [h1] at e1
      have hn : nr N i = 1 := by
        have : (nr N i == 1) = true := b01_1.mp (e1.symm.trans rfl)
        simpa using this
      rw [hn] at e2
      cases h2 : (rdm (stl N)).testBit i
      · rw [h2] at e2; exact absurd e2 (by decide)
      · rfl
  · have h8 : rdm N < 2 ^ i := Nat.lt_of_lt_of_le (rdm_lt N) (show 2 ^ 3 ≤ 2 ^ i from Nat.pow_le_pow_right (by decide) (by omega))
    rw [Nat.testBit_lt_two_pow h8, Nat.div_eq_of_lt h8]
    rfl
theorem gl_stl {A : Nat → Nat → Nat} {nm N : Nat} (hm : nm ≤ 3) (g h : Int32) (hg : gl A nm g h N = true) : gl A nm g h (stl N) = true := by
  unfold gl at hg ⊢
  rw [lvP_stl A N nm hm]
  simp only [Bool.and_eq_true, decide_eq_true_eq] at hg ⊢
  exact ⟨sub_mask (by rw [N_and, rdm_sub]) hg.1, hg.2⟩
noncomputable def abM (A : Nat → Nat → Nat) (nl nm st N s : Nat) : Bool := cs A nl nm N s && decide (st / 2 ^ s % 2 = 1)
def TS (A : Nat → Nat → Nat) (N s : Nat) : Nat := stl (nx A N s)
section Settle
variable {A : Nat → Nat → Nat} {nl nm st : Nat} {g h : Int32}
theorem gp_set (hA : ∀ m, m < 3 → A 6 m ≤ 3) (hm : nm ≤ 3) : ∀ k N, GP (abM A nl nm st) (nx A) (gl A nm g h) k N → GP (abM A nl nm st) (TS A) (gl A nm g h) k (stl N) := by
  intro k
  induction k with
  | zero => intro N hg; exact gl_stl hm g h hg
  | succ k ih =>
    rintro N ⟨s, hs, hab, hgp⟩
    refine ⟨s, hs, ?_, ?_⟩
    · unfold abM at hab ⊢
      simp only [Bool.and_eq_true] at hab ⊢
      exact ⟨cs_stl hm hs hab.1, hab.2⟩
    · have := ih _ hgp
      show GP _ _ _ k (stl (nx A (stl N) s))
      rw [stl_nx A hA hs]
      exact this
theorem gp_wait (hA : ∀ m, m < 3 → A 6 m ≤ 3) (h1 : st % 2 = 1) : ∀ d N, N < 8000 → (nr N 0 - 1) + (nr N 1 - 1) + (nr N 2 - 1) ≤ d → (∃ k, GP (abM A nl nm st) (nx A) (gl A nm g h) k (stl N)) → ∃ k, GP (abM A nl nm st) (nx A) (gl A nm g h) k N := by
  intro d
  induction d with
  | zero =>
    rintro N hN hd ⟨k, hk⟩
    have : stl N = N := mkN_ext (stl_lt N) hN (stl_c N) (fun m hm => by
      rw [stl_r N m hm]
      revert m
      exact three (by omega) (by omega) (by omega))
    rw [this] at hk
    exact ⟨k, hk⟩
  | succ d ih =>
    rintro N hN hd ⟨k, hk⟩
    by_cases hz : (nr N 0 - 1) + (nr N 1 - 1) + (nr N 2 - 1) ≤ d
    · exact ih N hN hz ⟨k, hk⟩
    · have hr := nx_r (A := A) hA (N := N) (s := 0) (by omega)
      have q : ∀ m, m < 3 → nr (nx A N 0) m = tr (nr N m) := fun m hm => by rw [hr m hm]; exact nq_ne (by omega)
      have e : stl (nx A N 0) = stl N := by
        refine mkN_ext (stl_lt _) (stl_lt _) ?_ (fun m hm => ?_)
        · rw [stl_c, stl_c, nx_c (by omega)]
          exact if_neg (by omega)
        · rw [stl_r _ m hm, stl_r _ m hm, q m hm, (tr_1 _).2.2]
      have t0 := tr_1 (nr N 0); have t1 := tr_1 (nr N 1); have t2 := tr_1 (nr N 2)
      have hdec : (nr (nx A N 0) 0 - 1) + (nr (nx A N 0) 1 - 1) + (nr (nx A N 0) 2 - 1) ≤ d := by
        rw [q 0 (by omega), q 1 (by omega), q 2 (by omega)]
        have c0 := tr_dec (nr N 0)
        have c1 := tr_dec (nr N 1)
        have c2 := tr_dec (nr N 2)
        have : ¬ nr N 0 ≤ 1 ∨ ¬ nr N 1 ≤ 1 ∨ ¬ nr N 2 ≤ 1 := by omega
        rcases this with c | c | c
        · have := c0.2 c; omega
        · have := c1.2 c; omega
        · have := c2.2 c; omega
      obtain ⟨k', hk'⟩ := ih (nx A N 0) (nx_lt hA (by omega)) hdec ⟨k, by rw [e]; exact hk⟩
      refine ⟨k' + 1, 0, by omega, ?_, hk'⟩
      unfold abM
      rw [cs_0, Bool.true_and]
      simpa using h1
theorem gp_full (hA : ∀ m, m < 3 → A 6 m ≤ 3) (h1 : st % 2 = 1) : ∀ k M, GP (abM A nl nm st) (TS A) (gl A nm g h) k M → ∃ k', GP (abM A nl nm st) (nx A) (gl A nm g h) k' M := by
  intro k
  induction k with
  | zero => intro M hg; exact ⟨0, hg⟩
  | succ k ih =>
    rintro M ⟨s, hs, hab, hgp⟩
    obtain ⟨k', hk'⟩ := gp_wait hA h1 _ (nx A M s) (nx_lt hA hs) (Nat.le_refl _) (ih _ hgp)
    exact ⟨k' + 1, s, hs, hab, hk'⟩
theorem settle_iff (hA : ∀ m, m < 3 → A 6 m ≤ 3) (hm : nm ≤ 3) (h1 : st % 2 = 1) {N : Nat} (hN : N < 8000) : (∃ k, GP (abM A nl nm st) (TS A) (gl A nm g h) k (stl N)) ↔ ∃ k, GP (abM A nl nm st) (nx A) (gl A nm g h) k N := by
  constructor
  · rintro ⟨k, hk⟩
    exact gp_wait hA h1 _ N hN (Nat.le_refl _) (gp_full hA h1 k _ hk)
  · rintro ⟨k, hk⟩
    exact ⟨k, gp_set hA hm k N hk⟩
end Settle
