section Keep
variable {A A' : Nat → Nat → Nat} {nl nm N : Nat} {now : Int32} {σ μ : Sg}
theorem row_mono {c : Nat} (h : ∀ l, l < 6 → c / 2 ^ l % 2 = 1 → A' 0 l = A 0 l ∧ A' 1 l = A 1 l ∧ A' 2 l = A 2 l) (hR : Row A σ c) : Row A' σ c := by
  have hJ : ∀ a b, J A' c a b = J A c a b := fun a b => J_eq ⟨fun g => g.mono (fun l hl hb => ⟨hb, (h l hl hb).1.symm, (h l hl hb).2.1.symm⟩), fun g => g.mono (fun l hl hb => ⟨hb, (h l hl hb).1, (h l hl hb).2.1⟩)⟩
  have hd : ∀ a l, l < 6 → dt A' c a l = dt A c a l := fun a l hl => by
    unfold dt
    by_cases hb : c / 2 ^ l % 2 = 1
    · rw [(h l hl hb).1, (h l hl hb).2.2, hJ]
    · rw [if_neg (fun c => hb c.1), if_neg (fun c => hb c.1)]
  have hdr : ∀ a, dr A' c a = dr A c a := fun a => by
    unfold dr
    rw [hd a 0 (by omega), hd a 1 (by omega), hd a 2 (by omega), hd a 3 (by omega), hd a 4 (by omega), hd a 5 (by omega)]
  intro a ha
  obtain ⟨r1, r2⟩ := hR a ha
  rw [hdr a, show J A' c a = J A c a from funext (fun b => hJ a b)]
  exact ⟨r1, r2⟩
theorem row_cong {c : Nat} {τ : Sg} (h : Row A σ c) (h10 : τ 10 = σ 10) (h11 : τ 11 = σ 11) : Row A τ c := by
  unfold Row at h ⊢
  rw [h10, h11]
  exact h
theorem Cur.imC (h : Cur A nl nm N now σ μ) : ImC A nl nm N now σ 1 := ⟨h.1.2.2.2.1, h.1.2.2.2.2.1, h.2.2.1, h.2.2.2.1, h.1.2.2.2.2.2.1, h.1.2.2.2.2.2.2.1⟩
theorem ImC.copy {τ : Sg} {o q : Nat} (h : ImC A nl nm N now σ o) (hc : Cpd σ τ o q) : ImC A nl nm N now τ q := by
  obtain ⟨h1, h2, h3, h4, h5, h6⟩ := h
  obtain ⟨-, -, ⟨c1, c2, c3, c4⟩, c5, c6⟩ := hc
  refine ⟨by rw [c1]; exact h1, by rw [c2]; exact h2, by rw [c3]; exact h3, by rw [c4]; exact h4, fun i hi => ?_, fun i hi => ?_⟩
  · obtain ⟨a, b, c⟩ := c5 i hi
    rw [a, b, c]; exact h5 i hi
  · obtain ⟨a, b, c, d⟩ := c6 i hi
    rw [a, b, c, d]; exact h6 i hi
theorem ImC.cong {τ : Sg} {o : Nat} (h : ImC A nl nm N now σ o) (hc : ∀ k, o ≤ k → k ≤ o + 7 → τ k = σ k) : ImC A nl nm N now τ o := by
  unfold ImC at h ⊢
  rw [hc o (by omega) (by omega), hc (o + 1) (by omega) (by omega), hc (o + 2) (by omega) (by omega), hc (o + 3) (by omega) (by omega), hc (o + 4) (by omega) (by omega), hc (o + 5) (by omega) (by omega), hc (o + 6) (by omega) (by omega), hc (o + 7) (by omega) (by omega)]
  exact h
theorem Cur.imM (h : Cur A nl nm N now σ μ) : ImM A nl nm N now (μ 1) 0 := by
  obtain ⟨-, -, -, -, ⟨a1, a2, a3, a4, a5, a6, a7⟩, ⟨b1, b2⟩, h41⟩ := h
  refine ⟨a4, a5, h41, fun i hi => ?_, fun i hi => ?_⟩
  · rw [Nat.zero_add, Nat.zero_add, Nat.zero_add, Nat.zero_add]
    exact ⟨(a6 i hi).1, (a6 i hi).2.1, (a6 i hi).2.2, b1 i hi⟩
  · rw [Nat.zero_add, Nat.zero_add, Nat.zero_add, Nat.zero_add, Nat.zero_add]
    exact ⟨(a7 i hi).1, (a7 i hi).2.1, (a7 i hi).2.2.1, (a7 i hi).2.2.2, b2 i hi⟩
theorem ImM.copy {f g : Nat → Int32} {o q : Nat} (h : ImM A nl nm N now f o) (hc : ∀ j, j < 42 → g (q + j) = f (o + j)) : ImM A nl nm N now g q := by
  obtain ⟨h1, h2, h3, h4, h5⟩ := h
  refine ⟨by rw [hc 39 (by omega)]; exact h1, by rw [hc 40 (by omega)]; exact h2, by rw [hc 41 (by omega)]; exact h3, fun i hi => ?_, fun i hi => ?_⟩
  · rw [hc i (by omega), hc (6 + i) (by omega), hc (12 + i) (by omega), hc (18 + i) (by omega)]
    exact h4 i hi
  · rw [hc (24 + i) (by omega), hc (27 + i) (by omega), hc (30 + i) (by omega), hc (33 + i) (by omega), hc (36 + i) (by omega)]
    exact h5 i hi
theorem ImM.cur {τ : Sg} (hA : AOK A) (hl : nl ≤ 6) (hm : nm ≤ 3) (hV : VN nl nm N) (hI : ImC A nl nm N now τ 1) (hR : ∀ c, c < 2 ^ nl → Row A τ c) (h : ImM A nl nm N now (μ 1) 0) : Cur A nl nm N now τ μ := by
  obtain ⟨h1, h2, h3, h4, h5⟩ := h
  obtain ⟨i1, i2, i3, i4, i5, i6⟩ := hI
  refine ⟨⟨hA, hl, hm, i1, i2, i5, i6, hR⟩, hV, i3, i4, ⟨hA, hl, hm, h1, h2, fun i hi => ?_, fun i hi => ?_⟩, ⟨fun i hi => ?_, fun i hi => ?_⟩, h3⟩
  · have := h4 i hi
    rw [Nat.zero_add, Nat.zero_add, Nat.zero_add, Nat.zero_add] at this
    exact ⟨this.1, this.2.1, this.2.2.1⟩
  · have := h5 i hi
    rw [Nat.zero_add, Nat.zero_add, Nat.zero_add, Nat.zero_add, Nat.zero_add] at this
    exact ⟨this.1, this.2.1, this.2.2.1, this.2.2.2.1⟩
  · have := (h4 i hi).2.2.2
    rwa [Nat.zero_add] at this
  · have := (h5 i hi).2.2.2.2
    rwa [Nat.zero_add] at this
theorem m42 (j x : Nat) : (42 : Int32) * nI j + nI x = nI (42 * j + x) := by rw [show (42 : Int32) = nI 42 from rfl, pk_mul, nI_add]
theorem imgM_ok {j : Nat} (hj : j ≤ 1) : ∃ r, it fX6_image_L14 (fun _ _ _ => none) FU (nI j) 0 μ = some r ∧ (r.1 = 1 ∧ (∀ k, k ≠ 2 → k ≠ 3 → r.2 k = μ k) ∧ (∀ i, i < 42 → r.2 2 (42 * j + i) = μ 1 i) ∧ (∀ i, (i < 42 * j ∨ 42 * j + 42 ≤ i) → r.2 2 i = μ 2 i) ∧ ∀ i, r.2 3 i = if i = j then 1 else μ 3 i) := by
  refine lpA2 (fun x1 x2 τ => x1 = nI j ∧ ∃ n, x2 = nI n ∧ n ≤ 42 ∧ (∀ k, k ≠ 2 → τ k = μ k) ∧ (∀ i, i < n → τ 2 (42 * j + i) = μ 1 i) ∧ (∀ i, (i < 42 * j ∨ 42 * j + 42 ≤ i) → τ 2 i = μ 2 i)) (fun _ x2 _ => 43 - x2.toNatClampNeg) _ ?_ FU _ _ _ ⟨rfl, 0, rfl, by omega, fun _ _ => rfl, fun i h => by omega, fun _ _ => rfl⟩ (Nat.lt_of_le_of_lt (Nat.sub_le _ _) (by decide))
  rintro k x1 x2 τ ⟨rfl, n, rfl, hn, fr, f1, f2⟩ ih
  unfold fX6_image_L14
  by_cases he : n = 42
  · subst he
    rw [if_pos (by decide), N_gd (by omega) (by omega), sv_ok, N_cl (by omega), nar1]
    refine ⟨_, rfl, rfl, fun q h2 h3 => ?_, fun i hi => ?_, fun i hi => ?_, fun i => ?_⟩
    · show wr τ 3 j 1 q = μ q
      rw [wr_ne h3, fr q h2]
    · show wr τ 3 j 1 2 _ = _
      rw [wr_ne (by decide), f1 i hi]
    · show wr τ 3 j 1 2 _ = _
      rw [wr_ne (by decide), f2 i hi]
    · show wr τ 3 j 1 3 i = _
      rw [wr_eq, fr 3 (by decide)]
  · have hn42 : n < 42 := by omega
    rw [if_neg (show ¬ (42 : Int32) ≤ nI n by rw [litI, N_le (by omega) (by omega)]; omega), N_gd hn42 (by omega), m42, N_gd (by omega) (by omega), N_cl (by omega), N_cl (by omega), sv_ok, sv_ok, show (1 : Int32) = nI 1 from rfl, nI_add]
    refine ih _ _ _ ⟨rfl, n + 1, rfl, by omega, fun q hq => by rw [wr_ne hq]; exact fr q hq, fun i hi => ?_, fun i hi => ?_⟩ ?_
    · rw [wr_eq]
      by_cases c : i = n
      · rw [if_pos (by omega), c, fr 1 (by decide)]
      · rw [if_neg (by omega)]; exact f1 i (by omega)
    · rw [wr_eq, if_neg (by omega)]; exact f2 i hi
    · rw [N_cl (by omega), N_cl (by omega)]
      omega
theorem resM_ok {j : Nat} (hj : j ≤ 1) : ∃ r, it fX6_restore_L26 (fun _ _ _ => none) FU (nI j) 0 μ = some r ∧ (r.1 = 1 ∧ (∀ k, k ≠ 1 → r.2 k = μ k) ∧ ∀ i, i < 42 → r.2 1 i = μ 2 (42 * j + i)) := by
  refine lpA2 (fun x1 x2 τ => x1 = nI j ∧ ∃ n, x2 = nI n ∧ n ≤ 42 ∧ (∀ k, k ≠ 1 → τ k = μ k) ∧ ∀ i, i < n → τ 1 i = μ 2 (42 * j + i)) (fun _ x2 _ => 43 - x2.toNatClampNeg) _ ?_ FU _ _ _ ⟨rfl, 0, rfl, by omega, fun _ _ => rfl, fun i h => by omega⟩ (Nat.lt_of_le_of_lt (Nat.sub_le _ _) (by decide))
  rintro k x1 x2 τ ⟨rfl, n, rfl, hn, fr, f1⟩ ih
  unfold fX6_restore_L26
  by_cases he : n = 42
  · subst he
    rw [if_pos (by decide)]
    exact ⟨_, rfl, rfl, fr, f1⟩
  · have hn42 : n < 42 := by omega
    rw [if_neg (show ¬ (42 : Int32) ≤ nI n by rw [litI, N_le (by omega) (by omega)]; omega), m42, N_gd (by omega) (by omega), N_gd hn42 (by omega), N_cl (by omega), N_cl (by omega), sv_ok, sv_ok, show (1 : Int32) = nI 1 from rfl, nI_add]
    refine ih _ _ _ ⟨rfl, n + 1, rfl, by omega, fun q hq => by rw [wr_ne hq]; exact fr q hq, fun i hi => ?_⟩ ?_
    · rw [wr_eq]
      by_cases c : i = n
      · rw [if_pos c, c, fr 2 (by decide)]
      · rw [if_neg c]; exact f1 i (by omega)
    · rw [N_cl (by omega), N_cl (by omega)]
      omega
theorem kp_or : ∀ kp, kp < 4 → ∀ j, j < 2 → (kp ||| 2 ^ j < 4 ∧ ∀ i, i < 2 → (kp ||| 2 ^ j) / 2 ^ i % 2 = if i = j then 1 else kp / 2 ^ i % 2) := by decide
theorem sp_image : SP1 Rel0 fX5_image fX6_image := by
  rintro σ μ hR a
  obtain ⟨⟨A, nl, nm, N, now, hCu⟩, hK⟩ := hR
  have hR : Rel0 σ μ := ⟨⟨A, nl, nm, N, now, hCu⟩, hK⟩
  unfold fX5_image fX6_image
  rcases win_c a (hi := 1) 1 rfl (by omega) with ⟨hno, e3, e4⟩ | ⟨j, hj, rfl, e3, e4⟩
  · rw [e3, e4, bd_ok, bd_ok, if_pos b0, if_pos b0]
    exact ⟨_, _, _, rfl, rfl, hR⟩
  · obtain ⟨⟨v, τ⟩, e, hv, fr, f1, f2, f3⟩ := imgM_ok (μ := μ) hj
    dsimp only at hv fr f1 f2 f3
    rw [e3, e4, bd_ok, bd_ok, if_neg b1, if_neg b1, e, hv, N_gd (by omega) (by omega)]
    obtain ⟨kp, k1, k2, k3, k4⟩ := hK
    obtain ⟨o1, o2⟩ := kp_or kp k1 j (by omega)
    -- for either image
    have fin : ∀ τ1 : Sg, Cpd σ τ1 1 (18 + 8 * j) → Rel0 (wr τ1 0 5 ((τ1 0 5) ||| ((1 : Int32) <<< (nI j &&& 31)))) τ := by
      intro τ1 hc
      have hlow : ∀ k, k < 18 → τ1 k = σ k := fun k hk => hc.1 k (by omega)
      refine ⟨⟨A, nl, nm, N, now, ?_⟩, kp ||| 2 ^ j, o1, ?_, fun i hi => ?_, fun i hi hb => ?_⟩
      · obtain ⟨hC, hV, h9, h10, hM, hN, h41⟩ := hCu
        have w1 : ∀ k, 0 < k → k < 18 → wr τ1 0 5 ((τ1 0 5) ||| ((1 : Int32) <<< (nI j &&& 31))) k = σ k := fun k h0 hk => by rw [wr_ne (by omega), hlow k hk]
        refine ImM.cur hC.1 hC.2.1 hC.2.2.1 hV ?_ (fun c hc => ?_) ?_
        · exact (Cur.imC ⟨hC, hV, h9, h10, hM, hN, h41⟩).cong (fun k h1 h2 => w1 k (by omega) (by omega))
        · exact row_cong (hC.2.2.2.2.2.2.2 c hc) (w1 10 (by omega) (by omega)) (w1 11 (by omega) (by omega))
        · rw [fr 1 (by decide) (by decide)]
          exact Cur.imM ⟨hC, hV, h9, h10, hM, hN, h41⟩
      · rw [wr_eq, if_pos rfl, hlow 0 (by omega), k2, shl1 (by omega), N_or]
      · rw [f3 i, o2 i hi]
        by_cases c : i = j
        · rw [if_pos c, if_pos c]; rfl
        · rw [if_neg c, if_neg c]; exact k3 i hi
      · rw [o2 i hi] at hb
        by_cases c : i = j
        · subst c
          refine ⟨A, nl, nm, N, now, hCu.1.1, hCu.1.2.1, hCu.1.2.2.1, hCu.2.1, ?_, ?_⟩
          · exact ((Cur.imC hCu).copy hc).cong (fun k h1 h2 => wr_ne (by omega))
          · exact (Cur.imM hCu).copy (fun x hx => by rw [f1 x hx, Nat.zero_add])
        · rw [if_neg c] at hb
          obtain ⟨A2, nl2, nm2, N2, now2, a1, a2, a3, a4, a5, a6⟩ := k4 i hi hb
          refine ⟨A2, nl2, nm2, N2, now2, a1, a2, a3, a4, a5.cong (fun k h1 h2 => ?_), a6.copy (fun x hx => f2 _ (by omega))⟩
          rw [wr_ne (by omega), hc.1 k (by omega)]
    have : j = 0 ∨ j = 1 := by omega
    rcases this with rfl | rfl
    · rw [if_pos (by rfl), cpy_a, bd_ok, sv_ok]
      exact ⟨_, _, _, rfl, rfl, fin _ (cpyS_ok σ 1 18)⟩
    · rw [if_neg (by decide), cpy_b, bd_ok, sv_ok]
      exact ⟨_, _, _, rfl, rfl, fin _ (cpyS_ok σ 1 26)⟩
theorem relearn_ok (hA : AOK A) (hl : nl ≤ 6) (h10 : σ 1 0 = nI nl) (h2 : ∀ i, i < 6 → σ 2 i = nI (A 0 i) ∧ σ 3 i = nI (A 1 i) ∧ σ 4 i = nI (A 2 i)) (hR : Row A σ 0) : ∃ r, it fX5_restore_L40 (fun _ _ => none) FU 0 σ = some r ∧ (r.1 = 1 ∧ (∀ q, q ≠ 10 → q ≠ 11 → r.2 q = σ q) ∧ ∀ c, c < 2 ^ nl → Row A r.2 c) := by
  refine lpA1 (fun x2 τ => ∃ k, x2 = nI k ∧ k ≤ nl ∧ (∀ q, q ≠ 10 → q ≠ 11 → τ q = σ q) ∧ ∀ c, c < 2 ^ k → Row A τ c) (fun x2 _ => 7 - x2.toNatClampNeg) _ ?_ FU _ _ ⟨0, rfl, by omega, fun _ _ _ => rfl, fun c hc => by rw [show c = 0 by rw [Nat.pow_zero] at hc; omega]; exact hR⟩ (Nat.lt_of_le_of_lt (Nat.sub_le _ _) (by decide))
  rintro kk x2 τ ⟨k, rfl, hk, fr, hr⟩ ih
  unfold fX5_restore_L40
  rw [fr 1 (by decide) (by decide), h10]
  by_cases he : k = nl
  · subst he
    rw [if_pos (show nI k ≤ nI k by rw [N_le (by omega) (by omega)]; omega)]
    exact ⟨_, rfl, rfl, fr, hr⟩
  · have hk6 : k < 6 := by omega
    obtain ⟨⟨v, τ2⟩, e, -, fr2, hr2⟩ := learn_ok (A := A) (σ := τ) hk6 (hA.1 k hk6).1 (hA.1 k hk6).2.1 (fun l hl => (hA.1 l hl).2.2) (by rw [fr 2 (by decide) (by decide)]; exact (h2 k hk6).1) (by rw [fr 3 (by decide) (by decide)]; exact (h2 k hk6).2.1) (by rw [fr 4 (by decide) (by decide)]; exact (h2 k hk6).2.2) hr
    dsimp only at fr2 hr2
    rw [if_neg (show ¬ nI nl ≤ nI k by rw [N_le (by omega) (by omega)]; omega), e, bd_ok, sv_ok, show (1 : Int32) = nI 1 from rfl, nI_add]
    refine ih _ _ ⟨k + 1, rfl, by omega, fun q a b => by rw [fr2 q a b]; exact fr q a b, fun c hc => hr2 c (by rw [Nat.pow_add_one'] at hc; exact hc)⟩ ?_
    rw [N_cl (by omega), N_cl (by omega)]
    omega
theorem sp_restore : SP1 Rel0 fX5_restore fX6_restore := by
  rintro σ μ hR a
  obtain ⟨⟨A, nl, nm, N, now, hCu⟩, hK⟩ := hR
  have hR : Rel0 σ μ := ⟨⟨A, nl, nm, N, now, hCu⟩, hK⟩
  unfold fX5_restore fX6_restore
  rcases win_c a (hi := 1) 1 rfl (by omega) with ⟨hno, e3, e4⟩ | ⟨j, hj, rfl, e3, e4⟩
  · rw [e3, e4, bd_ok, bd_ok, if_pos b0, if_pos b0]
    exact ⟨_, _, _, rfl, rfl, hR⟩
  · have hK' := hK
    obtain ⟨kp, k1, k2, k3, k4⟩ := hK
    rw [e3, e4, bd_ok, bd_ok, if_neg b1, if_neg b1, k2, bit_ok (by omega) (by omega), bd_ok, N_gd (by omega) (by omega), N_gd (by omega) (by omega), N_cl (by omega), k3 j (by omega)]
    by_cases hb : kp / 2 ^ j % 2 = 0
    · rw [hb, if_pos (by rfl), if_pos (by rfl)]
      exact ⟨_, _, _, rfl, rfl, hR⟩
    · have hb1 : kp / 2 ^ j % 2 = 1 := by omega
      obtain ⟨A2, nl2, nm2, N2, now2, a1, a2, a3, a4, a5, a6⟩ := k4 j (by omega) hb1
      obtain ⟨⟨v, τ⟩, e, hv, fr, f1⟩ := resM_ok (μ := μ) hj
      dsimp only at hv fr f1
      rw [hb1, if_neg (show ¬ nI 1 = 0 by decide), if_neg (show ¬ nI 1 = 0 by decide), e, hv]
      have fin : ∀ τ1 : Sg, Cpd σ τ1 (18 + 8 * j) 1 → Ans (it fX5_restore_L40 (fun _ _ => none) FU 0 τ1) (some (1, τ)) := by
        intro τ1 hc
        have hI := a5.copy hc
        have hrow : Row A2 τ1 0 := row_cong (row_mono (A := A) (fun l _ hb => by rw [Nat.zero_div] at hb; exact absurd hb (by decide)) (hCu.1.2.2.2.2.2.2.2 0 (Nat.two_pow_pos nl))) (hc.1 10 (by omega)) (hc.1 11 (by omega))
        obtain ⟨⟨w, τ2⟩, e5, hw, fr5, hr5⟩ := relearn_ok a1 a2 hI.1 hI.2.2.2.2.1 hrow
        dsimp only at hw fr5 hr5
        rw [e5, hw]
        refine ⟨_, _, _, rfl, rfl, ⟨A2, nl2, nm2, N2, now2, ?_⟩, hK'.cong ?_ (fun k hk => ?_) (fr 2 (by decide)) (fr 3 (by decide))⟩
        · refine ImM.cur a1 a2 a3 a4 (hI.cong (fun k h1 h2 => fr5 k (by omega) (by omega))) hr5 ?_
          exact a6.copy (fun x hx => by rw [Nat.zero_add, f1 x hx])
        · rw [fr5 0 (by decide) (by decide), hc.1 0 (by omega)]
        · rw [fr5 k (by omega) (by omega), hc.1 k (by omega)]
      have : j = 0 ∨ j = 1 := by omega
      rcases this with rfl | rfl
      · rw [if_pos (by rfl), cpy_c, bd_ok]
        exact fin _ (cpyS_ok σ 18 1)
      · rw [if_neg (by decide), cpy_d, bd_ok]
        exact fin _ (cpyS_ok σ 26 1)
end Keep
