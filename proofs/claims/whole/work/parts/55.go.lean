section Go
variable {A : Nat → Nat → Nat} {nl nm N : Nat} {now : Int32} {σ μ : Sg}
theorem cd_0 : cd 0 = 0 := by decide
theorem sp_dark : SP0 Rel0 fX5_dark fX6_dark := by
  rintro σ μ hR
  obtain ⟨⟨A, nl, nm, N, now, hCu⟩, hK⟩ := hR
  have hCu' := hCu
  obtain ⟨hC, hV, h9, h10, hM, hN, h41⟩ := hCu
  obtain ⟨hA, hl6, hm3, g1, g2, g3, g4⟩ := hM
  have hd : ∃ r, fX6_dark μ = some r ∧ (r.1 = nI (sm (fun m => min (nr N m) 1) nm) ∧ (∀ k, k ≠ 1 → r.2 k = μ k) ∧ (∀ j, (j < 18 ∨ (24 ≤ j ∧ j < 36) ∨ j = 39 ∨ j = 40) → r.2 1 j = μ 1 j) ∧ Now 0 r.2 ∧ r.2 1 41 = 0) := by
    unfold fX6_dark
    refine lpA2 (fun x1 x2 ρ => ∃ i, x2 = nI i ∧ i ≤ nm ∧ x1 = nI (sm (fun m => min (nr N m) 1) i) ∧ (∀ k, k ≠ 1 → ρ k = μ k) ∧ (∀ j, (j < 36 ∨ 36 + i ≤ j) → ρ 1 j = μ 1 j) ∧ ∀ j, j < i → ρ 1 (36 + j) = 0) (fun _ x2 _ => 4 - x2.toNatClampNeg) _ ?_ FU _ _ _ ⟨0, rfl, by omega, rfl, fun _ _ => rfl, fun _ _ => rfl, fun j h => by omega⟩ (Nat.lt_of_le_of_lt (Nat.sub_le _ _) (by decide))
    rintro k x1 x2 ρ ⟨i, rfl, hi, rfl, fr, fj, fz⟩ ih
    unfold fX6_dark_L4
    rw [show (40 : Int32) = nI 40 from rfl, N_gd (by omega) (by omega), N_cl (by omega), fj 40 (by omega), g2]
    by_cases he : i = nm
    · subst he
      rw [if_pos (show nI i ≤ nI i by rw [N_le (by omega) (by omega)]; omega)]
      clear ih
      refine lpA2 (fun x1 x2 π => x1 = nI (sm (fun m => min (nr N m) 1) i) ∧ ∃ l, x2 = nI l ∧ l ≤ nl ∧ (∀ k, k ≠ 1 → π k = ρ k) ∧ (∀ j, (j < 18 ∨ 18 + l ≤ j) → π 1 j = ρ 1 j) ∧ ∀ j, j < l → π 1 (18 + j) = 0) (fun _ x2 _ => 7 - x2.toNatClampNeg) _ ?_ FU _ _ _ ⟨rfl, 0, rfl, by omega, fun _ _ => rfl, fun _ _ => rfl, fun j h => by omega⟩ (Nat.lt_of_le_of_lt (Nat.sub_le _ _) (by decide))
      rintro k2 x1 x2 π ⟨rfl, l, rfl, hl, fr2, fj2, fz2⟩ ih
      unfold fX6_dark_L53
      rw [show (39 : Int32) = nI 39 from rfl, N_gd (by omega) (by omega), N_cl (by omega), fj2 39 (by omega), fj 39 (by omega), g1]
      by_cases he : l = nl
      · subst he
        rw [if_pos (show nI l ≤ nI l by rw [N_le (by omega) (by omega)]; omega), show (41 : Int32) = nI 41 from rfl, N_gd (by omega) (by omega), sv_ok, N_cl (by omega)]
        refine ⟨_, rfl, rfl, fun q hq => ?_, fun j hj => ?_, ⟨fun b hb => ?_, fun m hm => ?_⟩, ?_⟩
        · show wr π 1 41 0 q = μ q
          rw [wr_ne hq, fr2 q hq, fr q hq]
        · show wr π 1 41 0 1 j = μ 1 j
          rw [wr_eq, if_neg (by omega), fj2 j (by omega), fj j (by omega)]
        · show wr π 1 41 0 1 (18 + b) = nI (0 / 2 ^ b % 2)
          rw [wr_eq, if_neg (by omega), Nat.zero_div]
          by_cases c : b < l
          · rw [fz2 b c]; rfl
          · rw [fj2 (18 + b) (by omega), fj (18 + b) (by omega), hN.1 b hb, bhi hV hb (by omega)]
        · show wr π 1 41 0 1 (36 + m) = nI (nr 0 m)
          have : nr 0 m = 0 := by revert m; exact three rfl rfl rfl
          rw [this, wr_eq, if_neg (by omega), fj2 (36 + m) (by omega)]
          by_cases c : m < i
          · rw [fz m c]; rfl
          · rw [fj (36 + m) (by omega), hN.2 m hm, hV.2.2 m hm (by omega)]
        · show wr π 1 41 0 1 41 = 0
          rw [wr_eq, if_pos rfl]
      · rw [if_neg (show ¬ nI nl ≤ nI l by rw [N_le (by omega) (by omega)]; omega), show (18 : Int32) + nI l = nI (18 + l) from nI_add 18 l, N_gd (by omega) (by omega), N_cl (by omega), sv_ok, sv_ok, show (1 : Int32) = nI 1 from rfl, nI_add]
        refine ih _ _ _ ⟨rfl, l + 1, rfl, by omega, fun q hq => by rw [wr_ne hq]; exact fr2 q hq, fun j hj => by rw [wr_eq, if_neg (by omega)]; exact fj2 j (by omega), fun j hj => ?_⟩ ?_
        · rw [wr_eq]
          by_cases c : j = l
          · rw [if_pos (by omega)]
          · rw [if_neg (by omega)]; exact fz2 j (by omega)
        · rw [N_cl (by omega), N_cl (by omega)]
          omega
    · have hi3 : i < 3 := by omega
      have hr := nr_lt N i
      rw [if_neg (show ¬ nI nm ≤ nI i by rw [N_le (by omega) (by omega)]; omega), show (36 : Int32) + nI i = nI (36 + i) from nI_add 36 i, N_gd (by omega) (by omega), N_cl (by omega), fj (36 + i) (by omega), hN.2 i hi3]
      unfold fX6_dark_33
      have go : ∀ c, c = min (nr N i) 1 → ∃ r, k (nI (sm (fun m => min (nr N m) 1) i + c)) (nI (i + 1)) (wr ρ 1 (36 + i) 0) = some r ∧ (r.1 = nI (sm (fun m => min (nr N m) 1) nm) ∧ (∀ k, k ≠ 1 → r.2 k = μ k) ∧ (∀ j, (j < 18 ∨ (24 ≤ j ∧ j < 36) ∨ j = 39 ∨ j = 40) → r.2 1 j = μ 1 j) ∧ Now 0 r.2 ∧ r.2 1 41 = 0) := by
        intro c hc
        refine ih _ _ _ ⟨i + 1, rfl, by omega, by rw [hc]; rfl, fun q hq => by rw [wr_ne hq]; exact fr q hq, fun j hj => by rw [wr_eq, if_neg (by omega)]; exact fj j (by omega), fun j hj => ?_⟩ ?_
        · rw [wr_eq]
          by_cases c : j = i
          · rw [if_pos (by omega)]
          · rw [if_neg (by omega)]; exact fz j (by omega)
        · rw [N_cl (by omega), N_cl (by omega)]
          omega
      by_cases hz : nr N i = 0
      · rw [if_pos (by rw [hz]; decide), sv_ok, show (36 : Int32) + nI i = nI (36 + i) from nI_add 36 i, N_gd (by omega) (by omega), N_cl (by omega), sv_ok, sv_ok, show (1 : Int32) = nI 1 from rfl, nI_add, Int32.add_zero]
        exact go 0 (by omega)
      · rw [if_neg (show ¬ nI (nr N i) ≤ 0 by rw [litI, N_le (by omega) (by omega)]; omega), sv_ok, show (36 : Int32) + nI i = nI (36 + i) from nI_add 36 i, N_gd (by omega) (by omega), N_cl (by omega), sv_ok, sv_ok, show (1 : Int32) = nI 1 from rfl, nI_add, nI_add]
        exact go 1 (by omega)
  obtain ⟨⟨v, τ⟩, e, hv, fr, fj, hN0, h410⟩ := hd
  dsimp only at hv fr fj hN0 h410
  unfold fX5_dark
  rw [h9, running_ok, bd_ok, bc_ok (by have := rnm_lt N; omega), bd_ok, sv_ok, sv_ok, e, hv, sm_rn hV hm3]
  refine ⟨_, _, _, rfl, rfl, ⟨A, nl, nm, 0, 0, ?_⟩, hK.cong ?_ (fun k hk => ?_) (fr 2 (by decide)) (fr 3 (by decide))⟩
  · refine hCu'.move (fun k hk hk1 => by rw [wr_ne hk1, wr_ne hk1]) ?_ ?_ ?_ ?_ ⟨by decide, by rw [Nat.zero_mod]; exact Nat.two_pow_pos nl, fun m hm _ => ?_⟩ fj hN0 h410
    · rw [wr_eq, if_neg (by decide), wr_eq, if_neg (by decide)]
    · rw [wr_eq, if_neg (by decide), wr_eq, if_neg (by decide)]
    · rw [wr_eq, if_neg (by decide), wr_eq, if_pos rfl, cd_0]; rfl
    · rw [wr_eq, if_pos rfl]
    · revert m; exact three (fun _ => rfl) (fun _ => rfl) (fun _ => rfl)
  · rw [wr_ne (by decide), wr_ne (by decide)]
  · rw [wr_ne (by omega), wr_ne (by omega)]
theorem goal_c (h4 : σ 1 4 = nI nm) (hM : MG A nl nm μ) (g h : Int32) : (fX5_isGoal g h σ = some (0, σ) ∧ fX6_areSets g h μ = some (0, μ)) ∨ (fX5_isGoal g h σ = some (1, σ) ∧ fX6_areSets g h μ = some (1, μ)) := by
  have hm3 := hM.2.2.1
  have hp : 2 ^ nm ≤ 2 ^ 3 := Nat.pow_le_pow_right (by decide) hm3
  have hp1 : 0 < 2 ^ nm := Nat.two_pow_pos nm
  simp only [Nat.reducePow] at hp
  have e : ((1 : Int32) <<< (nI nm &&& 31)) - 1 = nI (2 ^ nm - 1) := by rw [shl1 (by omega), show (1 : Int32) = nI 1 from rfl, N_sub hp1]
  unfold fX5_isGoal fX6_areSets
  rw [h4, setF (by omega), bd_ok, show (40 : Int32) = nI 40 from rfl, N_gd (by omega) (by omega), N_cl (by omega), hM.2.2.2.2.1, e]
  rcases win_c g (hi := nI (2 ^ nm - 1)) (2 ^ nm - 1) rfl (by omega) with ⟨-, e1, e2⟩ | ⟨j, hj, -, e1, e2⟩
  · rw [e1, e2, bd_ok, bd_ok, if_pos b0, if_pos b0]
    exact Or.inl ⟨rfl, rfl⟩
  · rw [e1, e2, bd_ok, bd_ok, if_neg b1, if_neg b1, show fX5_setOfFirst 6 σ = some (63, σ) from rfl, bd_ok]
    rcases win_c h (hi := 63) 63 rfl (by omega) with ⟨-, e3, e4⟩ | ⟨j, hj, -, e3, e4⟩
    · rw [e3, e4, bd_ok, bd_ok, if_pos b0, if_pos b0]
      exact Or.inl ⟨rfl, rfl⟩
    · rw [e3, e4, bd_ok, bd_ok, if_neg b1, if_neg b1]
      exact Or.inr ⟨rfl, rfl⟩
theorem bw_vn {g h : Int32} (hA : ∀ m, m < 3 → A 6 m ≤ 3) : ∀ k M t, VN nl nm M → BW (abM A nl nm 1023) (nx A) (gl A nm g h) k M t → VN nl nm (En (nx A) k M t) := by
  intro k
  induction k with
  | zero => intro M t hV _; exact hV
  | succ k ih =>
    rintro M t hV ⟨h1, h2, h3, -⟩
    exact ih _ _ (hV.nx hA h1 (ab_cs h2)) h3
theorem n_m1 {x : Int32} (h : (-1 : Int32) ≤ x) (h1 : ¬ x = -1) : ¬ x < 0 := by
  rw [Int32.le_iff_toInt_le] at h
  rw [Int32.lt_iff_toInt_lt]
  have e : (-1 : Int32).toInt = -1 := by decide
  have e0 : (0 : Int32).toInt = 0 := by decide
  have : ¬ x.toInt = (-1 : Int32).toInt := fun c => h1 (Int32.toInt_inj.mp c)
  omega
theorem m6_m1 : ¬ (-1 : Int32) = nI 0 := by decide
theorem sp_way : SP3 Rel0 fX5_way fX6_way := by
  rintro σ μ hR a b c
  obtain ⟨⟨A, nl, nm, N, now, hCu⟩, hK⟩ := hR
  have hR : Rel0 σ μ := ⟨⟨A, nl, nm, N, now, hCu⟩, hK⟩
  obtain ⟨hC, hV, h9, h10, hM, hN, h41⟩ := hCu
  unfold fX5_way fX6_way
  rcases goal_c hC.2.2.2.2.1 hM a b with ⟨e1, e2⟩ | ⟨e1, e2⟩
  · rw [e1, e2, bd_ok, bd_ok, if_pos b0, if_pos b0]
    exact ⟨_, _, _, rfl, rfl, hR⟩
  · rw [e1, e2, bd_ok, bd_ok, if_neg b1, if_neg b1]
    by_cases hc : (-1 : Int32) ≤ c
    · rw [if_pos hc, if_pos hc, h9]
      obtain ⟨⟨v, σ1⟩, e3, fr, hr⟩ := plan_ok hC hV a b
      obtain ⟨⟨w, μ1⟩, e4, fr2, hr2⟩ := layWay_ok hM hV hN a b
      dsimp only at fr hr fr2 hr2
      have hR2 : Rel0 σ1 μ1 := hR.cong fr fr2
      rw [e3, e4, bd_ok, bd_ok]
      rcases hr with ⟨r1, r2⟩ | ⟨n, k, t, hn, r1, hkn, r3, r4, r5, r6⟩
      · rcases hr2 with ⟨s1, -⟩ | ⟨L, u, -, -, s3, -⟩
        · rw [r1, s1, if_pos rfl, if_pos (by decide)]
          exact ⟨_, _, _, rfl, rfl, hR2⟩
        · exact absurd s3.1.gp (r2 L)
      · rcases hr2 with ⟨-, s2⟩ | ⟨L, u, hL8, s1, s3, s4, s5⟩
        · exact absurd r3.gp (s2 k)
        · obtain ⟨q1, q2, q3⟩ := WayOf.uniq (A := A) (nl := nl) (nm := nm) (N := N) ⟨r3, r4⟩ s3
          subst q1
          obtain ⟨t1, t2⟩ := r6 σ1 rfl
          rw [r1, s1, if_neg (m1_ne (by omega)), t1, bd_ok, if_neg (nn_neg (by omega))]
          by_cases hc1 : c = -1
          · rw [if_pos hc1, if_pos hc1]
            exact ⟨_, _, _, rfl, rfl, hR2⟩
          · obtain ⟨i, hi, rfl⟩ := nI_of (n_m1 hc hc1)
            rw [if_neg hc1, if_neg hc1]
            by_cases hki : k ≤ i
            · rw [if_pos (show nI k ≤ nI i by rw [N_le (by omega) (by omega)]; exact hki), if_pos (show nI k ≤ nI i by rw [N_le (by omega) (by omega)]; exact hki)]
              exact ⟨_, _, _, rfl, rfl, hR2⟩
            · rw [if_neg (show ¬ nI k ≤ nI i by rw [N_le (by omega) (by omega)]; exact hki), if_neg (show ¬ nI k ≤ nI i by rw [N_le (by omega) (by omega)]; exact hki), show (1 : Int32) = nI 1 from rfl, N_sub (by omega), N_sub (by omega), t2 i (by omega), bd_ok, N_gd (by omega) (by omega), N_cl (by omega), s5 i (by omega), q2 i (by omega)]
              exact ⟨_, _, _, rfl, rfl, hR2⟩
    · rw [if_neg hc, if_neg hc]
      exact ⟨_, _, _, rfl, rfl, hR⟩
theorem sp_go : SP2 Rel0 fX5_go fX6_go := by
  rintro σ μ hR a b
  obtain ⟨⟨A, nl, nm, N, now, hCu⟩, hK⟩ := hR
  have hR : Rel0 σ μ := ⟨⟨A, nl, nm, N, now, hCu⟩, hK⟩
  have hCu' := hCu
  obtain ⟨hC, hV, h9, h10, hM, hN, h41⟩ := hCu
  have hA := hA6 hC
  unfold fX5_go fX6_go
  rcases goal_c hC.2.2.2.2.1 hM a b with ⟨e1, e2⟩ | ⟨e1, e2⟩
  · rw [e1, e2, bd_ok, bd_ok, if_pos b0, if_pos b0]
    exact ⟨_, _, _, rfl, rfl, hR⟩
  · rw [e1, e2, bd_ok, bd_ok, if_neg b1, if_neg b1, h9]
    obtain ⟨⟨v, σ1⟩, e3, fr, hr⟩ := plan_ok hC hV a b
    obtain ⟨⟨w, μ1⟩, e4, fr2, hr2⟩ := layWay_ok hM hV hN a b
    dsimp only at fr hr fr2 hr2
    have hR2 : Rel0 σ1 μ1 := hR.cong fr fr2
    rw [e3, e4, bd_ok, bd_ok]
    rcases hr with ⟨r1, r2⟩ | ⟨n, k, t, hn, r1, hkn, r3, r4, r5, r6⟩
    · rcases hr2 with ⟨s1, -⟩ | ⟨L, u, -, -, s3, -⟩
      · rw [r1, s1, if_pos rfl, if_neg (by decide)]
        exact ⟨_, _, _, rfl, rfl, hR2⟩
      · exact absurd s3.1.gp (r2 L)
    · rcases hr2 with ⟨-, s2⟩ | ⟨L, u, hL8, s1, s3, s4, s5⟩
      · exact absurd r3.gp (s2 k)
      · obtain ⟨q1, q2, q3⟩ := WayOf.uniq (A := A) (nl := nl) (nm := nm) (N := N) ⟨r3, r4⟩ s3
        subst q1
        have hVE := bw_vn hA k N t hV r3
        obtain ⟨t1, -⟩ := r6 (wr σ1 1 9 (nI (cd (En (nx A) k N t)))) (wr_ne (by decide))
        obtain ⟨⟨v2, τ2⟩, e5, fr5, fj5, hN5⟩ := become_ok (μ := μ1) hVE.1
        dsimp only at fr5 fj5 hN5
        rw [← q3] at s4
        unfold fX4_codeAt
        rw [r1, s1, if_neg (m1_ne (by omega)), if_pos (nn0 (by omega)), N_gd (by omega) (by omega), N_cl (by omega), bd_ok, r5, sv_ok, t1, bd_ok, sv_ok, s4, e5, bd_ok, show (41 : Int32) = nI 41 from rfl, N_gd (by omega) (by omega), N_gd (by omega) (by omega), N_cl (by omega), sv_ok, N_gd (by omega) (by omega)]
        have h41' : τ2 1 41 = now := by rw [fj5 41 (by omega), fr2 1 (by omega) (by omega)]; exact h41
        have ev : wr τ2 1 41 (τ2 1 41 + nI k) 1 41 = now + nI k := by rw [wr_eq, if_pos rfl, h41']
        have es : wr (wr σ1 1 9 (nI (cd (En (nx A) k N t)))) 1 10 (wr σ1 1 9 (nI (cd (En (nx A) k N t))) 1 10 + nI k) 1 10 = now + nI k := by
          rw [wr_eq, if_pos rfl, wr_eq, if_neg (by decide), fr 1 (by omega), h10]
        rw [ev, es]
        refine ⟨_, _, _, rfl, rfl, ⟨A, nl, nm, En (nx A) k N t, now + nI k, ?_⟩, hR.2.cong ?_ (fun q hq => ?_) ?_ ?_⟩
        · refine hCu'.move (fun q hq hk1 => by rw [wr_ne hk1, wr_ne hk1, fr q (by omega)]) ?_ ?_ ?_ es hVE (fun j hj => ?_) ?_ ev
          · rw [wr_eq, if_neg (by decide), wr_eq, if_neg (by decide), fr 1 (by omega)]
          · rw [wr_eq, if_neg (by decide), wr_eq, if_neg (by decide), fr 1 (by omega)]
          · rw [wr_eq, if_neg (by decide), wr_eq, if_pos rfl]
          · rw [wr_eq, if_neg (by omega), fj5 j (by omega), fr2 1 (by omega) (by omega)]
          · refine ⟨fun l hl => ?_, fun m hm => ?_⟩
            · rw [wr_eq, if_neg (by omega)]; exact hN5.1 l hl
            · rw [wr_eq, if_neg (by omega)]; exact hN5.2 m hm
        · rw [wr_ne (by decide), wr_ne (by decide), fr 0 (by omega)]
        · rw [wr_ne (by omega), wr_ne (by omega), fr q (by omega)]
        · rw [wr_ne (by decide), fr5 2 (by decide), fr2 2 (by omega) (by omega)]
        · rw [wr_ne (by decide), fr5 3 (by decide), fr2 3 (by omega) (by omega)]
end Go
