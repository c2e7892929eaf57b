section Way
variable {A : Nat → Nat → Nat} {nl nm N : Nat} {μ : Sg}
theorem st_all : ∀ s, s < 10 → 1023 / 2 ^ s % 2 = 1 := by decide
theorem hw_all : ∀ s, s < 10 → (nI s = (-6 : Int32) ↔ 1023 / 2 ^ s % 2 = 0) := fun s hs => ⟨fun h => absurd h (m6_n (by omega)), fun h => by have := st_all s hs; omega⟩
theorem ab_all {s M : Nat} (hs : s < 10) : abM A nl nm 1023 M s = cs A nl nm M s := ab_w (hw_all s hs) (m6_n (by omega))
theorem Laid.cong {τ τ' : Sg} {M : Nat} (h : Laid A nm M τ) (hc : ∀ k, 4 ≤ k → k ≤ 8 → τ' k = τ k) : Laid A nm M τ' := by
  unfold Laid at h ⊢
  rw [hc 4 (by omega) (by omega), hc 5 (by omega) (by omega), hc 6 (by omega) (by omega), hc 7 (by omega) (by omega), hc 8 (by omega) (by omega)]
  exact h
theorem stepOn_ok (hG : MG A nl nm μ) (hV : VN nl nm N) (hF : FE (abM A nl nm 1023) (nx A) N (μ 9)) {g h : Int32} {L d e M : Nat} (hL : d + 1 + e = L) (hL8 : L < 8000) (hmin : ∀ j, j < L → ¬ GP (abM A nl nm 1023) (nx A) (gl A nm g h) j N) (hd : Ds (abM A nl nm 1023) (nx A) N d M) (hlead : ∀ X, Ds (abM A nl nm 1023) (nx A) N (d + 1) X → (¬ μ 10 X = 0 ↔ GP (abM A nl nm 1023) (nx A) (gl A nm g h) e X)) : ∃ r, fX6_stepOn (nI M) μ = some r ∧ ((∀ k, (k < 4 ∨ 8 < k) → r.2 k = μ k) ∧ ((r.1 = -6 ∧ ¬ GP (abM A nl nm 1023) (nx A) (gl A nm g h) (e + 1) M) ∨ ∃ s, s < 10 ∧ r.1 = nI s ∧ abM A nl nm 1023 M s = true ∧ GP (abM A nl nm 1023) (nx A) (gl A nm g h) e (nx A M s) ∧ ∀ s', s' < s → abM A nl nm 1023 M s' = true → ¬ GP (abM A nl nm 1023) (nx A) (gl A nm g h) e (nx A M s'))) := by
  have hA : ∀ m, m < 3 → A 6 m ≤ 3 := fun m hm => (hG.1.2 m hm).2.2.2
  have hVM := rc_vn hA hV d M hd.1
  have hM8 := hVM.1
  have hfM : μ 9 M = nI d := by
    rcases hF M hM8 with ⟨d', -, h1, h2⟩ | ⟨h1, -⟩
    · rw [h2, h1.uniq hd]
    · exact absurd hd.1 (h1 d)
  unfold fX6_stepOn
  obtain ⟨⟨v, τ⟩, e1, fr, hLd⟩ := layN hG hVM
  dsimp only at fr hLd
  have hGt : MG A nl nm τ := hG.cong (fr 1 (by omega))
  rw [e1, bd_ok]
  refine lpA2 (fun x1 x2 ρ => ρ = τ ∧ x1 = nI M ∧ ∃ s, x2 = nI s ∧ s ≤ 10 ∧ ∀ s', s' < s → abM A nl nm 1023 M s' = true → ¬ GP (abM A nl nm 1023) (nx A) (gl A nm g h) e (nx A M s')) (fun _ x2 _ => 11 - x2.toNatClampNeg) _ ?_ FU _ _ _ ⟨rfl, rfl, 0, rfl, by omega, fun s' h => by omega⟩ (Nat.lt_of_le_of_lt (Nat.sub_le _ _) (by decide))
  rintro k x1 x2 ρ ⟨rfl, rfl, s, rfl, hs, hno⟩ ih
  unfold fX6_stepOn_L7
  by_cases hs10 : s = 10
  · subst hs10
    rw [if_pos (by decide)]
    refine ⟨_, rfl, fr, Or.inl ⟨rfl, ?_⟩⟩
    rintro ⟨s', h1, h2, h3⟩
    exact hno s' h1 h2 h3
  · have hsl : s < 10 := by omega
    have next : (abM A nl nm 1023 M s = true → ¬ GP (abM A nl nm 1023) (nx A) (gl A nm g h) e (nx A M s)) → ∃ r, fX6_stepOn_55 k (nI M) (nI s) ρ = some r ∧ ((∀ k, (k < 4 ∨ 8 < k) → r.2 k = μ k) ∧ ((r.1 = -6 ∧ ¬ GP (abM A nl nm 1023) (nx A) (gl A nm g h) (e + 1) M) ∨ ∃ s, s < 10 ∧ r.1 = nI s ∧ abM A nl nm 1023 M s = true ∧ GP (abM A nl nm 1023) (nx A) (gl A nm g h) e (nx A M s) ∧ ∀ s', s' < s → abM A nl nm 1023 M s' = true → ¬ GP (abM A nl nm 1023) (nx A) (gl A nm g h) e (nx A M s'))) := by
      intro hn
      unfold fX6_stepOn_55
      rw [sv_ok, show (1 : Int32) = nI 1 from rfl, nI_add]
      refine ih _ _ _ ⟨rfl, rfl, s + 1, rfl, by omega, fun s' hs' ha => ?_⟩ ?_
      · by_cases c : s' = s
        · rw [c] at ha ⊢; exact hn ha
        · exact hno s' (by omega) ha
      · rw [N_cl (by omega), N_cl (by omega)]
        omega
    rw [if_neg (show ¬ (10 : Int32) ≤ nI s by rw [litI, N_le (by omega) (by omega)]; omega), canStep_m hGt hLd hsl, bd_ok]
    cases hcs : cs A nl nm M s
    · rw [if_pos (show nI (b01 false) = 0 from rfl)]
      exact next (fun ha => by rw [ab_all hsl, hcs] at ha; exact absurd ha (by decide))
    · have hab : abM A nl nm 1023 M s = true := by rw [ab_all hsl]; exact hcs
      have hX : nx A M s < 8000 := nx_lt hA hsl
      have hrX : Rc (abM A nl nm 1023) (nx A) N (d + 1) (nx A M s) := ⟨M, s, hsl, hd.1, hab, rfl⟩
      rw [if_neg (show ¬ nI (b01 true) = 0 by decide), behind_ok hGt hLd hsl, bd_ok, N_gd hX (by omega), N_gd hM8 (by omega), N_cl (by omega), N_cl (by omega), fr 9 (by omega), hfM, show (1 : Int32) = nI 1 from rfl, nI_add]
      have hDs : GP (abM A nl nm 1023) (nx A) (gl A nm g h) e (nx A M s) → Ds (abM A nl nm 1023) (nx A) N (d + 1) (nx A M s) := fun hgp => ⟨hrX, fun e' he' hr => hmin (e' + e) (by omega) (Rc.gp e _ hr hgp)⟩
      by_cases hf : μ 9 (nx A M s) = nI (d + 1)
      · have hD : Ds (abM A nl nm 1023) (nx A) N (d + 1) (nx A M s) := by
          rcases hF _ hX with ⟨d', hd8, h1, h2⟩ | ⟨-, h2⟩
          · rw [h2, nI_eq (by omega) (by omega)] at hf
            rw [← hf]; exact h1
          · rw [h2] at hf; exact absurd hf.symm (m6_n (by omega))
        rw [if_pos hf, N_gd hX (by omega), fr 10 (by omega)]
        by_cases hl : μ 10 (nx A M s) = 0
        · rw [if_pos hl]
          exact next (fun _ hgp => (hlead _ hD).mpr hgp hl)
        · rw [if_neg hl]
          exact ⟨_, rfl, fr, Or.inr ⟨s, hsl, rfl, hab, (hlead _ hD).mp hl, hno⟩⟩
      · rw [if_neg hf]
        refine next (fun _ hgp => hf ?_)
        rcases hF _ hX with ⟨d', hd8, h1, h2⟩ | ⟨h1, -⟩
        · rw [h2, h1.uniq (hDs hgp)]
        · exact absurd hrX (h1 _)
theorem layLeads_ok (hG : MG A nl nm μ) (hV : VN nl nm N) (hF : FE (abM A nl nm 1023) (nx A) N (μ 9)) {g h : Int32} {L : Nat} (hL8 : L < 8000) (hmin : ∀ j, j < L → ¬ GP (abM A nl nm 1023) (nx A) (gl A nm g h) j N) : ∃ r, fX6_layLeads (nI L) g h μ = some r ∧ ((∀ k, (k < 4 ∨ 8 < k) → k ≠ 10 → r.2 k = μ k) ∧ ∀ X d, d ≤ L → Ds (abM A nl nm 1023) (nx A) N d X → (¬ r.2 10 X = 0 ↔ GP (abM A nl nm 1023) (nx A) (gl A nm g h) (L - d) X)) := by
  have hA : ∀ m, m < 3 → A 6 m ≤ 3 := fun m hm => (hG.1.2 m hm).2.2.2
  have lvl : ∀ X d, d < 8000 → Ds (abM A nl nm 1023) (nx A) N d X → X < 8000 ∧ μ 9 X = nI d := fun X d hd hD => by
    have hX := (rc_vn hA hV d X hD.1).1
    refine ⟨hX, ?_⟩
    rcases hF X hX with ⟨d', -, h1, h2⟩ | ⟨h1, -⟩
    · rw [h2, h1.uniq hD]
    · exact absurd hD.1 (h1 d)
  have lvl2 : ∀ X d, d < 8000 → X < 8000 → μ 9 X = nI d → Ds (abM A nl nm 1023) (nx A) N d X := fun X d hd hX hf => by
    rcases hF X hX with ⟨d', hd8, h1, h2⟩ | ⟨-, h2⟩
    · rw [h2, nI_eq (by omega) (by omega)] at hf
      rw [← hf]; exact h1
    · rw [h2] at hf; exact absurd hf.symm (m6_n (by omega))
  unfold fX6_layLeads
  refine lpA4 (fun x1 x2 x3 x4 τ => x1 = nI L ∧ x2 = g ∧ x3 = h ∧ ∃ n, x4 = nI n ∧ n ≤ 8000 ∧ (∀ k, (k < 4 ∨ 8 < k) → k ≠ 10 → τ k = μ k) ∧ ∀ X, X < n → (¬ τ 10 X = 0 ↔ μ 9 X = nI L ∧ gl A nm g h X = true)) (fun _ _ _ x4 _ => 8001 - x4.toNatClampNeg) _ ?_ FU _ _ _ _ _ ⟨rfl, rfl, rfl, 0, rfl, by omega, fun _ _ _ => rfl, fun X hX => by omega⟩ (Nat.lt_of_le_of_lt (Nat.sub_le _ _) (by decide))
  rintro k x1 x2 x3 x4 τ ⟨rfl, rfl, rfl, n, rfl, hn, fr, hw⟩ ih
  unfold fX6_layLeads_L3
  by_cases he : n = 8000
  · subst he
    rw [if_pos (by decide), sv_ok]
    clear ih
    refine lpA1 (fun x4 ρ => ∃ t, x4 = nI t - 1 ∧ t ≤ L ∧ (∀ k, (k < 4 ∨ 8 < k) → k ≠ 10 → ρ k = μ k) ∧ ∀ X d, t ≤ d → d ≤ L → Ds (abM A nl nm 1023) (nx A) N d X → (¬ ρ 10 X = 0 ↔ GP (abM A nl nm 1023) (nx A) (gl A nm x2 x3) (L - d) X)) (fun x4 _ => (x4 + 1).toNatClampNeg) _ ?_ FU _ _ ⟨L, rfl, Nat.le_refl _, fr, fun X d h1 h2 hD => ?_⟩ ?_
    · rintro k2 x4 ρ ⟨t, rfl, ht, fr2, hw2⟩ ih
      unfold fX6_layLeads_L56
      by_cases hz : t = 0
      · subst hz
        rw [if_pos (by decide)]
        exact ⟨_, rfl, fr2, fun X d hd hD => hw2 X d (by omega) hd hD⟩
      · obtain ⟨u, rfl⟩ : ∃ u, t = u + 1 := ⟨t - 1, by omega⟩
        rw [show nI (u + 1) - 1 = nI u from N_sub (b := 1) (by omega), if_neg (nn_neg (by omega))]
        have ih2 : ∀ ρ' : Sg, (∀ k, (k < 4 ∨ 8 < k) → k ≠ 10 → ρ' k = μ k) → (∀ X d, u ≤ d → d ≤ L → Ds (abM A nl nm 1023) (nx A) N d X → (¬ ρ' 10 X = 0 ↔ GP (abM A nl nm 1023) (nx A) (gl A nm x2 x3) (L - d) X)) → ∃ r, k2 (nI u + (-1)) ρ' = some r ∧ ((∀ k, (k < 4 ∨ 8 < k) → k ≠ 10 → r.2 k = μ k) ∧ ∀ X d, d ≤ L → Ds (abM A nl nm 1023) (nx A) N d X → (¬ r.2 10 X = 0 ↔ GP (abM A nl nm 1023) (nx A) (gl A nm x2 x3) (L - d) X)) := by
          intro ρ' f1 f2
          have e1 : nI u + (-1) + 1 = nI u := by rw [Int32.add_assoc, show (-1 : Int32) + 1 = 0 by decide, Int32.add_zero]
          refine ih _ _ ⟨u, by rw [Int32.sub_eq_add_neg], by omega, f1, f2⟩ ?_
          rw [show nI (u + 1) - 1 = nI u from N_sub (b := 1) (by omega), e1, show (1 : Int32) = nI 1 from rfl, nI_add, N_cl (by omega), N_cl (by omega)]
          omega
        clear ih
        refine lpA2 (fun x4 x5 π => x4 = nI u ∧ ∃ n, x5 = nI n ∧ n ≤ 8000 ∧ (∀ k, (k < 4 ∨ 8 < k) → k ≠ 10 → π k = μ k) ∧ ∀ X d, (u + 1 ≤ d ∨ (d = u ∧ X < n)) → d ≤ L → Ds (abM A nl nm 1023) (nx A) N d X → (¬ π 10 X = 0 ↔ GP (abM A nl nm 1023) (nx A) (gl A nm x2 x3) (L - d) X)) (fun _ x5 _ => 8001 - x5.toNatClampNeg) _ ?_ FU _ _ _ ⟨rfl, 0, rfl, by omega, fr2, fun X d h1 h2 hD => hw2 X d (by omega) h2 hD⟩ (Nat.lt_of_le_of_lt (Nat.sub_le _ _) (by decide))
        rintro k3 x4 x5 π ⟨rfl, n, rfl, hn, fr3, hw3⟩ ih
        unfold fX6_layLeads_L64
        by_cases he : n = 8000
        · subst he
          rw [if_pos (by decide), sv_ok]
          refine ih2 π fr3 (fun X d h1 h2 hD => hw3 X d ?_ h2 hD)
          have := (lvl X d (by omega) hD).1
          omega
        · have hn8 : n < 8000 := by omega
          have next : ∀ π' : Sg, (∀ k, (k < 4 ∨ 8 < k) → k ≠ 10 → π' k = μ k) → (∀ X d, (u + 1 ≤ d ∨ (d = u ∧ X < n + 1)) → d ≤ L → Ds (abM A nl nm 1023) (nx A) N d X → (¬ π' 10 X = 0 ↔ GP (abM A nl nm 1023) (nx A) (gl A nm x2 x3) (L - d) X)) → ∃ r, fX6_layLeads_105 k2 k3 (nI u) (nI n) π' = some r ∧ ((∀ k, (k < 4 ∨ 8 < k) → k ≠ 10 → r.2 k = μ k) ∧ ∀ X d, d ≤ L → Ds (abM A nl nm 1023) (nx A) N d X → (¬ r.2 10 X = 0 ↔ GP (abM A nl nm 1023) (nx A) (gl A nm x2 x3) (L - d) X)) := by
            intro π' f1 f2
            unfold fX6_layLeads_105
            rw [sv_ok, show (1 : Int32) = nI 1 from rfl, nI_add]
            refine ih _ _ _ ⟨rfl, n + 1, rfl, by omega, f1, f2⟩ ?_
            rw [N_cl (by omega), N_cl (by omega)]
            omega
          rw [if_neg (show ¬ (8000 : Int32) ≤ nI n by rw [litI, N_le (by omega) (by omega)]; omega), N_gd hn8 (by omega), N_cl (by omega), fr3 9 (by omega) (by decide)]
          by_cases hf : μ 9 n = nI u
          · have hD := lvl2 n u (by omega) hn8 hf
            have hGp : MG A nl nm π := hG.cong (fr3 1 (by omega) (by decide))
            have hFp : FE (abM A nl nm 1023) (nx A) N (π 9) := by rw [fr3 9 (by omega) (by decide)]; exact hF
            obtain ⟨⟨v, π2⟩, e, fr4, hr⟩ := stepOn_ok (L := L) (d := u) (e := L - (u + 1)) hGp hV hFp (by omega) hL8 hmin hD (fun X hX => hw3 X (u + 1) (by omega) (by omega) hX)
            dsimp only at fr4 hr
            rw [if_pos hf, e, bd_ok]
            have hee : L - (u + 1) + 1 = L - u := by omega
            have fr5 : ∀ k, (k < 4 ∨ 8 < k) → k ≠ 10 → π2 k = μ k := fun q h1 h2 => by rw [fr4 q h1]; exact fr3 q h1 h2
            rcases hr with ⟨h1, h2⟩ | ⟨s, hs, h1, h2, h3, -⟩
            · rw [h1, if_pos (by decide)]
              unfold fX6_layLeads_104
              rw [N_gd hn8 (by omega), sv_ok, N_cl (by omega), nar0]
              refine next _ (fun q a b => by rw [wr_ne b]; exact fr5 q a b) (fun X d' h' h'' hD' => ?_)
              rw [wr_eq]
              by_cases c : X = n
              · subst c
                have : d' = u := hD'.uniq hD
                subst this
                rw [if_pos rfl]
                refine ⟨fun c => absurd rfl c, fun c => ?_⟩
                rw [hee] at h2
                exact absurd c h2
              · rw [if_neg c, fr4 10 (by omega)]
                exact hw3 X d' (by omega) h'' hD'
            · rw [h1, if_neg (nn_neg (by omega))]
              unfold fX6_layLeads_104
              rw [N_gd hn8 (by omega), sv_ok, N_cl (by omega), nar1]
              refine next _ (fun q a b => by rw [wr_ne b]; exact fr5 q a b) (fun X d' h' h'' hD' => ?_)
              rw [wr_eq]
              by_cases c : X = n
              · subst c
                have : d' = u := hD'.uniq hD
                subst this
                rw [if_pos rfl, ← hee]
                exact ⟨fun _ => ⟨s, hs, h2, h3⟩, fun _ => by decide⟩
              · rw [if_neg c, fr4 10 (by omega)]
                exact hw3 X d' (by omega) h'' hD'
          · rw [if_neg hf]
            refine next π fr3 (fun X d' h' h'' hD' => hw3 X d' ?_ h'' hD')
            by_cases c : d' = u
            · subst c
              have : X ≠ n := fun e => hf (by rw [← e]; exact (lvl X d' (by omega) hD').2)
              omega
            · omega
    · have : d = L := by omega
      subst this
      obtain ⟨hX, hf⟩ := lvl X d hL8 hD
      rw [hw X hX, Nat.sub_self]
      exact ⟨fun h => h.2, fun h => ⟨hf, h⟩⟩
    · show (nI L - 1 + 1).toNatClampNeg < FU
      rw [show nI L - 1 + 1 = nI L by rw [Int32.sub_add_cancel], N_cl (by omega)]
      exact Nat.lt_of_lt_of_le hL8 (by decide)
  · have hn8 : n < 8000 := by omega
    have next : ∀ τ' : Sg, (∀ k, (k < 4 ∨ 8 < k) → k ≠ 10 → τ' k = μ k) → ∀ v : Int32, (¬ v = 0 ↔ μ 9 n = nI L ∧ gl A nm x2 x3 n = true) → vp_nar .boolean v = v → τ' 10 = τ 10 → ∃ r, fX6_layLeads_44 k (nI L) x2 x3 (nI n) v (nI n) τ' = some r ∧ ((∀ k, (k < 4 ∨ 8 < k) → k ≠ 10 → r.2 k = μ k) ∧ ∀ X d, d ≤ L → Ds (abM A nl nm 1023) (nx A) N d X → (¬ r.2 10 X = 0 ↔ GP (abM A nl nm 1023) (nx A) (gl A nm x2 x3) (L - d) X)) := by
      intro τ' f1 v hv hnar f10
      unfold fX6_layLeads_44
      rw [N_gd hn8 (by omega), sv_ok, sv_ok, N_cl (by omega), hnar, show (1 : Int32) = nI 1 from rfl, nI_add]
      refine ih _ _ _ _ _ ⟨rfl, rfl, rfl, n + 1, rfl, by omega, fun q a b => by rw [wr_ne b]; exact f1 q a b, fun X hX => ?_⟩ ?_
      · rw [wr_eq]
        by_cases c : X = n
        · rw [if_pos c, c]; exact hv
        · rw [if_neg c, f10]; exact hw X (by omega)
      · rw [N_cl (by omega), N_cl (by omega)]
        omega
    rw [if_neg (show ¬ (8000 : Int32) ≤ nI n by rw [litI, N_le (by omega) (by omega)]; omega), N_gd hn8 (by omega), N_cl (by omega), fr 9 (by omega) (by decide)]
    by_cases hf : μ 9 n = nI L
    · have hD := lvl2 n L hL8 hn8 hf
      rw [if_pos hf]
      obtain ⟨τ2, e, fr2⟩ := goal_m (hG.cong (fr 1 (by omega) (by decide))) (rc_vn hA hV L n hD.1) x2 x3
      rw [e, bd_ok]
      have frr : ∀ k, (k < 4 ∨ 8 < k) → k ≠ 10 → τ2 k = μ k := fun q a b => by rw [fr2 q a]; exact fr q a b
      cases hg : gl A nm x2 x3 n
      · rw [if_pos (show nI (b01 false) = 0 from rfl)]
        exact next τ2 frr 0 ⟨fun c => absurd rfl c, fun c => by rw [hg] at c; exact absurd c.2 (by decide)⟩ nar0 (fr2 10 (by omega))
      · rw [if_neg (show ¬ nI (b01 true) = 0 by decide)]
        exact next τ2 frr 1 ⟨fun _ => ⟨hf, hg⟩, fun _ => by decide⟩ nar1 (fr2 10 (by omega))
    · rw [if_neg hf]
      exact next τ fr 0 ⟨fun c => absurd rfl c, fun c => absurd c.1 hf⟩ nar0 rfl
end Way
