section Reach
variable {A : Nat → Nat → Nat} {nl nm N st : Nat} {μ : Sg}
theorem rc_vn (hA : ∀ m, m < 3 → A 6 m ≤ 3) (hV : VN nl nm N) : ∀ d M, Rc (abM A nl nm st) (nx A) N d M → VN nl nm M := by
  intro d
  induction d with
  | zero => intro M h; rw [show M = N from h]; exact hV
  | succ d ih =>
    rintro M ⟨M', s, hs, hr, ha, rfl⟩
    exact (ih M' hr).nx hA hs (ab_cs ha)
theorem layAll_ok (hG : MG A nl nm μ) (hV : VN nl nm N) (hN : Now N μ) {w : Int32} (hw : ∀ s, s < 10 → (nI s = w ↔ st / 2 ^ s % 2 = 0)) : ∃ r, fX6_layAll w μ = some r ∧ ((∀ k, (k < 4 ∨ 9 < k) → r.2 k = μ k) ∧ FE (abM A nl nm st) (nx A) N (r.2 9)) := by
  have hA : ∀ m, m < 3 → A 6 m ≤ 3 := fun m hm => (hG.1.2 m hm).2.2.2
  have hlt : ∀ e M, Rc (abM A nl nm st) (nx A) N e M → M < 8000 := fun e M h => (rc_vn hA hV e M h).1
  have hN8 := hV.1
  unfold fX6_layAll
  refine lpA2 (fun x1 x2 τ => x1 = w ∧ ∃ i, x2 = nI i ∧ i ≤ 8000 ∧ (∀ k, k ≠ 9 → τ k = μ k) ∧ ∀ j, j < i → τ 9 j = -6) (fun _ x2 _ => 8001 - x2.toNatClampNeg) _ ?_ FU _ _ _ ⟨rfl, 0, rfl, by omega, fun _ _ => rfl, fun j h => by omega⟩ (Nat.lt_of_le_of_lt (Nat.sub_le _ _) (by decide))
  rintro k x1 x2 τ ⟨rfl, i, rfl, hi, fr, f9⟩ ih
  unfold fX6_layAll_L2
  by_cases he : i = 8000
  · subst he
    have hNt : Now N τ := by
      unfold Now
      rw [fr 1 (by decide)]
      exact hN
    rw [if_pos (by decide), nnow_ok hN8 hNt, bd_ok, N_gd hN8 (by omega), sv_ok, N_cl (by omega)]
    clear ih
    refine lpA3 (fun y1 y2 y3 ρ => y1 = x1 ∧ ∃ t b, y2 = nI t ∧ y3 = nI b ∧ b ≤ 1 ∧ (∀ k, (k < 4 ∨ 9 < k) → ρ k = μ k) ∧ FS (abM A nl nm st) (nx A) N t (ρ 9) ∧ t ≤ 8000 ∧ (b = 1 → ∃ M, Ds (abM A nl nm st) (nx A) N t M) ∧ (b = 0 → ∀ M, ¬ Ds (abM A nl nm st) (nx A) N t M)) (fun _ y2 _ _ => 8001 - y2.toNatClampNeg) _ ?_ FU _ _ _ _ ⟨rfl, 0, 1, rfl, rfl, by omega, fun q hq => by rw [wr_ne (by omega)]; exact fr q (by omega), ?_, by omega, fun _ => ⟨N, rfl, fun e he => by omega⟩, fun h => by omega⟩ (Nat.lt_of_le_of_lt (Nat.sub_le _ _) (by decide))
    · rintro k2 y1 y2 y3 ρ ⟨rfl, t, b, rfl, rfl, hb, fr2, hFS, ht, hb1, hb0⟩ ih
      unfold fX6_layAll_L37
      by_cases hz : b = 0
      · subst hz
        rw [if_pos (show nI 0 = 0 from rfl)]
        exact ⟨_, rfl, fr2, hFS.done hlt (hb0 rfl)⟩
      · have hb' : b = 1 := by omega
        subst hb'
        obtain ⟨M0, hM0⟩ := hb1 rfl
        have ht8 : t < 8000 := hM0.le hlt
        rw [if_neg (show ¬ nI 1 = 0 by decide)]
        have hGr : MG A nl nm ρ := hG.cong (fr2 1 (by omega))
        obtain ⟨⟨v, ρ2⟩, e, fr3, b', hv, hMI⟩ := goOn_ok (t := t) (st := st) hGr (by omega) hw
          (fun M hM => by
            rcases hFS M hM with ⟨d, hd, -, h⟩ | ⟨-, h⟩
            · exact Or.inr ⟨d, by omega, h⟩
            · exact Or.inl h)
          (fun M hM h => by
            rcases hFS M hM with ⟨d, hd, h1, h2⟩ | ⟨-, h2⟩
            · exact rc_vn hA hV d M h1.1
            · rw [h2] at h; exact absurd h.symm (m6_n (by omega)))
        dsimp only at fr3 hv hMI
        rw [e, bd_ok, sv_ok, hv, show (1 : Int32) = nI 1 from rfl, nI_add]
        have hst := hFS.step (by omega) hlt (hMI.same (P' := fun M => ∃ M', M' < 8000 ∧ ρ 9 M' = nI t ∧ ∃ s, s < 10 ∧ abM A nl nm st M' s = true ∧ nx A M' s = M) (f' := ρ2 9) (fun M => ⟨fun ⟨M', a, b, s, c, _, d⟩ => ⟨M', a, b, s, c, d⟩, fun ⟨M', a, b, s, c, d⟩ => ⟨M', a, b, s, c, Or.inl a, d⟩⟩) (fun _ _ => rfl))
        refine ih _ _ _ _ ⟨rfl, t + 1, b', rfl, rfl, hMI.1, fun q hq => by rw [fr3 q hq]; exact fr2 q hq, hst.1, by omega, hst.2.1, hst.2.2⟩ ?_
        rw [N_cl (by omega), N_cl (by omega)]
        omega
    · intro M hM
      rw [wr_eq]
      by_cases c : M = N
      · rw [if_pos c]
        exact Or.inl ⟨0, by omega, ⟨c, fun e he => by omega⟩, rfl⟩
      · rw [if_neg c]
        refine Or.inr ⟨fun d hd hr => ?_, f9 M hM⟩
        rw [show d = 0 by omega] at hr
        exact c hr
  · have hi8 : i < 8000 := by omega
    rw [if_neg (show ¬ (8000 : Int32) ≤ nI i by rw [litI, N_le (by omega) (by omega)]; omega), N_gd hi8 (by omega), N_cl (by omega), sv_ok, sv_ok, show (1 : Int32) = nI 1 from rfl, nI_add]
    refine ih _ _ _ ⟨rfl, i + 1, rfl, by omega, fun q hq => by rw [wr_ne hq]; exact fr q hq, fun j hj => ?_⟩ ?_
    · rw [wr_eq]
      by_cases ej : j = i
      · rw [if_pos ej]
      · rw [if_neg ej]; exact f9 j (by omega)
    · rw [N_cl (by omega), N_cl (by omega)]
      omega
theorem nn_neg {a : Nat} (h : a < 2147483648) : ¬ nI a < 0 := by
  rw [litI, N_lt h (by omega)]; omega
theorem reached_ok (hG : MG A nl nm μ) (hV : VN nl nm N) (hF : FE (abM A nl nm st) (nx A) N (μ 9)) (g h : Int32) : ∃ r, fX6_reached g h μ = some r ∧ ((∀ k, (k < 4 ∨ 8 < k) → r.2 k = μ k) ∧ ((r.1 = -6 ∧ ∀ k, ¬ GP (abM A nl nm st) (nx A) (gl A nm g h) k N) ∨ ∃ L, L < 8000 ∧ r.1 = nI L ∧ GP (abM A nl nm st) (nx A) (gl A nm g h) L N ∧ ∀ j, j < L → ¬ GP (abM A nl nm st) (nx A) (gl A nm g h) j N)) := by
  have hA : ∀ m, m < 3 → A 6 m ≤ 3 := fun m hm => (hG.1.2 m hm).2.2.2
  have hlt : ∀ e M, Rc (abM A nl nm st) (nx A) N e M → M < 8000 := fun e M h => (rc_vn hA hV e M h).1
  unfold fX6_reached
  refine lpA4 (fun x1 x2 x3 x4 τ => x1 = g ∧ x2 = h ∧ ∃ n, x4 = nI n ∧ n ≤ 8000 ∧ (∀ k, (k < 4 ∨ 8 < k) → τ k = μ k) ∧ ((x3 = -6 ∧ ∀ M, M < n → ∀ d, Ds (abM A nl nm st) (nx A) N d M → ¬ gl A nm g h M = true) ∨ ∃ L, L < 8000 ∧ x3 = nI L ∧ (∃ M, Ds (abM A nl nm st) (nx A) N L M ∧ gl A nm g h M = true) ∧ ∀ M, M < n → ∀ d, Ds (abM A nl nm st) (nx A) N d M → gl A nm g h M = true → L ≤ d)) (fun _ _ _ x4 _ => 8001 - x4.toNatClampNeg) _ ?_ FU _ _ _ _ _ ⟨rfl, rfl, 0, rfl, by omega, fun _ _ => rfl, Or.inl ⟨rfl, fun M hM => by omega⟩⟩ (Nat.lt_of_le_of_lt (Nat.sub_le _ _) (by decide))
  rintro k x1 x2 x3 x4 τ ⟨rfl, rfl, n, rfl, hn, fr, hb⟩ ih
  unfold fX6_reached_L6
  by_cases he : n = 8000
  · subst he
    rw [if_pos (by decide)]
    refine ⟨_, rfl, fr, ?_⟩
    rcases hb with ⟨h1, h2⟩ | ⟨L, h1, h2, ⟨M, h3, h4⟩, h5⟩
    · refine Or.inl ⟨h1, fun k hk => ?_⟩
      obtain ⟨M, hr, hg⟩ := hk.rc (N0 := N) (d := 0) rfl
      obtain ⟨e, -, hd⟩ := Ds.of hr
      exact h2 M (hlt _ M hr) e hd hg
    · refine Or.inr ⟨L, h1, h2, ?_, fun j hj hk => ?_⟩
      · exact Rc.gp 0 M h3.1 h4
      · obtain ⟨M', hr, hg⟩ := hk.rc (N0 := N) (d := 0) rfl
        obtain ⟨e, he, hd⟩ := Ds.of hr
        have := h5 M' (hlt _ M' hr) e hd hg
        omega
  · have hn8 : n < 8000 := by omega
    have next : ∀ (y3 : Int32) (τ' : Sg), (∀ k, (k < 4 ∨ 8 < k) → τ' k = μ k) → ((y3 = -6 ∧ ∀ M, M < n + 1 → ∀ d, Ds (abM A nl nm st) (nx A) N d M → ¬ gl A nm x1 x2 M = true) ∨ ∃ L, L < 8000 ∧ y3 = nI L ∧ (∃ M, Ds (abM A nl nm st) (nx A) N L M ∧ gl A nm x1 x2 M = true) ∧ ∀ M, M < n + 1 → ∀ d, Ds (abM A nl nm st) (nx A) N d M → gl A nm x1 x2 M = true → L ≤ d) → ∃ r, fX6_reached_58 k x1 x2 y3 (nI n) τ' = some r ∧ ((∀ k, (k < 4 ∨ 8 < k) → r.2 k = μ k) ∧ ((r.1 = -6 ∧ ∀ k, ¬ GP (abM A nl nm st) (nx A) (gl A nm x1 x2) k N) ∨ ∃ L, L < 8000 ∧ r.1 = nI L ∧ GP (abM A nl nm st) (nx A) (gl A nm x1 x2) L N ∧ ∀ j, j < L → ¬ GP (abM A nl nm st) (nx A) (gl A nm x1 x2) j N)) := by
      intro y3 τ' fr' hy
      unfold fX6_reached_58
      rw [sv_ok, show (1 : Int32) = nI 1 from rfl, nI_add]
      refine ih _ _ _ _ _ ⟨rfl, rfl, n + 1, rfl, by omega, fr', hy⟩ ?_
      rw [N_cl (by omega), N_cl (by omega)]
      omega
    have lt1 : ∀ M, M < n + 1 → M < n ∨ M = n := fun M hM => by omega
    rw [if_neg (show ¬ (8000 : Int32) ≤ nI n by rw [litI, N_le (by omega) (by omega)]; omega), N_gd hn8 (by omega), N_cl (by omega), fr 9 (by omega)]
    rcases hF n hn8 with ⟨d, hd8, hd, hf⟩ | ⟨hno, hf⟩
    · have hVn := rc_vn hA hV d n hd.1
      have hGt : MG A nl nm τ := hG.cong (fr 1 (by omega))
      rw [hf, if_neg (nn_neg (by omega))]
      obtain ⟨τ2, e, fr2⟩ := goal_m hGt hVn x1 x2
      have frr : ∀ k, (k < 4 ∨ 8 < k) → τ2 k = μ k := fun q hq => by rw [fr2 q hq]; exact fr q hq
      rcases hb with ⟨h1, h2⟩ | ⟨L, h1, h2, h3, h5⟩
      · rw [h1, if_pos (by decide)]
        unfold fX6_reached_39
        rw [e, bd_ok]
        cases hg : gl A nm x1 x2 n
        · rw [if_pos (show nI (b01 false) = 0 from rfl)]
          refine next _ _ frr (Or.inl ⟨rfl, fun M hM d' hd' hg' => ?_⟩)
          rcases lt1 M hM with c | c
          · exact h2 M c d' hd' hg'
          · rw [c, hg] at hg'; exact absurd hg' (by decide)
        · rw [if_neg (show ¬ nI (b01 true) = 0 by decide), N_gd hn8 (by omega), sv_ok, N_cl (by omega), frr 9 (by omega), hf]
          refine next _ _ frr (Or.inr ⟨d, hd8, rfl, ⟨n, hd, hg⟩, fun M hM d' hd' hg' => ?_⟩)
          rcases lt1 M hM with c | c
          · exact absurd hg' (h2 M c d' hd')
          · rw [c] at hd'; rw [hd.uniq hd']; exact Nat.le_refl _
      · rw [h2, if_neg (nn_neg (by omega)), N_gd hn8 (by omega)]
        by_cases hLd : L ≤ d
        · rw [if_pos (show nI L ≤ nI d by rw [N_le (by omega) (by omega)]; exact hLd)]
          refine next _ _ fr (Or.inr ⟨L, h1, rfl, h3, fun M hM d' hd' hg' => ?_⟩)
          rcases lt1 M hM with c | c
          · exact h5 M c d' hd' hg'
          · rw [c] at hd'; rw [← hd.uniq hd']; exact hLd
        · rw [if_neg (show ¬ nI L ≤ nI d by rw [N_le (by omega) (by omega)]; exact hLd)]
          unfold fX6_reached_39
          rw [e, bd_ok]
          cases hg : gl A nm x1 x2 n
          · rw [if_pos (show nI (b01 false) = 0 from rfl)]
            refine next _ _ frr (Or.inr ⟨L, h1, rfl, h3, fun M hM d' hd' hg' => ?_⟩)
            rcases lt1 M hM with c | c
            · exact h5 M c d' hd' hg'
            · rw [c, hg] at hg'; exact absurd hg' (by decide)
          · rw [if_neg (show ¬ nI (b01 true) = 0 by decide), N_gd hn8 (by omega), sv_ok, N_cl (by omega), frr 9 (by omega), hf]
            refine next _ _ frr (Or.inr ⟨d, hd8, rfl, ⟨n, hd, hg⟩, fun M hM d' hd' hg' => ?_⟩)
            rcases lt1 M hM with c | c
            · have := h5 M c d' hd' hg'; omega
            · rw [c] at hd'; rw [hd.uniq hd']; exact Nat.le_refl _
    · rw [hf, if_pos (by decide)]
      refine next _ _ fr ?_
      rcases hb with ⟨h1, h2⟩ | ⟨L, h1, h2, h3, h5⟩
      · refine Or.inl ⟨h1, fun M hM d hd => ?_⟩
        rcases lt1 M hM with c | c
        · exact h2 M c d hd
        · rw [c] at hd; exact absurd hd.1 (hno d)
      · refine Or.inr ⟨L, h1, h2, h3, fun M hM d hd hg => ?_⟩
        rcases lt1 M hM with c | c
        · exact h5 M c d hd hg
        · rw [c] at hd; exact absurd hd.1 (hno d)
theorem canW_ok (hG : MG A nl nm μ) (hV : VN nl nm N) (hN : Now N μ) {w : Int32} (hw : ∀ s, s < 10 → (nI s = w ↔ st / 2 ^ s % 2 = 0)) (g h : Int32) : ∃ r, fX6_canWithout w g h μ = some r ∧ ((∀ k, (k < 4 ∨ 9 < k) → r.2 k = μ k) ∧ ((r.1 = nI 0 ∧ ∀ k, ¬ GP (abM A nl nm st) (nx A) (gl A nm g h) k N) ∨ (r.1 = nI 1 ∧ ∃ k, GP (abM A nl nm st) (nx A) (gl A nm g h) k N))) := by
  unfold fX6_canWithout
  obtain ⟨⟨v, τ⟩, e, fr, hF⟩ := layAll_ok hG hV hN hw
  dsimp only at fr hF
  rw [e, bd_ok]
  obtain ⟨⟨v2, τ2⟩, e2, fr2, hr⟩ := reached_ok (hG.cong (fr 1 (by omega))) hV hF g h
  dsimp only at fr2 hr
  rw [e2, bd_ok]
  have frr : ∀ k, (k < 4 ∨ 9 < k) → τ2 k = μ k := fun q hq => by rw [fr2 q (by omega)]; exact fr q hq
  rcases hr with ⟨h1, h2⟩ | ⟨L, h1, h2, h3, -⟩
  · rw [h1, if_pos (by decide)]
    exact ⟨_, rfl, frr, Or.inl ⟨rfl, h2⟩⟩
  · rw [h2, if_neg (nn_neg (by omega))]
    exact ⟨_, rfl, frr, Or.inr ⟨rfl, L, h3⟩⟩
end Reach
