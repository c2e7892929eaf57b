section Ops
variable {A : Nat → Nat → Nat} {nl nm N : Nat} {now : Int32} {σ μ σ' μ' : Sg}
theorem iset_ok (hL : Laid A nm N μ) {b : Nat} (hb : b < 6) : fX6_islandSet (nI b) μ = some (nI (mk6 (J A (N % 64) b)), μ) := by
  unfold fX6_islandSet
  refine lc3 (fun _ => nI b) (fun i => nI (ms (J A (N % 64) b) i)) (fun i => nI i) (fun _ => μ) 6 _ (fun i hi k => ?_) (fun k => ?_) (by decide) rfl rfl rfl rfl
  · have l0 := (lb_in (A := A) (c := N % 64) hb).1
    have l1 := (lb_in (A := A) (c := N % 64) hi).1
    unfold fX6_islandSet_L4 fX6_islandSet_33
    rw [if_neg (show ¬ (6 : Int32) ≤ nI i by rw [litI, N_le (by omega) (by omega)]; omega), N_gd hi (by omega), N_gd hb (by omega), N_cl (by omega), N_cl (by omega), hL.2.2.1 i hi, hL.2.2.1 b hb]
    cases h : J A (N % 64) b i
    · rw [if_neg (by rw [N_eq (by omega) (by omega), lb_eq hi hb, J_sym, h]; decide), sv_ok, sv_ok, show (0 : Int32) = nI 0 from rfl, N_or, Nat.or_zero, ms_no _ i h, show (1 : Int32) = nI 1 from rfl, nI_add]
    · rw [if_pos (by rw [N_eq (by omega) (by omega), lb_eq hi hb, J_sym, h]), sv_ok, sv_ok, shl1 (by omega), N_or, ms_or _ i h, show (1 : Int32) = nI 1 from rfl, nI_add]
  · unfold fX6_islandSet_L4
    rw [if_pos (by decide), mk6_ms]
theorem sp_bus : SP2 Rel0 fX5_bus fX6_bus := by
  rintro σ μ hR a b
  obtain ⟨⟨A, nl, nm, N, now, hC, hV, h9, h10, hM, hN, h41⟩, hK⟩ := hR
  have hR : Rel0 σ μ := ⟨⟨A, nl, nm, N, now, hC, hV, h9, h10, hM, hN, h41⟩, hK⟩
  have hc := pow_le64 hC.2.1 hV.2.1
  unfold fX5_bus fX6_bus
  rcases bus_c a with ⟨e1, e2⟩ | ⟨l, hln, rfl, e1, e2⟩
  · rw [e1, e2, bd_ok, bd_ok, if_pos b0, if_pos b0]
    exact ⟨_, _, _, rfl, rfl, hR⟩
  · rw [e1, e2, bd_ok, bd_ok, if_neg b1, if_neg b1]
    rcases win_c b (hi := 2) 2 rfl (by omega) with ⟨hno, -, e4⟩ | ⟨j, hj, rfl, -, e4⟩
    · rw [e4, bd_ok, if_pos b0, if_neg (show ¬ b = 0 from hno 0 (by omega)), if_neg (show ¬ b = 1 from hno 1 (by omega)), if_neg (show ¬ b = 2 from hno 2 (by omega))]
      exact ⟨_, _, _, rfl, rfl, hR⟩
    · rw [e4, bd_ok, if_neg b1]
      obtain ⟨⟨v, τ⟩, e, fr, hL⟩ := layNow_ok hM hV hN
      dsimp only at fr hL
      have hR2 : Rel0 σ τ := hR.cong (fun _ _ => rfl) (fun k h1 h2 => fr k (by omega))
      rw [e, bd_ok]
      have : j = 0 ∨ j = 1 ∨ j = 2 := by omega
      rcases this with rfl | rfl | rfl
      · rw [if_pos (by rfl), if_pos (by rfl), h9, closed_ok, bd_ok, bw_ok (by omega), bd_ok, (hC.2.2.2.2.2.2.2 _ hV.2.1 l hln).1, iset_ok hL hln, bd_ok]
        exact ⟨_, _, _, rfl, rfl, hR2⟩
      · rw [if_neg (by decide), if_pos (by rfl), if_neg (by decide), if_pos (by rfl), h9, live_ok hC hV, bd_ok, bit_ok (by have := mk6_lt (lvP A N nm); omega) (by omega), bd_ok, mk6_bit _ l hln, isLive_ok hL hln, bd_ok]
        cases lvP A N nm l
        · rw [if_pos (show nI (b01 false) = 0 from rfl)]
          exact ⟨_, _, _, rfl, rfl, hR2⟩
        · rw [if_neg (show ¬ nI (b01 true) = 0 by decide)]
          exact ⟨_, _, _, rfl, rfl, hR2⟩
      · have hlb := (lb_in (A := A) (c := N % 64) hln).1
        rw [if_neg (by decide), if_neg (by decide), if_pos (by rfl), if_neg (by decide), if_neg (by decide), h9, spare_ok hC hV hln, bd_ok, N_gd hln (by omega), N_cl (by omega), hL.2.2.1 l hln, N_gd hlb (by omega), N_cl (by omega), hL.2.2.2.1 l hln]
        exact ⟨_, _, _, rfl, rfl, hR2⟩
theorem can_m (hM : MG A nl nm μ) (hL : Laid A nm N μ) : it fX6_can_L8 (fun _ _ _ => none) FU 0 0 μ = some (nI (ms (cs A nl nm N) 10), μ) := by
  refine lc2 (fun i => nI (ms (cs A nl nm N) i)) (fun i => nI i) (fun _ => μ) 10 _ (fun i hi k => ?_) (fun k => ?_) (by decide) rfl rfl rfl
  · unfold fX6_can_L8 fX6_can_30
    rw [if_neg (show ¬ (10 : Int32) ≤ nI i by rw [litI, N_le (by omega) (by omega)]; omega), canStep_m hM hL hi, bd_ok]
    cases h : cs A nl nm N i
    · rw [if_pos (show nI (b01 false) = 0 from rfl), sv_ok, sv_ok, show (0 : Int32) = nI 0 from rfl, N_or, Nat.or_zero, ms_no _ i h, show (1 : Int32) = nI 1 from rfl, nI_add]
    · rw [if_neg (show ¬ nI (b01 true) = 0 by decide), sv_ok, sv_ok, shl1 (by omega), N_or, ms_or _ i h, show (1 : Int32) = nI 1 from rfl, nI_add]
  · unfold fX6_can_L8
    rw [if_pos (by decide)]
theorem sp_can : SP0 Rel0 fX5_can fX6_can := by
  rintro σ μ hR
  obtain ⟨⟨A, nl, nm, N, now, hC, hV, h9, h10, hM, hN, h41⟩, hK⟩ := hR
  have hR : Rel0 σ μ := ⟨⟨A, nl, nm, N, now, hC, hV, h9, h10, hM, hN, h41⟩, hK⟩
  unfold fX5_can fX6_can
  obtain ⟨⟨v, τ⟩, e, fr, hL⟩ := layNow_ok hM hV hN
  dsimp only at fr hL
  have hR2 : Rel0 σ τ := hR.cong (fun _ _ => rfl) (fun k h1 h2 => fr k (by omega))
  rw [e, bd_ok, h9, steps_ok hC hV, bd_ok, can_m (hM.cong (fr 1 (by omega))) hL]
  exact ⟨_, _, _, rfl, rfl, hR2⟩
theorem tick_c (hR : Rel0 σ μ) (hCu : Cur A nl nm N now σ μ) {s : Nat} (hs : s < 10) : Ans (bd (fX3_stepsFrom (σ 1 9) σ) fun v7 σ8 =>
  bd (fX5_bit v7 (nI s) σ8) fun v9 σ10 =>
  if v9 = 0 then
  (some ((-5), σ10))
  else
  (bd (fX0_ticked (σ10 1 9) σ10) fun v12 σ13 =>
  bd (fX3_withStep v12 (nI s) σ13) fun v14 σ15 =>
  sv (wr σ15 1 9 v14) fun σ16 =>
  sv (wr σ16 1 10 ((σ16 1 10) + (1 : Int32))) fun σ17 =>
  some ((σ17 1 10), σ17))) (fX6_tick_47 (nI s) μ) := by
  have hCu' := hCu
  obtain ⟨hC, hV, h9, h10, hM, hN, h41⟩ := hCu
  have hA := hA6 hC
  unfold fX6_tick_47
  obtain ⟨⟨v, τ⟩, e, fr, hL⟩ := layNow_ok hM hV hN
  dsimp only at fr hL
  have hMt : MG A nl nm τ := hM.cong (fr 1 (by omega))
  have hR2 : Rel0 σ τ := hR.cong (fun _ _ => rfl) (fun k h1 h2 => fr k (by omega))
  rw [e, bd_ok, canStep_m hMt hL hs, bd_ok, h9, steps_ok hC hV, bd_ok, bit_ok (by have := ms_lt (cs A nl nm N) 10; omega) (by omega), bd_ok, ms_bit _ 10 s hs]
  cases hcs : cs A nl nm N s
  · rw [if_pos (show nI (b01 false) = 0 from rfl), if_pos (show nI (b01 false) = 0 from rfl)]
    exact ⟨_, _, _, rfl, rfl, hR2⟩
  · obtain ⟨f1, f2⟩ := cs_free hcs
    rw [if_neg (show ¬ nI (b01 true) = 0 by decide), if_neg (show ¬ nI (b01 true) = 0 by decide), h9, ticked_ok, bd_ok, ws_ok hA hs (fun m hm => (hC.2.2.2.2.2.2.1 m hm).2.2.2) (fun m hm h => (f1 m hm h).1) (fun l hl h => (f2 l hl h).1), bd_ok, sv_ok, sv_ok, behind_ok hMt hL hs, bd_ok]
    have hV' := hV.nx hA hs hcs
    obtain ⟨⟨v2, τ2⟩, e2, fr2, fj2, hN2⟩ := become_ok (μ := τ) hV'.1
    dsimp only at fr2 fj2 hN2
    rw [e2, bd_ok, show (41 : Int32) = nI 41 from rfl, N_gd (by omega) (by omega), N_gd (by omega) (by omega), N_cl (by omega), sv_ok, N_gd (by omega) (by omega)]
    have h41' : τ2 1 41 = now := by rw [fj2 41 (by omega), fr 1 (by omega)]; exact h41
    have ev : wr τ2 1 41 (τ2 1 41 + 1) 1 41 = now + 1 := by rw [wr_eq, if_pos rfl, h41']
    have es : wr (wr σ 1 9 (nI (cd (nx A N s)))) 1 10 (wr σ 1 9 (nI (cd (nx A N s))) 1 10 + 1) 1 10 = now + 1 := by
      rw [wr_eq, if_pos rfl, wr_eq, if_neg (by decide), h10]
    rw [ev, es]
    refine ⟨_, _, _, rfl, rfl, ⟨A, nl, nm, nx A N s, now + 1, ?_⟩, hR.2.cong ?_ (fun k hk => ?_) ?_ ?_⟩
    · refine hCu'.move (fun k hk hk1 => by rw [wr_ne hk1, wr_ne hk1]) ?_ ?_ ?_ es hV' (fun j hj => ?_) ?_ ev
      · rw [wr_eq, if_neg (by decide), wr_eq, if_neg (by decide)]
      · rw [wr_eq, if_neg (by decide), wr_eq, if_neg (by decide)]
      · rw [wr_eq, if_neg (by decide), wr_eq, if_pos rfl]
      · rw [wr_eq, if_neg (by omega), fj2 j (by omega), fr 1 (by omega)]
      · refine ⟨fun l hl => ?_, fun m hm => ?_⟩
        · rw [wr_eq, if_neg (by omega)]; exact hN2.1 l hl
        · rw [wr_eq, if_neg (by omega)]; exact hN2.2 m hm
    · rw [wr_ne (by decide), wr_ne (by decide)]
    · rw [wr_ne (by omega), wr_ne (by omega)]
    · rw [wr_ne (by decide), fr2 2 (by decide), fr 2 (by omega)]
    · rw [wr_ne (by decide), fr2 3 (by decide), fr 3 (by omega)]
theorem sp_tick : SP1 Rel0 fX5_tick fX6_tick := by
  rintro σ μ hR a
  obtain ⟨⟨A, nl, nm, N, now, hCu⟩, hK⟩ := hR
  have hR : Rel0 σ μ := ⟨⟨A, nl, nm, N, now, hCu⟩, hK⟩
  unfold fX5_tick fX6_tick
  rcases win_c a (hi := 9) 9 rfl (by omega) with ⟨hno, e3, e4⟩ | ⟨s, hs, rfl, e3, e4⟩
  · rw [e3, e4, bd_ok, bd_ok, if_pos b0, if_pos b0]
    exact ⟨_, _, _, rfl, rfl, hR⟩
  · rw [e3, e4, bd_ok, bd_ok, if_neg b1, if_neg b1]
    unfold fX3_isTold
    by_cases h0 : s = 0
    · subst h0
      rw [if_pos (show nI 0 < 4 by decide), if_pos (show nI 0 < 1 by decide), if_pos (show nI 0 ≤ 0 by decide), show fX3_isTold_34 σ = some (1, σ) from rfl, bd_ok, if_neg b1]
      exact tick_c hR hCu (by omega)
    · rw [if_neg (show ¬ nI s ≤ 0 by rw [litI, N_le (by omega) (by omega)]; omega)]
      by_cases h4 : s < 4
      · rw [if_pos (show nI s < 4 by rw [litI, N_lt (by omega) (by omega)]; omega), if_neg (show ¬ nI s < 1 by rw [litI, N_lt (by omega) (by omega)]; omega), if_neg (show ¬ (4 : Int32) ≤ nI s by rw [litI, N_le (by omega) (by omega)]; omega)]
        rcases mach_c hCu.1.2.2.2.2.1 hCu.2.2.2.2.1 (nI s - 1) with ⟨e5, e6⟩ | ⟨l, hl, -, e5, e6⟩
        · rw [e5, e6, bd_ok, bd_ok, if_pos b0, if_pos b0, show fX3_isTold_39 0 σ = some (0, σ) from rfl, bd_ok, if_pos b0]
          exact ⟨_, _, _, rfl, rfl, hR⟩
        · rw [e5, e6, bd_ok, bd_ok, if_neg b1, if_neg b1, show fX3_isTold_34 σ = some (1, σ) from rfl, bd_ok, if_neg b1]
          exact tick_c hR hCu (by omega)
      · rw [if_neg (show ¬ nI s < 4 by rw [litI, N_lt (by omega) (by omega)]; omega), if_pos (show (4 : Int32) ≤ nI s by rw [litI, N_le (by omega) (by omega)]; omega)]
        rcases line_c hCu.1.2.2.2.1 hCu.2.2.2.2.1 (nI s - 4) with ⟨e5, e6⟩ | ⟨l, hl, -, e5, e6⟩
        · rw [e5, e6, bd_ok, bd_ok, if_pos b0, zr_0, bd_ok, if_pos b0]
          exact ⟨_, _, _, rfl, rfl, hR⟩
        · rw [e5, e6, bd_ok, bd_ok, if_neg b1, zr_1, bd_ok, if_neg b1]
          exact tick_c hR hCu (by omega)
end Ops
