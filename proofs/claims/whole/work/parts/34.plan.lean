theorem VN.nx {A : Nat → Nat → Nat} {nl nm N s : Nat} (hA : ∀ m, m < 3 → A 6 m ≤ 3) (hV : VN nl nm N) (hs : s < 10) (hc : cs A nl nm N s = true) : VN nl nm (nx A N s) := by
  obtain ⟨v1, v2, v3⟩ := hV
  obtain ⟨c1, c2⟩ := cs_free hc
  refine ⟨nx_lt hA hs, ?_, fun m hm hle => ?_⟩
  · rw [nx_c hs]
    unfold ncl
    split
    · obtain ⟨-, hl⟩ := c2 (s - 4) (by omega) (by omega)
      exact Nat.or_lt_two_pow v2 (Nat.pow_lt_pow_right (by decide) hl)
    · exact v2
  · rw [nx_r hA hs m hm, nq_ne (fun e => by have := (c1 m hm e).2; omega), v3 m hm hle]
    rfl
theorem VN.stl {nl nm N : Nat} (hV : VN nl nm N) : VN nl nm (stl N) := by
  obtain ⟨v1, v2, v3⟩ := hV
  refine ⟨stl_lt N, by rw [stl_c]; exact v2, fun m hm hle => ?_⟩
  rw [stl_r N m hm, v3 m hm hle]
  rfl
section Plan
variable {A : Nat → Nat → Nat} {nl nm N : Nat} {σ : Sg}
theorem hA6 (hG : CG A nl nm σ) : ∀ m, m < 3 → A 6 m ≤ 3 := fun m hm => (hG.1.2 m hm).2.2.2
/-- the search without time -/
theorem explS (hG : CG A nl nm σ) (hV : VN nl nm N) (st : Nat) (g h : Int32) : ∃ r, fX4_explore (nI (cd N)) 511 (nI st) g h σ = some r ∧ ((∀ k, k < 13 ∨ 16 < k → r.2 k = σ k) ∧ ((r.1 = -1 ∧ ∀ k, ¬ GP (abM A nl nm st) (TS A) (gl A nm g h) k (stl N)) ∨ (¬ r.1 = -1 ∧ ∃ k, GP (abM A nl nm st) (TS A) (gl A nm g h) k (stl N)))) := by
  have hA := hA6 hG
  obtain ⟨r, e, fr, hr⟩ := explore_ok (N := N) (N0 := stl N) (mk := 511) (st := st) (ab := abM A nl nm st) (T := TS A) (Pn := fun M => VN nl nm M ∧ stl M = M) g h hG (by decide)
    (fun M hM => ⟨hM.1, by rw [← hM.2, ← cd_stl]; omega⟩) (fun _ _ _ => rfl)
    (fun M s hM hs hab => by
      have hc : cs A nl nm M s = true := by
        unfold abM at hab
        simp only [Bool.and_eq_true] at hab
        exact hab.1
      refine ⟨⟨(hM.1.nx hA hs hc).stl, ?_⟩, ?_⟩
      · show stl (stl _) = stl _
        refine mkN_ext (stl_lt _) (stl_lt _) (stl_c _) (fun m hm => ?_)
        rw [stl_r _ m hm, stl_r _ m hm]
        omega
      · rw [N_a511, cd_stl]
        rfl)
    ⟨hV.stl, by
      refine mkN_ext (stl_lt _) (stl_lt _) (stl_c _) (fun m hm => ?_)
      rw [stl_r _ m hm, stl_r _ m hm]
      omega⟩ (by rw [N_a511, cd_stl])
  refine ⟨r, e, fr, ?_⟩
  rcases hr with hr | ⟨n, q, ev, E, hBI, hQI, hr1, hg, hno⟩
  · exact Or.inl hr
  · refine Or.inr ⟨by rw [hr1]; exact m1_ne (by have := hQI.2.1; omega), ?_⟩
    have hn := hBI.1.1
    obtain ⟨k, k1, k2, -⟩ := anc_lt hBI (show n - 1 < n by omega)
    exact ⟨k, (hBI.found (by omega) hg hno k1 k2).1.gp⟩
theorem ticks_ok {mk n k : Nat} {q ev : Nat → Nat} {τ τ' : Sg} (hQ : QI mk n q ev τ') (h15 : τ 15 = τ' 15) {g : Nat} (hg : g < n) (hk : anc ev g k = 0) (hpos : ∀ b, b < k → 0 < anc ev g b ∧ anc ev g b < n) (hkg : k ≤ g) : fX4_ticksTo (nI g) τ = some (nI k, τ) := by
  have hn := hQ.2.1
  unfold fX4_ticksTo
  refine lc2 (fun i => nI i) (fun i => nI (anc ev g i)) (fun _ => τ) k _ (fun i hi kk => ?_) (fun kk => ?_) (Nat.lt_of_le_of_lt (show k ≤ 8000 by omega) (by decide)) rfl rfl rfl
  · obtain ⟨p1, p2⟩ := hpos i hi
    have hev : ev (anc ev g i) / 10 < 8000 := by
      by_cases c : i + 1 < k
      · have := (hpos (i + 1) c).2
        have e : anc ev g (i + 1) = ev (anc ev g i) / 10 := rfl
        omega
      · have e : anc ev g (i + 1) = ev (anc ev g i) / 10 := rfl
        rw [show i + 1 = k by omega, hk] at e
        omega
    unfold fX4_ticksTo_L4
    rw [if_neg (show ¬ nI (anc ev g i) ≤ 0 by rw [litI, N_le (by omega) (by omega)]; omega), if_neg (show ¬ (8000 : Int32) ≤ nI i by rw [litI, N_le (by omega) (by omega)]; omega), sv_ok, N_gd (by omega) (by omega), N_cl (by omega), h15, hQ.2.2.2.1 _ p1 p2, sv_ok, show (4 : Int32) &&& 31 = nI 4 from rfl, N_shr (by omega) (by omega), show (1 : Int32) = nI 1 from rfl, nI_add]
    have e2 : (16 * (ev (anc ev g i) / 10) + ev (anc ev g i) % 10) / 2 ^ 4 = ev (anc ev g i) / 10 := by
      rw [show (2 : Nat) ^ 4 = 16 from rfl]; omega
    rw [e2]
    rfl
  · unfold fX4_ticksTo_L4 fX4_ticksTo_30
    rw [hk, if_pos (show nI 0 ≤ 0 by decide)]
theorem stepB_ok {mk n k : Nat} {q ev : Nat → Nat} {τ τ' : Sg} (hQ : QI mk n q ev τ') (h15 : τ 15 = τ' 15) {g : Nat} (hg : g < n) (hev : ∀ b, b < k → ev (anc ev g b) / 10 < 8000) (hpos : ∀ b, b < k → 0 < anc ev g b ∧ anc ev g b < n) (hkg : k ≤ g) {b : Nat} (hb : b < k) : fX4_stepBefore (nI g) (nI b) τ = some (nI (ev (anc ev g b) % 10), τ) := by
  have hn := hQ.2.1
  unfold fX4_stepBefore
  refine lc3 (fun _ => nI b) (fun i => nI (anc ev g i)) (fun i => nI i) (fun _ => τ) b _ (fun i hi kk => ?_) (fun kk => ?_) (Nat.lt_of_le_of_lt (show b ≤ 8000 by omega) (by decide)) rfl rfl rfl rfl
  · obtain ⟨p1, p2⟩ := hpos i (by omega)
    have := hev i (by omega)
    unfold fX4_stepBefore_L5
    rw [if_neg (show ¬ nI b ≤ nI i by rw [N_le (by omega) (by omega)]; omega), N_gd (by omega) (by omega), N_cl (by omega), h15, hQ.2.2.2.1 _ p1 p2, sv_ok, sv_ok, show (4 : Int32) &&& 31 = nI 4 from rfl, N_shr (by omega) (by omega), show (1 : Int32) = nI 1 from rfl, nI_add]
    have e2 : (16 * (ev (anc ev g i) / 10) + ev (anc ev g i) % 10) / 2 ^ 4 = ev (anc ev g i) / 10 := by
      rw [show (2 : Nat) ^ 4 = 16 from rfl]; omega
    rw [e2]
    rfl
  · obtain ⟨p1, p2⟩ := hpos b hb
    unfold fX4_stepBefore_L5
    rw [if_pos (show nI b ≤ nI b by rw [N_le (by omega) (by omega)]; omega), N_gd (by omega) (by omega), show fX5_setOfFirst 4 τ = some (nI 15, τ) from rfl, bd_ok, N_cl (by omega), h15, hQ.2.2.2.1 _ p1 p2, N_and]
    have e2 : (16 * (ev (anc ev g b) / 10) + ev (anc ev g b) % 10) &&& 15 = ev (anc ev g b) % 10 := by
      rw [show (16 * (ev (anc ev g b) / 10) + ev (anc ev g b) % 10) &&& 15 = (16 * (ev (anc ev g b) / 10) + ev (anc ev g b) % 10) % 16 from Nat.and_two_pow_sub_one_eq_mod _ 4]
      omega
    rw [e2]
/-- the class's plan: none, or the first of the shortest ways -/
theorem plan_ok (hG : CG A nl nm σ) (hV : VN nl nm N) (g h : Int32) : ∃ r, fX4_plan (nI (cd N)) g h σ = some r ∧ ((∀ k, k < 13 ∨ 16 < k → r.2 k = σ k) ∧ ((r.1 = -1 ∧ ∀ k, ¬ GP (abM A nl nm 1023) (nx A) (gl A nm g h) k N) ∨ ∃ n k t, n < 8000 ∧ r.1 = nI n ∧ k ≤ n ∧ BW (abM A nl nm 1023) (nx A) (gl A nm g h) k N t ∧ (∀ j, j < k → ¬ GP (abM A nl nm 1023) (nx A) (gl A nm g h) j N) ∧ r.2 14 n = nI (cd (En (nx A) k N t)) ∧ ∀ τ : Sg, τ 15 = r.2 15 → fX4_ticksTo (nI n) τ = some (nI k, τ) ∧ ∀ i, i < k → fX4_stepBefore (nI n) (nI (k - 1 - i)) τ = some (nI (t i), τ))) := by
  have hA := hA6 hG
  have hm := hG.2.2.1
  unfold fX4_plan
  obtain ⟨⟨v, τ⟩, e, fr, hr⟩ := explS hG hV 1023 g h
  dsimp only at fr hr
  rw [show (1023 : Int32) = nI 1023 from rfl, e, bd_ok]
  rcases hr with ⟨h1, h2⟩ | ⟨h1, -⟩
  · rw [if_pos h1]
    exact ⟨_, rfl, fr, Or.inl ⟨rfl, fun k hk => h2 k (gp_set hA hm k N hk)⟩⟩
  · rw [if_neg h1]
    have hG' : CG A nl nm τ := hG.cong (fun k hk => fr k (by omega))
    obtain ⟨⟨w, τ2⟩, e2, fr2, hr2⟩ := explore_ok (N := N) (N0 := N) (mk := 32767) (st := 1023) (ab := abM A nl nm 1023) (T := nx A) (Pn := VN nl nm) g h hG' (by decide)
      (fun M hM => ⟨hM, by have := cd_lt M; omega⟩) (fun _ _ _ => rfl)
      (fun M s hM hs hab => by
        have hc : cs A nl nm M s = true := by
          unfold abM at hab
          simp only [Bool.and_eq_true] at hab
          exact hab.1
        exact ⟨hM.nx hA hs hc, by rw [N_a32767, cd_all]⟩)
      hV (by rw [N_a32767, cd_all])
    dsimp only at fr2 hr2
    rw [show (32767 : Int32) = nI 32767 from rfl, e2, bd_ok]
    have frr : ∀ k, k < 13 ∨ 16 < k → τ2 k = σ k := fun k hk => by rw [fr2 k hk, fr k hk]
    refine ⟨_, rfl, frr, ?_⟩
    rcases hr2 with hr2 | ⟨n, q, ev, E, hBI, hQI, hr1, hg, hno⟩
    · exact Or.inl hr2
    · have hn := hBI.1.1
      have hn8 := hQI.2.1
      obtain ⟨k, k1, k2, k3⟩ := anc_lt hBI (show n - 1 < n by omega)
      obtain ⟨b1, b2, b3⟩ := hBI.found (by omega) hg hno k1 k2
      have hev : ∀ b, b < k → ev (anc ev (n - 1) b) / 10 < 8000 := fun b hb => by
        have := (hBI.2.2.2.1 _ (k2 b hb).1 (k2 b hb).2).2.1
        have := (k2 b hb).2
        omega
      refine Or.inr ⟨n - 1, k, _, by omega, hr1, k3, b1, b3, ?_, fun τ3 h15 => ⟨ticks_ok hQI h15 (by omega) k1 k2 k3, fun i hi => ?_⟩⟩
      · rw [b2]
        exact hQI.2.2.1 _ (by omega)
      · exact stepB_ok hQI h15 (by omega) hev k2 k3 (by omega)
end Plan
