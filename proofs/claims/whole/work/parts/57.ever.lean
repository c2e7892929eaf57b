section Ever
variable {A : Nat → Nat → Nat} {nl nm N : Nat} {now : Int32} {σ μ : Sg}
noncomputable def mq (A : Nat → Nat → Nat) (nm q M : Nat) : Nat := if q = 0 then rdm M else mk6 (lvP A M nm)
theorem mq_lt (q M : Nat) : mq A nm q M < 64 := by
  unfold mq
  split
  · have := rdm_lt M; omega
  · exact mk6_lt _
theorem pow_and {m x : Nat} (h : m < 6) : (nI (2 ^ m) &&& (nI x ^^^ (-1 : Int32)) = 0) ↔ x / 2 ^ m % 2 = 1 := by
  have a := and_field x m 1 1 rfl
  rw [Nat.one_mul, Nat.pow_one] at a
  have hp := pow6 m h
  have hb : x / 2 ^ m % 2 = 0 ∨ x / 2 ^ m % 2 = 1 := by omega
  rw [N_andn, Nat.and_comm, a]
  rcases hb with hb | hb
  · rw [hb, Nat.zero_mul, Nat.sub_zero, litI, N_eq (by omega) (by omega)]
    omega
  · rw [hb, Nat.one_mul, Nat.sub_self]
    exact ⟨fun _ => rfl, fun _ => rfl⟩
theorem zero_and {x : Nat} : (0 : Int32) &&& (nI x ^^^ (-1 : Int32)) = 0 := by
  rw [show (0 : Int32) = nI 0 from rfl, N_andn, Nat.zero_sub]
theorem glr {m M : Nat} (h : m < 6) : gl A nm (nI (2 ^ m)) 0 M = true ↔ rdm M / 2 ^ m % 2 = 1 := by
  unfold gl
  rw [decide_eq_true (zero_and (x := mk6 (lvP A M nm))), Bool.and_true, decide_eq_true_iff, pow_and h]
theorem gll {m M : Nat} (h : m < 6) : gl A nm 0 (nI (2 ^ m)) M = true ↔ mk6 (lvP A M nm) / 2 ^ m % 2 = 1 := by
  unfold gl
  rw [decide_eq_true (zero_and (x := rdm M)), Bool.true_and, decide_eq_true_iff, pow_and h]
theorem any_iff {g h : Int32} : (∃ k, GP (abM A nl nm 1023) (nx A) (gl A nm g h) k N) ↔ ∃ M d, Ds (abM A nl nm 1023) (nx A) N d M ∧ gl A nm g h M = true := by
  constructor
  · rintro ⟨k, hk⟩
    obtain ⟨M, hr, hg⟩ := hk.rc (N0 := N) (d := 0) rfl
    obtain ⟨e, -, hd⟩ := Ds.of hr
    exact ⟨M, e, hd, hg⟩
  · rintro ⟨M, d, hd, hg⟩
    exact ⟨_, Rc.gp 0 M hd.1 hg⟩
theorem everR_ok (hC : CG A nl nm σ) (hV : VN nl nm N) : ∃ r, fX4_everReady (nI (cd N)) (nI nm) σ = some r ∧ (r.1 = nI (ms (fun m => !cant A nl nm (nI (2 ^ m)) 0 N 1023) nm) ∧ ∀ k, k < 13 ∨ 16 < k → r.2 k = σ k) := by
  have hm3 := hC.2.2.1
  unfold fX4_everReady
  refine lpA4 (fun x1 x2 x3 x4 τ => x1 = nI (cd N) ∧ x2 = nI nm ∧ ∃ m, x4 = nI m ∧ m ≤ nm ∧ x3 = nI (ms (fun m => !cant A nl nm (nI (2 ^ m)) 0 N 1023) m) ∧ ∀ k, k < 13 ∨ 16 < k → τ k = σ k) (fun _ _ _ x4 _ => 4 - x4.toNatClampNeg) _ ?_ FU _ _ _ _ _ ⟨rfl, rfl, 0, rfl, by omega, rfl, fun _ _ => rfl⟩ (Nat.lt_of_le_of_lt (Nat.sub_le _ _) (by decide))
  rintro k x1 x2 x3 x4 τ ⟨rfl, rfl, m, rfl, hm, rfl, fr⟩ ih
  unfold fX4_everReady_L5
  by_cases he : m = nm
  · subst he
    rw [if_pos (show nI m ≤ nI m by rw [N_le (by omega) (by omega)]; omega)]
    exact ⟨_, rfl, rfl, fr⟩
  · have next : ∀ (y : Nat) (τ' : Sg), y = ms (fun m => !cant A nl nm (nI (2 ^ m)) 0 N 1023) (m + 1) → (∀ k, k < 13 ∨ 16 < k → τ' k = σ k) → ∃ r, fX4_everReady_38 k (nI (cd N)) (nI nm) (nI y) (nI m) τ' = some r ∧ (r.1 = nI (ms (fun m => !cant A nl nm (nI (2 ^ m)) 0 N 1023) nm) ∧ ∀ k, k < 13 ∨ 16 < k → r.2 k = σ k) := by
      intro y τ' hy fr'
      unfold fX4_everReady_38
      rw [sv_ok, show (1 : Int32) = nI 1 from rfl, nI_add]
      refine ih _ _ _ _ _ ⟨rfl, rfl, m + 1, rfl, by omega, by rw [hy], fr'⟩ ?_
      rw [N_cl (by omega), N_cl (by omega)]
      omega
    obtain ⟨⟨v, τ2⟩, e, fr2, hv⟩ := explN (hC.cong (fun k hk => fr k (by omega))) hV (show 1023 % 2 = 1 from rfl) (nI (2 ^ m)) 0
    dsimp only at fr2 hv
    have frr : ∀ k, k < 13 ∨ 16 < k → τ2 k = σ k := fun q hq => by rw [fr2 q hq]; exact fr q hq
    rw [if_neg (show ¬ nI nm ≤ nI m by rw [N_le (by omega) (by omega)]; omega), shl1 (by omega), show (1023 : Int32) = nI 1023 from rfl, e, bd_ok]
    by_cases c : v = -1
    · rw [if_pos c]
      exact next _ τ2 (by rw [ms_no _ m (by rw [hv.mp c]; rfl)]) frr
    · have hf : cant A nl nm (nI (2 ^ m)) 0 N 1023 = false := by
        cases h : cant A nl nm (nI (2 ^ m)) 0 N 1023
        · rfl
        · exact absurd (hv.mpr h) c
      rw [if_neg c, sv_ok, N_or]
      exact next _ τ2 (ms_or (fun m => !cant A nl nm (nI (2 ^ m)) 0 N 1023) m (by show (!cant A nl nm (nI (2 ^ m)) 0 N 1023) = true; rw [hf]; rfl)) frr
theorem everL_ok (hC : CG A nl nm σ) (hV : VN nl nm N) : ∃ r, fX4_everLive (nI (cd N)) σ = some r ∧ (r.1 = nI (ms (fun m => !cant A nl nm 0 (nI (2 ^ m)) N 1023) 6) ∧ ∀ k, k < 13 ∨ 16 < k → r.2 k = σ k) := by
  unfold fX4_everLive
  refine lpA3 (fun x1 x3 x4 τ => x1 = nI (cd N) ∧ ∃ m, x4 = nI m ∧ m ≤ 6 ∧ x3 = nI (ms (fun m => !cant A nl nm 0 (nI (2 ^ m)) N 1023) m) ∧ ∀ k, k < 13 ∨ 16 < k → τ k = σ k) (fun _ _ x4 _ => 7 - x4.toNatClampNeg) _ ?_ FU _ _ _ _ ⟨rfl, 0, rfl, by omega, rfl, fun _ _ => rfl⟩ (Nat.lt_of_le_of_lt (Nat.sub_le _ _) (by decide))
  rintro k x1 x3 x4 τ ⟨rfl, m, rfl, hm, rfl, fr⟩ ih
  unfold fX4_everLive_L4
  by_cases he : m = 6
  · subst he
    rw [if_pos (by decide)]
    exact ⟨_, rfl, rfl, fr⟩
  · have next : ∀ (y : Nat) (τ' : Sg), y = ms (fun m => !cant A nl nm 0 (nI (2 ^ m)) N 1023) (m + 1) → (∀ k, k < 13 ∨ 16 < k → τ' k = σ k) → ∃ r, fX4_everLive_35 k (nI (cd N)) (nI y) (nI m) τ' = some r ∧ (r.1 = nI (ms (fun m => !cant A nl nm 0 (nI (2 ^ m)) N 1023) 6) ∧ ∀ k, k < 13 ∨ 16 < k → r.2 k = σ k) := by
      intro y τ' hy fr'
      unfold fX4_everLive_35
      rw [sv_ok, show (1 : Int32) = nI 1 from rfl, nI_add]
      refine ih _ _ _ _ ⟨rfl, m + 1, rfl, by omega, by rw [hy], fr'⟩ ?_
      rw [N_cl (by omega), N_cl (by omega)]
      omega
    obtain ⟨⟨v, τ2⟩, e, fr2, hv⟩ := explN (hC.cong (fun k hk => fr k (by omega))) hV (show 1023 % 2 = 1 from rfl) 0 (nI (2 ^ m))
    dsimp only at fr2 hv
    have frr : ∀ k, k < 13 ∨ 16 < k → τ2 k = σ k := fun q hq => by rw [fr2 q hq]; exact fr q hq
    rw [if_neg (show ¬ (6 : Int32) ≤ nI m by rw [litI, N_le (by omega) (by omega)]; omega), shl1 (by omega), show (1023 : Int32) = nI 1023 from rfl, e, bd_ok]
    by_cases c : v = -1
    · rw [if_pos c]
      exact next _ τ2 (by rw [ms_no _ m (by rw [hv.mp c]; rfl)]) frr
    · have hf : cant A nl nm 0 (nI (2 ^ m)) N 1023 = false := by
        cases h : cant A nl nm 0 (nI (2 ^ m)) N 1023
        · rfl
        · exact absurd (hv.mpr h) c
      rw [if_neg c, sv_ok, N_or]
      exact next _ τ2 (ms_or (fun m => !cant A nl nm 0 (nI (2 ^ m)) N 1023) m (by show (!cant A nl nm 0 (nI (2 ^ m)) N 1023) = true; rw [hf]; rfl)) frr
theorem everM_ok (hM : MG A nl nm μ) (hV : VN nl nm N) (hF : FE (abM A nl nm 1023) (nx A) N (μ 9)) {q : Nat} (hq : q ≤ 1) : ∃ r, it fX6_ever_L22 (fun _ _ _ _ => none) FU (nI q) 0 0 μ = some r ∧ ((∀ k, (k < 4 ∨ 8 < k) → r.2 k = μ k) ∧ ∃ R, r.1 = nI R ∧ R < 64 ∧ ∀ i, i < 6 → (R / 2 ^ i % 2 = 1 ↔ ∃ M d, Ds (abM A nl nm 1023) (nx A) N d M ∧ mq A nm q M / 2 ^ i % 2 = 1)) := by
  have hA : ∀ m, m < 3 → A 6 m ≤ 3 := fun m hm => (hM.1.2 m hm).2.2.2
  refine lpA3 (fun x1 x2 x3 τ => x1 = nI q ∧ ∃ n R, x3 = nI n ∧ n ≤ 8000 ∧ x2 = nI R ∧ R < 64 ∧ (∀ k, (k < 4 ∨ 8 < k) → τ k = μ k) ∧ ∀ i, i < 6 → (R / 2 ^ i % 2 = 1 ↔ ∃ M d, M < n ∧ Ds (abM A nl nm 1023) (nx A) N d M ∧ mq A nm q M / 2 ^ i % 2 = 1)) (fun _ _ x3 _ => 8001 - x3.toNatClampNeg) _ ?_ FU _ _ _ _ ⟨rfl, 0, 0, rfl, by omega, rfl, by omega, fun _ _ => rfl, fun i hi => ⟨fun h => by rw [Nat.zero_div] at h; exact absurd h (by decide), fun ⟨M, d, h, _⟩ => by omega⟩⟩ (Nat.lt_of_le_of_lt (Nat.sub_le _ _) (by decide))
  rintro k x1 x2 x3 τ ⟨rfl, n, R, rfl, hn, rfl, hR, fr, hb⟩ ih
  unfold fX6_ever_L22
  by_cases he : n = 8000
  · subst he
    rw [if_pos (by decide)]
    refine ⟨_, rfl, fr, R, rfl, hR, fun i hi => ?_⟩
    rw [hb i hi]
    exact ⟨fun ⟨M, d, _, h⟩ => ⟨M, d, h⟩, fun ⟨M, d, h⟩ => ⟨M, d, (rc_vn hA hV d M h.1.1).1, h⟩⟩
  · have hn8 : n < 8000 := by omega
    have next : ∀ (R' : Nat) (τ' : Sg), R' < 64 → (∀ k, (k < 4 ∨ 8 < k) → τ' k = μ k) → (∀ i, i < 6 → (R' / 2 ^ i % 2 = 1 ↔ ∃ M d, M < n + 1 ∧ Ds (abM A nl nm 1023) (nx A) N d M ∧ mq A nm q M / 2 ^ i % 2 = 1)) → ∃ r, fX6_ever_61 k (nI q) (nI R') (nI n) τ' = some r ∧ ((∀ k, (k < 4 ∨ 8 < k) → r.2 k = μ k) ∧ ∃ R, r.1 = nI R ∧ R < 64 ∧ ∀ i, i < 6 → (R / 2 ^ i % 2 = 1 ↔ ∃ M d, Ds (abM A nl nm 1023) (nx A) N d M ∧ mq A nm q M / 2 ^ i % 2 = 1)) := by
      intro R' τ' hR' fr' hb'
      unfold fX6_ever_61
      rw [sv_ok, show (1 : Int32) = nI 1 from rfl, nI_add]
      refine ih _ _ _ _ ⟨rfl, n + 1, R', rfl, by omega, rfl, hR', fr', hb'⟩ ?_
      rw [N_cl (by omega), N_cl (by omega)]
      omega
    rw [if_neg (show ¬ (8000 : Int32) ≤ nI n by rw [litI, N_le (by omega) (by omega)]; omega), N_gd hn8 (by omega), N_cl (by omega), fr 9 (by omega)]
    rcases hF n hn8 with ⟨d, hd8, hd, hf⟩ | ⟨hno, hf⟩
    · have hVn := rc_vn hA hV d n hd.1
      obtain ⟨⟨v, τ2⟩, e, fr2, hL⟩ := layN (hM.cong (fr 1 (by omega))) hVn
      dsimp only at fr2 hL
      have hM2 : MG A nl nm τ2 := hM.cong (by rw [fr2 1 (by omega), fr 1 (by omega)])
      have frr : ∀ k, (k < 4 ∨ 8 < k) → τ2 k = μ k := fun q hq => by rw [fr2 q hq]; exact fr q hq
      have hml := mq_lt (A := A) (nm := nm) q n
      have fin : ∃ r, fX6_ever_59 k (nI q) (nI n) (nI (mq A nm q n)) (nI R) τ2 = some r ∧ ((∀ k, (k < 4 ∨ 8 < k) → r.2 k = μ k) ∧ ∃ R, r.1 = nI R ∧ R < 64 ∧ ∀ i, i < 6 → (R / 2 ^ i % 2 = 1 ↔ ∃ M d, Ds (abM A nl nm 1023) (nx A) N d M ∧ mq A nm q M / 2 ^ i % 2 = 1)) := by
        unfold fX6_ever_59
        rw [sv_ok, N_or]
        refine next _ τ2 (or_lt64 hR hml) frr (fun i hi => ?_)
        rw [or_bit, b01_1, Bool.or_eq_true, tb_iff, tb_iff, hb i hi]
        constructor
        · rintro (⟨M, d', h1, h2⟩ | h1)
          · exact ⟨M, d', by omega, h2⟩
          · exact ⟨n, d, by omega, hd, h1⟩
        · rintro ⟨M, d', h1, h2, h3⟩
          by_cases c : M = n
          · rw [c] at h3; exact Or.inr h3
          · exact Or.inl ⟨M, d', by omega, h2, h3⟩
      rw [hf, if_neg (nn_neg (by omega)), e, bd_ok]
      have : q = 0 ∨ q = 1 := by omega
      rcases this with rfl | rfl
      · rw [if_pos (by rfl), ready_m hM2 hVn hL, bd_ok]
        exact fin
      · rw [if_neg (by decide), live_m hL, bd_ok]
        exact fin
    · rw [hf, if_pos (by decide)]
      refine next R τ hR fr (fun i hi => ?_)
      rw [hb i hi]
      refine ⟨fun ⟨M, d, h1, h2⟩ => ⟨M, d, by omega, h2⟩, fun ⟨M, d, h1, h2, h3⟩ => ⟨M, d, ?_, h2, h3⟩⟩
      have : M ≠ n := fun c => by rw [c] at h2; exact hno d h2.1
      omega
theorem ncant {g h : Int32} : (!cant A nl nm g h N 1023) = true ↔ ∃ k, GP (abM A nl nm 1023) (nx A) (gl A nm g h) k N := by
  constructor
  · intro c
    refine cant_no ?_
    cases h : cant A nl nm g h N 1023
    · rfl
    · rw [h] at c; exact absurd c (by decide)
  · intro c
    rw [cant_f c]; rfl
theorem sp_ever : SP1 Rel0 fX5_ever fX6_ever := by
  rintro σ μ hR a
  obtain ⟨⟨A, nl, nm, N, now, hCu⟩, hK⟩ := hR
  have hR : Rel0 σ μ := ⟨⟨A, nl, nm, N, now, hCu⟩, hK⟩
  obtain ⟨hC, hV, h9, h10, hM, hN, h41⟩ := hCu
  have hm3 := hC.2.2.1
  have hA := hA6 hC
  unfold fX5_ever fX6_ever
  rcases win_c a (hi := 1) 1 rfl (by omega) with ⟨hno, -, e4⟩ | ⟨j, hj, rfl, -, e4⟩
  · rw [e4, bd_ok, if_pos b0, if_neg (show ¬ a = 0 from hno 0 (by omega)), if_neg (show ¬ a = 1 from hno 1 (by omega))]
    exact ⟨_, _, _, rfl, rfl, hR⟩
  · obtain ⟨⟨v, τ⟩, e, fr, hF⟩ := layAll_ok (st := 1023) hM hV hN hw_all
    dsimp only at fr hF
    obtain ⟨⟨w, τ2⟩, e2, fr2, R, hw, hR64, hbit⟩ := everM_ok (hM.cong (fr 1 (by omega))) hV hF hj
    dsimp only at fr2 hw
    rw [e4, bd_ok, if_neg b1, e, bd_ok, e2, hw, h9]
    have hfr : ∀ k, 0 < k → k < 4 → τ2 k = μ k := fun k h1 h2 => by rw [fr2 k (by omega), fr k (by omega)]
    have : j = 0 ∨ j = 1 := by omega
    rcases this with rfl | rfl
    · obtain ⟨⟨u, σ2⟩, e5, hu, fr5⟩ := everR_ok hC hV
      dsimp only at hu fr5
      rw [if_pos (by rfl), hC.2.2.2.2.1, e5, bd_ok, hu]
      have hp : 2 ^ nm ≤ 2 ^ 3 := Nat.pow_le_pow_right (by decide) hm3
      simp only [Nat.reducePow] at hp
      have hlt := ms_lt (fun m => !cant A nl nm (nI (2 ^ m)) 0 N 1023) nm
      have key : ms (fun m => !cant A nl nm (nI (2 ^ m)) 0 N 1023) nm = R := by
        refine eq64 (by omega) hR64 (fun i hi => ?_)
        have hR2 : R / 2 ^ i % 2 < 2 := Nat.mod_lt _ (by decide)
        by_cases c : i < nm
        · rw [ms_bit _ nm i c]
          have h1 : b01 (!cant A nl nm (nI (2 ^ i)) 0 N 1023) = 1 ↔ R / 2 ^ i % 2 = 1 := by
            rw [b01_1, ncant, any_iff, hbit i hi]
            constructor
            · rintro ⟨M, d, h1, h2⟩; exact ⟨M, d, h1, (glr hi).mp h2⟩
            · rintro ⟨M, d, h1, h2⟩; exact ⟨M, d, h1, (glr hi).mpr h2⟩
          have h2 := b01_le (!cant A nl nm (nI (2 ^ i)) 0 N 1023)
          omega
        · rw [mask_hi hlt (by omega)]
          have h1 : ¬ R / 2 ^ i % 2 = 1 := by
            rw [hbit i hi]
            rintro ⟨M, d, h1, h2⟩
            have hVM := rc_vn hA hV d M h1.1
            have h2 : rdm M / 2 ^ i % 2 = 1 := h2
            by_cases c3 : i < 3
            · rw [rdm_bit M i c3, hVM.2.2 i c3 (by omega)] at h2; exact absurd h2 (by decide)
            · rw [mask_hi (n := 3) (rdm_lt M) (by omega)] at h2; omega
          omega
      rw [key]
      exact ⟨_, _, _, rfl, rfl, hR.cong fr5 hfr⟩
    · obtain ⟨⟨u, σ2⟩, e5, hu, fr5⟩ := everL_ok hC hV
      dsimp only at hu fr5
      rw [if_neg (by decide), if_pos (by rfl), e5, bd_ok, hu]
      have key : ms (fun m => !cant A nl nm 0 (nI (2 ^ m)) N 1023) 6 = R := by
        refine eq64 (ms_lt _ 6) hR64 (fun i hi => ?_)
        have hR2 : R / 2 ^ i % 2 < 2 := Nat.mod_lt _ (by decide)
        rw [ms_bit _ 6 i hi]
        have h1 : b01 (!cant A nl nm 0 (nI (2 ^ i)) N 1023) = 1 ↔ R / 2 ^ i % 2 = 1 := by
          rw [b01_1, ncant, any_iff, hbit i hi]
          constructor
          · rintro ⟨M, d, h1, h2⟩; exact ⟨M, d, h1, (gll hi).mp h2⟩
          · rintro ⟨M, d, h1, h2⟩; exact ⟨M, d, h1, (gll hi).mpr h2⟩
        have h2 := b01_le (!cant A nl nm 0 (nI (2 ^ i)) N 1023)
        omega
      rw [key]
      exact ⟨_, _, _, rfl, rfl, hR.cong fr5 hfr⟩
end Ever
