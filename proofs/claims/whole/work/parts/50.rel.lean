/-! what binds the class to the reference -/
def Cur (A : Nat → Nat → Nat) (nl nm N : Nat) (now : Int32) (σ μ : Sg) : Prop := CG A nl nm σ ∧ VN nl nm N ∧ σ 1 9 = nI (cd N) ∧ σ 1 10 = now ∧ MG A nl nm μ ∧ Now N μ ∧ μ 1 41 = now
def ImC (A : Nat → Nat → Nat) (nl nm N : Nat) (now : Int32) (σ : Sg) (o : Nat) : Prop := σ o 0 = nI nl ∧ σ o 4 = nI nm ∧ σ o 9 = nI (cd N) ∧ σ o 10 = now ∧ (∀ i, i < 6 → σ (o + 1) i = nI (A 0 i) ∧ σ (o + 2) i = nI (A 1 i) ∧ σ (o + 3) i = nI (A 2 i)) ∧ (∀ i, i < 3 → σ (o + 4) i = nI (A 3 i) ∧ σ (o + 5) i = nI (A 4 i) ∧ σ (o + 6) i = nI (A 5 i) ∧ σ (o + 7) i = nI (A 6 i))
def ImM (A : Nat → Nat → Nat) (nl nm N : Nat) (now : Int32) (f : Nat → Int32) (o : Nat) : Prop := f (o + 39) = nI nl ∧ f (o + 40) = nI nm ∧ f (o + 41) = now ∧ (∀ i, i < 6 → f (o + i) = nI (A 0 i) ∧ f (o + (6 + i)) = nI (A 1 i) ∧ f (o + (12 + i)) = nI (A 2 i) ∧ f (o + (18 + i)) = nI (N / 2 ^ i % 2)) ∧ (∀ i, i < 3 → f (o + (24 + i)) = nI (A 3 i) ∧ f (o + (27 + i)) = nI (A 4 i) ∧ f (o + (30 + i)) = nI (A 5 i) ∧ f (o + (33 + i)) = nI (A 6 i) ∧ f (o + (36 + i)) = nI (nr N i))
def Kep (σ μ : Sg) : Prop := ∃ kp, kp < 4 ∧ σ 0 5 = nI kp ∧ (∀ j, j < 2 → μ 3 j = nI (kp / 2 ^ j % 2)) ∧ ∀ j, j < 2 → kp / 2 ^ j % 2 = 1 → ∃ A nl nm N now, AOK A ∧ nl ≤ 6 ∧ nm ≤ 3 ∧ VN nl nm N ∧ ImC A nl nm N now σ (18 + 8 * j) ∧ ImM A nl nm N now (μ 2) (42 * j)
def Rel0 (σ μ : Sg) : Prop := (∃ A nl nm N now, Cur A nl nm N now σ μ) ∧ Kep σ μ
def Ans (f g : Rs) : Prop := ∃ (v : Int32) (σ1 μ1 : Sg), f = some (v, σ1) ∧ g = some (v, μ1) ∧ Rel0 σ1 μ1
section Rel
variable {A : Nat → Nat → Nat} {nl nm N : Nat} {now : Int32} {σ μ σ' μ' : Sg}
theorem Cur.cong (h : Cur A nl nm N now σ μ) (hs : ∀ k, k < 12 → σ' k = σ k) (hm : μ' 1 = μ 1) : Cur A nl nm N now σ' μ' := by
  obtain ⟨h1, h2, h3, h4, h5, h6, h7⟩ := h
  refine ⟨h1.cong hs, h2, by rw [hs 1 (by omega)]; exact h3, by rw [hs 1 (by omega)]; exact h4, h5.cong hm, ?_, by rw [hm]; exact h7⟩
  unfold Now
  rw [hm]
  exact h6
theorem Kep.cong (h : Kep σ μ) (h0 : σ' 0 = σ 0) (hs : ∀ k, 18 ≤ k → σ' k = σ k) (h2 : μ' 2 = μ 2) (h3 : μ' 3 = μ 3) : Kep σ' μ' := by
  obtain ⟨kp, k1, k2, k3, k4⟩ := h
  refine ⟨kp, k1, by rw [h0]; exact k2, by rw [h3]; exact k3, fun j hj hb => ?_⟩
  obtain ⟨A, nl, nm, N, now, a1, a2, a3, a4, a5, a6⟩ := k4 j hj hb
  refine ⟨A, nl, nm, N, now, a1, a2, a3, a4, ?_, by rw [h2]; exact a6⟩
  unfold ImC at a5 ⊢
  rw [hs _ (by omega), hs _ (by omega), hs _ (by omega), hs _ (by omega), hs _ (by omega), hs _ (by omega), hs _ (by omega), hs _ (by omega)]
  exact a5
theorem Rel0.cong (h : Rel0 σ μ) (hs : ∀ k, (k < 13 ∨ 16 < k) → σ' k = σ k) (hm : ∀ k, 0 < k → k < 4 → μ' k = μ k) : Rel0 σ' μ' := by
  obtain ⟨⟨A, nl, nm, N, now, hC⟩, hK⟩ := h
  exact ⟨⟨A, nl, nm, N, now, hC.cong (fun k hk => hs k (by omega)) (hm 1 (by omega) (by omega))⟩, hK.cong (hs 0 (by omega)) (fun k hk => hs k (by omega)) (hm 2 (by omega) (by omega)) (hm 3 (by omega) (by omega))⟩
/-- the grid goes on to another number -/
theorem Cur.move {N' : Nat} {now' : Int32} (h : Cur A nl nm N now σ μ) (hs : ∀ k, k < 12 → k ≠ 1 → σ' k = σ k) (h0 : σ' 1 0 = σ 1 0) (h4 : σ' 1 4 = σ 1 4) (h9 : σ' 1 9 = nI (cd N')) (h10 : σ' 1 10 = now') (hV : VN nl nm N') (hm : ∀ j, (j < 18 ∨ (24 ≤ j ∧ j < 36) ∨ j = 39 ∨ j = 40) → μ' 1 j = μ 1 j) (hN : Now N' μ') (h41 : μ' 1 41 = now') : Cur A nl nm N' now' σ' μ' := by
  obtain ⟨⟨a1, a2, a3, a4, a5, a6, a7, a8⟩, -, -, -, ⟨b1, b2, b3, b4, b5, b6, b7⟩, -, -⟩ := h
  refine ⟨⟨a1, a2, a3, by rw [h0]; exact a4, by rw [h4]; exact a5, ?_, ?_, ?_⟩, hV, h9, h10, ⟨b1, b2, b3, by rw [hm 39 (by omega)]; exact b4, by rw [hm 40 (by omega)]; exact b5, fun i hi => ?_, fun i hi => ?_⟩, hN, h41⟩
  · rw [hs 2 (by omega) (by decide), hs 3 (by omega) (by decide), hs 4 (by omega) (by decide)]; exact a6
  · rw [hs 5 (by omega) (by decide), hs 6 (by omega) (by decide), hs 7 (by omega) (by decide), hs 8 (by omega) (by decide)]; exact a7
  · unfold Row at a8 ⊢
    rw [hs 10 (by omega) (by decide), hs 11 (by omega) (by decide)]; exact a8
  · rw [hm i (by omega), hm (6 + i) (by omega), hm (12 + i) (by omega)]; exact b6 i hi
  · rw [hm (24 + i) (by omega), hm (27 + i) (by omega), hm (30 + i) (by omega), hm (33 + i) (by omega)]; exact b7 i hi
theorem win_c (x : Int32) {hi : Int32} (n : Nat) (hh : hi = nI n) (hn : n < 2147483648) : ((∀ j, j ≤ n → ¬ x = nI j) ∧ (∀ σ, fX5_isWithin x hi σ = some (0, σ)) ∧ ∀ μ, fX6_in x 0 hi μ = some (0, μ)) ∨ ∃ j, j ≤ n ∧ x = nI j ∧ (∀ σ, fX5_isWithin x hi σ = some (1, σ)) ∧ ∀ μ, fX6_in x 0 hi μ = some (1, μ) := by
  subst hh
  by_cases h0 : x < 0
  · refine Or.inl ⟨fun j hj e => ?_, fun σ => ?_, fun μ => ?_⟩
    · rw [e] at h0; exact nn_neg (by omega) h0
    · unfold fX5_isWithin; rw [if_pos h0]; rfl
    · unfold fX6_in; rw [if_pos h0]; rfl
  · obtain ⟨j, hj, rfl⟩ := nI_of h0
    by_cases h1 : n < j
    · have h2 : nI n < nI j := by rw [N_lt (by omega) (by omega)]; exact h1
      refine Or.inl ⟨fun i hi e => ?_, fun σ => ?_, fun μ => ?_⟩
      · rw [N_eq (by omega) (by omega)] at e; omega
      · unfold fX5_isWithin; rw [if_neg h0, if_pos h2]; rfl
      · unfold fX6_in; rw [if_neg h0, if_pos h2]; rfl
    · have h2 : ¬ nI n < nI j := by rw [N_lt (by omega) (by omega)]; exact h1
      refine Or.inr ⟨j, by omega, rfl, fun σ => ?_, fun μ => ?_⟩
      · unfold fX5_isWithin; rw [if_neg h0, if_neg h2]; rfl
      · unfold fX6_in; rw [if_neg h0, if_neg h2]; rfl
theorem bus_c (x : Int32) : ((∀ σ, fX5_isBus x σ = some (0, σ)) ∧ ∀ μ, fX6_isBus x μ = some (0, μ)) ∨ ∃ j, j < 6 ∧ x = nI j ∧ (∀ σ, fX5_isBus x σ = some (1, σ)) ∧ ∀ μ, fX6_isBus x μ = some (1, μ) := by
  rcases win_c x (hi := 5) 5 rfl (by omega) with ⟨-, h1, h2⟩ | ⟨j, hj, e, h1, h2⟩
  · refine Or.inl ⟨fun σ => ?_, fun μ => ?_⟩
    · unfold fX5_isBus; rw [h1]; rfl
    · unfold fX6_isBus; rw [h2]; rfl
  · refine Or.inr ⟨j, by omega, e, fun σ => ?_, fun μ => ?_⟩
    · unfold fX5_isBus; rw [h1]; rfl
    · unfold fX6_isBus; rw [h2]; rfl
theorem line_c (h0 : σ 1 0 = nI nl) (hM : MG A nl nm μ) (x : Int32) : (fX1_hasLine x σ = some (0, σ) ∧ fX6_isLine x μ = some (0, μ)) ∨ ∃ l, l < nl ∧ x = nI l ∧ fX1_hasLine x σ = some (1, σ) ∧ fX6_isLine x μ = some (1, μ) := by
  have hl := hM.2.1
  rw [isLine_m hM]
  unfold fX1_hasLine
  rw [h0]
  by_cases hx : x < 0
  · rw [if_pos hx, decide_eq_true hx]; exact Or.inl ⟨rfl, rfl⟩
  · obtain ⟨j, hj, rfl⟩ := nI_of hx
    rw [if_neg hx, decide_eq_false hx]
    by_cases h1 : nl ≤ j
    · have h2 : nI nl ≤ nI j := by rw [N_le (by omega) (by omega)]; exact h1
      rw [if_pos h2, decide_eq_true h2]; exact Or.inl ⟨rfl, rfl⟩
    · have h2 : ¬ nI nl ≤ nI j := by rw [N_le (by omega) (by omega)]; exact h1
      rw [if_neg h2, decide_eq_false h2]; exact Or.inr ⟨j, by omega, rfl, rfl, rfl⟩
theorem mach_c (h4 : σ 1 4 = nI nm) (hM : MG A nl nm μ) (x : Int32) : (fX1_hasMachine x σ = some (0, σ) ∧ fX6_isMachine x μ = some (0, μ)) ∨ ∃ l, l < nm ∧ x = nI l ∧ fX1_hasMachine x σ = some (1, σ) ∧ fX6_isMachine x μ = some (1, μ) := by
  have hl := hM.2.2.1
  rw [isMach_m hM]
  unfold fX1_hasMachine
  rw [h4]
  by_cases hx : x < 0
  · rw [if_pos hx, decide_eq_true hx]; exact Or.inl ⟨rfl, rfl⟩
  · obtain ⟨j, hj, rfl⟩ := nI_of hx
    rw [if_neg hx, decide_eq_false hx]
    by_cases h1 : nm ≤ j
    · have h2 : nI nm ≤ nI j := by rw [N_le (by omega) (by omega)]; exact h1
      rw [if_pos h2, decide_eq_true h2]; exact Or.inl ⟨rfl, rfl⟩
    · have h2 : ¬ nI nm ≤ nI j := by rw [N_le (by omega) (by omega)]; exact h1
      rw [if_neg h2, decide_eq_false h2]; exact Or.inr ⟨j, by omega, rfl, rfl, rfl⟩
theorem b0 : (0 : Int32) = 0 := rfl
theorem b1 : ¬ (1 : Int32) = 0 := by decide
theorem sp_of : SP2 Rel0 fX5_of fX6_of := by
  rintro σ μ hR a b
  obtain ⟨⟨A, nl, nm, N, now, hC, hV, h9, h10, hM, hN, h41⟩, hK⟩ := hR
  have hR : Rel0 σ μ := ⟨⟨A, nl, nm, N, now, hC, hV, h9, h10, hM, hN, h41⟩, hK⟩
  have hl := hC.2.1
  unfold fX5_of fX6_of
  rcases line_c hC.2.2.2.1 hM a with ⟨e1, e2⟩ | ⟨l, hln, rfl, e1, e2⟩
  · rw [e1, e2, bd_ok, bd_ok, if_pos b0, if_pos b0]
    exact ⟨_, _, _, rfl, rfl, hR⟩
  · rw [e1, e2, bd_ok, bd_ok, if_neg b1, if_neg b1]
    obtain ⟨g1, g2, g3⟩ := hC.2.2.2.2.2.1 l (by omega)
    obtain ⟨m1, m2, m3⟩ := hM.2.2.2.2.2.1 l (by omega)
    rcases win_c b (hi := 3) 3 rfl (by omega) with ⟨hno, -, e4⟩ | ⟨j, hj, rfl, -, e4⟩
    · rw [e4, bd_ok, if_pos b0, if_neg (show ¬ b = 0 from hno 0 (by omega)), if_neg (show ¬ b = 1 from hno 1 (by omega)), if_neg (show ¬ b = 2 from hno 2 (by omega)), if_neg (show ¬ b = 3 from hno 3 (by omega))]
      exact ⟨_, _, _, rfl, rfl, hR⟩
    · rw [e4, bd_ok, if_neg b1, show (6 : Int32) = nI 6 from rfl, pk_mul, nI_add]
      have : j = 0 ∨ j = 1 ∨ j = 2 ∨ j = 3 := by omega
      rcases this with rfl | rfl | rfl | rfl
      · rw [if_pos (by rfl), N_gd (by omega) (by omega), N_cl (by omega), g1, show 6 * 0 + l = l by omega, N_gd (by omega) (by omega), N_cl (by omega), m1]
        exact ⟨_, _, _, rfl, rfl, hR⟩
      · rw [if_neg (by decide), if_pos (by rfl), N_gd (by omega) (by omega), N_cl (by omega), g2, show 6 * 1 + l = 6 + l by omega, N_gd (by omega) (by omega), N_cl (by omega), m2]
        exact ⟨_, _, _, rfl, rfl, hR⟩
      · rw [if_neg (by decide), if_neg (by decide), if_pos (by rfl), N_gd (by omega) (by omega), N_cl (by omega), g3, show 6 * 2 + l = 12 + l by omega, N_gd (by omega) (by omega), N_cl (by omega), m3]
        exact ⟨_, _, _, rfl, rfl, hR⟩
      · rw [if_neg (by decide), if_neg (by decide), if_neg (by decide), if_pos (by rfl), h9, closed_ok, bd_ok, bit_ok (by omega) (by omega), bd_ok, bit64 (by omega), show 6 * 3 + l = 18 + l by omega, N_gd (by omega) (by omega), N_cl (by omega), hN.1 l (by omega)]
        exact ⟨_, _, _, rfl, rfl, hR⟩
theorem sp_at : SP2 Rel0 fX5_at fX6_at := by
  rintro σ μ hR a b
  obtain ⟨⟨A, nl, nm, N, now, hC, hV, h9, h10, hM, hN, h41⟩, hK⟩ := hR
  have hR : Rel0 σ μ := ⟨⟨A, nl, nm, N, now, hC, hV, h9, h10, hM, hN, h41⟩, hK⟩
  have hl := hC.2.2.1
  unfold fX5_at fX6_at
  rcases mach_c hC.2.2.2.2.1 hM a with ⟨e1, e2⟩ | ⟨l, hln, rfl, e1, e2⟩
  · rw [e1, e2, bd_ok, bd_ok, if_pos b0, if_pos b0]
    exact ⟨_, _, _, rfl, rfl, hR⟩
  · rw [e1, e2, bd_ok, bd_ok, if_neg b1, if_neg b1]
    obtain ⟨g1, g2, g3, g4⟩ := hC.2.2.2.2.2.2.1 l (by omega)
    obtain ⟨m1, m2, m3, m4⟩ := hM.2.2.2.2.2.2 l (by omega)
    rcases win_c b (hi := 4) 4 rfl (by omega) with ⟨hno, -, e4⟩ | ⟨j, hj, rfl, -, e4⟩
    · rw [e4, bd_ok, if_pos b0, if_neg (show ¬ b = 0 from hno 0 (by omega)), if_neg (show ¬ b = 1 from hno 1 (by omega)), if_neg (show ¬ b = 2 from hno 2 (by omega)), if_neg (show ¬ b = 3 from hno 3 (by omega)), if_neg (show ¬ b = 4 from hno 4 (by omega))]
      exact ⟨_, _, _, rfl, rfl, hR⟩
    · rw [e4, bd_ok, if_neg b1]
      have : j = 0 ∨ j = 1 ∨ j = 2 ∨ j = 3 ∨ j = 4 := by omega
      rcases this with rfl | rfl | rfl | rfl | rfl
      · rw [if_pos (by rfl), N_gd (by omega) (by omega), N_cl (by omega), g1, if_neg (by decide), show (24 : Int32) + (3 : Int32) * nI 0 = nI 24 from rfl, nI_add, N_gd (by omega) (by omega), N_cl (by omega), m1]
        exact ⟨_, _, _, rfl, rfl, hR⟩
      · rw [if_neg (by decide), if_pos (by rfl), N_gd (by omega) (by omega), N_cl (by omega), g2, if_neg (by decide), show (24 : Int32) + (3 : Int32) * nI 1 = nI 27 from rfl, nI_add, N_gd (by omega) (by omega), N_cl (by omega), m2]
        exact ⟨_, _, _, rfl, rfl, hR⟩
      · rw [if_neg (by decide), if_neg (by decide), if_pos (by rfl), N_gd (by omega) (by omega), N_cl (by omega), g3, if_neg (by decide), show (24 : Int32) + (3 : Int32) * nI 2 = nI 30 from rfl, nI_add, N_gd (by omega) (by omega), N_cl (by omega), m3]
        exact ⟨_, _, _, rfl, rfl, hR⟩
      · rw [if_neg (by decide), if_neg (by decide), if_neg (by decide), if_pos (by rfl), N_gd (by omega) (by omega), N_cl (by omega), g4, if_neg (by decide), show (24 : Int32) + (3 : Int32) * nI 3 = nI 33 from rfl, nI_add, N_gd (by omega) (by omega), N_cl (by omega), m4]
        exact ⟨_, _, _, rfl, rfl, hR⟩
      · have hr := nr_lt N l
        rw [if_neg (by decide), if_neg (by decide), if_neg (by decide), if_neg (by decide), if_pos (by rfl), h9, isRunning_ok (by omega), bd_ok, if_pos (show (4 : Int32) ≤ nI 4 by decide), show (36 : Int32) = nI 36 from rfl, nI_add, N_gd (by omega) (by omega), N_cl (by omega), hN.2 l (by omega)]
        by_cases hz : nr N l = 0
        · rw [hz, if_pos (by rfl), if_pos (by rfl)]
          exact ⟨_, _, _, rfl, rfl, hR⟩
        · rw [if_neg (show ¬ nI (min (nr N l) 1) = 0 by rw [litI, N_eq (by omega) (by omega)]; omega), if_neg (show ¬ nI (nr N l) = 0 by rw [litI, N_eq (by omega) (by omega)]; omega), h9, left_ok (by omega), bd_ok, N_gd (by omega) (by omega), show (1 : Int32) = nI 1 from rfl, N_sub (by omega)]
          exact ⟨_, _, _, rfl, rfl, hR⟩
end Rel
