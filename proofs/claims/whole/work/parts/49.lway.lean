section LWay
variable {A : Nat → Nat → Nat} {nl nm N : Nat} {μ : Sg}
def spl (t : Nat → Nat) (i : Nat) (u : Nat → Nat) : Nat → Nat := fun j => if j < i then t j else u (j - i)
def cns (s : Nat) (u : Nat → Nat) : Nat → Nat := fun j => if j = 0 then s else u (j - 1)
theorem spl_0 (t u : Nat → Nat) : spl t 0 u = u := by
  funext j
  unfold spl
  rw [if_neg (by omega), Nat.sub_zero]
theorem spl_s (t u : Nat → Nat) (i s : Nat) : spl t i (cns s u) = spl (upN t i s) (i + 1) u := by
  funext j
  unfold spl cns
  by_cases h : j < i
  · rw [if_pos h, if_pos (by omega), upN_n (by omega)]
  · by_cases h2 : j = i
    · subst h2
      rw [if_neg h, if_pos (by omega), if_pos (by omega), upN_s]
    · rw [if_neg h, if_neg (by omega), if_neg (by omega), show j - i - 1 = j - (i + 1) by omega]
theorem cns_t (s : Nat) (u : Nat → Nat) : (fun i => cns s u (i + 1)) = u := by
  funext i
  unfold cns
  rw [if_neg (by omega), Nat.add_sub_cancel]
/-- what the reference's way comes to -/
def WayOf (A : Nat → Nat → Nat) (nl nm : Nat) (g h : Int32) (N L : Nat) (t : Nat → Nat) : Prop := BW (abM A nl nm 1023) (nx A) (gl A nm g h) L N t ∧ ∀ j, j < L → ¬ GP (abM A nl nm 1023) (nx A) (gl A nm g h) j N
theorem layWay_ok (hG : MG A nl nm μ) (hV : VN nl nm N) (hN : Now N μ) (g h : Int32) : ∃ r, fX6_layWay g h μ = some r ∧ ((∀ k, 0 < k → k < 4 → r.2 k = μ k) ∧ ((r.1 = -6 ∧ ∀ k, ¬ GP (abM A nl nm 1023) (nx A) (gl A nm g h) k N) ∨ ∃ L t, L < 8000 ∧ r.1 = nI L ∧ WayOf A nl nm g h N L t ∧ r.2 0 11 = nI (En (nx A) L N t) ∧ ∀ j, j < L → r.2 11 j = nI (t j))) := by
  have hA : ∀ m, m < 3 → A 6 m ≤ 3 := fun m hm => (hG.1.2 m hm).2.2.2
  unfold fX6_layWay
  obtain ⟨⟨v, τ⟩, e, fr, hF⟩ := layAll_ok (st := 1023) hG hV hN hw_all
  dsimp only at fr hF
  rw [e, bd_ok]
  obtain ⟨⟨v2, τ2⟩, e2, fr2, hr⟩ := reached_ok (hG.cong (fr 1 (by omega))) hV hF g h
  dsimp only at fr2 hr
  rw [e2, bd_ok]
  rcases hr with ⟨h1, h2⟩ | ⟨L, hL8, h1, h2, hmin⟩
  · rw [h1, if_neg m6_neg]
    exact ⟨_, rfl, fun q a b => by show τ2 q = μ q; rw [fr2 q (by omega), fr q (by omega)], Or.inl ⟨rfl, h2⟩⟩
  · have hF2 : FE (abM A nl nm 1023) (nx A) N (τ2 9) := by rw [fr2 9 (by omega)]; exact hF
    have hG2 : MG A nl nm τ2 := hG.cong (by rw [fr2 1 (by omega), fr 1 (by omega)])
    obtain ⟨⟨v3, τ3⟩, e3, fr3, hl⟩ := layLeads_ok hG2 hV hF2 hL8 hmin
    dsimp only at fr3 hl
    have hN3 : Now N τ3 := by
      unfold Now
      rw [fr3 1 (by omega) (by decide), fr2 1 (by omega), fr 1 (by omega)]
      exact hN
    rw [h1, if_pos (nn0 (by omega)), e3, bd_ok, nnow_ok hV.1 hN3, bd_ok]
    have fr03 : ∀ k, 0 < k → k < 4 → τ3 k = μ k := fun q a b => by rw [fr3 q (by omega) (by omega), fr2 q (by omega), fr q (by omega)]
    have hF3 : FE (abM A nl nm 1023) (nx A) N (τ3 9) := by rw [fr3 9 (by omega) (by decide)]; exact hF2
    refine lpA3 (fun x3 x4 x5 ρ => x3 = nI L ∧ ∃ i M t, x4 = nI M ∧ x5 = nI i ∧ i ≤ L ∧ (∀ k, 0 < k → k < 4 → ρ k = μ k) ∧ ρ 9 = τ3 9 ∧ ρ 10 = τ3 10 ∧ Ds (abM A nl nm 1023) (nx A) N i M ∧ GP (abM A nl nm 1023) (nx A) (gl A nm g h) (L - i) M ∧ (∀ j, j < i → ρ 11 j = nI (t j)) ∧ (∀ u, BW (abM A nl nm 1023) (nx A) (gl A nm g h) (L - i) M u → BW (abM A nl nm 1023) (nx A) (gl A nm g h) L N (spl t i u)) ∧ ∀ u, En (nx A) (L - i) M u = En (nx A) L N (spl t i u)) (fun _ _ x5 _ => 8001 - x5.toNatClampNeg) _ ?_ FU _ _ _ _ ⟨rfl, 0, N, fun _ => 0, rfl, rfl, by omega, fr03, rfl, rfl, ⟨rfl, fun e he => by omega⟩, h2, fun j hj => by omega, fun u hu => by rw [spl_0]; exact hu, fun u => by rw [spl_0]; rfl⟩ (Nat.lt_of_le_of_lt (Nat.sub_le _ _) (by decide))
    rintro k x3 x4 x5 ρ ⟨rfl, i, M, t, rfl, rfl, hi, fr4, h9, h10, hD, hgp, h11, hB, hE⟩ ih
    unfold fX6_layWay_L36
    by_cases he : i = L
    · subst he
      rw [if_pos (show nI i ≤ nI i by rw [N_le (by omega) (by omega)]; omega), sv_ok]
      rw [Nat.sub_self] at hgp hB hE
      refine ⟨_, rfl, fun q a b => by show wr ρ 0 11 (nI M) q = μ q; rw [wr_ne (by omega)]; exact fr4 q a b, Or.inr ⟨i, spl t i (fun _ => 0), hL8, rfl, ⟨hB _ hgp, hmin⟩, ?_, fun j hj => ?_⟩⟩
      · show wr ρ 0 11 (nI M) 0 11 = _
        rw [wr_eq, if_pos rfl, ← hE]
        rfl
      · show wr ρ 0 11 (nI M) 11 j = _
        rw [wr_ne (by decide), h11 j hj]
        unfold spl
        rw [if_pos hj]
    · obtain ⟨e', hee⟩ : ∃ e', L - i = e' + 1 := ⟨L - i - 1, by omega⟩
      rw [hee] at hgp hB hE
      have hGr : MG A nl nm ρ := hG.cong (fr4 1 (by omega) (by omega))
      have hVM := rc_vn hA hV i M hD.1
      rw [if_neg (show ¬ nI L ≤ nI i by rw [N_le (by omega) (by omega)]; omega)]
      obtain ⟨⟨w, ρ2⟩, e5, fr5, hr⟩ := stepOn_ok (L := L) (d := i) (e := e') hGr hV (by rw [h9]; exact hF3) (by omega) hL8 hmin hD (fun X hX => by
        have := hl X (i + 1) (by omega) hX
        rw [h10]
        rw [show L - (i + 1) = e' by omega] at this
        exact this)
      dsimp only at fr5 hr
      rw [e5, bd_ok]
      rcases hr with ⟨-, hno⟩ | ⟨s, hs, hw, hab, hg1, hfirst⟩
      · exact absurd hgp hno
      · rw [N_gd (by omega) (by omega), sv_ok, hw, N_cl (by omega)]
        have hGs : MG A nl nm (wr ρ2 11 i (nI s)) := hG.cong (by rw [wr_ne (by decide), fr5 1 (by omega), fr4 1 (by omega) (by omega)])
        obtain ⟨⟨w2, ρ3⟩, e6, fr6, hLd⟩ := layN hGs hVM
        dsimp only at fr6 hLd
        have hG3 : MG A nl nm ρ3 := hGs.cong (fr6 1 (by omega))
        have h311 : ∀ j, ρ3 11 j = if j = i then nI s else ρ 11 j := fun j => by rw [fr6 11 (by omega), wr_eq, fr5 11 (by omega)]
        rw [e6, bd_ok, N_gd (by omega) (by omega), h311 i, if_pos rfl, behind_ok hG3 hLd hs, bd_ok, sv_ok, show (1 : Int32) = nI 1 from rfl, nI_add]
        have hrX : Rc (abM A nl nm 1023) (nx A) N (i + 1) (nx A M s) := ⟨M, s, hs, hD.1, hab, rfl⟩
        have hbw : ∀ u, BW (abM A nl nm 1023) (nx A) (gl A nm g h) e' (nx A M s) u → BW (abM A nl nm 1023) (nx A) (gl A nm g h) (e' + 1) M (cns s u) := fun u hu => ⟨hs, hab, by rw [cns_t]; exact hu, hfirst⟩
        refine ih _ _ _ _ ⟨rfl, i + 1, nx A M s, upN t i s, rfl, rfl, by omega, fun q a b => ?_, ?_, ?_, ⟨hrX, fun e1 he1 hr1 => hmin (e1 + e') (by omega) (Rc.gp e' _ hr1 hg1)⟩, ?_, fun j hj => ?_, fun u hu => ?_, fun u => ?_⟩ ?_
        · rw [fr6 q (by omega), wr_ne (by omega), fr5 q (by omega)]; exact fr4 q a b
        · rw [fr6 9 (by omega), wr_ne (by decide), fr5 9 (by omega)]; exact h9
        · rw [fr6 10 (by omega), wr_ne (by decide), fr5 10 (by omega)]; exact h10
        · rw [show L - (i + 1) = e' by omega]; exact hg1
        · rw [h311 j]
          by_cases c : j = i
          · rw [if_pos c, c, upN_s]
          · rw [if_neg c, upN_n c]; exact h11 j (by omega)
        · rw [show L - (i + 1) = e' by omega] at hu
          rw [← spl_s]
          exact hB _ (hbw u hu)
        · rw [show L - (i + 1) = e' by omega, ← spl_s, ← hE]
          show _ = En (nx A) e' (nx A M s) (fun i => cns s u (i + 1))
          rw [cns_t]
        · rw [N_cl (by omega), N_cl (by omega)]
          omega
theorem GP.least {ab : Nat → Nat → Bool} {T : Nat → Nat → Nat} {gl : Nat → Bool} {N0 k j : Nat} (hk : GP ab T gl k N0) (hk' : ∀ i, i < k → ¬ GP ab T gl i N0) (hj : GP ab T gl j N0) (hj' : ∀ i, i < j → ¬ GP ab T gl i N0) : k = j := by
  rcases Nat.lt_trichotomy k j with c | c | c
  · exact absurd hk (hj' k c)
  · exact c
  · exact absurd hj (hk' j c)
theorem WayOf.uniq {g h : Int32} {k L : Nat} {t u : Nat → Nat} (h1 : WayOf A nl nm g h N k t) (h2 : WayOf A nl nm g h N L u) : k = L ∧ (∀ i, i < k → t i = u i) ∧ En (nx A) k N t = En (nx A) L N u := by
  have e := h1.1.gp.least h1.2 h2.1.gp h2.2
  subst e
  exact ⟨rfl, BW.uniq _ _ _ h1.1 h2.1⟩
end LWay
