section Add
variable {A : Nat → Nat → Nat} {nl nm N : Nat} {now : Int32} {σ μ : Sg}
def upL (A : Nat → Nat → Nat) (k p q c : Nat) : Nat → Nat → Nat := fun r i => if i = k then (if r = 0 then p else if r = 1 then q else if r = 2 then c else A r i) else A r i
def upM (A : Nat → Nat → Nat) (k p q c d : Nat) : Nat → Nat → Nat := fun r i => if i = k then (if r = 3 then p else if r = 4 then q else if r = 5 then c else if r = 6 then d else A r i) else A r i
theorem upL_n {k p q c r i : Nat} (h : i ≠ k) : upL A k p q c r i = A r i := if_neg h
theorem upL_m {k p q c r i : Nat} (h : 3 ≤ r) : upL A k p q c r i = A r i := by
  unfold upL
  split
  · rw [if_neg (by omega), if_neg (by omega), if_neg (by omega)]
  · rfl
theorem upL_k {k p q c : Nat} : upL A k p q c 0 k = p ∧ upL A k p q c 1 k = q ∧ upL A k p q c 2 k = c := by
  unfold upL
  simp
theorem upM_n {k p q c d r i : Nat} (h : i ≠ k) : upM A k p q c d r i = A r i := if_neg h
theorem upM_m {k p q c d r i : Nat} (h : r < 3) : upM A k p q c d r i = A r i := by
  unfold upM
  split
  · rw [if_neg (by omega), if_neg (by omega), if_neg (by omega), if_neg (by omega)]
  · rfl
theorem upM_k {k p q c d : Nat} : upM A k p q c d 3 k = p ∧ upM A k p q c d 4 k = q ∧ upM A k p q c d 5 k = c ∧ upM A k p q c d 6 k = d := by
  unfold upM
  simp
theorem addL (hCu : Cur A nl nm N now σ μ) (hK : Kep σ μ) (hn : nl < 6) {p q c : Nat} (hp : p < 6) (hq : q < 6) (hc : c ≤ 9) : Ans (bd (fX1_addLine (nI p) (nI q) (nI c) σ) fun v12 σ13 => bd (fX2_learnLine v12 σ13) fun v14 σ15 => some (v12, σ15)) (some (nI nl, wr (wr (wr (wr (wr μ 1 nl (nI p)) 1 (6 + nl) (nI q)) 1 (12 + nl) (nI c)) 1 (18 + nl) 0) 1 39 (nI (nl + 1)))) := by
  obtain ⟨⟨hA, hl6, hm3, s0, s4, s6, s7, s8⟩, hV, h9, h10, ⟨-, -, -, g1, g2, g3, g4⟩, ⟨n1, n2⟩, h41⟩ := hCu
  obtain ⟨u0, u1, u2⟩ := upL_k (A := A) (k := nl) (p := p) (q := q) (c := c)
  have hA' : AOK (upL A nl p q c) := by
    refine ⟨fun l hl => ?_, fun m hm => ?_⟩
    · by_cases e : l = nl
      · subst e; rw [u0, u1, u2]; exact ⟨hp, hq, hc⟩
      · rw [upL_n e, upL_n e, upL_n e]; exact hA.1 l hl
    · rw [upL_m (by omega), upL_m (by omega), upL_m (by omega), upL_m (by omega)]; exact hA.2 m hm
  unfold fX1_addLine
  rw [s0, sv_ok, N_gd hn (by omega), sv_ok, N_gd hn (by omega), sv_ok, N_gd hn (by omega), sv_ok, sv_ok, bd_ok, N_cl (by omega)]
  have hcell : ∀ k, k ≠ 1 → k ≠ 2 → k ≠ 3 → k ≠ 4 → wr (wr (wr (wr σ 2 nl (nI p)) 3 nl (nI q)) 4 nl (nI c)) 1 0 (wr (wr (wr σ 2 nl (nI p)) 3 nl (nI q)) 4 nl (nI c) 1 0 + 1) k = σ k := fun k h1 h2 h3 h4 => by rw [wr_ne h1, wr_ne h4, wr_ne h3, wr_ne h2]
  have hc1 : ∀ j, wr (wr (wr (wr σ 2 nl (nI p)) 3 nl (nI q)) 4 nl (nI c)) 1 0 (wr (wr (wr σ 2 nl (nI p)) 3 nl (nI q)) 4 nl (nI c) 1 0 + 1) 1 j = if j = 0 then nI (nl + 1) else σ 1 j := fun j => by
    rw [wr_eq, wr_ne (by decide), wr_ne (by decide), wr_ne (by decide), s0, show (1 : Int32) = nI 1 from rfl, nI_add]
  have hc2 : ∀ i, i < 6 → wr (wr (wr (wr σ 2 nl (nI p)) 3 nl (nI q)) 4 nl (nI c)) 1 0 (wr (wr (wr σ 2 nl (nI p)) 3 nl (nI q)) 4 nl (nI c) 1 0 + 1) 2 i = nI (upL A nl p q c 0 i) ∧ wr (wr (wr (wr σ 2 nl (nI p)) 3 nl (nI q)) 4 nl (nI c)) 1 0 (wr (wr (wr σ 2 nl (nI p)) 3 nl (nI q)) 4 nl (nI c) 1 0 + 1) 3 i = nI (upL A nl p q c 1 i) ∧ wr (wr (wr (wr σ 2 nl (nI p)) 3 nl (nI q)) 4 nl (nI c)) 1 0 (wr (wr (wr σ 2 nl (nI p)) 3 nl (nI q)) 4 nl (nI c) 1 0 + 1) 4 i = nI (upL A nl p q c 2 i) := fun i hi => by
    rw [wr_ne (by decide), wr_ne (by decide), wr_ne (by decide), wr_eq, wr_ne (by decide), wr_ne (by decide), wr_eq, wr_ne (by decide), wr_ne (by decide), wr_eq, wr_ne (by decide), wr_ne (by decide)]
    by_cases e : i = nl
    · subst e; rw [if_pos rfl, if_pos rfl, if_pos rfl, u0, u1, u2]; exact ⟨rfl, rfl, rfl⟩
    · rw [if_neg e, if_neg e, if_neg e, upL_n e, upL_n e, upL_n e]; exact s6 i hi
  generalize wr (wr (wr (wr σ 2 nl (nI p)) 3 nl (nI q)) 4 nl (nI c)) 1 0 (wr (wr (wr σ 2 nl (nI p)) 3 nl (nI q)) 4 nl (nI c) 1 0 + 1) = τ at hcell hc1 hc2
  have hrow : ∀ c', c' < 2 ^ nl → Row (upL A nl p q c) τ c' := fun c' hc' => by
    refine row_cong (row_mono (A := A) (fun l hl hb => ?_) (s8 c' hc')) (hcell 10 (by decide) (by decide) (by decide) (by decide)) (hcell 11 (by decide) (by decide) (by decide) (by decide))
    have e : l ≠ nl := fun e => by rw [e, Nat.div_eq_of_lt hc'] at hb; exact absurd hb (by decide)
    rw [upL_n e, upL_n e, upL_n e]; exact ⟨rfl, rfl, rfl⟩
  obtain ⟨⟨v, τ2⟩, e, -, fr2, hr2⟩ := learn_ok (A := upL A nl p q c) (σ := τ) hn (hA'.1 nl hn).1 (hA'.1 nl hn).2.1 (fun l hl => (hA'.1 l hl).2.2) (hc2 nl hn).1 (hc2 nl hn).2.1 (hc2 nl hn).2.2 hrow
  dsimp only at fr2 hr2
  rw [e, bd_ok]
  have f1 : τ2 1 = τ 1 := fr2 1 (by decide) (by decide)
  refine ⟨_, _, _, rfl, rfl, ⟨upL A nl p q c, nl + 1, nm, N, now, ⟨hA', by omega, hm3, ?_, ?_, fun i hi => ?_, fun i hi => ?_, fun c' hc' => hr2 c' (by rw [Nat.pow_add_one'] at hc'; exact hc')⟩, ⟨hV.1, ?_, hV.2.2⟩, ?_, ?_, ⟨hA', by omega, hm3, ?_, ?_, fun i hi => ?_, fun i hi => ?_⟩, ⟨fun i hi => ?_, fun i hi => ?_⟩, ?_⟩, hK.cong ?_ (fun k hk => ?_) ?_ ?_⟩
  · rw [f1, hc1, if_pos rfl]
  · rw [f1, hc1, if_neg (by decide)]; exact s4
  · rw [fr2 2 (by decide) (by decide), fr2 3 (by decide) (by decide), fr2 4 (by decide) (by decide)]; exact hc2 i hi
  · rw [fr2 5 (by decide) (by decide), fr2 6 (by decide) (by decide), fr2 7 (by decide) (by decide), fr2 8 (by decide) (by decide), hcell 5 (by decide) (by decide) (by decide) (by decide), hcell 6 (by decide) (by decide) (by decide) (by decide), hcell 7 (by decide) (by decide) (by decide) (by decide), hcell 8 (by decide) (by decide) (by decide) (by decide), upL_m (by omega), upL_m (by omega), upL_m (by omega), upL_m (by omega)]
    exact s7 i hi
  · have := hV.2.1
    rw [Nat.pow_add_one']
    omega
  · rw [f1, hc1, if_neg (by decide)]; exact h9
  · rw [f1, hc1, if_neg (by decide)]; exact h10
  · rw [wr_eq, if_pos rfl]
  · rw [wr_eq, if_neg (by decide), wr_eq, if_neg (by omega), wr_eq, if_neg (by omega), wr_eq, if_neg (by omega), wr_eq, if_neg (by omega)]; exact g2
  · simp only [wr_eq]
    obtain ⟨a1, a2, a3⟩ := g3 i hi
    by_cases e : i = nl
    · subst e
      rw [if_neg (show ¬ i = 39 by omega), if_neg (show ¬ i = 18 + i by omega), if_neg (show ¬ i = 12 + i by omega), if_neg (show ¬ i = 6 + i by omega), if_pos rfl, if_neg (show ¬ 6 + i = 39 by omega), if_neg (show ¬ 6 + i = 18 + i by omega), if_neg (show ¬ 6 + i = 12 + i by omega), if_pos rfl, if_neg (show ¬ 12 + i = 39 by omega), if_neg (show ¬ 12 + i = 18 + i by omega), if_pos rfl, u0, u1, u2]
      exact ⟨rfl, rfl, rfl⟩
    · rw [if_neg (show ¬ i = 39 by omega), if_neg (show ¬ i = 18 + nl by omega), if_neg (show ¬ i = 12 + nl by omega), if_neg (show ¬ i = 6 + nl by omega), if_neg e, if_neg (show ¬ 6 + i = 39 by omega), if_neg (show ¬ 6 + i = 18 + nl by omega), if_neg (show ¬ 6 + i = 12 + nl by omega), if_neg (show ¬ 6 + i = 6 + nl by omega), if_neg (show ¬ 6 + i = nl by omega), if_neg (show ¬ 12 + i = 39 by omega), if_neg (show ¬ 12 + i = 18 + nl by omega), if_neg (show ¬ 12 + i = 12 + nl by omega), if_neg (show ¬ 12 + i = 6 + nl by omega), if_neg (show ¬ 12 + i = nl by omega), upL_n e, upL_n e, upL_n e]
      exact ⟨a1, a2, a3⟩
  · have w : ∀ j, 24 ≤ j → j < 39 → wr (wr (wr (wr (wr μ 1 nl (nI p)) 1 (6 + nl) (nI q)) 1 (12 + nl) (nI c)) 1 (18 + nl) 0) 1 39 (nI (nl + 1)) 1 j = μ 1 j := fun j h1 h2 => by
      rw [wr_eq, if_neg (by omega), wr_eq, if_neg (by omega), wr_eq, if_neg (by omega), wr_eq, if_neg (by omega), wr_eq, if_neg (by omega)]
    rw [w _ (by omega) (by omega), w _ (by omega) (by omega), w _ (by omega) (by omega), w _ (by omega) (by omega), upL_m (by omega), upL_m (by omega), upL_m (by omega), upL_m (by omega)]
    exact g4 i hi
  · by_cases e : i = nl
    · subst e
      rw [wr_eq, if_neg (by omega), wr_eq, if_pos rfl, bhi hV hi (Nat.le_refl _)]; rfl
    · rw [wr_eq, if_neg (by omega), wr_eq, if_neg (by omega), wr_eq, if_neg (by omega), wr_eq, if_neg (by omega), wr_eq, if_neg (by omega)]; exact n1 i hi
  · rw [wr_eq, if_neg (by omega), wr_eq, if_neg (by omega), wr_eq, if_neg (by omega), wr_eq, if_neg (by omega), wr_eq, if_neg (by omega)]; exact n2 i hi
  · rw [wr_eq, if_neg (by omega), wr_eq, if_neg (by omega), wr_eq, if_neg (by omega), wr_eq, if_neg (by omega), wr_eq, if_neg (by omega)]; exact h41
  · rw [fr2 0 (by decide) (by decide), hcell 0 (by decide) (by decide) (by decide) (by decide)]
  · rw [fr2 k (by omega) (by omega), hcell k (by omega) (by omega) (by omega) (by omega)]
  · rw [wr_ne (by decide), wr_ne (by decide), wr_ne (by decide), wr_ne (by decide), wr_ne (by decide)]
  · rw [wr_ne (by decide), wr_ne (by decide), wr_ne (by decide), wr_ne (by decide), wr_ne (by decide)]
theorem sp_line : SP3 Rel0 fX5_line fX6_line := by
  rintro σ μ hR a b c
  obtain ⟨⟨A, nl, nm, N, now, hCu⟩, hK⟩ := hR
  have hR : Rel0 σ μ := ⟨⟨A, nl, nm, N, now, hCu⟩, hK⟩
  have s0 := hCu.1.2.2.2.1
  have g1 := hCu.2.2.2.2.1.2.2.2.1
  have hl6 := hCu.1.2.1
  unfold fX5_line fX6_line
  rcases bus_c a with ⟨e1, e2⟩ | ⟨p, hp, rfl, e1, e2⟩
  · rw [e1, e2, bd_ok, bd_ok, if_pos b0, if_pos b0]
    exact ⟨_, _, _, rfl, rfl, hR⟩
  rw [e1, e2, bd_ok, bd_ok, if_neg b1, if_neg b1]
  rcases bus_c b with ⟨e3, e4⟩ | ⟨q, hq, rfl, e3, e4⟩
  · rw [e3, e4, bd_ok, bd_ok, if_pos b0, if_pos b0]
    exact ⟨_, _, _, rfl, rfl, hR⟩
  rw [e3, e4, bd_ok, bd_ok, if_neg b1, if_neg b1]
  by_cases hpq : p = q
  · rw [if_pos (by rw [hpq]), if_pos (by rw [hpq])]
    exact ⟨_, _, _, rfl, rfl, hR⟩
  have hne : ¬ nI p = nI q := by rw [N_eq (by omega) (by omega)]; exact hpq
  rw [if_neg hne, if_neg hne]
  rcases win_c c (hi := 9) 9 rfl (by omega) with ⟨-, e5, e6⟩ | ⟨x, hx, rfl, e5, e6⟩
  · rw [e5, e6, bd_ok, bd_ok, if_pos b0, if_pos b0]
    exact ⟨_, _, _, rfl, rfl, hR⟩
  rw [e5, e6, bd_ok, bd_ok, if_neg b1, if_neg b1, s0, show (39 : Int32) = nI 39 from rfl, N_gd (by omega) (by omega), N_cl (by omega), g1, sv_ok]
  by_cases hf : nl = 6
  · subst hf
    rw [if_neg (by decide), if_pos (by rfl)]
    exact ⟨_, _, _, rfl, rfl, hR⟩
  · have hn : nl < 6 := by omega
    have z : (0 : Int32) + nI nl = nI nl := by rw [show (0 : Int32) = nI 0 from rfl, nI_add, Nat.zero_add]
    have tail : ∀ t0 t1 : Nat, t0 < 6 → t1 < 6 → fX6_line_91 (nI x) (nI nl) (nI t1) ((6 : Int32) + nI nl) (wr μ 1 nl (nI t0)) = some (nI nl, wr (wr (wr (wr (wr μ 1 nl (nI t0)) 1 (6 + nl) (nI t1)) 1 (12 + nl) (nI x)) 1 (18 + nl) 0) 1 39 (nI (nl + 1))) := by
      intro t0 t1 h0 h1
      unfold fX6_line_91
      rw [show (6 : Int32) + nI nl = nI (6 + nl) from nI_add 6 nl, show (12 : Int32) + nI nl = nI (12 + nl) from nI_add 12 nl, show (18 : Int32) + nI nl = nI (18 + nl) from nI_add 18 nl, N_gd (by omega) (by omega), sv_ok, N_gd (by omega) (by omega), sv_ok, N_gd (by omega) (by omega), sv_ok, show (39 : Int32) = nI 39 from rfl, N_gd (by omega) (by omega), N_gd (by omega) (by omega), sv_ok, N_cl (by omega), N_cl (by omega), N_cl (by omega), N_cl (by omega), wr_eq, if_neg (by omega), wr_eq, if_neg (by omega), wr_eq, if_neg (by omega), wr_eq, if_neg (by omega), g1, show (1 : Int32) = nI 1 from rfl, nI_add]
    rw [if_pos (show nI nl < 6 by rw [litI, N_lt (by omega) (by omega)]; exact hn), if_neg (show ¬ nI nl = 6 by rw [litI, N_eq (by omega) (by omega)]; omega), z]
    unfold fX6_line_71
    rw [N_gd (by omega) (by omega), N_gd (by omega) (by omega), N_cl (by omega), sv_ok, sv_ok]
    by_cases ho : p < q
    · rw [if_neg (show ¬ nI q < nI p by rw [N_lt (by omega) (by omega)]; omega), if_pos (show nI p < nI q by rw [N_lt (by omega) (by omega)]; omega), if_neg (show ¬ nI q ≤ nI p by rw [N_le (by omega) (by omega)]; omega), if_neg (show ¬ nI q ≤ nI p by rw [N_le (by omega) (by omega)]; omega), tail p q hp hq]
      exact addL hCu hK hn hp hq hx
    · rw [if_pos (show nI q < nI p by rw [N_lt (by omega) (by omega)]; omega), if_neg (show ¬ nI p < nI q by rw [N_lt (by omega) (by omega)]; omega), if_pos (show nI q ≤ nI p by rw [N_le (by omega) (by omega)]; omega), if_pos (show nI q ≤ nI p by rw [N_le (by omega) (by omega)]; omega), tail q p hq hp]
      exact addL hCu hK hn hq hp hx
theorem sp_machine : SP4 Rel0 fX5_machine fX6_machine := by
  rintro σ μ hR a b c d
  obtain ⟨⟨A, nl, nm, N, now, hCu⟩, hK⟩ := hR
  have hR : Rel0 σ μ := ⟨⟨A, nl, nm, N, now, hCu⟩, hK⟩
  obtain ⟨⟨hA, hl6, hm3, s0, s4, s6, s7, s8⟩, hV, h9, h10, ⟨-, -, -, g1, g2, g3, g4⟩, ⟨n1, n2⟩, h41⟩ := hCu
  unfold fX5_machine fX6_machine
  rcases bus_c a with ⟨e1, e2⟩ | ⟨p, hp, rfl, e1, e2⟩
  · rw [e1, e2, bd_ok, bd_ok, if_pos b0, if_pos b0]
    exact ⟨_, _, _, rfl, rfl, hR⟩
  rw [e1, e2, bd_ok, bd_ok, if_neg b1, if_neg b1]
  rcases win_c b (hi := 20) 20 rfl (by omega) with ⟨-, e3, e4⟩ | ⟨q, hq, rfl, e3, e4⟩
  · rw [e3, e4, bd_ok, bd_ok, if_pos b0, if_pos b0]
    exact ⟨_, _, _, rfl, rfl, hR⟩
  rw [e3, e4, bd_ok, bd_ok, if_neg b1, if_neg b1]
  rcases win_c c (hi := 40) 40 rfl (by omega) with ⟨-, e5, e6⟩ | ⟨x, hx, rfl, e5, e6⟩
  · rw [e5, e6, bd_ok, bd_ok, if_pos b0, if_pos b0]
    exact ⟨_, _, _, rfl, rfl, hR⟩
  rw [e5, e6, bd_ok, bd_ok, if_neg b1, if_neg b1]
  rcases win_c d (hi := 3) 3 rfl (by omega) with ⟨-, e7, e8⟩ | ⟨y, hy, rfl, e7, e8⟩
  · rw [e7, e8, bd_ok, bd_ok, if_pos b0, if_pos b0]
    exact ⟨_, _, _, rfl, rfl, hR⟩
  rw [e7, e8, bd_ok, bd_ok, if_neg b1, if_neg b1, s4, show (40 : Int32) = nI 40 from rfl, N_gd (by omega) (by omega), N_cl (by omega), g2, sv_ok]
  by_cases hf : nm = 3
  · subst hf
    rw [if_neg (by decide), if_pos (by rfl)]
    exact ⟨_, _, _, rfl, rfl, hR⟩
  · have hn : nm < 3 := by omega
    obtain ⟨u0, u1, u2, u3⟩ := upM_k (A := A) (k := nm) (p := p) (q := q) (c := x) (d := y)
    have hA' : AOK (upM A nm p q x y) := by
      refine ⟨fun l hl => ?_, fun m hm => ?_⟩
      · rw [upM_m (by omega), upM_m (by omega), upM_m (by omega)]; exact hA.1 l hl
      · by_cases e : m = nm
        · subst e; rw [u0, u1, u2, u3]; exact ⟨hp, hq, hx, hy⟩
        · rw [upM_n e, upM_n e, upM_n e, upM_n e]; exact hA.2 m hm
    unfold fX1_addMachine
    rw [if_pos (show nI nm < 3 by rw [litI, N_lt (by omega) (by omega)]; exact hn), if_neg (show ¬ nI nm = 3 by rw [litI, N_eq (by omega) (by omega)]; omega), s4, sv_ok, N_gd hn (by omega), sv_ok, N_gd hn (by omega), sv_ok, N_gd hn (by omega), sv_ok, N_gd hn (by omega), sv_ok, sv_ok, bd_ok, N_cl (by omega), show (24 : Int32) + nI nm = nI (24 + nm) from nI_add 24 nm, show (27 : Int32) + nI nm = nI (27 + nm) from nI_add 27 nm, show (30 : Int32) + nI nm = nI (30 + nm) from nI_add 30 nm, show (33 : Int32) + nI nm = nI (33 + nm) from nI_add 33 nm, show (36 : Int32) + nI nm = nI (36 + nm) from nI_add 36 nm, N_gd (by omega) (by omega), sv_ok, N_gd (by omega) (by omega), sv_ok, N_gd (by omega) (by omega), sv_ok, N_gd (by omega) (by omega), sv_ok, N_gd (by omega) (by omega), sv_ok, N_gd (by omega) (by omega), N_gd (by omega) (by omega), sv_ok, N_cl (by omega), N_cl (by omega), N_cl (by omega), N_cl (by omega), N_cl (by omega)]
    refine ⟨_, _, _, rfl, rfl, ⟨upM A nm p q x y, nl, nm + 1, N, now, ⟨hA', hl6, by omega, ?_, ?_, fun i hi => ?_, fun i hi => ?_, fun c' hc' => ?_⟩, ⟨hV.1, hV.2.1, fun m hm hle => hV.2.2 m hm (by omega)⟩, ?_, ?_, ⟨hA', hl6, by omega, ?_, ?_, fun i hi => ?_, fun i hi => ?_⟩, ⟨fun i hi => ?_, fun i hi => ?_⟩, ?_⟩, hK.cong ?_ (fun k hk => ?_) ?_ ?_⟩
    · rw [wr_eq, if_neg (by decide), wr_ne (by decide), wr_ne (by decide), wr_ne (by decide), wr_ne (by decide)]; exact s0
    · rw [wr_eq, if_pos rfl, wr_ne (by decide), wr_ne (by decide), wr_ne (by decide), wr_ne (by decide), s4, show (1 : Int32) = nI 1 from rfl, nI_add]
    · rw [wr_ne (by decide), wr_ne (by decide), wr_ne (by decide), wr_ne (by decide), wr_ne (by decide), wr_ne (by decide), wr_ne (by decide), wr_ne (by decide), wr_ne (by decide), wr_ne (by decide), wr_ne (by decide), wr_ne (by decide), wr_ne (by decide), wr_ne (by decide), wr_ne (by decide), upM_m (by omega), upM_m (by omega), upM_m (by omega)]; exact s6 i hi
    · by_cases e : i = nm
      · subst e
        refine ⟨?_, ?_, ?_, ?_⟩
        · rw [wr_ne (by decide), wr_ne (by decide), wr_ne (by decide), wr_ne (by decide), wr_eq, if_pos rfl, u0]
        · rw [wr_ne (by decide), wr_ne (by decide), wr_ne (by decide), wr_eq, if_pos rfl, u1]
        · rw [wr_ne (by decide), wr_ne (by decide), wr_eq, if_pos rfl, u2]
        · rw [wr_ne (by decide), wr_eq, if_pos rfl, u3]
      · obtain ⟨a1, a2, a3, a4⟩ := s7 i hi
        rw [upM_n e, upM_n e, upM_n e, upM_n e]
        refine ⟨?_, ?_, ?_, ?_⟩
        · rw [wr_ne (by decide), wr_ne (by decide), wr_ne (by decide), wr_ne (by decide), wr_eq, if_neg e]; exact a1
        · rw [wr_ne (by decide), wr_ne (by decide), wr_ne (by decide), wr_eq, if_neg e, wr_ne (by decide)]; exact a2
        · rw [wr_ne (by decide), wr_ne (by decide), wr_eq, if_neg e, wr_ne (by decide), wr_ne (by decide)]; exact a3
        · rw [wr_ne (by decide), wr_eq, if_neg e, wr_ne (by decide), wr_ne (by decide), wr_ne (by decide)]; exact a4
    · refine row_cong (row_mono (A := A) (fun l hl hb => ?_) (s8 c' hc')) ?_ ?_
      · rw [upM_m (by omega), upM_m (by omega), upM_m (by omega)]; exact ⟨rfl, rfl, rfl⟩
      · rw [wr_ne (by decide), wr_ne (by decide), wr_ne (by decide), wr_ne (by decide), wr_ne (by decide)]
      · rw [wr_ne (by decide), wr_ne (by decide), wr_ne (by decide), wr_ne (by decide), wr_ne (by decide)]
    · rw [wr_eq, if_neg (by decide), wr_ne (by decide), wr_ne (by decide), wr_ne (by decide), wr_ne (by decide)]; exact h9
    · rw [wr_eq, if_neg (by decide), wr_ne (by decide), wr_ne (by decide), wr_ne (by decide), wr_ne (by decide)]; exact h10
    · rw [wr_eq, if_neg (by omega), wr_eq, if_neg (by omega), wr_eq, if_neg (by omega), wr_eq, if_neg (by omega), wr_eq, if_neg (by omega), wr_eq, if_neg (by omega)]; exact g1
    · rw [wr_eq, if_pos rfl, wr_eq, if_neg (by omega), wr_eq, if_neg (by omega), wr_eq, if_neg (by omega), wr_eq, if_neg (by omega), wr_eq, if_neg (by omega), g2, show (1 : Int32) = nI 1 from rfl, nI_add]
    · have w : ∀ (v : Int32) j, j < 18 → wr (wr (wr (wr (wr (wr μ 1 (24 + nm) (nI p)) 1 (27 + nm) (nI q)) 1 (30 + nm) (nI x)) 1 (33 + nm) (nI y)) 1 (36 + nm) 0) 1 40 v 1 j = μ 1 j := fun v j h => by
        rw [wr_eq, if_neg (by omega), wr_eq, if_neg (by omega), wr_eq, if_neg (by omega), wr_eq, if_neg (by omega), wr_eq, if_neg (by omega), wr_eq, if_neg (by omega)]
      rw [w _ _ (by omega), w _ _ (by omega), w _ _ (by omega), upM_m (by omega), upM_m (by omega), upM_m (by omega)]
      exact g3 i hi
    · obtain ⟨a1, a2, a3, a4⟩ := g4 i hi
      by_cases e : i = nm
      · subst e
        refine ⟨?_, ?_, ?_, ?_⟩
        · rw [wr_eq, if_neg (by omega), wr_eq, if_neg (by omega), wr_eq, if_neg (by omega), wr_eq, if_neg (by omega), wr_eq, if_neg (by omega), wr_eq, if_pos rfl, u0]
        · rw [wr_eq, if_neg (by omega), wr_eq, if_neg (by omega), wr_eq, if_neg (by omega), wr_eq, if_neg (by omega), wr_eq, if_pos rfl, u1]
        · rw [wr_eq, if_neg (by omega), wr_eq, if_neg (by omega), wr_eq, if_neg (by omega), wr_eq, if_pos rfl, u2]
        · rw [wr_eq, if_neg (by omega), wr_eq, if_neg (by omega), wr_eq, if_pos rfl, u3]
      · rw [upM_n e, upM_n e, upM_n e, upM_n e]
        have w : ∀ (v : Int32) j, j ≠ 24 + nm → j ≠ 27 + nm → j ≠ 30 + nm → j ≠ 33 + nm → j < 36 → wr (wr (wr (wr (wr (wr μ 1 (24 + nm) (nI p)) 1 (27 + nm) (nI q)) 1 (30 + nm) (nI x)) 1 (33 + nm) (nI y)) 1 (36 + nm) 0) 1 40 v 1 j = μ 1 j := fun v j h1 h2 h3 h4 h5 => by
          rw [wr_eq, if_neg (by omega), wr_eq, if_neg (by omega), wr_eq, if_neg h4, wr_eq, if_neg h3, wr_eq, if_neg h2, wr_eq, if_neg h1]
        rw [w _ _ (by omega) (by omega) (by omega) (by omega) (by omega), w _ _ (by omega) (by omega) (by omega) (by omega) (by omega), w _ _ (by omega) (by omega) (by omega) (by omega) (by omega), w _ _ (by omega) (by omega) (by omega) (by omega) (by omega)]
        exact ⟨a1, a2, a3, a4⟩
    · rw [wr_eq, if_neg (by omega), wr_eq, if_neg (by omega), wr_eq, if_neg (by omega), wr_eq, if_neg (by omega), wr_eq, if_neg (by omega), wr_eq, if_neg (by omega)]; exact n1 i hi
    · by_cases e : i = nm
      · subst e
        rw [wr_eq, if_neg (by omega), wr_eq, if_pos rfl, hV.2.2 i hi (Nat.le_refl _)]; rfl
      · rw [wr_eq, if_neg (by omega), wr_eq, if_neg (by omega), wr_eq, if_neg (by omega), wr_eq, if_neg (by omega), wr_eq, if_neg (by omega), wr_eq, if_neg (by omega)]; exact n2 i hi
    · rw [wr_eq, if_neg (by omega), wr_eq, if_neg (by omega), wr_eq, if_neg (by omega), wr_eq, if_neg (by omega), wr_eq, if_neg (by omega), wr_eq, if_neg (by omega)]; exact h41
    · rw [wr_ne (by decide), wr_ne (by decide), wr_ne (by decide), wr_ne (by decide), wr_ne (by decide)]
    · rw [wr_ne (by omega), wr_ne (by omega), wr_ne (by omega), wr_ne (by omega), wr_ne (by omega)]
    · rw [wr_ne (by decide), wr_ne (by decide), wr_ne (by decide), wr_ne (by decide), wr_ne (by decide), wr_ne (by decide)]
    · rw [wr_ne (by decide), wr_ne (by decide), wr_ne (by decide), wr_ne (by decide), wr_ne (by decide), wr_ne (by decide)]
end Add
