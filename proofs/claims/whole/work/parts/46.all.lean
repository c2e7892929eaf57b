/-! the reference's search, all numbers -/
section All
variable {A : Nat → Nat → Nat} {nl nm N : Nat} {μ : Sg}
theorem ab_w {w : Int32} {st s M : Nat} (hw : nI s = w ↔ st / 2 ^ s % 2 = 0) (h : ¬ nI s = w) : abM A nl nm st M s = cs A nl nm M s := by
  unfold abM
  have : st / 2 ^ s % 2 = 1 := by
    have : ¬ st / 2 ^ s % 2 = 0 := fun c => h (hw.mpr c)
    omega
  rw [decide_eq_true this, Bool.and_true]
theorem ab_f {w : Int32} {st s M : Nat} (hw : nI s = w ↔ st / 2 ^ s % 2 = 0) (h : nI s = w) : abM A nl nm st M s = false := by
  unfold abM
  have := hw.mp h
  rw [decide_eq_false (by omega), Bool.and_false]
theorem ab_cs {st s M : Nat} (h : abM A nl nm st M s = true) : cs A nl nm M s = true := by
  unfold abM at h
  simp only [Bool.and_eq_true] at h
  exact h.1
def PW (A : Nat → Nat → Nat) (nl nm st t : Nat) (f0 : Nat → Int32) (n s M : Nat) : Prop := ∃ M', M' < 8000 ∧ f0 M' = nI t ∧ ∃ s', s' < 10 ∧ (M' < n ∨ (M' = n ∧ s' < s)) ∧ abM A nl nm st M' s' = true ∧ nx A M' s' = M
theorem PW.skip {st t n s : Nat} {f0 : Nat → Int32} (h : abM A nl nm st n s = false) (M : Nat) : PW A nl nm st t f0 n s M ↔ PW A nl nm st t f0 n (s + 1) M := by
  constructor
  · rintro ⟨M', h1, h2, s', h3, h4, h5⟩
    exact ⟨M', h1, h2, s', h3, by omega, h5⟩
  · rintro ⟨M', h1, h2, s', h3, h4, h5, h6⟩
    refine ⟨M', h1, h2, s', h3, ?_, h5, h6⟩
    rcases h4 with h4 | ⟨h4, h7⟩
    · exact Or.inl h4
    · refine Or.inr ⟨h4, ?_⟩
      by_cases c : s' = s
      · rw [h4, c, h] at h5; exact absurd h5 (by decide)
      · omega
theorem PW.more {st t n s : Nat} {f0 : Nat → Int32} (hn : n < 8000) (hf : f0 n = nI t) (hs : s < 10) (h : abM A nl nm st n s = true) (M : Nat) : (PW A nl nm st t f0 n s M ∨ M = nx A n s) ↔ PW A nl nm st t f0 n (s + 1) M := by
  constructor
  · rintro (⟨M', h1, h2, s', h3, h4, h5⟩ | rfl)
    · exact ⟨M', h1, h2, s', h3, by omega, h5⟩
    · exact ⟨n, hn, hf, s, hs, by omega, h, rfl⟩
  · rintro ⟨M', h1, h2, s', h3, h4, h5, h6⟩
    by_cases c : M' = n ∧ s' = s
    · rw [c.1, c.2] at h6
      exact Or.inr h6.symm
    · exact Or.inl ⟨M', h1, h2, s', h3, by omega, h5, h6⟩
theorem PW.next {st t n : Nat} {f0 : Nat → Int32} (M : Nat) : PW A nl nm st t f0 n 10 M ↔ PW A nl nm st t f0 (n + 1) 0 M := by
  constructor
  · rintro ⟨M', h1, h2, s', h3, h4, h5⟩
    exact ⟨M', h1, h2, s', h3, by omega, h5⟩
  · rintro ⟨M', h1, h2, s', h3, h4, h5⟩
    exact ⟨M', h1, h2, s', h3, by omega, h5⟩
theorem PW.none {st t n : Nat} {f0 : Nat → Int32} (hf : ¬ f0 n = nI t) (M : Nat) : PW A nl nm st t f0 n 0 M ↔ PW A nl nm st t f0 (n + 1) 0 M := by
  constructor
  · rintro ⟨M', h1, h2, s', h3, h4, h5⟩
    exact ⟨M', h1, h2, s', h3, by omega, h5⟩
  · rintro ⟨M', h1, h2, s', h3, h4, h5⟩
    have : M' ≠ n := fun e => hf (by rw [← e]; exact h2)
    exact ⟨M', h1, h2, s', h3, by omega, h5⟩
theorem m6_neg : ¬ (0 : Int32) ≤ -6 := by decide
theorem MI.nn {f0 f : Nat → Int32} {t b : Nat} {P : Nat → Prop} (h : MI f0 t P b f) (ht : t < 100000) (hf : ∀ M, M < 8000 → (f0 M = -6 ∨ ∃ d, d < 100001 ∧ f0 M = nI d)) (M : Nat) (hM : M < 8000) : f M = -6 ∨ ∃ d, d < 100001 ∧ f M = nI d := by
  rcases hf M hM with h0 | ⟨d, hd, h0⟩
  · by_cases c : P M
    · exact Or.inr ⟨t + 1, by omega, (h.2.2.1 M hM h0).1 c⟩
    · exact Or.inl ((h.2.2.1 M hM h0).2 c)
  · exact Or.inr ⟨d, hd, by rw [h.2.1 M hM (by rw [h0]; exact m6_n (by omega))]; exact h0⟩
theorem MI.lvl {f0 f : Nat → Int32} {t b : Nat} {P : Nat → Prop} (h : MI f0 t P b f) (ht : t < 100000) (hf : ∀ M, M < 8000 → (f0 M = -6 ∨ ∃ d, d < 100001 ∧ f0 M = nI d)) (M : Nat) (hM : M < 8000) : f M = nI t ↔ f0 M = nI t := by
  by_cases h0 : f0 M = -6
  · have a : ¬ f0 M = nI t := fun e => by rw [h0] at e; exact m6_n (a := t) (by omega) e.symm
    refine ⟨fun e => ?_, fun e => absurd e a⟩
    exfalso
    by_cases c : P M
    · rw [(h.2.2.1 M hM h0).1 c, nI_eq (by omega) (by omega)] at e
      omega
    · rw [(h.2.2.1 M hM h0).2 c] at e
      exact m6_n (a := t) (by omega) e.symm
  · rw [h.2.1 M hM h0]
theorem goOn_ok (hG : MG A nl nm μ) {t st : Nat} {w : Int32} (ht : t < 100000) (hw : ∀ s, s < 10 → (nI s = w ↔ st / 2 ^ s % 2 = 0)) (hf : ∀ M, M < 8000 → (μ 9 M = -6 ∨ ∃ d, d < 100001 ∧ μ 9 M = nI d)) (hv : ∀ M, M < 8000 → μ 9 M = nI t → VN nl nm M) : ∃ r, fX6_goOn (nI t) w μ = some r ∧ ((∀ k, (k < 4 ∨ 9 < k) → r.2 k = μ k) ∧ ∃ b, r.1 = nI b ∧ MI (μ 9) t (PW A nl nm st t (μ 9) 8000 0) b (r.2 9)) := by
  have hA : ∀ m, m < 3 → A 6 m ≤ 3 := fun m hm => (hG.1.2 m hm).2.2.2
  unfold fX6_goOn
  refine lpA4 (fun x1 x2 x3 x4 τ => x1 = nI t ∧ x2 = w ∧ ∃ b n, x3 = nI b ∧ x4 = nI n ∧ n ≤ 8000 ∧ (∀ k, (k < 4 ∨ 9 < k) → τ k = μ k) ∧ MI (μ 9) t (PW A nl nm st t (μ 9) n 0) b (τ 9)) (fun _ _ _ x4 _ => 8001 - x4.toNatClampNeg) _ ?_ FU _ _ _ _ _ ⟨rfl, rfl, 0, 0, rfl, rfl, by omega, fun _ _ => rfl, ?_⟩ (Nat.lt_of_le_of_lt (Nat.sub_le _ _) (by decide))
  · rintro k x1 x2 x3 x4 τ ⟨rfl, rfl, b, n, rfl, rfl, hn, fr, hMI⟩ ih
    have next : ∀ b' (τ' : Sg), n < 8000 → (∀ k, (k < 4 ∨ 9 < k) → τ' k = μ k) → MI (μ 9) t (PW A nl nm st t (μ 9) (n + 1) 0) b' (τ' 9) → ∃ r, fX6_goOn_119 k (nI t) x2 (nI b') (nI n) τ' = some r ∧ ((∀ k, (k < 4 ∨ 9 < k) → r.2 k = μ k) ∧ ∃ b, r.1 = nI b ∧ MI (μ 9) t (PW A nl nm st t (μ 9) 8000 0) b (r.2 9)) := by
      intro b' τ' hn8 fr' hM'
      unfold fX6_goOn_119
      rw [sv_ok, show (1 : Int32) = nI 1 from rfl, nI_add]
      refine ih _ _ _ _ _ ⟨rfl, rfl, b', n + 1, rfl, rfl, by omega, fr', hM'⟩ ?_
      rw [N_cl (by omega), N_cl (by omega)]
      omega
    unfold fX6_goOn_L5
    by_cases he : n = 8000
    · subst he
      rw [if_pos (by decide), zr_b hMI.1]
      exact ⟨_, rfl, fr, b, rfl, hMI⟩
    · have hn8 : n < 8000 := by omega
      rw [if_neg (show ¬ (8000 : Int32) ≤ nI n by rw [litI, N_le (by omega) (by omega)]; omega), N_gd hn8 (by omega), N_cl (by omega)]
      by_cases hl : τ 9 n = nI t
      · have hl0 : μ 9 n = nI t := (hMI.lvl ht hf n hn8).mp hl
        have hVn := hv n hn8 hl0
        rw [if_pos hl]
        have hGt : MG A nl nm τ := hG.cong (fr 1 (by omega))
        obtain ⟨⟨v, τ2⟩, e, fr2, hL⟩ := layN hGt hVn
        dsimp only at fr2 hL
        rw [e, bd_ok]
        have frr : ∀ k, (k < 4 ∨ 9 < k) → τ2 k = μ k := fun k hk => by rw [fr2 k (by omega), fr k hk]
        have hMI2 : MI (μ 9) t (PW A nl nm st t (μ 9) n 0) b (τ2 9) := hMI.same (fun _ => Iff.rfl) (fun M _ => by rw [fr2 9 (by omega)])
        clear ih
        refine lpA5 (fun x1 x2' x3 x4 x5 τ => x1 = nI t ∧ x2' = x2 ∧ x4 = nI n ∧ ∃ b s, x3 = nI b ∧ x5 = nI s ∧ s ≤ 10 ∧ (∀ k, (k < 4 ∨ 9 < k) → τ k = μ k) ∧ Laid A nm n τ ∧ MI (μ 9) t (PW A nl nm st t (μ 9) n s) b (τ 9)) (fun _ _ _ _ x5 _ => 11 - x5.toNatClampNeg) _ ?_ FU _ _ _ _ _ _ ⟨rfl, rfl, rfl, b, 0, rfl, rfl, by omega, frr, hL, hMI2⟩ (Nat.lt_of_le_of_lt (Nat.sub_le _ _) (by decide))
        rintro k' x1 x2' x3 x4 x5 ρ ⟨rfl, rfl, rfl, b, s, rfl, rfl, hs, fr3, hL3, hM3⟩ ih
        have hGr : MG A nl nm ρ := hG.cong (fr3 1 (by omega))
        have nxt : ∀ b' (τ' : Sg), s < 10 → (∀ k, k ≠ 9 → τ' k = ρ k) → MI (μ 9) t (PW A nl nm st t (μ 9) n (s + 1)) b' (τ' 9) → ∃ r, fX6_goOn_113 k k' (nI t) x2' (nI b') (nI n) (nI s) τ' = some r ∧ ((∀ k, (k < 4 ∨ 9 < k) → r.2 k = μ k) ∧ ∃ b, r.1 = nI b ∧ MI (μ 9) t (PW A nl nm st t (μ 9) 8000 0) b (r.2 9)) := by
          intro b' τ' hs10 fr' hM'
          unfold fX6_goOn_113
          rw [sv_ok, show (1 : Int32) = nI 1 from rfl, nI_add]
          refine ih _ _ _ _ _ _ ⟨rfl, rfl, rfl, b', s + 1, rfl, rfl, by omega, fun k hk => by rw [fr' k (by omega)]; exact fr3 k hk, ?_, hM'⟩ ?_
          · unfold Laid at hL3 ⊢
            rw [fr' 4 (by decide), fr' 5 (by decide), fr' 6 (by decide), fr' 7 (by decide), fr' 8 (by decide)]
            exact hL3
          · rw [N_cl (by omega), N_cl (by omega)]
            omega
        unfold fX6_goOn_L33
        by_cases hs10 : s = 10
        · subst hs10
          rw [if_pos (by decide)]
          exact next b ρ hn8 fr3 (hM3.same PW.next (fun _ _ => rfl))
        · have hsl : s < 10 := by omega
          rw [if_neg (show ¬ (10 : Int32) ≤ nI s by rw [litI, N_le (by omega) (by omega)]; omega)]
          by_cases hws : nI s = x2'
          · rw [if_pos hws]
            exact nxt b ρ hsl (fun _ _ => rfl) (hM3.same (PW.skip (ab_f (hw s hsl) hws)) (fun _ _ => rfl))
          · rw [if_neg hws, canStep_m hGr hL3 hsl, bd_ok]
            have hab : abM A nl nm st n s = cs A nl nm n s := ab_w (hw s hsl) hws
            cases hcs : cs A nl nm n s
            · rw [if_pos (show nI (b01 false) = 0 from rfl)]
              exact nxt b ρ hsl (fun _ _ => rfl) (hM3.same (PW.skip (by rw [hab]; exact hcs)) (fun _ _ => rfl))
            · rw [if_neg (show ¬ nI (b01 true) = 0 by decide), behind_ok hGr hL3 hsl, bd_ok]
              have hX : nx A n s < 8000 := nx_lt hA hsl
              rw [hcs] at hab
              have hmore := fun M => PW.more (A := A) (nl := nl) (nm := nm) (st := st) hn8 hl0 hsl hab M
              have hb := hM3.1
              have new : ∀ tt : Int32, ρ 9 (nx A n s) = -6 → tt = nI 1 → ∃ r, fX6_goOn_82 k k' (nI t) x2' (nI n) (nI s) (nI (nx A n s)) tt ρ = some r ∧ ((∀ k, (k < 4 ∨ 9 < k) → r.2 k = μ k) ∧ ∃ b, r.1 = nI b ∧ MI (μ 9) t (PW A nl nm st t (μ 9) 8000 0) b (r.2 9)) := by
                intro tt h6 htt
                unfold fX6_goOn_82 fX6_goOn_112
                rw [N_gd hX (by omega), N_cl (by omega), h6, if_neg m6_neg, N_gd hX (by omega), sv_ok, htt]
                refine nxt 1 _ hsl (fun q hq => wr_ne hq) ((hM3.add hX h6).same hmore (fun M hM => ?_))
                rw [wr_eq, show (1 : Int32) = nI 1 from rfl, nI_add]
              have old : ∀ b', ¬ ρ 9 (nx A n s) = -6 → b' = b → ∃ r, fX6_goOn_82 k k' (nI t) x2' (nI n) (nI s) (nI (nx A n s)) (nI b') ρ = some r ∧ ((∀ k, (k < 4 ∨ 9 < k) → r.2 k = μ k) ∧ ∃ b, r.1 = nI b ∧ MI (μ 9) t (PW A nl nm st t (μ 9) 8000 0) b (r.2 9)) := by
                intro b' h6 hb'
                subst hb'
                have h0 : 0 ≤ ρ 9 (nx A n s) := by
                  rcases hM3.nn ht hf _ hX with c | ⟨d, hd, c⟩
                  · exact absurd c h6
                  · rw [c]; exact nn0 (by omega)
                unfold fX6_goOn_82 fX6_goOn_112
                rw [N_gd hX (by omega), N_cl (by omega), if_pos h0, N_gd hX (by omega), N_gd hX (by omega), sv_ok]
                refine nxt b' _ hsl (fun q hq => wr_ne hq) ((hM3.old hX h6).same hmore (fun M hM => ?_))
                rw [wr_eq]
                by_cases c : M = nx A n s
                · rw [if_pos c, c]
                · rw [if_neg c]
              by_cases hb0 : b = 0
              · subst hb0
                rw [if_pos (show nI 0 = 0 from rfl), N_gd hX (by omega), N_cl (by omega)]
                by_cases h6 : ρ 9 (nx A n s) = -6
                · rw [h6, if_neg m6_neg]
                  exact new 1 h6 rfl
                · have h0 : 0 ≤ ρ 9 (nx A n s) := by
                    rcases hM3.nn ht hf _ hX with c | ⟨d, hd, c⟩
                    · exact absurd c h6
                    · rw [c]; exact nn0 (by omega)
                  rw [if_pos h0]
                  exact old 0 h6 rfl
              · have hb1 : b = 1 := by omega
                subst hb1
                rw [if_neg (show ¬ nI 1 = 0 by decide)]
                by_cases h6 : ρ 9 (nx A n s) = -6
                · exact new 1 h6 rfl
                · exact old 1 h6 rfl
      · rw [if_neg hl]
        exact next b τ hn8 fr (hMI.same (PW.none (fun e => hl ((hMI.lvl ht hf n hn8).mpr e))) (fun _ _ => rfl))
  · refine ⟨by omega, fun _ _ _ => rfl, fun M hM h0 => ⟨?_, fun _ => h0⟩, ⟨fun h => by omega, ?_⟩⟩
    · rintro ⟨M', h1, h2, s', h3, h4, h5⟩; omega
    · rintro ⟨M, h1, h2, M', h3, h4, s', h5, h6, h7⟩; omega
end All
