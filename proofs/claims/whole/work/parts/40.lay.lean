/-! the reference: islands laid anew -/
def MG (A : Nat → Nat → Nat) (nl nm : Nat) (μ : Sg) : Prop := AOK A ∧ nl ≤ 6 ∧ nm ≤ 3 ∧ μ 1 39 = nI nl ∧ μ 1 40 = nI nm ∧ (∀ i, i < 6 → μ 1 i = nI (A 0 i) ∧ μ 1 (6 + i) = nI (A 1 i) ∧ μ 1 (12 + i) = nI (A 2 i)) ∧ (∀ i, i < 3 → μ 1 (24 + i) = nI (A 3 i) ∧ μ 1 (27 + i) = nI (A 4 i) ∧ μ 1 (30 + i) = nI (A 5 i) ∧ μ 1 (33 + i) = nI (A 6 i))
theorem MG.cong {A : Nat → Nat → Nat} {nl nm : Nat} {μ τ : Sg} (h : MG A nl nm μ) (h1 : τ 1 = μ 1) : MG A nl nm τ := by
  unfold MG
  rw [h1]
  exact h
/-- the least bus of an island -/
noncomputable def lb (A : Nat → Nat → Nat) (c b : Nat) : Nat := if J A c b 0 then 0 else if J A c b 1 then 1 else if J A c b 2 then 2 else if J A c b 3 then 3 else if J A c b 4 then 4 else 5
theorem lb_min {A : Nat → Nat → Nat} {c b : Nat} : ∀ b', b' < 6 → J A c b b' = true → lb A c b ≤ b' := by
  refine six ?_ ?_ ?_ ?_ ?_ ?_ <;> intro h <;> unfold lb <;> (try simp only [h, if_true]) <;> (repeat' split) <;> omega
theorem lb_in {A : Nat → Nat → Nat} {c b : Nat} (hb : b < 6) : lb A c b < 6 ∧ lb A c b ≤ b ∧ Cn A c b (lb A c b) := by
  have h1 : lb A c b ≤ b := lb_min b hb (J_re A c b)
  refine ⟨by omega, h1, ?_⟩
  rw [← J_iff]
  have hr := J_re A c b
  have hex : ∃ b', b' < 6 ∧ J A c b b' = true := ⟨b, hb, hr⟩
  unfold lb
  split
  · assumption
  · split
    · assumption
    · split
      · assumption
      · split
        · assumption
        · split
          · assumption
          · obtain ⟨b', hb', hj⟩ := hex
            revert b'
            exact six (fun h => absurd h ‹_›) (fun h => absurd h ‹_›) (fun h => absurd h ‹_›) (fun h => absurd h ‹_›) (fun h => absurd h ‹_›) (fun h => h)
theorem lb_eq {A : Nat → Nat → Nat} {c b b' : Nat} (hb : b < 6) (hb' : b' < 6) : lb A c b = lb A c b' ↔ J A c b b' = true := by
  rw [J_iff]
  constructor
  · intro e
    have h1 := (lb_in (A := A) (c := c) hb).2.2
    have h2 := (lb_in (A := A) (c := c) hb').2.2
    rw [e] at h1
    exact h1.tr h2.sym
  · intro h
    have h1 := lb_in (A := A) (c := c) hb
    have h2 := lb_in (A := A) (c := c) hb'
    exact Nat.le_antisymm (lb_min _ h2.1 (J_iff.mpr (h.tr h2.2.2))) (lb_min _ h1.1 (J_iff.mpr (h.sym.tr h1.2.2)))
def sum6 (f : Nat → Nat) : Nat := f 0 + f 1 + f 2 + f 3 + f 4 + f 5
theorem sum6_up (f : Nat → Nat) (x : Nat) : ∀ k, k < 6 → sum6 (upN f k x) + f k = sum6 f + x := by
  refine six ?_ ?_ ?_ ?_ ?_ ?_ <;> simp [sum6, upN] <;> omega
def IV (A : Nat → Nat → Nat) (c : Nat) (f : Nat → Nat) : Prop := ∀ b, b < 6 → f b < 6 ∧ f b ≤ b ∧ Cn A c b (f b)
theorem join1 {A : Nat → Nat → Nat} {nl nm c : Nat} {μ : Sg} {f0 : Nat → Nat} (hG : MG A nl nm μ) (h4 : ∀ l, l < 6 → μ 4 l = nI (c / 2 ^ l % 2)) (h6 : ∀ b, b < 6 → μ 6 b = nI (f0 b)) (hI : IV A c f0) :
    ∃ r, fX6_joinOnce μ = some r ∧ ((∀ k, k ≠ 6 → r.2 k = μ k) ∧ ∃ f, (∀ b, b < 6 → r.2 6 b = nI (f b)) ∧ IV A c f ∧ ((r.1 = nI 0 ∧ (∀ b, f b = f0 b) ∧ ∀ l, l < nl → c / 2 ^ l % 2 = 1 → f0 (A 0 l) = f0 (A 1 l)) ∨ (r.1 = nI 1 ∧ sum6 f < sum6 f0))) := by
  have hG' := hG
  obtain ⟨hA, hl, hm, g1, g2, g3, g4⟩ := hG
  unfold fX6_joinOnce
  refine lpA2 (fun x1 x2 τ => ∃ l ch f, x2 = nI l ∧ l ≤ nl ∧ x1 = nI ch ∧ ch ≤ 1 ∧ (∀ k, k ≠ 6 → τ k = μ k) ∧ (∀ b, b < 6 → τ 6 b = nI (f b)) ∧ IV A c f ∧ (ch = 0 → (∀ b, f b = f0 b) ∧ ∀ j, j < l → c / 2 ^ j % 2 = 1 → f0 (A 0 j) = f0 (A 1 j)) ∧ (ch = 1 → sum6 f < sum6 f0)) (fun _ x2 _ => 7 - x2.toNatClampNeg) _ ?_ FU _ _ _ ⟨0, 0, f0, rfl, by omega, rfl, by omega, fun _ _ => rfl, h6, hI, fun _ => ⟨fun _ => rfl, fun j hj => by omega⟩, fun h => by omega⟩ (Nat.lt_of_le_of_lt (Nat.sub_le _ _) (by decide))
  rintro k x1 x2 τ ⟨l, ch, f, rfl, hln, rfl, hch, fr, ff, hIV, c0, c1⟩ ih
  have t1 : τ 1 = μ 1 := fr 1 (by decide)
  have t4 : τ 4 = μ 4 := fr 4 (by decide)
  unfold fX6_joinOnce_L4
  rw [show (39 : Int32) = nI 39 from rfl, N_gd (by decide) (by decide), N_cl (by decide), t1, g1]
  by_cases he : l = nl
  · subst he
    rw [if_pos (show nI l ≤ nI l by rw [N_le (by omega) (by omega)]; omega), zr_b hch]
    refine ⟨_, rfl, fr, f, ff, hIV, ?_⟩
    rcases Nat.lt_or_ge ch 1 with h | h
    · have : ch = 0 := by omega
      subst this
      exact Or.inl ⟨rfl, c0 rfl⟩
    · have : ch = 1 := by omega
      subst this
      exact Or.inr ⟨rfl, c1 rfl⟩
  · have hl6 : l < 6 := by omega
    obtain ⟨a0, a1, a2⟩ := hA.1 l hl6
    have next : ∀ (v : Nat) (τ' : Sg) (f' : Nat → Nat), v ≤ 1 → (∀ k, k ≠ 6 → τ' k = μ k) → (∀ b, b < 6 → τ' 6 b = nI (f' b)) → IV A c f' → (v = 0 → (∀ b, f' b = f0 b) ∧ ∀ j, j < l + 1 → c / 2 ^ j % 2 = 1 → f0 (A 0 j) = f0 (A 1 j)) → (v = 1 → sum6 f' < sum6 f0) → ∃ r, fX6_joinOnce_116 k (nI v) (nI l) τ' = some r ∧ ((∀ k, k ≠ 6 → r.2 k = μ k) ∧ ∃ f, (∀ b, b < 6 → r.2 6 b = nI (f b)) ∧ IV A c f ∧ ((r.1 = nI 0 ∧ (∀ b, f b = f0 b) ∧ ∀ l, l < nl → c / 2 ^ l % 2 = 1 → f0 (A 0 l) = f0 (A 1 l)) ∨ (r.1 = nI 1 ∧ sum6 f < sum6 f0))) := by
      intro v τ' f' v1 v2 v3 v4 v5 v6
      unfold fX6_joinOnce_116
      rw [sv_ok, show (1 : Int32) = nI 1 from rfl, nI_add]
      refine ih _ _ _ ⟨l + 1, v, f', rfl, by omega, rfl, v1, v2, v3, v4, v5, v6⟩ ?_
      rw [N_cl (by omega), N_cl (by omega)]
      omega
    rw [if_neg (show ¬ nI nl ≤ nI l by rw [N_le (by omega) (by omega)]; omega), N_gd hl6 (by omega), N_cl (by omega), t4, h4 l hl6]
    by_cases hb : c / 2 ^ l % 2 = 1
    · obtain ⟨i1, i2, i3⟩ := hIV _ a0
      obtain ⟨j1, j2, j3⟩ := hIV _ a1
      have hln2 : Cn A c (A 0 l) (A 1 l) := Cn.ln hl6 hb
      rw [hb, if_pos (show nI 1 = 1 from rfl), show (0 : Int32) + nI l = nI l from by rw [show (0 : Int32) = nI 0 from rfl, nI_add, Nat.zero_add], N_gd (by omega) (by omega), N_cl (by omega), (g3 l hl6).1, N_gd a0 (by omega), N_cl (by omega), ff _ a0, sv_ok, show (6 : Int32) + nI l = nI (6 + l) from nI_add 6 l, N_gd (by omega) (by omega), N_cl (by omega), (g3 l hl6).2.1, N_gd a1 (by omega), N_cl (by omega), ff _ a1, sv_ok]
      -- both ways the lesser of the two
      have hmin : ∃ x, x = min (f (A 0 l)) (f (A 1 l)) ∧ (if nI (f (A 1 l)) ≤ nI (f (A 0 l)) then fX6_joinOnce_67 k (nI ch) (nI l) (nI (f (A 0 l))) (nI (f (A 1 l))) (nI (f (A 1 l))) τ else fX6_joinOnce_67 k (nI ch) (nI l) (nI (f (A 0 l))) (nI (f (A 1 l))) (nI (f (A 0 l))) τ) = fX6_joinOnce_67 k (nI ch) (nI l) (nI (f (A 0 l))) (nI (f (A 1 l))) (nI x) τ := by
        by_cases hle : f (A 1 l) ≤ f (A 0 l)
        · exact ⟨f (A 1 l), by omega, if_pos (by rw [N_le (by omega) (by omega)]; exact hle)⟩
        · exact ⟨f (A 0 l), by omega, if_neg (by rw [N_le (by omega) (by omega)]; exact hle)⟩
      obtain ⟨x, hx, e1⟩ := hmin
      rw [e1]
      have hx6 : x < 6 := by omega
      have cx : Cn A c (A 0 l) x := by
        rcases Nat.le_total (f (A 0 l)) (f (A 1 l)) with h | h
        · rw [show x = f (A 0 l) by omega]; exact i3
        · rw [show x = f (A 1 l) by omega]; exact hln2.tr j3
      have s1 := sum6_up f x (A 0 l) a0
      have s2 := sum6_up (upN f (A 0 l) x) x (A 1 l) a1
      have hIV2 : IV A c (upN (upN f (A 0 l) x) (A 1 l) x) := by
        intro b hb
        by_cases eb : b = A 1 l
        · rw [eb, upN_s]; exact ⟨hx6, by omega, hln2.sym.tr cx⟩
        · rw [upN_n eb]
          by_cases eb2 : b = A 0 l
          · rw [eb2, upN_s]; exact ⟨hx6, by omega, cx⟩
          · rw [upN_n eb2]; exact hIV b hb
      have fin : ∀ v, v ≤ 1 → (v = 0 → (∀ b, upN (upN f (A 0 l) x) (A 1 l) x b = f0 b) ∧ ∀ j, j < l + 1 → c / 2 ^ j % 2 = 1 → f0 (A 0 j) = f0 (A 1 j)) → (v = 1 → sum6 (upN (upN f (A 0 l) x) (A 1 l) x) < sum6 f0) → ∃ r, fX6_joinOnce_84 k (nI l) (nI x) (nI v) τ = some r ∧ ((∀ k, k ≠ 6 → r.2 k = μ k) ∧ ∃ f, (∀ b, b < 6 → r.2 6 b = nI (f b)) ∧ IV A c f ∧ ((r.1 = nI 0 ∧ (∀ b, f b = f0 b) ∧ ∀ l, l < nl → c / 2 ^ l % 2 = 1 → f0 (A 0 l) = f0 (A 1 l)) ∨ (r.1 = nI 1 ∧ sum6 f < sum6 f0))) := by
        intro v v1 v2 v3
        unfold fX6_joinOnce_84
        rw [show (0 : Int32) + nI l = nI l from by rw [show (0 : Int32) = nI 0 from rfl, nI_add, Nat.zero_add], N_gd (by omega) (by omega), N_cl (by omega), t1, (g3 l hl6).1, N_gd a0 (by omega), N_cl (by omega), sv_ok, show (6 : Int32) + nI l = nI (6 + l) from nI_add 6 l, N_gd (by omega) (by omega), N_cl (by omega), wr_ne (by decide), t1, (g3 l hl6).2.1, N_gd a1 (by omega), N_cl (by omega), sv_ok]
        refine next v _ (upN (upN f (A 0 l) x) (A 1 l) x) v1 (fun q hq => by rw [wr_ne hq, wr_ne hq]; exact fr q hq) (fun b hb => ?_) hIV2 v2 v3
        rw [wr_eq, wr_eq]
        by_cases eb : b = A 1 l
        · rw [if_pos eb, eb, upN_s]
        · rw [if_neg eb, upN_n eb]
          by_cases eb2 : b = A 0 l
          · rw [if_pos eb2, eb2, upN_s]
          · rw [if_neg eb2, upN_n eb2]; exact ff b hb
      have u1 : upN f (A 0 l) x (A 1 l) = if A 1 l = A 0 l then x else f (A 1 l) := rfl
      unfold fX6_joinOnce_67 fX6_joinOnce_79
      by_cases hc : ch = 0
      · subst hc
        rw [if_pos (show nI 0 = 0 from rfl)]
        by_cases hab : f (A 0 l) = f (A 1 l)
        · rw [if_pos (by rw [hab])]
          refine fin 0 (by omega) (fun _ => ⟨fun b => ?_, fun j hj hbj => ?_⟩) (fun h => by omega)
          · by_cases eb : b = A 1 l
            · rw [eb, upN_s, ← (c0 rfl).1]; omega
            · rw [upN_n eb]
              by_cases eb2 : b = A 0 l
              · rw [eb2, upN_s, ← (c0 rfl).1]; omega
              · rw [upN_n eb2]; exact (c0 rfl).1 b
          · by_cases ej : j = l
            · rw [ej, ← (c0 rfl).1, ← (c0 rfl).1]; exact hab
            · exact (c0 rfl).2 j (by omega) hbj
        · rw [if_neg (by rw [N_eq (by omega) (by omega)]; exact hab)]
          refine fin 1 (by omega) (fun h => by omega) (fun _ => ?_)
          have e0 : sum6 f = sum6 f0 := by
            unfold sum6
            rw [(c0 rfl).1, (c0 rfl).1, (c0 rfl).1, (c0 rfl).1, (c0 rfl).1, (c0 rfl).1]
          rw [u1, if_neg (fun e => hab (by rw [e]))] at s2
          omega
      · have : ch = 1 := by omega
        subst this
        rw [if_neg (show ¬ nI 1 = 0 by decide)]
        refine fin 1 (by omega) (fun h => by omega) (fun _ => ?_)
        have := c1 rfl
        rw [u1] at s2
        split at s2 <;> omega
    · have hb0 : c / 2 ^ l % 2 = 0 := by omega
      rw [hb0, if_neg (show ¬ nI 0 = 1 by decide)]
      refine next ch τ f hch fr ff hIV (fun h => ⟨(c0 h).1, fun j hj hbj => ?_⟩) c1
      by_cases ej : j = l
      · rw [ej] at hbj; omega
      · exact (c0 h).2 j (by omega) hbj
