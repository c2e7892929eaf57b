/-! how many ticks to a number -/
section Dist
variable (ab : Nat → Nat → Bool) (T : Nat → Nat → Nat) (gl : Nat → Bool) (N0 : Nat)
def Rc : Nat → Nat → Prop
  | 0, M => M = N0
  | d + 1, M => ∃ M' s, s < 10 ∧ Rc d M' ∧ ab M' s = true ∧ T M' s = M
def Ds (d M : Nat) : Prop := Rc ab T N0 d M ∧ ∀ e, e < d → ¬ Rc ab T N0 e M
variable {ab T gl N0}
theorem Ds.of {d M : Nat} (h : Rc ab T N0 d M) : ∃ e, e ≤ d ∧ Ds ab T N0 e M := by
  induction d using Nat.strongRecOn with
  | _ d ih =>
    by_cases hc : ∃ e, e < d ∧ Rc ab T N0 e M
    · obtain ⟨e, he, hr⟩ := hc
      obtain ⟨e', h1, h2⟩ := ih e he hr
      exact ⟨e', by omega, h2⟩
    · exact ⟨d, Nat.le_refl _, h, fun e he hr => hc ⟨e, he, hr⟩⟩
theorem Ds.uniq {d e M : Nat} (h : Ds ab T N0 d M) (h2 : Ds ab T N0 e M) : d = e := by
  rcases Nat.lt_trichotomy d e with c | c | c
  · exact absurd h.1 (h2.2 d c)
  · exact c
  · exact absurd h2.1 (h.2 e c)
theorem Ds.pred {d M : Nat} (h : Ds ab T N0 (d + 1) M) : ∃ M' s, s < 10 ∧ Ds ab T N0 d M' ∧ ab M' s = true ∧ T M' s = M := by
  obtain ⟨⟨M', s, hs, hr, ha, ht⟩, hn⟩ := h
  refine ⟨M', s, hs, ⟨hr, fun e he hre => hn (e + 1) (by omega) ⟨M', s, hs, hre, ha, ht⟩⟩, ha, ht⟩
theorem Ds.below {d M : Nat} (h : Ds ab T N0 d M) : ∀ e, e ≤ d → ∃ M', Ds ab T N0 e M' := by
  induction d generalizing M with
  | zero => intro e he; exact ⟨M, by rw [show e = 0 by omega]; exact h⟩
  | succ d ih =>
    intro e he
    by_cases c : e = d + 1
    · exact ⟨M, by rw [c]; exact h⟩
    · obtain ⟨M', -, -, h', -, -⟩ := h.pred
      exact ih h' e (by omega)
theorem Ds.le {d M : Nat} (hlt : ∀ e M, Rc ab T N0 e M → M < 8000) (h : Ds ab T N0 d M) : d < 8000 := by
  have hx : ∀ e, ∃ M', e ≤ d → Ds ab T N0 e M' := fun e => by
    by_cases c : e ≤ d
    · obtain ⟨M', hm⟩ := h.below e c
      exact ⟨M', fun _ => hm⟩
    · exact ⟨0, fun c' => absurd c' c⟩
  have hf : ∀ e, e < d + 1 → Ds ab T N0 e (Classical.choose (hx e)) := fun e he => Classical.choose_spec (hx e) (by omega)
  have := php 8000 (d + 1) (fun e => Classical.choose (hx e)) (fun e he => hlt e _ (hf e he).1) (fun i j hi hj hh => (hf i hi).uniq (by have := hf j hj; rw [← hh] at this; exact this))
  omega
theorem GP.rc {k d a : Nat} : GP ab T gl k a → Rc ab T N0 d a → ∃ M, Rc ab T N0 (d + k) M ∧ gl M = true := by
  induction k generalizing d a with
  | zero => intro h hr; exact ⟨a, hr, h⟩
  | succ k ih =>
    rintro ⟨s, hs, ha, hg⟩ hr
    obtain ⟨M, h1, h2⟩ := ih hg (d := d + 1) ⟨a, s, hs, hr, ha, rfl⟩
    exact ⟨M, by rw [show d + (k + 1) = d + 1 + k by omega]; exact h1, h2⟩
theorem Rc.gp {d : Nat} : ∀ k M, Rc ab T N0 d M → GP ab T gl k M → GP ab T gl (d + k) N0 := by
  induction d with
  | zero => intro k M hr hg; rw [show M = N0 from hr] at hg; rw [Nat.zero_add]; exact hg
  | succ d ih =>
    rintro k M ⟨M', s, hs, hr, ha, rfl⟩ hg
    rw [show d + 1 + k = d + (k + 1) by omega]
    exact ih (k + 1) M' hr ⟨s, hs, ha, hg⟩
/-- the marks after tick t -/
def FS (ab : Nat → Nat → Bool) (T : Nat → Nat → Nat) (N0 t : Nat) (f : Nat → Int32) : Prop := ∀ M, M < 8000 → (∃ d, d ≤ t ∧ Ds ab T N0 d M ∧ f M = nI d) ∨ ((∀ d, d ≤ t → ¬ Rc ab T N0 d M) ∧ f M = -6)
def FE (ab : Nat → Nat → Bool) (T : Nat → Nat → Nat) (N0 : Nat) (f : Nat → Int32) : Prop := ∀ M, M < 8000 → (∃ d, d < 8000 ∧ Ds ab T N0 d M ∧ f M = nI d) ∨ ((∀ d, ¬ Rc ab T N0 d M) ∧ f M = -6)
theorem m6_n {a : Nat} (h : a < 2147483648) : ¬ nI a = -6 := by
  intro e
  have h1 : (nI a).toInt = (-6 : Int32).toInt := congrArg _ e
  rw [nI_toInt h] at h1
  have h2 : (-6 : Int32).toInt = -6 := by decide
  omega
theorem nn0 {a : Nat} (h : a < 2147483648) : 0 ≤ nI a := nI_pos' h
/-- what a round of marking does -/
def MI (f0 : Nat → Int32) (t : Nat) (P : Nat → Prop) (b : Nat) (f : Nat → Int32) : Prop := b ≤ 1 ∧ (∀ M, M < 8000 → ¬ f0 M = -6 → f M = f0 M) ∧ (∀ M, M < 8000 → f0 M = -6 → (P M → f M = nI (t + 1)) ∧ (¬ P M → f M = -6)) ∧ (b = 1 ↔ ∃ M, M < 8000 ∧ f0 M = -6 ∧ P M)
theorem MI.same {f0 f f' : Nat → Int32} {t b : Nat} {P P' : Nat → Prop} (h : MI f0 t P b f) (hP : ∀ M, P M ↔ P' M) (hf : ∀ M, M < 8000 → f' M = f M) : MI f0 t P' b f' := by
  obtain ⟨h1, h2, h3, h4⟩ := h
  refine ⟨h1, fun M hM h0 => by rw [hf M hM]; exact h2 M hM h0, fun M hM h0 => ?_, ?_⟩
  · rw [hf M hM, ← hP M]
    exact h3 M hM h0
  · rw [h4]
    exact ⟨fun ⟨M, a, b, c⟩ => ⟨M, a, b, (hP M).mp c⟩, fun ⟨M, a, b, c⟩ => ⟨M, a, b, (hP M).mpr c⟩⟩
theorem MI.add {f0 f : Nat → Int32} {t b X : Nat} {P : Nat → Prop} (h : MI f0 t P b f) (hX : X < 8000) (hneg : f X = -6) : MI f0 t (fun M => P M ∨ M = X) 1 (fun M => if M = X then nI (t + 1) else f M) := by
  obtain ⟨h1, h2, h3, h4⟩ := h
  have h0 : f0 X = -6 := by
    by_cases c : f0 X = -6
    · exact c
    · rw [h2 X hX c] at hneg; exact absurd hneg c
  refine ⟨by omega, fun M hM hM0 => ?_, fun M hM hM0 => ⟨fun hp => ?_, fun hp => ?_⟩, ⟨fun _ => ⟨X, hX, h0, Or.inr rfl⟩, fun _ => rfl⟩⟩
  · show (if M = X then nI (t + 1) else f M) = _
    rw [if_neg (fun e : M = X => hM0 (by rw [e]; exact h0))]; exact h2 M hM hM0
  · show (if M = X then nI (t + 1) else f M) = _
    by_cases c : M = X
    · rw [if_pos c]
    · rw [if_neg c]
      rcases hp with hp | hp
      · exact (h3 M hM hM0).1 hp
      · exact absurd hp c
  · show (if M = X then nI (t + 1) else f M) = _
    rw [if_neg (fun e : M = X => hp (Or.inr e))]
    exact (h3 M hM hM0).2 (fun c => hp (Or.inl c))
theorem MI.old {f0 f : Nat → Int32} {t b X : Nat} {P : Nat → Prop} (h : MI f0 t P b f) (hX : X < 8000) (hneg : ¬ f X = -6) : MI f0 t (fun M => P M ∨ M = X) b f := by
  obtain ⟨h1, h2, h3, h4⟩ := h
  have hpx : f0 X = -6 → P X := fun h0 => by
    by_cases c : P X
    · exact c
    · exact absurd ((h3 X hX h0).2 c) hneg
  refine ⟨h1, h2, fun M hM hM0 => ⟨fun hp => ?_, fun hp => (h3 M hM hM0).2 (fun c => hp (Or.inl c))⟩, ?_⟩
  · rcases hp with hp | hp
    · exact (h3 M hM hM0).1 hp
    · rw [hp] at hM0 ⊢
      exact (h3 X hX hM0).1 (hpx hM0)
  · rw [h4]
    refine ⟨fun ⟨M, a, b, c⟩ => ⟨M, a, b, Or.inl c⟩, fun ⟨M, a, b, c⟩ => ?_⟩
    rcases c with c | c
    · exact ⟨M, a, b, c⟩
    · exact ⟨M, a, b, by rw [c] at b ⊢; exact hpx b⟩
theorem FS.step {t : Nat} {f0 f : Nat → Int32} {b : Nat} (h : FS ab T N0 t f0) (ht : t < 100000) (hlt : ∀ e M, Rc ab T N0 e M → M < 8000) (hM : MI f0 t (fun M => ∃ M', M' < 8000 ∧ f0 M' = nI t ∧ ∃ s, s < 10 ∧ ab M' s = true ∧ T M' s = M) b f) : FS ab T N0 (t + 1) f ∧ (b = 1 → ∃ M, Ds ab T N0 (t + 1) M) ∧ (b = 0 → ∀ M, ¬ Ds ab T N0 (t + 1) M) := by
  obtain ⟨h1, h2, h3, h4⟩ := hM
  have lvl : ∀ M, M < 8000 → (f0 M = nI t ↔ Ds ab T N0 t M) := by
    intro M hM
    rcases h M hM with ⟨d, hd, hds, hf⟩ | ⟨hno, hf⟩
    · constructor
      · intro e
        rw [hf, nI_eq (by omega) (by omega)] at e
        rw [← e]; exact hds
      · intro hds2
        rw [hf, hds.uniq hds2]
    · constructor
      · intro e
        rw [hf] at e
        exact absurd e.symm (m6_n (by omega))
      · intro hds2
        exact absurd hds2.1 (hno t (Nat.le_refl _))
  have hex : ∀ M, (∃ M', M' < 8000 ∧ f0 M' = nI t ∧ ∃ s, s < 10 ∧ ab M' s = true ∧ T M' s = M) ↔ ∃ M' s, s < 10 ∧ Ds ab T N0 t M' ∧ ab M' s = true ∧ T M' s = M := by
    intro M
    constructor
    · rintro ⟨M', hM', hf, s, hs, ha, ht⟩
      exact ⟨M', s, hs, (lvl M' hM').mp hf, ha, ht⟩
    · rintro ⟨M', s, hs, hd, ha, ht⟩
      exact ⟨M', hlt t M' hd.1, (lvl M' (hlt t M' hd.1)).mpr hd, s, hs, ha, ht⟩
  refine ⟨fun M hM => ?_, fun hb => ?_, fun hb M hds => ?_⟩
  · rcases h M hM with ⟨d, hd, hds, hf⟩ | ⟨hno, hf⟩
    · exact Or.inl ⟨d, by omega, hds, by rw [h2 M hM (by rw [hf]; exact m6_n (by omega))]; exact hf⟩
    · by_cases c : ∃ M', M' < 8000 ∧ f0 M' = nI t ∧ ∃ s, s < 10 ∧ ab M' s = true ∧ T M' s = M
      · obtain ⟨M', s, hs, hd, ha, ht'⟩ := (hex M).mp c
        exact Or.inl ⟨t + 1, Nat.le_refl _, ⟨⟨M', s, hs, hd.1, ha, ht'⟩, fun e he => hno e (by omega)⟩, (h3 M hM hf).1 c⟩
      · refine Or.inr ⟨fun d hd hr => ?_, (h3 M hM hf).2 c⟩
        by_cases cd : d = t + 1
        · subst cd
          have hds : Ds ab T N0 (t + 1) M := ⟨hr, fun e he => hno e (by omega)⟩
          exact c ((hex M).mpr hds.pred)
        · exact hno d (by omega) hr
  · obtain ⟨M, hM, h0, hp⟩ := h4.mp hb
    obtain ⟨M', s, hs, hd, ha, ht'⟩ := (hex M).mp hp
    rcases h M hM with ⟨d, hd', hds, hf⟩ | ⟨hno, -⟩
    · rw [h0] at hf; exact absurd hf.symm (m6_n (by omega))
    · exact ⟨M, ⟨M', s, hs, hd.1, ha, ht'⟩, fun e he => hno e (by omega)⟩
  · have hM := hlt _ M hds.1
    rcases h M hM with ⟨d, hd', hds2, hf⟩ | ⟨hno, hf⟩
    · have := hds.uniq hds2; omega
    · have := h4.mpr ⟨M, hM, hf, (hex M).mpr hds.pred⟩
      omega
theorem FS.done {t : Nat} {f : Nat → Int32} (h : FS ab T N0 t f) (hlt : ∀ e M, Rc ab T N0 e M → M < 8000) (hno : ∀ M, ¬ Ds ab T N0 t M) : FE ab T N0 f := by
  have up : ∀ d, t ≤ d → ∀ M, ¬ Ds ab T N0 d M := by
    intro d hd M hds
    obtain ⟨M', hm⟩ := hds.below t hd
    exact hno M' hm
  intro M hM
  rcases h M hM with ⟨d, hd, hds, hf⟩ | ⟨h1, hf⟩
  · exact Or.inl ⟨d, hds.le hlt, hds, hf⟩
  · refine Or.inr ⟨fun d hr => ?_, hf⟩
    obtain ⟨e, he, hds⟩ := Ds.of hr
    rcases Nat.lt_or_ge e t with c | c
    · exact h1 e (by omega) hds.1
    · exact up e c M hds
end Dist
