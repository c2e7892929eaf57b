/-! a search in the order of coming, over any steps: what it finds is the first of the shortest ways -/
def upN (f : Nat → Nat) (k x : Nat) : Nat → Nat := fun j => if j = k then x else f j
theorem upN_s {f : Nat → Nat} {k x : Nat} : upN f k x k = x := if_pos rfl
theorem upN_n {f : Nat → Nat} {k x j : Nat} (h : j ≠ k) : upN f k x j = f j := if_neg h
section Bfs
variable (ab : Nat → Nat → Bool) (T : Nat → Nat → Nat) (gl : Nat → Bool) (Pn : Nat → Prop) (N0 : Nat)
/-- a goal can be reached by so many steps -/
def GP : Nat → Nat → Prop
  | 0, a => gl a = true
  | k + 1, a => ∃ s, s < 10 ∧ ab a s = true ∧ GP k (T a s)
/-- the first of the ways of so many steps -/
def BW : Nat → Nat → (Nat → Nat) → Prop
  | 0, a, _ => gl a = true
  | k + 1, a, t => t 0 < 10 ∧ ab a (t 0) = true ∧ BW k (T a (t 0)) (fun i => t (i + 1)) ∧ ∀ s, s < t 0 → ab a s = true → ¬ GP ab T gl k (T a s)
def En : Nat → Nat → (Nat → Nat) → Nat
  | 0, a, _ => a
  | k + 1, a, t => En k (T a (t 0)) (fun i => t (i + 1))
theorem BW.gp {k a : Nat} {t : Nat → Nat} : BW ab T gl k a t → GP ab T gl k a := by
  induction k generalizing a t with
  | zero => exact fun h => h
  | succ k ih => rintro ⟨h1, h2, h3, -⟩; exact ⟨t 0, h1, h2, ih h3⟩
theorem BW.uniq {k a : Nat} {t u : Nat → Nat} : BW ab T gl k a t → BW ab T gl k a u → (∀ i, i < k → t i = u i) ∧ En T k a t = En T k a u := by
  induction k generalizing a t u with
  | zero => exact fun _ _ => ⟨fun i h => absurd h (by omega), rfl⟩
  | succ k ih =>
    rintro ⟨h1, h2, h3, h4⟩ ⟨g1, g2, g3, g4⟩
    have e : t 0 = u 0 := by
      rcases Nat.lt_trichotomy (t 0) (u 0) with h | h | h
      · exact absurd h3.gp (g4 _ h h2)
      · exact h
      · exact absurd g3.gp (h4 _ h g2)
    rw [e] at h3
    obtain ⟨i1, i2⟩ := ih h3 g3
    refine ⟨fun i hi => ?_, ?_⟩
    · match i with
      | 0 => exact e
      | i + 1 => exact i1 i (by omega)
    · show En T k (T a (t 0)) _ = En T k (T a (u 0)) _
      rw [e]
      exact i2
def BI (E n : Nat) (q ev : Nat → Nat) : Prop := (1 ≤ n ∧ q 0 = N0) ∧ (∀ i, i < n → Pn (q i)) ∧ (∀ i j, i < n → j < n → q i = q j → i = j) ∧ (∀ i, 0 < i → i < n → ev i < E ∧ ev i / 10 < i ∧ ab (q (ev i / 10)) (ev i % 10) = true ∧ T (q (ev i / 10)) (ev i % 10) = q i) ∧ (∀ i j, 0 < i → i < j → j < n → ev i < ev j) ∧ (∀ F, F < E → F / 10 < n → ab (q (F / 10)) (F % 10) = true → ∃ j, j < n ∧ q j = T (q (F / 10)) (F % 10) ∧ (j = 0 ∨ ev j ≤ F))
variable {ab T gl Pn N0} {E n : Nat} {q ev : Nat → Nat}
theorem BI.start (h : Pn N0) (q : Nat → Nat) (hq : q 0 = N0) (ev : Nat → Nat) : BI ab T Pn N0 0 1 q ev := by
  refine ⟨⟨Nat.le_refl _, hq⟩, fun i hi => ?_, fun i j hi hj _ => by omega, fun i h1 h2 => by omega, fun i j h1 h2 h3 => by omega, fun F h => by omega⟩
  rw [show i = 0 by omega, hq]
  exact h
theorem BI.skip (h : BI ab T Pn N0 E n q ev) (hs : ab (q (E / 10)) (E % 10) = false ∨ ∃ j, j < n ∧ q j = T (q (E / 10)) (E % 10)) : BI ab T Pn N0 (E + 1) n q ev := by
  obtain ⟨h1, h2, h3, h4, h5, h6⟩ := h
  refine ⟨h1, h2, h3, fun i hi hn => ?_, h5, fun F hF hn ha => ?_⟩
  · obtain ⟨a, b⟩ := h4 i hi hn
    exact ⟨by omega, b⟩
  · by_cases e : F = E
    · subst e
      rcases hs with hs | ⟨j, hj, hq⟩
      · rw [hs] at ha; exact absurd ha (by decide)
      · refine ⟨j, hj, hq, ?_⟩
        rcases Nat.eq_zero_or_pos j with z | z
        · exact Or.inl z
        · exact Or.inr (Nat.le_of_lt (h4 j z hj).1)
    · exact h6 F (by omega) hn ha
theorem BI.push (h : BI ab T Pn N0 E n q ev) (hE : E / 10 < n) (ha : ab (q (E / 10)) (E % 10) = true) (hx : ∀ j, j < n → q j ≠ T (q (E / 10)) (E % 10)) (hP : Pn (T (q (E / 10)) (E % 10))) : BI ab T Pn N0 (E + 1) (n + 1) (upN q n (T (q (E / 10)) (E % 10))) (upN ev n E) := by
  obtain ⟨h1, h2, h3, h4, h5, h6⟩ := h
  refine ⟨⟨by omega, by rw [upN_n (by omega)]; exact h1.2⟩, fun i hi => ?_, fun i j hi hj he => ?_, fun i hi hn => ?_, fun i j hi hj hn => ?_, fun F hF hn ha2 => ?_⟩
  · by_cases e : i = n
    · subst e; rw [upN_s]; exact hP
    · rw [upN_n e]; exact h2 i (by omega)
  · by_cases e : i = n <;> by_cases e2 : j = n
    · omega
    · subst e; rw [upN_s, upN_n e2] at he; exact absurd he.symm (hx j (by omega))
    · subst e2; rw [upN_s, upN_n e] at he; exact absurd he (hx i (by omega))
    · rw [upN_n e, upN_n e2] at he; exact h3 i j (by omega) (by omega) he
  · by_cases e : i = n
    · subst e
      rw [upN_s, upN_s, upN_n (by omega)]
      exact ⟨by omega, hE, ha, rfl⟩
    · obtain ⟨a, b, c, d⟩ := h4 i hi (by omega)
      rw [upN_n e, upN_n e, upN_n (by omega)]
      exact ⟨by omega, b, c, d⟩
  · by_cases e2 : j = n
    · subst e2
      rw [upN_s, upN_n (by omega)]
      exact (h4 i hi hj).1
    · rw [upN_n e2, upN_n (by omega)]
      exact h5 i j hi hj (by omega)
  · have hFn : F / 10 < n := by omega
    rw [upN_n (by omega)] at ha2 ⊢
    by_cases e : F = E
    · subst e
      exact ⟨n, by omega, upN_s, Or.inr (by rw [upN_s]; exact Nat.le_refl _)⟩
    · obtain ⟨j, hj, hq, ho⟩ := h6 F (by omega) hFn ha2
      refine ⟨j, by omega, by rw [upN_n (by omega)]; exact hq, ?_⟩
      rw [upN_n (by omega)]
      exact ho
/-- the ancestors of an entry -/
def anc (ev : Nat → Nat) (g : Nat) : Nat → Nat
  | 0 => g
  | b + 1 => ev (anc ev g b) / 10
theorem anc_lt (h : BI ab T Pn N0 E n q ev) {g : Nat} (hg : g < n) : ∃ k, anc ev g k = 0 ∧ (∀ b, b < k → 0 < anc ev g b ∧ anc ev g b < n) ∧ k ≤ g := by
  have key : ∀ d e, e ≤ d → e < n → ∃ k, anc ev e k = 0 ∧ (∀ b, b < k → 0 < anc ev e b ∧ anc ev e b < n) ∧ k ≤ e := by
    intro d
    induction d with
    | zero => intro e he _; exact ⟨0, by show e = 0; omega, fun b hb => by omega, by omega⟩
    | succ d ih =>
      intro e he hn
      by_cases z : e = 0
      · exact ⟨0, z, fun b hb => by omega, by omega⟩
      · have hp := (h.2.2.2.1 e (by omega) hn).2.1
        obtain ⟨k, k1, k2, k3⟩ := ih (ev e / 10) (by omega) (by omega)
        have sh : ∀ b, anc ev e (b + 1) = anc ev (ev e / 10) b := by
          intro b
          induction b with
          | zero => rfl
          | succ b ihb => show ev (anc ev e (b + 1)) / 10 = ev (anc ev (ev e / 10) b) / 10; rw [ihb]
        refine ⟨k + 1, by rw [sh]; exact k1, fun b hb => ?_, by omega⟩
        match b with
        | 0 => exact ⟨by show 0 < e; omega, hn⟩
        | b + 1 => rw [sh]; exact k2 b (by omega)
  exact key g g (Nat.le_refl _) hg
theorem BI.found (h : BI ab T Pn N0 E n q ev) {g k : Nat} (hg : g < n) (hgl : gl (q g) = true) (hno : ∀ i, i < g → gl (q i) = false) (hk : anc ev g k = 0) (hpos : ∀ b, b < k → 0 < anc ev g b ∧ anc ev g b < n) :
    BW ab T gl k N0 (fun i => ev (anc ev g (k - 1 - i)) % 10) ∧ En T k N0 (fun i => ev (anc ev g (k - 1 - i)) % 10) = q g ∧ ∀ j, j < k → ¬ GP ab T gl j N0 := by
  obtain ⟨h1, h2, h3, h4, h5, h6⟩ := h
  -- nothing before the way's entry leads to a goal in as many steps
  have M : ∀ y, y ≤ k → ∀ e, e < anc ev g y → GP ab T gl y (q e) → False := by
    intro y
    induction y with
    | zero => intro _ e he hgp; have := hno e he; rw [show gl (q e) = true from hgp] at this; exact absurd this (by decide)
    | succ y ih =>
      intro hy e he hgp
      obtain ⟨u, hu, hab, hgp⟩ := hgp
      obtain ⟨p1, p2⟩ := hpos y (by omega)
      obtain ⟨a1, a2, -, -⟩ := h4 _ p1 p2
      have he' : e < ev (anc ev g y) / 10 := he
      have ed : (10 * e + u) / 10 = e := by omega
      have em : (10 * e + u) % 10 = u := by omega
      obtain ⟨j, hj, hq, ho⟩ := h6 (10 * e + u) (by omega) (by rw [ed]; omega) (by rw [ed, em]; exact hab)
      rw [ed, em] at hq
      refine ih (by omega) j ?_ (by rw [hq]; exact hgp)
      rcases ho with z | z
      · omega
      · by_cases hc : j < anc ev g y
        · exact hc
        · exfalso
          rcases Nat.lt_or_ge (anc ev g y) j with hlt | hge
          · have := h5 _ j p1 hlt hj; omega
          · have : j = anc ev g y := by omega
            rw [this] at z; omega
  refine ⟨?_, ?_, fun j hj hgp => ?_⟩
  · have key : ∀ d, d ≤ k → BW ab T gl d (q (anc ev g d)) (fun i => ev (anc ev g (d - 1 - i)) % 10) := by
      intro d
      induction d with
      | zero => intro _; exact hgl
      | succ d ih =>
        intro hd
        obtain ⟨p1, p2⟩ := hpos d (by omega)
        obtain ⟨a1, a2, a3, a4⟩ := h4 _ p1 p2
        have e0 : (fun i => ev (anc ev g (d + 1 - 1 - i)) % 10) 0 = ev (anc ev g d) % 10 := by simp
        refine ⟨by rw [e0]; omega, by rw [e0]; exact a3, ?_, fun s hs hab hgp => ?_⟩
        · have e1 : T (q (anc ev g (d + 1))) ((fun i => ev (anc ev g (d + 1 - 1 - i)) % 10) 0) = q (anc ev g d) := by rw [e0]; exact a4
          rw [e1]
          have e2 : (fun i => (fun i => ev (anc ev g (d + 1 - 1 - i)) % 10) (i + 1)) = (fun i => ev (anc ev g (d - 1 - i)) % 10) := by
            funext i
            show ev (anc ev g (d + 1 - 1 - (i + 1))) % 10 = _
            rw [show d + 1 - 1 - (i + 1) = d - 1 - i by omega]
          rw [e2]
          exact ih (by omega)
        · rw [e0] at hs
          have hp : anc ev g (d + 1) = ev (anc ev g d) / 10 := rfl
          have ed : (10 * anc ev g (d + 1) + s) / 10 = anc ev g (d + 1) := by omega
          have em : (10 * anc ev g (d + 1) + s) % 10 = s := by omega
          obtain ⟨j, hj, hq, ho⟩ := h6 (10 * anc ev g (d + 1) + s) (by omega) (by rw [ed]; omega) (by rw [ed, em]; exact hab)
          rw [ed, em] at hq
          refine M d (by omega) j ?_ (by rw [hq]; exact hgp)
          rcases ho with z | z
          · omega
          · by_cases hc : j < anc ev g d
            · exact hc
            · exfalso
              rcases Nat.lt_or_ge (anc ev g d) j with hlt | hge
              · have := h5 _ j p1 hlt hj; omega
              · have : j = anc ev g d := by omega
                rw [this] at z; omega
    have := key k (Nat.le_refl _)
    rwa [hk, h1.2] at this
  · have key : ∀ d, d ≤ k → En T d (q (anc ev g d)) (fun i => ev (anc ev g (d - 1 - i)) % 10) = q g := by
      intro d
      induction d with
      | zero => intro _; rfl
      | succ d ih =>
        intro hd
        obtain ⟨p1, p2⟩ := hpos d (by omega)
        obtain ⟨a1, a2, a3, a4⟩ := h4 _ p1 p2
        have e0 : (fun i => ev (anc ev g (d + 1 - 1 - i)) % 10) 0 = ev (anc ev g d) % 10 := by simp
        have e1 : T (q (anc ev g (d + 1))) ((fun i => ev (anc ev g (d + 1 - 1 - i)) % 10) 0) = q (anc ev g d) := by rw [e0]; exact a4
        have e2 : (fun i => (fun i => ev (anc ev g (d + 1 - 1 - i)) % 10) (i + 1)) = (fun i => ev (anc ev g (d - 1 - i)) % 10) := by
          funext i
          show ev (anc ev g (d + 1 - 1 - (i + 1))) % 10 = _
          rw [show d + 1 - 1 - (i + 1) = d - 1 - i by omega]
        show En T d (T (q (anc ev g (d + 1))) ((fun i => ev (anc ev g (d + 1 - 1 - i)) % 10) 0)) (fun i => (fun i => ev (anc ev g (d + 1 - 1 - i)) % 10) (i + 1)) = q g
        rw [e1, e2]
        exact ih (by omega)
    have := key k (Nat.le_refl _)
    rwa [hk, h1.2] at this
  · refine M j (by omega) 0 (hpos j hj).1 ?_
    rw [h1.2]
    exact hgp
theorem BI.nowhere (h : BI ab T Pn N0 (10 * n) n q ev) (hno : ∀ i, i < n → gl (q i) = false) : ∀ k, ¬ GP ab T gl k N0 := by
  obtain ⟨h1, h2, h3, h4, h5, h6⟩ := h
  have M : ∀ y e, e < n → ¬ GP ab T gl y (q e) := by
    intro y
    induction y with
    | zero => intro e he hgp; have := hno e he; rw [show gl (q e) = true from hgp] at this; exact absurd this (by decide)
    | succ y ih =>
      rintro e he ⟨u, hu, hab, hgp⟩
      have ed : (10 * e + u) / 10 = e := by omega
      have em : (10 * e + u) % 10 = u := by omega
      obtain ⟨j, hj, hq, -⟩ := h6 (10 * e + u) (by omega) (by rw [ed]; omega) (by rw [ed, em]; exact hab)
      rw [ed, em] at hq
      exact ih j hj (by rw [hq]; exact hgp)
  intro k
  rw [← h1.2]
  exact M k 0 (by omega)
end Bfs
theorem php : ∀ (N n : Nat) (f : Nat → Nat), (∀ i, i < n → f i < N) → (∀ i j, i < n → j < n → f i = f j → i = j) → n ≤ N := by
  intro N
  induction N with
  | zero =>
    intro n f h _
    rcases Nat.eq_zero_or_pos n with z | z
    · omega
    · exact absurd (h 0 z) (by omega)
  | succ N ih =>
    intro n f h hi
    by_cases hc : ∃ i, i < n ∧ f i = N
    · obtain ⟨i, hin, hf⟩ := hc
      have := ih (n - 1) (fun j => if j < i then f j else f (j + 1)) (fun j hj => ?_) (fun a b ha hb he => ?_)
      · omega
      · split
        · have h1 := h j (by omega)
          have : f j ≠ N := fun e => by have := hi j i (by omega) hin (e.trans hf.symm); omega
          omega
        · have h1 := h (j + 1) (by omega)
          have : f (j + 1) ≠ N := fun e => by have := hi (j + 1) i (by omega) hin (e.trans hf.symm); omega
          omega
      · split at he <;> split at he
        · exact hi a b (by omega) (by omega) he
        · have := hi a (b + 1) (by omega) (by omega) he; omega
        · have := hi (a + 1) b (by omega) (by omega) he; omega
        · have := hi (a + 1) (b + 1) (by omega) (by omega) he; omega
    · have := ih n f (fun i hin => by
        have h1 := h i hin
        have : f i ≠ N := fun e => hc ⟨i, hin, e⟩
        omega) hi
      omega
