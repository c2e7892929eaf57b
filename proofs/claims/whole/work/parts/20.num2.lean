/-! loops of any number of arguments: by an invariant and a measure (lpAn), or by what the arguments are after i rounds (lcn) -/
theorem lpA2 {F : (Int32 → Int32 → Sg → Rs) → Int32 → Int32 → Sg → Rs} {z : Int32 → Int32 → Sg → Rs} (Inv : Int32 → Int32 → Sg → Prop) (μ : Int32 → Int32 → Sg → Nat) (Post : Int32 × Sg → Prop)
    (hs : ∀ k a1 a2 σ, Inv a1 a2 σ → (∀ b1 b2 σ', Inv b1 b2 σ' → μ b1 b2 σ' < μ a1 a2 σ → ∃ r, k b1 b2 σ' = some r ∧ Post r) → ∃ r, F k a1 a2 σ = some r ∧ Post r) :
    ∀ n a1 a2 σ, Inv a1 a2 σ → μ a1 a2 σ < n → ∃ r, it F z n a1 a2 σ = some r ∧ Post r := by
  intro n
  induction n with
  | zero => intro a1 a2 σ _ h; omega
  | succ n ih => intro a1 a2 σ h hm; exact hs _ a1 a2 σ h (fun b1 b2 σ' h' hm' => ih b1 b2 σ' h' (by omega))
theorem lpA3 {F : (Int32 → Int32 → Int32 → Sg → Rs) → Int32 → Int32 → Int32 → Sg → Rs} {z : Int32 → Int32 → Int32 → Sg → Rs} (Inv : Int32 → Int32 → Int32 → Sg → Prop) (μ : Int32 → Int32 → Int32 → Sg → Nat) (Post : Int32 × Sg → Prop)
    (hs : ∀ k a1 a2 a3 σ, Inv a1 a2 a3 σ → (∀ b1 b2 b3 σ', Inv b1 b2 b3 σ' → μ b1 b2 b3 σ' < μ a1 a2 a3 σ → ∃ r, k b1 b2 b3 σ' = some r ∧ Post r) → ∃ r, F k a1 a2 a3 σ = some r ∧ Post r) :
    ∀ n a1 a2 a3 σ, Inv a1 a2 a3 σ → μ a1 a2 a3 σ < n → ∃ r, it F z n a1 a2 a3 σ = some r ∧ Post r := by
  intro n
  induction n with
  | zero => intro a1 a2 a3 σ _ h; omega
  | succ n ih => intro a1 a2 a3 σ h hm; exact hs _ a1 a2 a3 σ h (fun b1 b2 b3 σ' h' hm' => ih b1 b2 b3 σ' h' (by omega))
theorem lc3 {F : (Int32 → Int32 → Int32 → Sg → Rs) → Int32 → Int32 → Int32 → Sg → Rs} {z : Int32 → Int32 → Int32 → Sg → Rs} (f1 f2 f3 : Nat → Int32) (s : Nat → Sg) (e : Nat) (X : Rs)
    (hs : ∀ i, i < e → ∀ k, F k (f1 (i)) (f2 (i)) (f3 (i)) (s i) = k (f1 (i + 1)) (f2 (i + 1)) (f3 (i + 1)) (s (i + 1))) (hx : ∀ k, F k (f1 (e)) (f2 (e)) (f3 (e)) (s e) = X) {n : Nat} (hn : e < n) {a1 a2 a3 : Int32} {σ : Sg} (ha1 : a1 = f1 0) (ha2 : a2 = f2 0) (ha3 : a3 = f3 0) (hσ : σ = s 0) : it F z n a1 a2 a3 σ = X := by
  subst ha1 ha2 ha3 hσ
  have h : ∀ d n, d < n → d ≤ e → it F z n (f1 (e - d)) (f2 (e - d)) (f3 (e - d)) (s (e - d)) = X := by
    intro d
    induction d with
    | zero => intro n hn _; obtain ⟨m, rfl⟩ := Nat.exists_eq_add_of_lt hn; exact hx _
    | succ d ih =>
      intro n hn hd
      obtain ⟨m, rfl⟩ := Nat.exists_eq_succ_of_ne_zero (Nat.ne_of_gt (Nat.lt_of_le_of_lt (Nat.zero_le _) hn))
      rw [it_eq, hs (e - (d + 1)) (by omega), show e - (d + 1) + 1 = e - d by omega]
      exact ih m (by omega) (by omega)
  have := h e n hn (Nat.le_refl _)
  rwa [Nat.sub_self] at this
theorem lpA4 {F : (Int32 → Int32 → Int32 → Int32 → Sg → Rs) → Int32 → Int32 → Int32 → Int32 → Sg → Rs} {z : Int32 → Int32 → Int32 → Int32 → Sg → Rs} (Inv : Int32 → Int32 → Int32 → Int32 → Sg → Prop) (μ : Int32 → Int32 → Int32 → Int32 → Sg → Nat) (Post : Int32 × Sg → Prop)
    (hs : ∀ k a1 a2 a3 a4 σ, Inv a1 a2 a3 a4 σ → (∀ b1 b2 b3 b4 σ', Inv b1 b2 b3 b4 σ' → μ b1 b2 b3 b4 σ' < μ a1 a2 a3 a4 σ → ∃ r, k b1 b2 b3 b4 σ' = some r ∧ Post r) → ∃ r, F k a1 a2 a3 a4 σ = some r ∧ Post r) :
    ∀ n a1 a2 a3 a4 σ, Inv a1 a2 a3 a4 σ → μ a1 a2 a3 a4 σ < n → ∃ r, it F z n a1 a2 a3 a4 σ = some r ∧ Post r := by
  intro n
  induction n with
  | zero => intro a1 a2 a3 a4 σ _ h; omega
  | succ n ih => intro a1 a2 a3 a4 σ h hm; exact hs _ a1 a2 a3 a4 σ h (fun b1 b2 b3 b4 σ' h' hm' => ih b1 b2 b3 b4 σ' h' (by omega))
theorem lc4 {F : (Int32 → Int32 → Int32 → Int32 → Sg → Rs) → Int32 → Int32 → Int32 → Int32 → Sg → Rs} {z : Int32 → Int32 → Int32 → Int32 → Sg → Rs} (f1 f2 f3 f4 : Nat → Int32) (s : Nat → Sg) (e : Nat) (X : Rs)
    (hs : ∀ i, i < e → ∀ k, F k (f1 (i)) (f2 (i)) (f3 (i)) (f4 (i)) (s i) = k (f1 (i + 1)) (f2 (i + 1)) (f3 (i + 1)) (f4 (i + 1)) (s (i + 1))) (hx : ∀ k, F k (f1 (e)) (f2 (e)) (f3 (e)) (f4 (e)) (s e) = X) {n : Nat} (hn : e < n) {a1 a2 a3 a4 : Int32} {σ : Sg} (ha1 : a1 = f1 0) (ha2 : a2 = f2 0) (ha3 : a3 = f3 0) (ha4 : a4 = f4 0) (hσ : σ = s 0) : it F z n a1 a2 a3 a4 σ = X := by
  subst ha1 ha2 ha3 ha4 hσ
  have h : ∀ d n, d < n → d ≤ e → it F z n (f1 (e - d)) (f2 (e - d)) (f3 (e - d)) (f4 (e - d)) (s (e - d)) = X := by
    intro d
    induction d with
    | zero => intro n hn _; obtain ⟨m, rfl⟩ := Nat.exists_eq_add_of_lt hn; exact hx _
    | succ d ih =>
      intro n hn hd
      obtain ⟨m, rfl⟩ := Nat.exists_eq_succ_of_ne_zero (Nat.ne_of_gt (Nat.lt_of_le_of_lt (Nat.zero_le _) hn))
      rw [it_eq, hs (e - (d + 1)) (by omega), show e - (d + 1) + 1 = e - d by omega]
      exact ih m (by omega) (by omega)
  have := h e n hn (Nat.le_refl _)
  rwa [Nat.sub_self] at this
theorem lpA5 {F : (Int32 → Int32 → Int32 → Int32 → Int32 → Sg → Rs) → Int32 → Int32 → Int32 → Int32 → Int32 → Sg → Rs} {z : Int32 → Int32 → Int32 → Int32 → Int32 → Sg → Rs} (Inv : Int32 → Int32 → Int32 → Int32 → Int32 → Sg → Prop) (μ : Int32 → Int32 → Int32 → Int32 → Int32 → Sg → Nat) (Post : Int32 × Sg → Prop)
    (hs : ∀ k a1 a2 a3 a4 a5 σ, Inv a1 a2 a3 a4 a5 σ → (∀ b1 b2 b3 b4 b5 σ', Inv b1 b2 b3 b4 b5 σ' → μ b1 b2 b3 b4 b5 σ' < μ a1 a2 a3 a4 a5 σ → ∃ r, k b1 b2 b3 b4 b5 σ' = some r ∧ Post r) → ∃ r, F k a1 a2 a3 a4 a5 σ = some r ∧ Post r) :
    ∀ n a1 a2 a3 a4 a5 σ, Inv a1 a2 a3 a4 a5 σ → μ a1 a2 a3 a4 a5 σ < n → ∃ r, it F z n a1 a2 a3 a4 a5 σ = some r ∧ Post r := by
  intro n
  induction n with
  | zero => intro a1 a2 a3 a4 a5 σ _ h; omega
  | succ n ih => intro a1 a2 a3 a4 a5 σ h hm; exact hs _ a1 a2 a3 a4 a5 σ h (fun b1 b2 b3 b4 b5 σ' h' hm' => ih b1 b2 b3 b4 b5 σ' h' (by omega))
theorem lc5 {F : (Int32 → Int32 → Int32 → Int32 → Int32 → Sg → Rs) → Int32 → Int32 → Int32 → Int32 → Int32 → Sg → Rs} {z : Int32 → Int32 → Int32 → Int32 → Int32 → Sg → Rs} (f1 f2 f3 f4 f5 : Nat → Int32) (s : Nat → Sg) (e : Nat) (X : Rs)
    (hs : ∀ i, i < e → ∀ k, F k (f1 (i)) (f2 (i)) (f3 (i)) (f4 (i)) (f5 (i)) (s i) = k (f1 (i + 1)) (f2 (i + 1)) (f3 (i + 1)) (f4 (i + 1)) (f5 (i + 1)) (s (i + 1))) (hx : ∀ k, F k (f1 (e)) (f2 (e)) (f3 (e)) (f4 (e)) (f5 (e)) (s e) = X) {n : Nat} (hn : e < n) {a1 a2 a3 a4 a5 : Int32} {σ : Sg} (ha1 : a1 = f1 0) (ha2 : a2 = f2 0) (ha3 : a3 = f3 0) (ha4 : a4 = f4 0) (ha5 : a5 = f5 0) (hσ : σ = s 0) : it F z n a1 a2 a3 a4 a5 σ = X := by
  subst ha1 ha2 ha3 ha4 ha5 hσ
  have h : ∀ d n, d < n → d ≤ e → it F z n (f1 (e - d)) (f2 (e - d)) (f3 (e - d)) (f4 (e - d)) (f5 (e - d)) (s (e - d)) = X := by
    intro d
    induction d with
    | zero => intro n hn _; obtain ⟨m, rfl⟩ := Nat.exists_eq_add_of_lt hn; exact hx _
    | succ d ih =>
      intro n hn hd
      obtain ⟨m, rfl⟩ := Nat.exists_eq_succ_of_ne_zero (Nat.ne_of_gt (Nat.lt_of_le_of_lt (Nat.zero_le _) hn))
      rw [it_eq, hs (e - (d + 1)) (by omega), show e - (d + 1) + 1 = e - d by omega]
      exact ih m (by omega) (by omega)
  have := h e n hn (Nat.le_refl _)
  rwa [Nat.sub_self] at this
theorem lpA6 {F : (Int32 → Int32 → Int32 → Int32 → Int32 → Int32 → Sg → Rs) → Int32 → Int32 → Int32 → Int32 → Int32 → Int32 → Sg → Rs} {z : Int32 → Int32 → Int32 → Int32 → Int32 → Int32 → Sg → Rs} (Inv : Int32 → Int32 → Int32 → Int32 → Int32 → Int32 → Sg → Prop) (μ : Int32 → Int32 → Int32 → Int32 → Int32 → Int32 → Sg → Nat) (Post : Int32 × Sg → Prop)
    (hs : ∀ k a1 a2 a3 a4 a5 a6 σ, Inv a1 a2 a3 a4 a5 a6 σ → (∀ b1 b2 b3 b4 b5 b6 σ', Inv b1 b2 b3 b4 b5 b6 σ' → μ b1 b2 b3 b4 b5 b6 σ' < μ a1 a2 a3 a4 a5 a6 σ → ∃ r, k b1 b2 b3 b4 b5 b6 σ' = some r ∧ Post r) → ∃ r, F k a1 a2 a3 a4 a5 a6 σ = some r ∧ Post r) :
    ∀ n a1 a2 a3 a4 a5 a6 σ, Inv a1 a2 a3 a4 a5 a6 σ → μ a1 a2 a3 a4 a5 a6 σ < n → ∃ r, it F z n a1 a2 a3 a4 a5 a6 σ = some r ∧ Post r := by
  intro n
  induction n with
  | zero => intro a1 a2 a3 a4 a5 a6 σ _ h; omega
  | succ n ih => intro a1 a2 a3 a4 a5 a6 σ h hm; exact hs _ a1 a2 a3 a4 a5 a6 σ h (fun b1 b2 b3 b4 b5 b6 σ' h' hm' => ih b1 b2 b3 b4 b5 b6 σ' h' (by omega))
theorem lc6 {F : (Int32 → Int32 → Int32 → Int32 → Int32 → Int32 → Sg → Rs) → Int32 → Int32 → Int32 → Int32 → Int32 → Int32 → Sg → Rs} {z : Int32 → Int32 → Int32 → Int32 → Int32 → Int32 → Sg → Rs} (f1 f2 f3 f4 f5 f6 : Nat → Int32) (s : Nat → Sg) (e : Nat) (X : Rs)
    (hs : ∀ i, i < e → ∀ k, F k (f1 (i)) (f2 (i)) (f3 (i)) (f4 (i)) (f5 (i)) (f6 (i)) (s i) = k (f1 (i + 1)) (f2 (i + 1)) (f3 (i + 1)) (f4 (i + 1)) (f5 (i + 1)) (f6 (i + 1)) (s (i + 1))) (hx : ∀ k, F k (f1 (e)) (f2 (e)) (f3 (e)) (f4 (e)) (f5 (e)) (f6 (e)) (s e) = X) {n : Nat} (hn : e < n) {a1 a2 a3 a4 a5 a6 : Int32} {σ : Sg} (ha1 : a1 = f1 0) (ha2 : a2 = f2 0) (ha3 : a3 = f3 0) (ha4 : a4 = f4 0) (ha5 : a5 = f5 0) (ha6 : a6 = f6 0) (hσ : σ = s 0) : it F z n a1 a2 a3 a4 a5 a6 σ = X := by
  subst ha1 ha2 ha3 ha4 ha5 ha6 hσ
  have h : ∀ d n, d < n → d ≤ e → it F z n (f1 (e - d)) (f2 (e - d)) (f3 (e - d)) (f4 (e - d)) (f5 (e - d)) (f6 (e - d)) (s (e - d)) = X := by
    intro d
    induction d with
    | zero => intro n hn _; obtain ⟨m, rfl⟩ := Nat.exists_eq_add_of_lt hn; exact hx _
    | succ d ih =>
      intro n hn hd
      obtain ⟨m, rfl⟩ := Nat.exists_eq_succ_of_ne_zero (Nat.ne_of_gt (Nat.lt_of_le_of_lt (Nat.zero_le _) hn))
      rw [it_eq, hs (e - (d + 1)) (by omega), show e - (d + 1) + 1 = e - d by omega]
      exact ih m (by omega) (by omega)
  have := h e n hn (Nat.le_refl _)
  rwa [Nat.sub_self] at this
theorem lpA7 {F : (Int32 → Int32 → Int32 → Int32 → Int32 → Int32 → Int32 → Sg → Rs) → Int32 → Int32 → Int32 → Int32 → Int32 → Int32 → Int32 → Sg → Rs} {z : Int32 → Int32 → Int32 → Int32 → Int32 → Int32 → Int32 → Sg → Rs} (Inv : Int32 → Int32 → Int32 → Int32 → Int32 → Int32 → Int32 → Sg → Prop) (μ : Int32 → Int32 → Int32 → Int32 → Int32 → Int32 → Int32 → Sg → Nat) (Post : Int32 × Sg → Prop)
    (hs : ∀ k a1 a2 a3 a4 a5 a6 a7 σ, Inv a1 a2 a3 a4 a5 a6 a7 σ → (∀ b1 b2 b3 b4 b5 b6 b7 σ', Inv b1 b2 b3 b4 b5 b6 b7 σ' → μ b1 b2 b3 b4 b5 b6 b7 σ' < μ a1 a2 a3 a4 a5 a6 a7 σ → ∃ r, k b1 b2 b3 b4 b5 b6 b7 σ' = some r ∧ Post r) → ∃ r, F k a1 a2 a3 a4 a5 a6 a7 σ = some r ∧ Post r) :
    ∀ n a1 a2 a3 a4 a5 a6 a7 σ, Inv a1 a2 a3 a4 a5 a6 a7 σ → μ a1 a2 a3 a4 a5 a6 a7 σ < n → ∃ r, it F z n a1 a2 a3 a4 a5 a6 a7 σ = some r ∧ Post r := by
  intro n
  induction n with
  | zero => intro a1 a2 a3 a4 a5 a6 a7 σ _ h; omega
  | succ n ih => intro a1 a2 a3 a4 a5 a6 a7 σ h hm; exact hs _ a1 a2 a3 a4 a5 a6 a7 σ h (fun b1 b2 b3 b4 b5 b6 b7 σ' h' hm' => ih b1 b2 b3 b4 b5 b6 b7 σ' h' (by omega))
theorem lc7 {F : (Int32 → Int32 → Int32 → Int32 → Int32 → Int32 → Int32 → Sg → Rs) → Int32 → Int32 → Int32 → Int32 → Int32 → Int32 → Int32 → Sg → Rs} {z : Int32 → Int32 → Int32 → Int32 → Int32 → Int32 → Int32 → Sg → Rs} (f1 f2 f3 f4 f5 f6 f7 : Nat → Int32) (s : Nat → Sg) (e : Nat) (X : Rs)
    (hs : ∀ i, i < e → ∀ k, F k (f1 (i)) (f2 (i)) (f3 (i)) (f4 (i)) (f5 (i)) (f6 (i)) (f7 (i)) (s i) = k (f1 (i + 1)) (f2 (i + 1)) (f3 (i + 1)) (f4 (i + 1)) (f5 (i + 1)) (f6 (i + 1)) (f7 (i + 1)) (s (i + 1))) (hx : ∀ k, F k (f1 (e)) (f2 (e)) (f3 (e)) (f4 (e)) (f5 (e)) (f6 (e)) (f7 (e)) (s e) = X) {n : Nat} (hn : e < n) {a1 a2 a3 a4 a5 a6 a7 : Int32} {σ : Sg} (ha1 : a1 = f1 0) (ha2 : a2 = f2 0) (ha3 : a3 = f3 0) (ha4 : a4 = f4 0) (ha5 : a5 = f5 0) (ha6 : a6 = f6 0) (ha7 : a7 = f7 0) (hσ : σ = s 0) : it F z n a1 a2 a3 a4 a5 a6 a7 σ = X := by
  subst ha1 ha2 ha3 ha4 ha5 ha6 ha7 hσ
  have h : ∀ d n, d < n → d ≤ e → it F z n (f1 (e - d)) (f2 (e - d)) (f3 (e - d)) (f4 (e - d)) (f5 (e - d)) (f6 (e - d)) (f7 (e - d)) (s (e - d)) = X := by
    intro d
    induction d with
    | zero => intro n hn _; obtain ⟨m, rfl⟩ := Nat.exists_eq_add_of_lt hn; exact hx _
    | succ d ih =>
      intro n hn hd
      obtain ⟨m, rfl⟩ := Nat.exists_eq_succ_of_ne_zero (Nat.ne_of_gt (Nat.lt_of_le_of_lt (Nat.zero_le _) hn))
      rw [it_eq, hs (e - (d + 1)) (by omega), show e - (d + 1) + 1 = e - d by omega]
      exact ih m (by omega) (by omega)
  have := h e n hn (Nat.le_refl _)
  rwa [Nat.sub_self] at this
theorem lpA8 {F : (Int32 → Int32 → Int32 → Int32 → Int32 → Int32 → Int32 → Int32 → Sg → Rs) → Int32 → Int32 → Int32 → Int32 → Int32 → Int32 → Int32 → Int32 → Sg → Rs} {z : Int32 → Int32 → Int32 → Int32 → Int32 → Int32 → Int32 → Int32 → Sg → Rs} (Inv : Int32 → Int32 → Int32 → Int32 → Int32 → Int32 → Int32 → Int32 → Sg → Prop) (μ : Int32 → Int32 → Int32 → Int32 → Int32 → Int32 → Int32 → Int32 → Sg → Nat) (Post : Int32 × Sg → Prop)
    (hs : ∀ k a1 a2 a3 a4 a5 a6 a7 a8 σ, Inv a1 a2 a3 a4 a5 a6 a7 a8 σ → (∀ b1 b2 b3 b4 b5 b6 b7 b8 σ', Inv b1 b2 b3 b4 b5 b6 b7 b8 σ' → μ b1 b2 b3 b4 b5 b6 b7 b8 σ' < μ a1 a2 a3 a4 a5 a6 a7 a8 σ → ∃ r, k b1 b2 b3 b4 b5 b6 b7 b8 σ' = some r ∧ Post r) → ∃ r, F k a1 a2 a3 a4 a5 a6 a7 a8 σ = some r ∧ Post r) :
    ∀ n a1 a2 a3 a4 a5 a6 a7 a8 σ, Inv a1 a2 a3 a4 a5 a6 a7 a8 σ → μ a1 a2 a3 a4 a5 a6 a7 a8 σ < n → ∃ r, it F z n a1 a2 a3 a4 a5 a6 a7 a8 σ = some r ∧ Post r := by
  intro n
  induction n with
  | zero => intro a1 a2 a3 a4 a5 a6 a7 a8 σ _ h; omega
  | succ n ih => intro a1 a2 a3 a4 a5 a6 a7 a8 σ h hm; exact hs _ a1 a2 a3 a4 a5 a6 a7 a8 σ h (fun b1 b2 b3 b4 b5 b6 b7 b8 σ' h' hm' => ih b1 b2 b3 b4 b5 b6 b7 b8 σ' h' (by omega))
theorem lc8 {F : (Int32 → Int32 → Int32 → Int32 → Int32 → Int32 → Int32 → Int32 → Sg → Rs) → Int32 → Int32 → Int32 → Int32 → Int32 → Int32 → Int32 → Int32 → Sg → Rs} {z : Int32 → Int32 → Int32 → Int32 → Int32 → Int32 → Int32 → Int32 → Sg → Rs} (f1 f2 f3 f4 f5 f6 f7 f8 : Nat → Int32) (s : Nat → Sg) (e : Nat) (X : Rs)
    (hs : ∀ i, i < e → ∀ k, F k (f1 (i)) (f2 (i)) (f3 (i)) (f4 (i)) (f5 (i)) (f6 (i)) (f7 (i)) (f8 (i)) (s i) = k (f1 (i + 1)) (f2 (i + 1)) (f3 (i + 1)) (f4 (i + 1)) (f5 (i + 1)) (f6 (i + 1)) (f7 (i + 1)) (f8 (i + 1)) (s (i + 1))) (hx : ∀ k, F k (f1 (e)) (f2 (e)) (f3 (e)) (f4 (e)) (f5 (e)) (f6 (e)) (f7 (e)) (f8 (e)) (s e) = X) {n : Nat} (hn : e < n) {a1 a2 a3 a4 a5 a6 a7 a8 : Int32} {σ : Sg} (ha1 : a1 = f1 0) (ha2 : a2 = f2 0) (ha3 : a3 = f3 0) (ha4 : a4 = f4 0) (ha5 : a5 = f5 0) (ha6 : a6 = f6 0) (ha7 : a7 = f7 0) (ha8 : a8 = f8 0) (hσ : σ = s 0) : it F z n a1 a2 a3 a4 a5 a6 a7 a8 σ = X := by
  subst ha1 ha2 ha3 ha4 ha5 ha6 ha7 ha8 hσ
  have h : ∀ d n, d < n → d ≤ e → it F z n (f1 (e - d)) (f2 (e - d)) (f3 (e - d)) (f4 (e - d)) (f5 (e - d)) (f6 (e - d)) (f7 (e - d)) (f8 (e - d)) (s (e - d)) = X := by
    intro d
    induction d with
    | zero => intro n hn _; obtain ⟨m, rfl⟩ := Nat.exists_eq_add_of_lt hn; exact hx _
    | succ d ih =>
      intro n hn hd
      obtain ⟨m, rfl⟩ := Nat.exists_eq_succ_of_ne_zero (Nat.ne_of_gt (Nat.lt_of_le_of_lt (Nat.zero_le _) hn))
      rw [it_eq, hs (e - (d + 1)) (by omega), show e - (d + 1) + 1 = e - d by omega]
      exact ih m (by omega) (by omega)
  have := h e n hn (Nat.le_refl _)
  rwa [Nat.sub_self] at this
