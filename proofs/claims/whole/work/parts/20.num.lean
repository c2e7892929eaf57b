/-! numbers: rows for rewriting, all in the form nI n -/
theorem litI (n : Nat) : (OfNat.ofNat n : Int32) = nI (OfNat.ofNat n) := rfl
theorem N_le {a b : Nat} (ha : a < 2147483648) (hb : b < 2147483648) : (nI a ≤ nI b) = (a ≤ b) := propext (nI_leI ha hb)
theorem N_lt {a b : Nat} (ha : a < 2147483648) (hb : b < 2147483648) : (nI a < nI b) = (a < b) := propext (nI_ltI ha hb)
theorem N_eq {a b : Nat} (ha : a < 2147483648) (hb : b < 2147483648) : (nI a = nI b) = (a = b) := propext (nI_eq ha hb)
theorem N_sub {a b : Nat} (h : b ≤ a) : nI a - nI b = nI (a - b) := pk_sub h
theorem N_cl {a : Nat} (h : a < 2147483648) : Int32.toNatClampNeg (nI a) = a := nI_clamp h
theorem N_sm : ∀ k, k < 32 → ((nI k).toBitVec.smod 32).toNat = k := by decide
theorem N_shr {a k : Nat} (ha : a < 2147483648) (hk : k < 32) : nI a >>> nI k = nI (a / 2 ^ k) := pk_shrN ha _ k (N_sm k hk)
theorem N_shl {a k : Nat} (hk : k < 32) (h : a * 2 ^ k < 4294967296) : nI a <<< nI k = nI (a * 2 ^ k) := pk_shlN _ k (N_sm k hk) h
theorem N_31 {k : Nat} (hk : k < 32) : nI k &&& nI 31 = nI k := by
  rw [pk_andN (k := 5) (by omega) (by decide), Nat.mod_eq_of_lt hk]
theorem N_and (a b : Nat) : nI a &&& nI b = nI (a &&& b) := by
  apply Int32.toBitVec_inj.1
  show BitVec.ofNat 32 a &&& BitVec.ofNat 32 b = BitVec.ofNat 32 (a &&& b)
  apply BitVec.eq_of_getLsbD_eq
  intro i hi
  simp [hi]
theorem N_or (a b : Nat) : nI a ||| nI b = nI (a ||| b) := by
  apply Int32.toBitVec_inj.1
  show BitVec.ofNat 32 a ||| BitVec.ofNat 32 b = BitVec.ofNat 32 (a ||| b)
  apply BitVec.eq_of_getLsbD_eq
  intro i hi
  simp [hi]
theorem N_a1 (a : Nat) : nI a &&& nI 1 = nI (a % 2) := by rw [N_and, Nat.and_one_is_mod]
theorem N_a3 (a : Nat) : nI a &&& nI 3 = nI (a % 4) := by rw [N_and]; exact congrArg nI (Nat.and_two_pow_sub_one_eq_mod a 2)
theorem N_a7 (a : Nat) : nI a &&& nI 7 = nI (a % 8) := by rw [N_and]; exact congrArg nI (Nat.and_two_pow_sub_one_eq_mod a 3)
theorem N_a63 (a : Nat) : nI a &&& nI 63 = nI (a % 64) := by rw [N_and]; exact congrArg nI (Nat.and_two_pow_sub_one_eq_mod a 6)
theorem N_a511 (a : Nat) : nI a &&& nI 511 = nI (a % 512) := by rw [N_and]; exact congrArg nI (Nat.and_two_pow_sub_one_eq_mod a 9)
theorem N_a32767 (a : Nat) : nI a &&& nI 32767 = nI (a % 32768) := by rw [N_and]; exact congrArg nI (Nat.and_two_pow_sub_one_eq_mod a 15)
theorem N_gd {α : Type} {i n : Nat} {o : Option α} (h : i < n) (hn : n < 2147483648) : gd (nI i) n o = o := gd_in (vp_in_nI h hn)
theorem bd_ok {v : Int32} {τ : Sg} {k : Int32 → Sg → Rs} : bd (some (v, τ)) k = k v τ := rfl
theorem zr_0 {σ : Sg} : zr 0 σ = some (0, σ) := rfl
theorem zr_1 {σ : Sg} : zr 1 σ = some (1, σ) := rfl
theorem sv_ok {α β : Type} (x : α) (k : α → β) : sv x k = k x := rfl
theorem wr_ne {σ : Sg} {c j c' : Nat} {v : Int32} (h : c' ≠ c) : wr σ c j v c' = σ c' := by simp [wr, ups, h]
theorem wr_eq {σ : Sg} {c j j' : Nat} {v : Int32} : wr σ c j v c j' = if j' = j then v else σ c j' := by simp [wr, ups, upd]
theorem ups_ne {σ : Sg} {c c' : Nat} {f : Nat → Int32} (h : c' ≠ c) : ups σ c f c' = σ c' := by simp [ups, h]
theorem ups_eq {σ : Sg} {c : Nat} {f : Nat → Int32} : ups σ c f c = f := by simp [ups]
theorem m1_ne {a : Nat} (h : a < 2147483648) : ¬ nI a = -1 := by
  intro e
  have h1 : (nI a).toInt = (-1 : Int32).toInt := congrArg _ e
  rw [nI_toInt h] at h1
  have h2 : (-1 : Int32).toInt = -1 := by decide
  omega
theorem m6_lt0 : (-6 : Int32) < 0 := by decide
/-! loops: an invariant and a measure -/
theorem lp0 {F : (Sg → Rs) → Sg → Rs} {z : Sg → Rs} (Inv : Sg → Prop) (μ : Sg → Nat) (Post : Int32 × Sg → Prop)
    (hs : ∀ k σ, Inv σ → (∀ σ', Inv σ' → μ σ' < μ σ → ∃ r, k σ' = some r ∧ Post r) → ∃ r, F k σ = some r ∧ Post r) :
    ∀ n σ, Inv σ → μ σ < n → ∃ r, it F z n σ = some r ∧ Post r := by
  intro n
  induction n with
  | zero => intro σ _ h; omega
  | succ n ih => intro σ h hm; exact hs _ σ h (fun σ' h' hm' => ih σ' h' (by omega))
theorem lpA1 {F : (Int32 → Sg → Rs) → Int32 → Sg → Rs} {z : Int32 → Sg → Rs} (Inv : Int32 → Sg → Prop) (μ : Int32 → Sg → Nat) (Post : Int32 × Sg → Prop)
    (hs : ∀ k a σ, Inv a σ → (∀ a' σ', Inv a' σ' → μ a' σ' < μ a σ → ∃ r, k a' σ' = some r ∧ Post r) → ∃ r, F k a σ = some r ∧ Post r) :
    ∀ n a σ, Inv a σ → μ a σ < n → ∃ r, it F z n a σ = some r ∧ Post r := by
  intro n
  induction n with
  | zero => intro a σ _ h; omega
  | succ n ih => intro a σ h hm; exact hs _ a σ h (fun a' σ' h' hm' => ih a' σ' h' (by omega))
/-- a counting loop: after i rounds the arguments are as the lists say; at e it ends -/
theorem lc1 {F : (Int32 → Sg → Rs) → Int32 → Sg → Rs} {z : Int32 → Sg → Rs} (a : Nat → Int32) (s : Nat → Sg) (e : Nat) (X : Rs)
    (hs : ∀ i, i < e → ∀ k, F k (a i) (s i) = k (a (i + 1)) (s (i + 1))) (hx : ∀ k, F k (a e) (s e) = X) {n : Nat} (hn : e < n) {a0 : Int32} {σ : Sg} (ha : a0 = a 0) (hσ : σ = s 0) : it F z n a0 σ = X := by
  subst ha hσ
  have h : ∀ d n, d < n → d ≤ e → it F z n (a (e - d)) (s (e - d)) = X := by
    intro d
    induction d with
    | zero => intro n hn _; obtain ⟨m, rfl⟩ := Nat.exists_eq_add_of_lt hn; exact hx _
    | succ d ih =>
      intro n hn hd
      obtain ⟨m, rfl⟩ := Nat.exists_eq_succ_of_ne_zero (Nat.ne_of_gt (Nat.lt_of_le_of_lt (Nat.zero_le _) hn))
      rw [it_eq, hs (e - (d + 1)) (by omega), show e - (d + 1) + 1 = e - d by omega]
      exact ih m (by omega) (by omega)
  have := h e n hn (Nat.le_refl _)
  rwa [Nat.sub_self] at this
theorem lc2 {F : (Int32 → Int32 → Sg → Rs) → Int32 → Int32 → Sg → Rs} {z : Int32 → Int32 → Sg → Rs} (a b : Nat → Int32) (s : Nat → Sg) (e : Nat) (X : Rs)
    (hs : ∀ i, i < e → ∀ k, F k (a i) (b i) (s i) = k (a (i + 1)) (b (i + 1)) (s (i + 1))) (hx : ∀ k, F k (a e) (b e) (s e) = X) {n : Nat} (hn : e < n) {a0 b0 : Int32} {σ : Sg} (ha : a0 = a 0) (hb : b0 = b 0) (hσ : σ = s 0) : it F z n a0 b0 σ = X := by
  subst ha hb hσ
  have h : ∀ d n, d < n → d ≤ e → it F z n (a (e - d)) (b (e - d)) (s (e - d)) = X := by
    intro d
    induction d with
    | zero => intro n hn _; obtain ⟨m, rfl⟩ := Nat.exists_eq_add_of_lt hn; exact hx _
    | succ d ih =>
      intro n hn hd
      obtain ⟨m, rfl⟩ := Nat.exists_eq_succ_of_ne_zero (Nat.ne_of_gt (Nat.lt_of_le_of_lt (Nat.zero_le _) hn))
      rw [it_eq, hs (e - (d + 1)) (by omega), show e - (d + 1) + 1 = e - d by omega]
      exact ih m (by omega) (by omega)
  have := h e n hn (Nat.le_refl _)
  rwa [Nat.sub_self] at this
