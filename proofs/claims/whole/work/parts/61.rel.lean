theorem rel_steps : Steps17 Rel0 := ⟨sp_line, sp_machine, sp_dark, sp_of, sp_at, sp_bus, sp_can, sp_tick, sp_fail, sp_trip, sp_way, sp_go, sp_needed, sp_ever, sp_image, sp_restore, sp_count⟩
theorem J_zero (A : Nat → Nat → Nat) (a b : Nat) : J A 0 a b = decide (a = b) := by
  rw [Bool.eq_iff_iff, J_iff, decide_eq_true_iff]
  exact ⟨Cn.zero, fun e => by rw [e]; exact Cn.re b⟩
theorem dr_zero (A : Nat → Nat → Nat) (a : Nat) : dr A 0 a = 0 := by
  have h : ∀ l, dt A 0 a l = 0 := fun l => by
    unfold dt
    rw [if_neg (fun c => by rw [Nat.zero_div] at c; exact absurd c.1 (by decide))]
  unfold dr
  rw [h, h, h, h, h, h]
theorem sg0_10 : ∀ a, a < 6 → sg0 10 a = nI (2 ^ a) := by decide
theorem mk6_pow : ∀ a, a < 6 → mk6 (fun b => decide (a = b)) = 2 ^ a := by decide
theorem aok0 : AOK (fun _ _ => 0) := ⟨fun _ _ => ⟨Nat.zero_lt_succ 5, Nat.zero_lt_succ 5, Nat.zero_le 9⟩, fun _ _ => ⟨Nat.zero_lt_succ 5, Nat.zero_le 20, Nat.zero_le 40, Nat.zero_le 3⟩⟩
theorem rel_start : Rel0 sg0 mu0 := by
  refine ⟨⟨fun _ _ => 0, 0, 0, 0, 0, ⟨aok0, by decide, by decide, rfl, rfl, fun i _ => ⟨rfl, rfl, rfl⟩, fun i _ => ⟨rfl, rfl, rfl, rfl⟩, fun c hc a ha => ?_⟩, ⟨by decide, by decide, fun m hm _ => ?_⟩, ?_, rfl, ⟨aok0, by decide, by decide, rfl, rfl, fun i _ => ⟨rfl, rfl, rfl⟩, fun i _ => ⟨rfl, rfl, rfl, rfl⟩⟩, ⟨fun l hl => ?_, fun m hm => ?_⟩, rfl⟩, 0, by decide, rfl, fun j hj => ?_, fun j hj h => ?_⟩
  · have : c = 0 := by rw [Nat.pow_zero] at hc; omega
    subst this
    rw [dr_zero, show J (fun _ _ => 0) 0 a = (fun b => decide (a = b)) from funext (fun b => J_zero _ a b), mk6_pow a ha, show 0 * 6 + a = a by omega, sg0_10 a ha]
    exact ⟨rfl, rfl⟩
  · revert m; exact three (fun _ => rfl) (fun _ => rfl) (fun _ => rfl)
  · rw [cd_0]; rfl
  · rw [Nat.zero_div]; rfl
  · have : nr 0 m = 0 := by revert m; exact three rfl rfl rfl
    rw [this]; rfl
  · rw [Nat.zero_div]; rfl
  · rw [Nat.zero_div] at h; exact absurd h (by decide)
