theorem orig {e t : Nat} (he : e < 8000) (ht : t < 10) : (nI e <<< ((4 : Int32) &&& 31)) ||| nI t = nI (16 * ((10 * e + t) / 10) + (10 * e + t) % 10) := by
  rw [show (4 : Int32) &&& 31 = nI 4 from rfl, N_shl (by omega) (by omega), N_or, show e * 2 ^ 4 = 2 ^ 4 * e from Nat.mul_comm _ _, ← Nat.two_pow_add_eq_or_of_lt (by omega)]
  exact congrArg nI (by omega)
theorem cs_free {A : Nat → Nat → Nat} {nl nm N s : Nat} (h : cs A nl nm N s = true) : (∀ m, m < 3 → s = m + 1 → nr N m = 0 ∧ m < nm) ∧ (∀ l, l < 6 → s = l + 4 → N / 2 ^ l % 2 = 0 ∧ l < nl) := by
  constructor
  · rintro m hm rfl
    rw [Nat.add_comm, cs_m hm] at h
    simp only [Bool.and_eq_true, decide_eq_true_eq] at h
    exact ⟨h.2.1, h.1⟩
  · rintro l hl rfl
    rw [Nat.add_comm, cs_l] at h
    simp only [Bool.and_eq_true, decide_eq_true_eq] at h
    exact ⟨h.2.1, h.1⟩
set_option maxHeartbeats 4000000 in
theorem explore_ok {A : Nat → Nat → Nat} {nl nm : Nat} {σ : Sg} {N N0 mk st : Nat} {ab : Nat → Nat → Bool} {T : Nat → Nat → Nat} {Pn : Nat → Prop} (g h : Int32) (hG : CG A nl nm σ) (hmk : mk < 32768)
    (hP : ∀ N, Pn N → VN nl nm N ∧ cd N ≤ mk) (hab : ∀ N s, s < 10 → ab N s = (cs A nl nm N s && decide (st / 2 ^ s % 2 = 1))) (hT : ∀ N s, Pn N → s < 10 → ab N s = true → Pn (T N s) ∧ nI (cd (nx A N s)) &&& nI mk = nI (cd (T N s))) (h0 : Pn N0) (hN0 : nI (cd N) &&& nI mk = nI (cd N0)) :
    ∃ r, fX4_explore (nI (cd N)) (nI mk) (nI st) g h σ = some r ∧ ((∀ k, k < 13 ∨ 16 < k → r.2 k = σ k) ∧ ((r.1 = -1 ∧ ∀ k, ¬ GP ab T (gl A nm g h) k N0) ∨ ∃ n q ev E, BI ab T Pn N0 E n q ev ∧ QI mk n q ev r.2 ∧ r.1 = nI (n - 1) ∧ gl A nm g h (q (n - 1)) = true ∧ ∀ i, i < n - 1 → gl A nm g h (q i) = false)) := by
  have hA6 : ∀ m, m < 3 → A 6 m ≤ 3 := fun m hm => (hG.1.2 m hm).2.2.2
  unfold fX4_explore
  rw [hN0, sv_ok]
  obtain ⟨⟨v, τ0⟩, ef, f1, f2, f3⟩ := forget_ok (σ := σ) hmk
  dsimp only at f1 f2 f3
  rw [ef, bd_ok]
  have hQ0 : QI mk 0 (fun _ => N0) (fun _ => 0) τ0 := by
    refine ⟨f2, by omega, fun i hi => by omega, fun i _ hi => by omega, fun C hC => ?_⟩
    rw [f3 (C / 32) (Nat.div_le_div_right hC), sbt_0]
    exact ⟨fun h => absurd h (by decide), fun ⟨i, hi, _⟩ => by omega⟩
  obtain ⟨τ1, ea, a1, a2⟩ := (add_ok 0 hmk (hP N0 h0).2 hQ0).2 (fun ⟨i, hi, _⟩ => by omega) (by omega)
  rw [ea, bd_ok]
  have hQ1 := a2 N0 0 rfl (fun h => by omega)
  have hq0 : upN (fun _ => N0) 0 N0 0 = N0 := upN_s
  have hB : BI ab T Pn N0 0 1 (upN (fun _ => N0) 0 N0) (upN (fun _ => 0) 0 0) := BI.start h0 _ hq0 _
  have fr1 : ∀ k, k < 13 ∨ 16 < k → τ1 k = σ k := fun k hk => by rw [a1 k hk, f1 k hk]
  rw [reach_ok (hG.cong (fun k hk => fr1 k (by omega))) (hP N0 h0).1, bd_ok]
  cases hgl : gl A nm g h N0
  case true =>
    rw [if_neg (show ¬ nI (b01 true) = 0 by decide)]
    refine ⟨_, rfl, fr1, Or.inr ⟨1, _, _, _, hB, hQ1, rfl, ?_, fun i hi => by omega⟩⟩
    rw [show 1 - 1 = 0 from rfl, hq0]
    exact hgl
  case false =>
    rw [if_pos (show nI (b01 false) = 0 from rfl)]
    refine lpA5 (fun x2 x3 x4 x5 x7 τ => x2 = nI mk ∧ x3 = nI st ∧ g = x4 ∧ h = x5 ∧ ∃ e n q ev, x7 = nI e ∧ e ≤ n ∧ BI ab T Pn N0 (10 * e) n q ev ∧ QI mk n q ev τ ∧ (∀ i, i < n → gl A nm g h (q i) = false) ∧ (∀ k, k < 13 ∨ 16 < k → τ k = σ k)) (fun _ _ _ _ x7 _ => 8001 - x7.toNatClampNeg) _ ?_ FU _ _ _ _ _ _ ⟨rfl, rfl, rfl, rfl, 0, 1, _, _, rfl, by omega, hB, hQ1, fun i hi => by rw [show i = 0 by omega, hq0]; exact hgl, fr1⟩ (Nat.lt_of_le_of_lt (Nat.sub_le _ _) (by decide))
    rintro k39 x2 x3 x4 x5 x7 τ ⟨rfl, rfl, rfl, rfl, e, n, q, ev, rfl, hen, hBI, hQI, hNG, hfr⟩ ih
    have hGτ : CG A nl nm τ := hG.cong (fun k hk => hfr k (by omega))
    have hn8 := hQI.2.1
    unfold fX4_explore_L39 fX4_explore_175
    rw [hQI.1]
    by_cases hc : e = n
    · subst hc
      rw [if_pos (show nI e ≤ nI e by rw [N_le (by omega) (by omega)]; omega)]
      exact ⟨_, rfl, hfr, Or.inl ⟨rfl, hBI.nowhere hNG⟩⟩
    · have hlt : e < n := by omega
      have hPe := hBI.2.1 e hlt
      have hVe := (hP _ hPe).1
      rw [if_neg (show ¬ nI n ≤ nI e by rw [N_le (by omega) (by omega)]; omega), if_neg (show ¬ (8000 : Int32) ≤ nI e by rw [litI, N_le (by omega) (by omega)]; omega), N_gd (by omega) (by omega), N_cl (by omega), hQI.2.2.1 e hlt, steps_ok hGτ hVe, bd_ok, sv_ok, N_gd (by omega) (by omega), hQI.2.2.1 e hlt, ticked_ok, bd_ok, N_and]
      generalize hp : q e = p at hPe hVe
      refine lpA8 (fun x2 x3 x4 x5 x7 x8 x9 x10 τ => x2 = nI mk ∧ x3 = nI st ∧ g = x4 ∧ h = x5 ∧ x7 = nI e ∧ x8 = nI (ms (cs A nl nm p) 10 &&& st) ∧ x9 = nI (cd (tk p)) ∧ ∃ t n q ev, x10 = nI t ∧ t ≤ 10 ∧ e < n ∧ q e = p ∧ BI ab T Pn N0 (10 * e + t) n q ev ∧ QI mk n q ev τ ∧ (∀ i, i < n → gl A nm g h (q i) = false) ∧ (∀ k, k < 13 ∨ 16 < k → τ k = σ k)) (fun _ _ _ _ _ _ _ x10 _ => 11 - x10.toNatClampNeg) _ ?_ FU _ _ _ _ _ _ _ _ _ ⟨rfl, rfl, rfl, rfl, rfl, rfl, rfl, 0, n, q, ev, rfl, by omega, hlt, hp, hBI, hQI, hNG, hfr⟩ (Nat.lt_of_le_of_lt (Nat.sub_le _ _) (by decide))
      clear hBI hQI hNG hfr hGτ hn8 hlt hp hc hen
      rintro k89 x2 x3 x4 x5 x7 x8 x9 x10 τ ⟨rfl, rfl, rfl, rfl, rfl, rfl, rfl, t, n, q, ev, rfl, ht, hlt, hp, hBI, hQI, hNG, hfr⟩ ih2
      have hGτ : CG A nl nm τ := hG.cong (fun k hk => hfr k (by omega))
      have hn8 := hQI.2.1
      have ed : (10 * e + t) / 10 = e ∨ t = 10 := by omega
      unfold fX4_explore_L89
      by_cases h10 : t = 10
      · subst h10
        rw [if_pos (by decide), sv_ok, show (1 : Int32) = nI 1 from rfl, nI_add]
        refine ih _ _ _ _ _ _ ⟨rfl, rfl, rfl, rfl, e + 1, n, q, ev, rfl, by omega, hBI, hQI, hNG, hfr⟩ ?_
        rw [N_cl (by omega), N_cl (by omega)]
        omega
      · have ht10 : t < 10 := by omega
        have ed : (10 * e + t) / 10 = e := by omega
        have em : (10 * e + t) % 10 = t := by omega
        have hlt10 := ms_lt (cs A nl nm p) 10
        have hand : ms (cs A nl nm p) 10 &&& st ≤ ms (cs A nl nm p) 10 := Nat.and_le_left
        have hbit : (ms (cs A nl nm p) 10 &&& st) / 2 ^ t % 2 = b01 (ab p t) := by
          rw [and_bit, hab p t ht10]
          congr 1
          congr 1
          · have := ms_bit (cs A nl nm p) 10 t ht10
            rw [tb_dm] at this
            cases h1 : (ms (cs A nl nm p) 10).testBit t <;> cases h2 : cs A nl nm p t <;> simp [h1, h2, b01] at this ⊢
          · rw [Bool.eq_iff_iff, tb_iff, decide_eq_true_iff]
        have go : ∀ n' q' ev' τ', e < n' → q' e = p → BI ab T Pn N0 (10 * e + t + 1) n' q' ev' → QI mk n' q' ev' τ' → (∀ i, i < n' → gl A nm g h (q' i) = false) → (∀ k, k < 13 ∨ 16 < k → τ' k = σ k) → ∃ r, fX4_explore_163 k39 k89 (nI mk) (nI st) g h (nI e) (nI (ms (cs A nl nm p) 10 &&& st)) (nI (cd (tk p))) (nI t) τ' = some r ∧ ((∀ k, k < 13 ∨ 16 < k → r.2 k = σ k) ∧ ((r.1 = -1 ∧ ∀ k, ¬ GP ab T (gl A nm g h) k N0) ∨ ∃ n q ev E, BI ab T Pn N0 E n q ev ∧ QI mk n q ev r.2 ∧ r.1 = nI (n - 1) ∧ gl A nm g h (q (n - 1)) = true ∧ ∀ i, i < n - 1 → gl A nm g h (q i) = false)) := by
          intro n' q' ev' τ' g1 g2 g3 g4 g5 g6
          unfold fX4_explore_163
          rw [sv_ok, show (1 : Int32) = nI 1 from rfl, nI_add]
          refine ih2 _ _ _ _ _ _ _ _ _ ⟨rfl, rfl, rfl, rfl, rfl, rfl, rfl, t + 1, n', q', ev', rfl, by omega, g1, g2, g3, g4, g5, g6⟩ ?_
          rw [N_cl (by omega), N_cl (by omega)]
          omega
        rw [if_neg (show ¬ (10 : Int32) ≤ nI t by rw [litI, N_le (by omega) (by omega)]; omega), bit_ok (by omega) (by omega), bd_ok, hbit]
        cases hb : ab p t
        · rw [if_pos (show nI (b01 false) = 0 from rfl)]
          exact go n q ev τ hlt hp (hBI.skip (Or.inl (by rw [ed, em, hp]; exact hb))) hQI hNG hfr
        · rw [if_neg (show ¬ nI (b01 true) = 0 by decide)]
          have hcs : cs A nl nm p t = true := by
            have := hab p t ht10
            rw [hb] at this
            simp only [Bool.true_eq, Bool.and_eq_true] at this
            exact this.1
          obtain ⟨c1, c2⟩ := cs_free hcs
          obtain ⟨hPX, hX⟩ := hT p t hPe ht10 hb
          have hVX := (hP _ hPX).1
          rw [ws_ok hA6 ht10 (fun m hm => (hGτ.2.2.2.2.2.2.1 m hm).2.2.2) (fun m hm e => (c1 m hm e).1) (fun l hl e => (c2 l hl e).1), bd_ok, hX, sv_ok, orig (by omega) ht10]
          have hadd := add_ok (nI (16 * ((10 * e + t) / 10) + (10 * e + t) % 10)) hmk (hP _ hPX).2 hQI
          by_cases hin : ∃ i, i < n ∧ cd (q i) = cd (T p t)
          · rw [hadd.1 hin, bd_ok, if_pos (show nI 0 = 0 from rfl)]
            obtain ⟨i, hi, e1⟩ := hin
            exact go n q ev τ hlt hp (hBI.skip (Or.inr ⟨i, hi, by rw [ed, em, hp]; exact cd_inj (hP _ (hBI.2.1 i hi)).1.1 hVX.1 e1⟩)) hQI hNG hfr
          · have hpush := hBI.push (by omega) (by rw [ed, em, hp]; exact hb) (fun j hj e1 => hin ⟨j, hj, by rw [e1, ed, em, hp]⟩) (by rw [ed, em, hp]; exact hPX)
            rw [ed, em, hp] at hpush
            have hn1 : n + 1 ≤ 8000 := php 8000 (n + 1) _ (fun i hi => (hP _ (hpush.2.1 i hi)).1.1) hpush.2.2.1
            obtain ⟨τ', e2, e3, e4⟩ := hadd.2 hin (by omega)
            have hQ' := e4 (T p t) (10 * e + t) rfl (fun _ => rfl)
            have fr' : ∀ k, k < 13 ∨ 16 < k → τ' k = σ k := fun k hk => by rw [e3 k hk, hfr k hk]
            rw [e2, bd_ok, if_neg (show ¬ nI 1 = 0 by decide), reach_ok (hG.cong (fun k hk => fr' k (by omega))) hVX, bd_ok]
            cases hgX : gl A nm g h (T p t)
            · rw [if_pos (show nI (b01 false) = 0 from rfl)]
              refine go (n + 1) _ _ τ' (by omega) (by rw [upN_n (by omega)]; exact hp) hpush hQ' (fun i hi => ?_) fr'
              by_cases ei : i = n
              · subst ei; rw [upN_s]; exact hgX
              · rw [upN_n ei]; exact hNG i (by omega)
            · rw [if_neg (show ¬ nI (b01 true) = 0 by decide), hQ'.1, show (1 : Int32) = nI 1 from rfl, N_sub (by omega)]
              refine ⟨_, rfl, fr', Or.inr ⟨n + 1, _, _, _, hpush, hQ', rfl, ?_, fun i hi => ?_⟩⟩
              · rw [Nat.add_sub_cancel, upN_s]; exact hgX
              · rw [upN_n (by omega)]; exact hNG i (by omega)
