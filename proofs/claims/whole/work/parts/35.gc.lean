/-! six shards that are independent fill the span -/
def gi_c (sr : Nat → Int64) : Nat → Nat
  | 0 => 0
  | p + 1 => gi_c sr p + (if sr p = 0 then 0 else 1)
theorem gi_cle (sr : Nat → Int64) : ∀ N, gi_c sr N ≤ N
  | 0 => Nat.le_refl _
  | N + 1 => by
    have := gi_cle sr N
    rw [gi_c]
    split <;> omega
theorem gi_call {sr : Nat → Int64} : ∀ N, gi_c sr N = N → ∀ p, p < N → sr p ≠ 0
  | 0, _, p, hp => absurd hp (Nat.not_lt_zero _)
  | N + 1, h, p, hp => by
    have hl := gi_cle sr N
    rw [gi_c] at h
    by_cases hz : sr N = 0
    · rw [if_pos hz] at h; omega
    · rw [if_neg hz] at h
      rcases Nat.lt_succ_iff_lt_or_eq.mp hp with h1 | h1
      · exact gi_call N (by omega) p h1
      · subst h1; exact hz
theorem gi_cge {sr : Nat → Int64} {p : Nat} {r : Int64} : ∀ N, N ≤ p → gi_c (vp_updL sr p r) N = gi_c sr N
  | 0, _ => rfl
  | N + 1, h => by
    rw [gi_c, gi_c, gi_cge N (by omega), pk_uLn (by omega)]
theorem gi_cupd {sr : Nat → Int64} {p : Nat} {r : Int64} (h0 : sr p = 0) (hr : r ≠ 0) : ∀ N, p < N → gi_c (vp_updL sr p r) N = gi_c sr N + 1
  | 0, h => absurd h (Nat.not_lt_zero _)
  | N + 1, h => by
    rcases Nat.lt_succ_iff_lt_or_eq.mp h with h1 | h1
    · rw [gi_c, gi_c, gi_cupd h0 hr N h1, pk_uLn (by omega)]; omega
    · subst h1
      rw [gi_c, gi_c, gi_cge p (Nat.le_refl _), pk_uLs, if_neg hr, if_pos h0]
theorem gm_pcor : ∀ j, j < 11 → ∀ m, m < 2 ^ j → gm_pc (m ||| 2 ^ j) = gm_pc m + 1 := by decide +kernel
theorem gi_ne0 {r : Int64} {p : Nat} (h : gy_a r p = 1) : r ≠ 0 := fun h0 => by rw [h0, gy_a0] at h; cases h
theorem gi_cnt {ro : Nat → Int64} {t : Nat} : ∀ (k j m : Nat) (sr : Nat → Int64), j + k ≤ 11 → m < 2 ^ j → gs_P sr → gm_pc m = gi_c sr 6 → gs_P (gi_f ro t k j m sr).2 ∧ gm_pc (gi_f ro t k j m sr).1 = gi_c (gi_f ro t k j m sr).2 6
  | 0, j, m, sr, _, _, hP, hc => by rw [gi_f]; exact ⟨hP, hc⟩
  | k + 1, j, m, sr, hj, hm, hP, hc => by
    have hm1 : m < 2 ^ (j + 1) := Nat.lt_of_lt_of_le hm (Nat.pow_le_pow_right (by decide) (by omega))
    rw [gi_f]
    cases hb : t.testBit j with
    | false =>
      rw [if_neg (show ¬ (false = true) by decide)]
      exact gi_cnt k (j + 1) m sr (by omega) hm1 hP hc
    | true =>
      rw [if_pos (show true = true from rfl)]
      cases ht : gs_tk sr 6 0 (ro j) with
      | none => exact gi_cnt k (j + 1) m sr (by omega) hm1 hP hc
      | some pr =>
        obtain ⟨p, r⟩ := pr
        dsimp only
        have hm2 : m ||| 2 ^ j < 2 ^ (j + 1) := Nat.or_lt_two_pow hm1 (Nat.pow_lt_pow_right (by decide) (by omega))
        obtain ⟨q0, q1, q2⟩ := gs_tkP hP 6 0 (ro j) rfl (fun q hq => absurd hq (Nat.not_lt_zero _)) p r ht
        have hp : p < 6 := gs_tklt 6 0 (ro j) rfl p r ht
        refine gi_cnt k (j + 1) (m ||| 2 ^ j) (vp_updL sr p r) (by omega) hm2 (gs_Pupd hP q1 q2) ?_
        rw [gm_pcor j (by omega) m hm, gi_cupd q0 (gi_ne0 q1) 6 hp, hc]
