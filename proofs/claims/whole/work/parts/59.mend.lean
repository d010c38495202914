/-! mending a stripe -/
def lw (P : Nat → Bool) : Nat → Int32 → Int32
  | 0, v => v
  | k + 1, v => if P k then lw P k (nI k) else lw P k v
theorem lw_none {P : Nat → Bool} : ∀ (n : Nat) (v : Int32), (∀ a, a < n → P a = false) → lw P n v = v
  | 0, _, _ => rfl
  | n + 1, v, h => by
    rw [lw, h n (by omega), if_neg (show ¬ (false = true) by decide)]
    exact lw_none n v (fun a ha => h a (by omega))
theorem lw_first {P : Nat → Bool} {j : Nat} (hj : P j = true) (hf : ∀ a, a < j → P a = false) : ∀ (n : Nat) (v : Int32), j < n → lw P n v = nI j
  | 0, _, h => absurd h (Nat.not_lt_zero _)
  | n + 1, v, h => by
    rw [lw]
    rcases Nat.lt_succ_iff_lt_or_eq.mp h with h9 | h9
    · split
      · exact lw_first hj hf n _ h9
      · exact lw_first hj hf n _ h9
    · subst h9
      rw [if_pos hj]
      exact lw_none j _ hf
theorem lw_cg {P Q : Nat → Bool} : ∀ (n : Nat) (v : Int32), (∀ a, a < n → P a = Q a) → lw P n v = lw Q n v
  | 0, _, _ => rfl
  | n + 1, v, h => by
    rw [lw, lw, h n (by omega), lw_cg n _ (fun a ha => h a (by omega)), lw_cg n _ (fun a ha => h a (by omega))]
theorem lw_cases {P : Nat → Bool} : ∀ (n : Nat) (v : Int32), (lw P n v = v ∧ ∀ a, a < n → P a = false) ∨ ∃ a, a < n ∧ P a = true ∧ lw P n v = nI a
  | 0, v => Or.inl ⟨rfl, fun a ha => absurd ha (Nat.not_lt_zero _)⟩
  | n + 1, v => by
    rw [lw]
    cases hb : P n with
    | false =>
      rw [if_neg (show ¬ (false = true) by decide)]
      rcases lw_cases (P := P) n v with ⟨h1, h2⟩ | ⟨a, h1, h2, h3⟩
      · refine Or.inl ⟨h1, fun a ha => ?_⟩
        rcases Nat.lt_succ_iff_lt_or_eq.mp ha with h9 | h9
        · exact h2 a h9
        · subst h9; exact hb
      · exact Or.inr ⟨a, by omega, h2, h3⟩
    | true =>
      rw [if_pos rfl]
      rcases lw_cases (P := P) n (nI n) with ⟨h1, h2⟩ | ⟨a, h1, h2, h3⟩
      · exact Or.inr ⟨n, by omega, hb, h1⟩
      · exact Or.inr ⟨a, by omega, h2, h3⟩
/-- shard a is lost and its node is up -/
def bW (t sg : Nat) (up : Nat → Int32) (a : Nat) : Bool := !t.testBit a && decide (up ((5 * sg + a) % 12) ≠ 0)
def bL (k n t sg : Nat) (up : Nat → Int32) (a : Nat) : Bool := bW t sg up a && decide (gL k n t a ≠ 0)
def bP (k n t sg : Nat) (up : Nat → Int32) (a : Nat) : Bool := bW t sg up a && decide (gP k n t a ≠ 0)
/-- the next shard to be mended -/
def gN (k n t sg : Nat) (up : Nat → Int32) : Int32 := if lw (bL k n t sg up) n (-1) < 0 then lw (bP k n t sg up) n (-1) else lw (bL k n t sg up) n (-1)
theorem bW_t {t sg a : Nat} {up : Nat → Int32} : bW t sg up a = true ↔ t.testBit a = false ∧ up ((5 * sg + a) % 12) ≠ 0 := by
  unfold bW
  rw [Bool.and_eq_true, decide_eq_true_iff]
  cases t.testBit a <;> simp
theorem bB_f {b : Bool} (h : ¬ b = true) : b = false := by cases b <;> simp_all
theorem gN_cases {k n t sg : Nat} {up : Nat → Int32} (hn : n ≤ 11) : gN k n t sg up = -1 ∨ ∃ a, a < n ∧ bW t sg up a = true ∧ gP k n t a ≠ 0 ∧ gN k n t sg up = nI a := by
  have hL : ∀ a, bL k n t sg up a = true → bW t sg up a = true ∧ gP k n t a ≠ 0 := by
    intro a h
    unfold bL at h
    rw [Bool.and_eq_true] at h
    have h2 : gL k n t a ≠ 0 := of_decide_eq_true h.2
    refine ⟨h.1, ?_⟩
    rw [gP, if_neg h2]; exact h2
  have hP : ∀ a, bP k n t sg up a = true → bW t sg up a = true ∧ gP k n t a ≠ 0 := by
    intro a h
    unfold bP at h
    rw [Bool.and_eq_true] at h
    exact ⟨h.1, of_decide_eq_true h.2⟩
  unfold gN
  rcases lw_cases (P := bL k n t sg up) n (-1) with ⟨h1, -⟩ | ⟨a, h1, h2, h3⟩
  · rw [h1, if_pos (by decide)]
    rcases lw_cases (P := bP k n t sg up) n (-1) with ⟨h1, -⟩ | ⟨a, h1, h2, h3⟩
    · exact Or.inl h1
    · exact Or.inr ⟨a, h1, (hP a h2).1, (hP a h2).2, h3⟩
  · rw [h3, if_neg (nI_pos (by omega))]
    exact Or.inr ⟨a, h1, (hL a h2).1, (hL a h2).2, rfl⟩
section MD
variable {k n t sg : Nat} {gr al xk : Int32} {ro sr sv : Nat → Int64} {xr xt up xw : Nat → Int32}
theorem nx_can (ht : t < 2048) {a : Nat} (ha : a < 11) : mm_RG_canBeWritten a (5 * sg) up (nI t) = (0 : Int32) ↔ ¬ bW t sg up a = true := by
  rw [bW_t, mm_RG_canBeWritten]
  cases hb : t.testBit a with
  | false =>
    rw [if_pos ((gi_there ht ha).mpr hb)]
    by_cases hu : up ((5 * sg + a) % 12) = 0
    · rw [if_pos hu]; simp [hu]
    · rw [if_neg hu]; simp [hu]
  | true =>
    have nt : ¬ (t.testBit a = false) := by rw [hb]; decide
    rw [if_neg (fun h => nt ((gi_there ht ha).mp h))]; simp
theorem nx_L12 (hn : n ≤ 11) (ht : t < 2048) : ∀ (q : Nat) (v : Int32), q ≤ n → mm_RG_nextToMend_L12 n (5 * sg) gr ro sr sv up al (nI t) q v = mm_RG_nextToMend_L35 n (5 * sg) gr ro sr sv up al (nI t) (lw (bW t sg up) q v) n 0
  | 0, v, _ => by rw [mm_RG_nextToMend_L12, lw]
  | q + 1, v, hq => by
    rw [mm_RG_nextToMend_L12, lw]
    have hc := nx_can (sg := sg) (up := up) ht (a := q) (by omega)
    by_cases hb : bW t sg up q = true
    · rw [if_neg (fun h => hc.mp h hb), if_pos hb]
      exact nx_L12 hn ht q _ (by omega)
    · rw [if_pos (hc.mpr hb), if_neg hb]
      exact nx_L12 hn ht q _ (by omega)
theorem gM_ne (h : gm_pc (gM k n t) = 6) : gM k n t ≠ 0 := fun hz => by rw [hz] at h; exact absurd h (by decide)
theorem nx_L35 (hk : rk k n gr ro al xk xr) (ht : t < 2 ^ n) : ∀ (q j : Nat), j + q = n → (∀ a, a < j → bL k n t sg up a = false) → ∃ sr' sv', mm_RG_nextToMend_L35 n (5 * sg) gr ro sr sv up al (nI t) (lw (bW t sg up) n (-1)) q j = (gN k n t sg up, sr', sv')
  | 0, j, hj, hf => by
    have hn := hk.n
    have ht2 : t < 2048 := Nat.lt_of_lt_of_le ht (Nat.pow_le_pow_right (n := 2) (by decide) hn.2)
    have hjn : j = n := by omega
    subst hjn
    obtain ⟨sr', sv', c1⟩ := gM_cls (k := k) (t := t) (ro := ro) (sr := sr) (sv := sv) hn.2 hk.2.2.2.1 ht2
    rw [mm_RG_nextToMend_L35, c1]
    dsimp only
    have hle := gM_le (k := k) (t := t) hn.2
    have e6 : nI (gm_pc (gM k j t)) = (6 : Int32) ↔ gm_pc (gM k j t) = 6 := nI_eq (b := 6) (by omega) (by decide)
    rw [mm_RG_globalPlan, gm_bitCount _ (gM_2048 hn.2), gN, lw_none j (-1) hf, if_pos (show (-1 : Int32) < 0 by decide)]
    have hgl : ∀ a, a < j → bW t sg up a = true → gL k j t a = 0 := by
      intro a ha hb
      have := hf a ha
      unfold bL at this
      rw [hb, Bool.true_and] at this
      exact Classical.byContradiction (fun h => (of_decide_eq_false this) h)
    by_cases h6 : gm_pc (gM k j t) = 6
    · rw [if_pos (e6.mpr h6), if_neg (fun h => gM_ne h6 ((nI_m0 (gM_2048 hn.2)).mp h))]
      refine ⟨sr', sv', ?_⟩
      rw [lw_cg (P := bP k j t sg up) (Q := bW t sg up) j (-1) (fun a ha => ?_)]
      unfold bP
      cases hb : bW t sg up a with
      | false => rfl
      | true =>
        rw [gP, if_pos (hgl a ha hb), if_pos h6, decide_eq_true (gM_ne h6)]; rfl
    · rw [if_neg (fun h => h6 (e6.mp h)), if_pos rfl]
      refine ⟨sr', sv', ?_⟩
      rw [lw_none (P := bP k j t sg up) j (-1) (fun a ha => ?_)]
      unfold bP
      cases hb : bW t sg up a with
      | false => rfl
      | true =>
        rw [gP, if_pos (hgl a ha hb), if_neg h6, decide_eq_false (fun h => h rfl)]; rfl
  | q + 1, j, hj, hf => by
    have hn := hk.n
    have ht2 : t < 2048 := Nat.lt_of_lt_of_le ht (Nat.pow_le_pow_right (n := 2) (by decide) hn.2)
    have hl2 : gL k n t j < 2048 := Nat.lt_of_lt_of_le (gL_lt hk (by omega)) (Nat.pow_le_pow_right (n := 2) (by decide) hn.2)
    have hc := nx_can (sg := sg) (up := up) ht2 (a := j) (by omega)
    have hs : bL k n t sg up j = false → ∀ a, a < j + 1 → bL k n t sg up a = false := fun h a ha => by
      rcases Nat.lt_succ_iff_lt_or_eq.mp ha with h9 | h9
      · exact hf a h9
      · subst h9; exact h
    rw [mm_RG_nextToMend_L35, gL_cls hk (show j < n by omega) ht]
    by_cases hb : bW t sg up j = true
    · rw [if_neg (fun h => hc.mp h hb)]
      by_cases hz : gL k n t j = 0
      · rw [if_pos ((nI_m0 hl2).mpr hz)]
        exact nx_L35 hk ht q (j + 1) (by omega) (hs (by unfold bL; rw [hz, decide_eq_false (fun h => h rfl), Bool.and_false]))
      · rw [if_neg (fun h => hz ((nI_m0 hl2).mp h))]
        refine ⟨sr, sv, ?_⟩
        have h1 : bL k n t sg up j = true := by unfold bL; rw [hb, decide_eq_true hz]; rfl
        rw [gN, lw_first h1 hf n (-1) (by omega), if_neg (nI_pos (by omega))]
    · rw [if_pos (hc.mpr hb)]
      exact nx_L35 hk ht q (j + 1) (by omega) (hs (by unfold bL; rw [bB_f hb, Bool.false_and]))
theorem nx_cls (hk : rk k n gr ro al xk xr) (ht : t < 2 ^ n) : ∃ sr' sv', mm_RG_nextToMend n (5 * sg) gr ro sr sv up al (nI t) = (gN k n t sg up, sr', sv') := by
  have hn := hk.n
  have ht2 : t < 2048 := Nat.lt_of_lt_of_le ht (Nat.pow_le_pow_right (n := 2) (by decide) hn.2)
  rw [mm_RG_nextToMend, nx_L12 hn.2 ht2 n (-1) (Nat.le_refl _)]
  exact nx_L35 hk ht n 0 (by omega) (fun a ha => absurd ha (Nat.not_lt_zero _))
theorem nx_w (hw : ∀ x, x < 12 → (xw x = 0 ∧ up x = 1) ∨ (xw x = 1 ∧ up x = 0)) (c : Nat) : xw (c % 12) = 0 ↔ up (c % 12) ≠ 0 := by
  rcases hw (c % 12) (Nat.mod_lt _ (by decide)) with ⟨u, v⟩ | ⟨u, v⟩
  · rw [u, v]; decide
  · rw [u, v]; decide
theorem nx_L68 (hk : rk k n gr ro al xk xr) (hx : ∀ j, j < n → (xt (11 * sg + j) = (0 : Int32) ↔ t.testBit j = false)) (hw : ∀ x, x < 12 → (xw x = 0 ∧ up x = 1) ∨ (xw x = 1 ∧ up x = 0)) : ∀ (q : Nat) (v : Int32), q ≤ n → mm_Mo_next_L68 sg n xk xt xw q v = lw (bL k n t sg up) q v
  | 0, v, _ => by rw [mm_Mo_next_L68, lw]
  | q + 1, v, hq => by
    have ih := fun v => nx_L68 hk hx hw q v (by omega)
    have hxq := hx q (by omega)
    have hwq := nx_w hw (5 * sg + q)
    have hlq := gL_ref (t := t) (sg := sg) (xt := xt) hk (show q < n by omega) hx
    rw [mm_Mo_next_L68, lw]
    cases hb : t.testBit q with
    | true =>
      have nt : ¬ (t.testBit q = false) := by rw [hb]; decide
      have e : bL k n t sg up q = false := by unfold bL bW; rw [hb]; rfl
      rw [if_neg (fun h => nt (hxq.mp h)), e, if_neg (show ¬ (false = true) by decide)]
      exact ih v
    | false =>
      rw [if_pos (hxq.mpr hb)]
      by_cases hu : up ((5 * sg + q) % 12) = 0
      · have e : bL k n t sg up q = false := by unfold bL bW; rw [hu]; simp
        rw [if_neg (fun h => hwq.mp h hu), e, if_neg (show ¬ (false = true) by decide)]
        exact ih v
      · rw [if_pos (hwq.mpr hu)]
        have hW : bW t sg up q = true := bW_t.mpr ⟨hb, hu⟩
        by_cases hz : gL k n t q = 0
        · have e : bL k n t sg up q = false := by unfold bL; rw [hz, decide_eq_false (fun h => h rfl), Bool.and_false]
          rw [if_pos (hlq.mpr hz), e, if_neg (show ¬ (false = true) by decide)]
          exact ih v
        · have e : bL k n t sg up q = true := by unfold bL; rw [hW, decide_eq_true hz]; rfl
          rw [if_neg (fun h => hz (hlq.mp h)), e, if_pos rfl]
          exact ih _
theorem nx_L9 (hk : rk k n gr ro al xk xr) (hx : ∀ j, j < n → (xt (11 * sg + j) = (0 : Int32) ↔ t.testBit j = false)) (hw : ∀ x, x < 12 → (xw x = 0 ∧ up x = 1) ∨ (xw x = 1 ∧ up x = 0)) : ∀ (q : Nat) (v : Int32) (xs xg : Nat) (xp : Nat → Nat) (xq : Nat → Int32) (xv : Nat → Nat) (xo : Nat → Int32), q ≤ n →
    ∃ (xs' xg' : Nat) (xp' : Nat → Nat) (xq' : Nat → Int32) (xv' : Nat → Nat) (xo' : Nat → Int32), mm_Mo_next_L9 sg n xk xr xt xw q v xs xg xp xq xv xo = (lw (bP k n t sg up) q v, xs', xg', xp', xq', xv', xo')
  | 0, v, xs, xg, xp, xq, xv, xo, _ => ⟨xs, xg, xp, xq, xv, xo, by rw [mm_Mo_next_L9, lw]⟩
  | q + 1, v, xs, xg, xp, xq, xv, xo, hq => by
    have hxq := hx q (by omega)
    have hwq := nx_w hw (5 * sg + q)
    rw [mm_Mo_next_L9, lw]
    cases hb : t.testBit q with
    | true =>
      have nt : ¬ (t.testBit q = false) := by rw [hb]; decide
      have e : bP k n t sg up q = false := by unfold bP bW; rw [hb]; rfl
      rw [if_neg (fun h => nt (hxq.mp h)), e, if_neg (show ¬ (false = true) by decide)]
      exact nx_L9 hk hx hw q v xs xg xp xq xv xo (by omega)
    | false =>
      rw [if_pos (hxq.mpr hb)]
      by_cases hu : up ((5 * sg + q) % 12) = 0
      · have e : bP k n t sg up q = false := by unfold bP bW; rw [hu]; simp
        rw [if_neg (fun h => hwq.mp h hu), e, if_neg (show ¬ (false = true) by decide)]
        exact nx_L9 hk hx hw q v xs xg xp xq xv xo (by omega)
      · rw [if_pos (hwq.mpr hu)]
        have hW : bW t sg up q = true := bW_t.mpr ⟨hb, hu⟩
        obtain ⟨r1, xs1, xg1, xp1, xq1, xv1, xo1, r2, r3⟩ := gP_ref (t := t) (sg := sg) (xt := xt) (xg := xg) (xq := xq) (xo := xo) (xp := xp) (xv := xv) hk (show q < n by omega) hx
        rw [r2]
        dsimp only
        rcases r3 with ⟨z, rz⟩ | ⟨z, rz, -⟩
        · have e : bP k n t sg up q = false := by unfold bP; rw [z, decide_eq_false (fun h => h rfl), Bool.and_false]
          rw [if_pos rz, e, if_neg (show ¬ (false = true) by decide)]
          exact nx_L9 hk hx hw q v xs1 xg1 xp1 xq1 xv1 xo1 (by omega)
        · have e : bP k n t sg up q = true := by unfold bP; rw [hW, decide_eq_true z]; rfl
          rw [if_neg (by rw [rz]; decide), e, if_pos rfl]
          exact nx_L9 hk hx hw q _ xs1 xg1 xp1 xq1 xv1 xo1 (by omega)
theorem nx_ref (hk : rk k n gr ro al xk xr) (hx : ∀ j, j < n → (xt (11 * sg + j) = (0 : Int32) ↔ t.testBit j = false)) (hw : ∀ x, x < 12 → (xw x = 0 ∧ up x = 1) ∨ (xw x = 1 ∧ up x = 0)) (xs xg : Nat) (xp : Nat → Nat) (xq : Nat → Int32) (xv : Nat → Nat) (xo : Nat → Int32) :
    ∃ (xs' xg' : Nat) (xp' : Nat → Nat) (xq' : Nat → Int32) (xv' : Nat → Nat) (xo' : Nat → Int32), mm_Mo_next sg n xk xs xg xr xt xw xp xq xv xo = (gN k n t sg up, xs', xg', xp', xq', xv', xo') := by
  obtain ⟨xs', xg', xp', xq', xv', xo', h⟩ := nx_L9 hk hx hw n (-1) xs xg xp xq xv xo (Nat.le_refl _)
  rw [mm_Mo_next, h, nx_L68 hk hx hw n (-1) (Nat.le_refl _), gN]
  dsimp only
  by_cases h0 : lw (bL k n t sg up) n (-1) < 0
  · rw [if_pos h0, if_pos h0]; exact ⟨_, _, _, _, _, _, rfl⟩
  · rw [if_neg h0, if_neg h0]; exact ⟨_, _, _, _, _, _, rfl⟩
end MD
theorem me_L21 {k n sg : Nat} {gr al xk : Int32} {ro xd : Nat → Int64} {xr up xw : Nat → Int32} (hk : rk k n gr ro al xk xr) (hj : sg < 3) (hw : ∀ x, x < 12 → (xw x = 0 ∧ up x = 1) ∨ (xw x = 1 ∧ up x = 0)) :
    ∀ (K K' j j' : Nat) (v v3 : Int32) (rb : Int64) (sr sv : Nat → Int64) (ct : Nat → Int32) (t : Nat) (wr fl : Nat → Int64) (xa xb xc xe : Int32) (xs xg : Nat) (xt : Nat → Int32) (xf : Nat → Int64) (xp : Nat → Nat) (xq : Nat → Int32) (xv : Nat → Nat) (xo : Nat → Int32),
      sm (mw t fl) n < K → sm (mw t fl) n < K' → v3 = gN k n t sg up → rsx k n sg (nI t) wr fl xd xt xf t → rc ct xa xb xc xe →
      ∃ (r : Int32) (rb' : Int64) (sr' sv' : Nat → Int64) (ct' : Nat → Int32) (t' : Nat) (wr' fl' : Nat → Int64) (xa' xb' xc' xe' : Int32) (xs' xg' : Nat) (xt' : Nat → Int32) (xf' : Nat → Int64) (xp' : Nat → Nat) (xq' : Nat → Int32) (xv' : Nat → Nat) (xo' : Nat → Int32),
        mm_RG_mend_L21 n (5 * sg) gr ro up al K j v rb sr sv ct (nI t) wr fl = (r, rb', sr', sv', ct', nI t', wr', fl') ∧
        mm_Mo_mend_L21 n xk xr xw sg K' j' v v3 xa xb xc xe xs xg xt xf xp xq xv xo = (r, xa', xb', xc', xe', xs', xg', xt', xf', xp', xq', xv', xo') ∧
        rsx k n sg (nI t') wr' fl' xd xt' xf' t' ∧ rc ct' xa' xb' xc' xe' ∧ rf sg xt xt' xf xf'
  | 0, _, _, _, _, _, _, _, _, _, _, _, _, _, _, _, _, _, _, _, _, _, _, _, _, h, _, _, _, _ => absurd h (Nat.not_lt_zero _)
  | _ + 1, 0, _, _, _, _, _, _, _, _, _, _, _, _, _, _, _, _, _, _, _, _, _, _, _, _, h, _, _, _ => absurd h (Nat.not_lt_zero _)
  | K + 1, K' + 1, j, j', v, v3, rb, sr, sv, ct, t, wr, fl, xa, xb, xc, xe, xs, xg, xt, xf, xp, xq, xv, xo, hK, hK', hv3, h, hc => by
    have hn := hk.n
    obtain ⟨sr1, sv1, c1⟩ := nx_cls (sg := sg) (sr := sr) (sv := sv) (up := up) hk h.1
    rw [mm_RG_mend_L21, mm_Mo_mend_L21, c1, hv3]
    dsimp only
    rcases gN_cases (k := k) (n := n) (t := t) (sg := sg) (up := up) hn.2 with hz | ⟨a, ha, hWa, hPa, hN⟩
    · rw [hz, if_pos rfl, if_pos (by decide)]
      exact ⟨_, _, _, _, _, t, _, _, _, _, _, _, _, _, _, _, _, _, _, _, rfl, rfl, h, hc, rf.rfl⟩
    · obtain ⟨hta, hua⟩ := bW_t.mp hWa
      have hne : ¬ nI a = (-1 : Int32) := fun h => by
        have : ¬ nI a < 0 := nI_pos (by omega)
        rw [h] at this; exact this (by decide)
      rw [hN, if_neg hne, if_neg (nI_pos (by omega)), q_cl (show a < 12 by omega)]
      obtain ⟨r, rb', sr', sv', ct', t', wr', fl', xa', xb', xc', xe', xs', xg', xt', xf', xp', xq', xv', xo', f1, f2, f3, f4, f5, f6⟩ := re (rb := rb) (sr := sr1) (sv := sv1) (xs := xs) (xg := xg) (xp := xp) (xv := xv) (xq := xq) (xo := xo) (xw := xw) hk hj ha h hc hta ((nx_w hw (5 * sg + a)).mpr hua)
      obtain ⟨xs2, xg2, xp2, xq2, xv2, xo2, g1⟩ := nx_ref (t := t') (sg := sg) (xt := xt') (up := up) (xw := xw) hk (fun q hq => (f3.there hn.2 hq).2) hw xs' xg' xp' xq' xv' xo'
      rw [f1, f2]
      dsimp only
      rw [g1]
      dsimp only
      have fin : ∀ v' : Int32, sm (mw t' fl') n < sm (mw t fl) n →
        ∃ (r : Int32) (rb2 : Int64) (sr2 sv2 : Nat → Int64) (ct2 : Nat → Int32) (t2 : Nat) (wr2 fl2 : Nat → Int64) (xa2 xb2 xc2 xe2 : Int32) (xs3 xg3 : Nat) (xt2 : Nat → Int32) (xf2 : Nat → Int64) (xp3 : Nat → Nat) (xq3 : Nat → Int32) (xv3 : Nat → Nat) (xo3 : Nat → Int32),
          mm_RG_mend_L21 n (5 * sg) gr ro up al K (j + 1) v' rb' sr' sv' ct' (nI t') wr' fl' = (r, rb2, sr2, sv2, ct2, nI t2, wr2, fl2) ∧
          mm_Mo_mend_L21 n xk xr xw sg K' (j' + 1) v' (gN k n t' sg up) xa' xb' xc' xe' xs2 xg2 xt' xf' xp2 xq2 xv2 xo2 = (r, xa2, xb2, xc2, xe2, xs3, xg3, xt2, xf2, xp3, xq3, xv3, xo3) ∧
          rsx k n sg (nI t2) wr2 fl2 xd xt2 xf2 t2 ∧ rc ct2 xa2 xb2 xc2 xe2 ∧ rf sg xt xt2 xf xf2 := by
        intro v' hlt
        obtain ⟨r, rb2, sr2, sv2, ct2, t2, wr2, fl2, xa2, xb2, xc2, xe2, xs3, xg3, xt2, xf2, xp3, xq3, xv3, xo3, e1, e2, e3, e4, e5⟩ := me_L21 (xd := xd) hk hj hw K K' (j + 1) (j' + 1) v' _ rb' sr' sv' ct' t' wr' fl' xa' xb' xc' xe' xs2 xg2 xt' xf' xp2 xq2 xv2 xo2 (by omega) (by omega) rfl f3 f4
        exact ⟨r, rb2, sr2, sv2, ct2, t2, wr2, fl2, xa2, xb2, xc2, xe2, xs3, xg3, xt2, xf2, xp3, xq3, xv3, xo3, e1, e2, e3, e4, rf.tr f5 e5⟩
      rcases f6 with ⟨f6, f7⟩ | ⟨u, f6, u1, u2, f7⟩
      · rw [if_pos (show r < 0 by rw [f6]; decide), if_pos (show r ≤ 0 by rw [f6]; decide), Int32.add_zero]
        exact fin v (f7 hPa)
      · rw [if_neg (show ¬ r < 0 by rw [f6]; exact nI_pos (by omega)), if_neg (show ¬ r ≤ 0 by rw [f6]; exact nI_nle (by omega) (by omega))]
        exact fin (v + 1) f7
theorem e_mend {n : Nat} {gr al xk : Int32} {ro : Nat → Int64} {xr : Nat → Int32} {lf : Int64} {rb : Int64} {sr : Nat → Int64} {sv : Nat → Int64} {up : Nat → Int32} {ct : Nat → Int32} {th : Nat → Int32} {wr : Nat → Nat → Int64} {fl : Nat → Nat → Int64} {xa : Int32} {xb : Int32} {xc : Int32} {xe : Int32} {xl : Int64} {xs : Nat} {xg : Nat} {xd : Nat → Int64} {xt : Nat → Int32} {xf : Nat → Int64} {xw : Nat → Int32} {xp : Nat → Nat} {xq : Nat → Int32} {xv : Nat → Nat} {xo : Nat → Int32} {x : Int32} {r_1 r_2 : Int32} {rb_1 : Int64} {sr_1 : Nat → Int64} {sv_1 : Nat → Int64} {ct_1 : Nat → Int32} {th_1 : Nat → Int32} {wr_1 : Nat → Nat → Int64} {fl_1 : Nat → Nat → Int64} {xa_2 : Int32} {xb_2 : Int32} {xc_2 : Int32} {xe_2 : Int32} {xs_2 : Nat} {xg_2 : Nat} {xt_2 : Nat → Int32} {xf_2 : Nat → Int64} {xp_2 : Nat → Nat} {xq_2 : Nat → Int32} {xv_2 : Nat → Nat} {xo_2 : Nat → Int32} (hrl : (rl n gr ro al xk xr lf up ct th wr fl xa xb xc xe xl xd xt xf xw)) (h1 : (r_1, rb_1, sr_1, sv_1, ct_1, th_1, wr_1, fl_1) = m3_RG_mend x n rb gr ro sr sv up ct al th wr fl) (h2 : (r_2, xa_2, xb_2, xc_2, xe_2, xs_2, xg_2, xt_2, xf_2, xp_2, xq_2, xv_2, xo_2) = mm_Mo_mend x n xk xa xb xc xe xs xg xr xt xf xw xp xq xv xo) : r_1 = r_2 ∧ (rl n gr ro al xk xr lf up ct_1 th_1 wr_1 fl_1 xa_2 xb_2 xc_2 xe_2 xl xd xt_2 xf_2 xw) := by
  obtain ⟨k, hk, hs, hw, c0, c1, c2, c3, hl⟩ := hrl
  have hn := hk.n
  have hc : rc ct xa xb xc xe := ⟨c0, c1, c2, c3⟩
  rw [m3_RG_mend, mm_RG_mend] at h1
  rw [mm_Mo_mend] at h2
  rcases q_stripe x with ⟨a, b⟩ | ⟨j, hj, rfl⟩
  · rw [if_pos a] at h1
    rw [if_neg b] at h2
    dsimp only at h1
    cases h1; cases h2
    refine ⟨rfl, k, hk, fun q hq => ?_, hw, c0, c1, c2, c3, hl⟩
    rw [vq_same, vq_same, vq_same]; exact hs q hq
  · obtain ⟨a, b, c⟩ := q_sI j hj
    obtain ⟨t, ht⟩ := hs j hj
    rw [if_neg (q_ne a), c, ht.2.1] at h1
    rw [if_pos b, q_cl (by omega)] at h2
    obtain ⟨xs', xg', xp', xq', xv', xo', g1⟩ := nx_ref (t := t) (sg := j) (xt := xt) (up := up) (xw := xw) hk (fun q hq => (ht.there hn.2 hq).2) hw xs xg xp xq xv xo
    rw [g1] at h2
    dsimp only at h2
    have ht' := ht
    rw [ht.2.1] at ht'
    have hle := sm_le (w := mw t (fl j)) (c := 2) n (fun b _ => mw_le t (fl j) b)
    obtain ⟨r, rb2, sr2, sv2, ct2, t2, wr2, fl2, xa2, xb2, xc2, xe2, xs3, xg3, xt2, xf2, xp3, xq3, xv3, xo3, e1, e2, e3, e4, e5⟩ := me_L21 (xd := xd) hk hj hw 64 50 0 0 0 _ rb sr sv ct t (wr j) (fl j) xa xb xc xe xs' xg' xt xf xp' xq' xv' xo' (by omega) (by omega) rfl ht' hc
    rw [e1] at h1
    rw [e2] at h2
    dsimp only at h1
    cases h1; cases h2
    exact ⟨rfl, k, hk, rl_hs hn.2 hs j e3 e5 (fun _ _ => rfl), hw, e4.1, e4.2.1, e4.2.2.1, e4.2.2.2, hl⟩
