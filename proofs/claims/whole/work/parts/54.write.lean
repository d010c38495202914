/-! a stripe without what was written; reading for another, writing -/
def rg (n sg : Nat) (th : Int32) (fl : Nat → Int64) (xt : Nat → Int32) (xf : Nat → Int64) (t : Nat) : Prop :=
  t < 2 ^ n ∧ th = nI t ∧ (∀ i, i < n → xt (11 * sg + i) = if t.testBit i then 1 else 0) ∧ ∀ i, i < n → t.testBit i = true → fl i = xf (11 * sg + i)
theorem rg.of {k n sg : Nat} {th : Int32} {wr fl xd : Nat → Int64} {xt : Nat → Int32} {xf : Nat → Int64} {t : Nat} (h : rsx k n sg th wr fl xd xt xf t) : rg n sg th fl xt xf t := ⟨h.1, h.2.1, h.2.2.1, fun i hi hb => (h.2.2.2 i hi hb).1⟩
theorem rg.to {k n sg : Nat} {th : Int32} {wr fl xd : Nat → Int64} {xt : Nat → Int32} {xf : Nat → Int64} {t : Nat} (h : rg n sg th fl xt xf t) (hw : ∀ i, i < n → t.testBit i = true → wr i = gy_d (fun p => xd (6 * sg + p)) (gk_row k i) 6) : rsx k n sg th wr fl xd xt xf t := ⟨h.1, h.2.1, h.2.2.1, fun i hi hb => ⟨h.2.2.2 i hi hb, hw i hi hb⟩⟩
section RGV
variable {n sg : Nat} {th : Int32} {fl : Nat → Int64} {xt ct : Nat → Int32} {xf : Nat → Int64} {t i : Nat} {xa xb xc xe : Int32}
theorem rg.tm (h : rg n sg th fl xt xf t) (hn : n ≤ 11) : t < 2048 ∧ th = nI t := ⟨Nat.lt_of_lt_of_le h.1 (Nat.pow_le_pow_right (n := 2) (by decide) hn), h.2.1⟩
theorem rg.there (h : rg n sg th fl xt xf t) (hn : n ≤ 11) (hi : i < n) : (mm_Sq_isThere i th = (0 : Int32) ↔ t.testBit i = false) ∧ (xt (11 * sg + i) = (0 : Int32) ↔ t.testBit i = false) := by
  obtain ⟨h1, h2⟩ := h.tm hn
  subst h2
  refine ⟨gi_there h1 (by omega), ?_⟩
  rw [h.2.2.1 i hi]
  cases t.testBit i
  · simp
  · simp
theorem rg.lose (hn : n ≤ 11) (hi : i < n) (h : rg n sg th fl xt xf t) : mm_Sq_lose i th = nI (gm_cl t i) ∧ rg n sg (nI (gm_cl t i)) fl (upd xt (11 * sg + i) 0) (vp_updL xf (11 * sg + i) 0) (gm_cl t i) := by
  obtain ⟨h0, h1⟩ := h.tm hn
  refine ⟨by rw [h1, gm_lose t h0 i (by omega)], cl_lt h.1, rfl, fun a ha => ?_, fun a ha hb => ?_⟩
  · rw [cl_bit (by omega) (by omega)]
    by_cases hai : a = i
    · subst hai; rw [pk_us]; simp
    · rw [pk_un (by omega), show decide (a ≠ i) = true from decide_eq_true hai, Bool.and_true]
      exact h.2.2.1 a ha
  · rw [cl_bit (by omega) (by omega), Bool.and_eq_true] at hb
    have hai : a ≠ i := of_decide_eq_true hb.2
    rw [pk_uLn (by omega)]; exact h.2.2.2 a ha hb.1
theorem rg.read (hn : n ≤ 11) (hi : i < n) (h : rg n sg th fl xt xf t) (hb : t.testBit i = true) :
    (fl i = 0 ∧ mm_RG_readShard i ct th fl = (1, upd ct 0 (ct 0 + 1), th) ∧ mm_Mo_rejected sg i xa xt xf = (0, xa + 1, xt, xf)) ∨
    (fl i ≠ 0 ∧ mm_RG_readShard i ct th fl = (0, upd ct 0 (ct 0 + 1), nI (gm_cl t i)) ∧ mm_Mo_rejected sg i xa xt xf = (1, xa + 1, upd xt (11 * sg + i) 0, vp_updL xf (11 * sg + i) 0) ∧ rg n sg (nI (gm_cl t i)) fl (upd xt (11 * sg + i) 0) (vp_updL xf (11 * sg + i) 0) (gm_cl t i)) := by
  have f1 : fl i = xf (11 * sg + i) := h.2.2.2 i hi hb
  obtain ⟨l1, l2⟩ := rg.lose hn hi h
  by_cases hz : fl i = 0
  · refine Or.inl ⟨hz, ?_, ?_⟩
    · rw [mm_RG_readShard, mm_Sq_isDamaged, if_pos ((lg_cmp_eq _ _).mpr hz), if_pos rfl]
    · rw [mm_Mo_rejected, if_pos ((lg_cmp_eq _ _).mpr (f1.symm.trans hz))]
  · refine Or.inr ⟨hz, ?_, ?_, l2⟩
    · rw [mm_RG_readShard, mm_Sq_isDamaged, if_neg (fun h => hz ((lg_cmp_eq _ _).mp h)), if_neg (by decide), l1]
    · rw [mm_Mo_rejected, if_neg (fun h => hz (f1.trans ((lg_cmp_eq _ _).mp h)))]
/-- the counters -/
def rc (ct : Nat → Int32) (xa xb xc xe : Int32) : Prop := ct 0 = xa ∧ ct 1 = xb ∧ ct 2 = xc ∧ ct 3 = xe
theorem rc.rd (h : rc ct xa xb xc xe) : rc (upd ct 0 (ct 0 + 1)) (xa + 1) xb xc xe := ⟨by rw [pk_us, h.1], by rw [pk_un (by decide)]; exact h.2.1, by rw [pk_un (by decide)]; exact h.2.2.1, by rw [pk_un (by decide)]; exact h.2.2.2⟩
theorem rc.wr (h : rc ct xa xb xc xe) : rc (upd ct 1 (ct 1 + 1)) xa (xb + 1) xc xe := ⟨by rw [pk_un (by decide)]; exact h.1, by rw [pk_us, h.2.1], by rw [pk_un (by decide)]; exact h.2.2.1, by rw [pk_un (by decide)]; exact h.2.2.2⟩
theorem rc.cr (h : rc ct xa xb xc xe) : rc (upd ct 2 (ct 2 + 1)) xa xb (xc + 1) xe := ⟨by rw [pk_un (by decide)]; exact h.1, by rw [pk_un (by decide)]; exact h.2.1, by rw [pk_us, h.2.2.1], by rw [pk_un (by decide)]; exact h.2.2.2⟩
theorem rc.pl (h : rc ct xa xb xc xe) : rc (upd ct 3 (ct 3 + 1)) xa xb xc (xe + 1) := ⟨by rw [pk_un (by decide)]; exact h.1, by rw [pk_un (by decide)]; exact h.2.1, by rw [pk_un (by decide)]; exact h.2.2.1, by rw [pk_us, h.2.2.2]⟩
theorem rk_rack (a b : Nat) : (nI (a % 12) / (3 : Int32) = nI (b % 12) / (3 : Int32)) ↔ (nI (a % 12 / 3) = nI (b % 12 / 3)) := by
  have h : ∀ c, nI (c % 12) / (3 : Int32) = nI (c % 12 / 3) := fun c => pk_div (d := 3) (by omega) (by decide) (by decide)
  rw [h, h]
theorem rg.readFor {q : Nat} (hn : n ≤ 11) (hi : i < n) (h : rg n sg th fl xt xf t) (hb : t.testBit i = true) (hc : rc ct xa xb xc xe) : ∃ ct' xa' xc', rc ct' xa' xb xc' xe ∧
    ((fl i = 0 ∧ mm_RG_readShardFor i q (5 * sg) ct th fl = (1, ct', th) ∧ mm_Mo_rejectedFor sg i q xa xc xt xf = (0, xa', xc', xt, xf)) ∨
    (fl i ≠ 0 ∧ mm_RG_readShardFor i q (5 * sg) ct th fl = (0, ct', nI (gm_cl t i)) ∧ mm_Mo_rejectedFor sg i q xa xc xt xf = (1, xa', xc', upd xt (11 * sg + i) 0, vp_updL xf (11 * sg + i) 0) ∧ rg n sg (nI (gm_cl t i)) fl (upd xt (11 * sg + i) 0) (vp_updL xf (11 * sg + i) 0) (gm_cl t i))) := by
  rw [mm_RG_readShardFor, mm_Mo_rejectedFor]
  by_cases hr : nI ((5 * sg + i) % 12) / (3 : Int32) = nI ((5 * sg + q) % 12) / (3 : Int32)
  · rw [if_pos hr, if_pos ((rk_rack _ _).mp hr), Int32.add_zero]
    rcases rg.read (ct := ct) (xa := xa) hn hi h hb with ⟨z, a1, a2⟩ | ⟨z, a1, a2, a3⟩
    · rw [a1, a2]
      exact ⟨_, _, _, hc.rd, Or.inl ⟨z, rfl, rfl⟩⟩
    · rw [a1, a2]
      exact ⟨_, _, _, hc.rd, Or.inr ⟨z, rfl, rfl, a3⟩⟩
  · rw [if_neg hr, if_neg (fun h => hr ((rk_rack _ _).mpr h))]
    rcases rg.read (ct := upd ct 2 (ct 2 + 1)) (xa := xa) hn hi h hb with ⟨z, a1, a2⟩ | ⟨z, a1, a2, a3⟩
    · rw [a1, a2]
      exact ⟨_, _, _, hc.cr.rd, Or.inl ⟨z, rfl, rfl⟩⟩
    · rw [a1, a2]
      exact ⟨_, _, _, hc.cr.rd, Or.inr ⟨z, rfl, rfl, a3⟩⟩
theorem rg.write {wr : Nat → Int64} {v : Int64} (hn : n ≤ 11) (hi : i < n) (h : rg n sg th fl xt xf t) (hc : rc ct xa xb xc xe) : ∃ ct', rc ct' xa (xb + 1) xc xe ∧ mm_RG_writeShard i v ct th wr fl = (ct', nI (t ||| 2 ^ i), vp_updL wr i v, vp_updL fl i 0) ∧
    mm_Mo_written sg i xb xt xf = (xb + 1, upd xt (11 * sg + i) 1, vp_updL xf (11 * sg + i) 0) ∧ rg n sg (nI (t ||| 2 ^ i)) (vp_updL fl i 0) (upd xt (11 * sg + i) 1) (vp_updL xf (11 * sg + i) 0) (t ||| 2 ^ i) := by
  obtain ⟨h0, h1⟩ := h.tm hn
  have hlt : 2 ^ i < 2 ^ n := Nat.pow_lt_pow_right (by decide) hi
  refine ⟨_, hc.wr, ?_, ?_, Nat.or_lt_two_pow h.1 hlt, rfl, fun a ha => ?_, fun a ha hb => ?_⟩
  · rw [mm_RG_writeShard, mm_Sq_store, h1, gm_1 i (by omega), gm_or]
  · rw [mm_Mo_written]
  · rw [Nat.testBit_or]
    by_cases hai : a = i
    · subst hai; rw [pk_us, Nat.testBit_two_pow_self]; simp
    · rw [pk_un (by omega), Nat.testBit_two_pow_of_ne (fun h => hai h.symm), Bool.or_false]
      exact h.2.2.1 a ha
  · by_cases hai : a = i
    · subst hai; rw [pk_uLs, pk_uLs]
    · rw [Nat.testBit_or, Nat.testBit_two_pow_of_ne (fun h => hai h.symm), Bool.or_false] at hb
      rw [pk_uLn hai, pk_uLn (by omega)]
      exact h.2.2.2 a ha hb
end RGV
theorem cl_sub {t i a n : Nat} (hn : n ≤ 11) (hi : i < n) (ha : a < n) (h : (gm_cl t i).testBit a = true) : t.testBit a = true := by
  rw [cl_bit (by omega) (by omega), Bool.and_eq_true] at h
  exact h.1
theorem gy_dup {D : Nat → Int64} {i : Nat} {w r : Int64} : ∀ p, gy_d (va_up D i w) r p = gy_d D r p ^^^ (if i < p then gy_T (gy_a r i) (D i ^^^ w) else 0)
  | 0 => by show (0 : Int64) = 0 ^^^ _; rw [if_neg (Nat.not_lt_zero _), Int64.xor_self]
  | p + 1 => by
    show gy_d (va_up D i w) r p ^^^ gy_T (gy_a r p) (va_up D i w p) = (gy_d D r p ^^^ gy_T (gy_a r p) (D p)) ^^^ _
    rw [gy_dup p]
    by_cases hp : p = i
    · subst hp
      rw [vq_at, if_neg (Nat.lt_irrefl _), if_pos (Nat.lt_succ_self _), gy_Tx (gy_alt r p), Int64.xor_zero, Int64.xor_assoc, ← Int64.xor_assoc (gy_T _ (D p)), Int64.xor_self, Int64.zero_xor]
    · rw [vq_ne hp]
      by_cases hi : i < p
      · rw [if_pos hi, if_pos (by omega), Int64.xor_assoc, Int64.xor_comm (gy_T (gy_a r i) _), ← Int64.xor_assoc]
      · rw [if_neg hi, if_neg (by omega), Int64.xor_zero, Int64.xor_zero]
theorem gk_unit : ∀ k, k < 3 → ∀ i, i < 6 → ∀ p, p < 6 → gy_a (gk_row k i) p = if p = i then 1 else 0 := by decide +kernel
theorem gy_unit {D : Nat → Int64} {k i : Nat} (hk : k < 3) (hi : i < 6) : ∀ p, p ≤ 6 → gy_d D (gk_row k i) p = if i < p then D i else 0
  | 0, _ => by rw [if_neg (Nat.not_lt_zero _)]; rfl
  | p + 1, hp => by
    show gy_d D (gk_row k i) p ^^^ gy_T (gy_a (gk_row k i) p) (D p) = _
    rw [gy_unit hk hi p (by omega), gk_unit k hk i hi p (by omega)]
    by_cases h : p = i
    · subst h; rw [if_neg (Nat.lt_irrefl _), if_pos rfl, if_pos (Nat.lt_succ_self _), gy_T1, Int64.zero_xor]
    · rw [if_neg h, gy_T0, Int64.xor_zero]
      by_cases h2 : i < p
      · rw [if_pos h2, if_pos (by omega)]
      · rw [if_neg h2, if_neg (by omega)]
/-- the loop of put: shards from j on still hold the old data's -/
theorem rd_put {k n sg i : Nat} {w : Int64} {ro xd : Nat → Int64} {xr : Nat → Int32} {D : Nat → Int64} (hk3 : k < 3) (hn : n ≤ 11) (hi : i < 6) (hro : ∀ j, j < n → ro j = gk_row k j) (hxr : ∀ j, j < n → ∀ p, p < 6 → xr (6 * j + p) = nI (gy_a (gk_row k j) p)) :
    ∀ (q j : Nat) (v : Int32) (ct : Nat → Int32) (th : Int32) (wr fl : Nat → Int64) (xa xb xc xe : Int32) (xt : Nat → Int32) (xf : Nat → Int64) (t : Nat), j + q = n → 6 ≤ j → rg n sg th fl xt xf t → rc ct xa xb xc xe → t.testBit i = true → fl i = 0 →
      (∀ a, a < n → t.testBit a = true → wr a = gy_d (if 6 ≤ a ∧ a < j then va_up D i w else D) (gk_row k a) 6) →
      ∃ (t' : Nat) (r : Int32) (ct' : Nat → Int32) (th' : Int32) (wr' fl' : Nat → Int64) (xa' xb' xc' : Int32) (xt' : Nat → Int32) (xf' : Nat → Int64), mm_RG_updateCoded_L7 i (D i ^^^ w) (5 * sg) ro q j v ct th wr fl = (r, ct', th', wr', fl') ∧
        mm_Mo_put_L55 w xr xd sg i q j v xa xb xc xt xf = (match mm_Mo_written sg i xb' xt' xf' with | (b2, t2, f2) => (r, xa', b2, xc', vp_updL xd ((6 * sg) + i) w, t2, f2)) ∧ rg n sg th' fl' xt' xf' t' ∧ rc ct' xa' xb' xc' xe ∧ rf sg xt xt' xf xf' ∧
        ∀ a, a < n → t'.testBit a = true → wr' a = gy_d (if 6 ≤ a then va_up D i w else D) (gk_row k a) 6
  | 0, j, v, ct, th, wr, fl, xa, xb, xc, xe, xt, xf, t, hj, h6, h, hc, _, _, hw => by
    refine ⟨t, v, ct, th, wr, fl, xa, xb, xc, xt, xf, by rw [mm_RG_updateCoded_L7], by rw [mm_Mo_put_L55], h, hc, rf.rfl, fun a ha hb => ?_⟩
    have := hw a ha hb
    by_cases h6a : 6 ≤ a
    · rw [if_pos h6a]; rw [if_pos ⟨h6a, by omega⟩] at this; exact this
    · rw [if_neg h6a]; rw [if_neg (fun h => h6a h.1)] at this; exact this
  | q + 1, j, v, ct, th, wr, fl, xa, xb, xc, xe, xt, xf, t, hj, h6, h, hc, hti, hfi, hw => by
    obtain ⟨e1, e2⟩ := h.there hn (i := j) (by omega)
    have hfac : mm_By_at (ro j) i = nI (gy_a (gk_row k j) i) := by rw [hro j (by omega), gy_at _ (by omega)]
    have hfac2 := hxr j (by omega) i hi
    have hb256 := gy_alt (gk_row k j) i
    rw [mm_RG_updateCoded_L7, mm_Mo_put_L55, hfac, hfac2]
    -- what the invariant is one shard further, when shard j is not there or does not depend on i
    have skip : (t.testBit j = false ∨ gy_a (gk_row k j) i = 0) → ∀ a, a < n → t.testBit a = true → wr a = gy_d (if 6 ≤ a ∧ a < j + 1 then va_up D i w else D) (gk_row k a) 6 := by
      intro hs a ha hb
      have := hw a ha hb
      by_cases haj : a = j
      · subst haj
        rw [if_pos ⟨h6, by omega⟩]
        rw [if_neg (by omega)] at this
        rcases hs with hs | hs
        · rw [hs] at hb; cases hb
        · rw [this, gy_dup, if_pos (by omega), hs, gy_T0, Int64.xor_zero]
      · by_cases h9 : 6 ≤ a ∧ a < j
        · rw [if_pos h9] at this; rw [if_pos ⟨h9.1, by omega⟩]; exact this
        · rw [if_neg h9] at this; rw [if_neg (by omega)]; exact this
    by_cases hf0 : gy_a (gk_row k j) i = 0
    · have z : nI (gy_a (gk_row k j) i) = (0 : Int32) := (nI_byte0 hb256).mpr hf0
      obtain ⟨t', r, ct', th', wr', fl', xa', xb', xc', xt', xf', b1, b2, b3, b4, b5, b6⟩ := rd_put (D := D) (w := w) (xd := xd) hk3 hn hi hro hxr q (j + 1) v ct th wr fl xa xb xc xe xt xf t (by omega) (by omega) h hc hti hfi (skip (Or.inr hf0))
      refine ⟨t', r, ct', th', wr', fl', xa', xb', xc', xt', xf', ?_, ?_, b3, b4, b5, b6⟩
      · rw [if_pos z]; exact b1
      · by_cases hx : xt (11 * sg + j) = 0
        · rw [if_pos hx]; exact b2
        · rw [if_neg hx, if_pos z]; exact b2
    · have z : ¬ nI (gy_a (gk_row k j) i) = (0 : Int32) := fun h => hf0 ((nI_byte0 hb256).mp h)
      rw [if_neg z]
      cases hb : t.testBit j with
      | false =>
        rw [if_pos (e1.mpr hb), if_pos (e2.mpr hb)]
        exact rd_put (D := D) (w := w) (xd := xd) hk3 hn hi hro hxr q (j + 1) v ct th wr fl xa xb xc xe xt xf t (by omega) (by omega) h hc hti hfi (skip (Or.inl hb))
      | true =>
        have nt : ¬ (t.testBit j = false) := by rw [hb]; decide
        rw [if_neg (fun h => nt (e1.mp h)), if_neg (fun h => nt (e2.mp h)), if_neg z]
        obtain ⟨ct1, xa1, xc1, hc1, ⟨hz, a1, a2⟩ | ⟨hz, a1, a2, a3⟩⟩ := rg.readFor (q := i) hn (show j < n by omega) h hb hc
        · rw [a1, a2]
          dsimp only
          rw [if_neg (by decide), if_pos rfl]
          obtain ⟨ct2, hc2, w1, w2, w3⟩ := rg.write (wr := wr) (v := mm_Sq_held j wr fl ^^^ mm_By_times (nI (gy_a (gk_row k j) i)) (D i ^^^ w)) hn (show j < n by omega) h hc1
          rw [w1, w2]
          dsimp only
          have hij : i ≠ j := by omega
          obtain ⟨t', r, ct', th', wr', fl', xa', xb', xc', xt', xf', b1, b2, b3, b4, b5, b6⟩ := rd_put (D := D) (w := w) (xd := xd) hk3 hn hi hro hxr q (j + 1) (v + 1) ct2 _ (vp_updL wr j (mm_Sq_held j wr fl ^^^ mm_By_times (nI (gy_a (gk_row k j) i)) (D i ^^^ w))) _ xa1 _ xc1 xe _ _ _ (by omega) (by omega) w3 hc2 (by rw [Nat.testBit_or, hti]; rfl) (by rw [pk_uLn hij]; exact hfi) (fun a ha hba => by
            by_cases haj : a = j
            · subst haj
              rw [pk_uLs, if_pos ⟨h6, by omega⟩, mm_Sq_held, hz, Int64.xor_zero, hw a ha hb, if_neg (by omega), gy_dup, if_pos (by omega)]
              rfl
            · rw [Nat.testBit_or, Nat.testBit_two_pow_of_ne (fun h => haj h.symm), Bool.or_false] at hba
              rw [pk_uLn haj, hw a ha hba]
              by_cases h9 : 6 ≤ a ∧ a < j
              · rw [if_pos h9, if_pos ⟨h9.1, by omega⟩]
              · rw [if_neg h9, if_neg (by omega)])
          exact ⟨t', r, ct', th', wr', fl', xa', xb', xc', xt', xf', b1, b2, b3, b4, rf.tr (rf.upd (by omega)) b5, b6⟩
        · rw [a1, a2]
          dsimp only
          rw [if_pos rfl, if_neg (by decide)]
          have hij : i ≠ j := by omega
          obtain ⟨t', r, ct', th', wr', fl', xa', xb', xc', xt', xf', b1, b2, b3, b4, b5, b6⟩ := rd_put (D := D) (w := w) (xd := xd) hk3 hn hi hro hxr q (j + 1) v ct1 _ wr fl xa1 xb xc1 xe _ _ _ (by omega) (by omega) a3 hc1 (by rw [cl_bit (by omega) (by omega), hti, decide_eq_true hij]; rfl) hfi (fun a ha hba => by
            have haj : a ≠ j := fun h => by rw [h, cl_bit (by omega) (by omega)] at hba; simp at hba
            rw [hw a ha (cl_sub hn (by omega) ha hba)]
            by_cases h9 : 6 ≤ a ∧ a < j
            · rw [if_pos h9, if_pos ⟨h9.1, by omega⟩]
            · rw [if_neg h9, if_neg (by omega)])
          exact ⟨t', r, ct', th', wr', fl', xa', xb', xc', xt', xf', b1, b2, b3, b4, rf.tr (rf.upd (by omega)) b5, b6⟩
theorem q_y6 (y : Int32) : (y < 0) ∨ (¬ y < 0 ∧ ¬ y < (6 : Int32) ∧ ¬ y ≤ (5 : Int32)) ∨ ∃ i, i < 6 ∧ y = nI i := by
  by_cases h0 : y < 0
  · exact Or.inl h0
  · by_cases h1 : y < (6 : Int32)
    · exact Or.inr (Or.inr (ly_rng (N := 6) h0 h1 (by decide)))
    · refine Or.inr (Or.inl ⟨h0, h1, fun h2 => h1 ?_⟩)
      rw [Int32.le_iff_toInt_le] at h2
      have h3 : (5 : Int32).toInt = 5 := by decide
      have h4 : (6 : Int32).toInt = 6 := by decide
      rw [Int32.lt_iff_toInt_lt]
      omega
theorem q_i6 : ∀ i, i < 6 → ¬ nI i < 0 ∧ nI i < (6 : Int32) ∧ nI i ≤ (5 : Int32) := by decide +kernel
theorem e_put {n : Nat} {gr al xk : Int32} {ro : Nat → Int64} {xr : Nat → Int32} {lf : Int64} {up : Nat → Int32} {ct : Nat → Int32} {th : Nat → Int32} {wr : Nat → Nat → Int64} {fl : Nat → Nat → Int64} {xa : Int32} {xb : Int32} {xc : Int32} {xe : Int32} {xl : Int64} {xd : Nat → Int64} {xt : Nat → Int32} {xf : Nat → Int64} {xw : Nat → Int32} {x : Int32} {y : Int32} {w : Int64} {r_1 r_2 : Int32} {ct_1 : Nat → Int32} {th_1 : Nat → Int32} {wr_1 : Nat → Nat → Int64} {fl_1 : Nat → Nat → Int64} {xa_2 : Int32} {xb_2 : Int32} {xc_2 : Int32} {xd_2 : Nat → Int64} {xt_2 : Nat → Int32} {xf_2 : Nat → Int64} (hrl : (rl n gr ro al xk xr lf up ct th wr fl xa xb xc xe xl xd xt xf xw)) (h1 : (r_1, ct_1, th_1, wr_1, fl_1) = m3_RG_put x y w n ro ct th wr fl) (h2 : (r_2, xa_2, xb_2, xc_2, xd_2, xt_2, xf_2) = mm_Mo_put x y w n xa xb xc xr xd xt xf) : r_1 = r_2 ∧ (rl n gr ro al xk xr lf up ct_1 th_1 wr_1 fl_1 xa_2 xb_2 xc_2 xe xl xd_2 xt_2 xf_2 xw) := by
  obtain ⟨k, hk, hs, hw, hcc⟩ := hrl
  have hn := hk.n
  rw [m3_RG_put, mm_RG_put] at h1
  rw [mm_Mo_put] at h2
  have same : rl n gr ro al xk xr lf up ct (va_up th (sx x) (th (sx x))) (va_up wr (sx x) (wr (sx x))) (va_up fl (sx x) (fl (sx x))) xa xb xc xe xl xd xt xf xw := ⟨k, hk, fun q hq => by rw [vq_same, vq_same, vq_same]; exact hs q hq, hw, hcc⟩
  rcases q_stripe x with ⟨a, b⟩ | ⟨j, hj, rfl⟩
  · rw [if_pos a] at h1
    rw [if_neg b] at h2
    dsimp only at h1
    cases h1; cases h2
    exact ⟨rfl, same⟩
  · obtain ⟨a, b, c⟩ := q_sI j hj
    rw [if_neg (q_ne a)] at h1
    rw [if_pos b] at h2
    rcases q_y6 y with hy | ⟨y0, y1, y2⟩ | ⟨i, hi, rfl⟩
    · rw [if_pos hy] at h1 h2
      dsimp only at h1
      cases h1; cases h2
      exact ⟨rfl, same⟩
    · rw [if_neg y0, if_neg y1] at h1
      rw [if_neg y0, if_neg y2] at h2
      dsimp only at h1
      cases h1; cases h2
      exact ⟨rfl, same⟩
    · obtain ⟨y0, y1, y2⟩ := q_i6 i hi
      rw [if_neg y0, if_pos y1, q_cl (by omega)] at h1
      rw [if_neg y0, if_pos y2, q_cl (by omega), q_cl (by omega)] at h2
      rw [c] at h1 same
      obtain ⟨t, ht⟩ := hs j hj
      have hg := rg.of ht
      obtain ⟨c0, c1, c2, c3, hl⟩ := hcc
      have hc : rc ct xa xb xc xe := ⟨c0, c1, c2, c3⟩
      obtain ⟨e1, e2⟩ := hg.there hn.2 (i := i) (by omega)
      cases htb : t.testBit i with
      | false =>
        rw [if_pos (e1.mpr htb)] at h1
        rw [if_pos (e2.mpr htb)] at h2
        dsimp only at h1
        cases h1; cases h2
        exact ⟨rfl, same⟩
      | true =>
        have nt : ¬ (t.testBit i = false) := by rw [htb]; decide
        rw [if_neg (fun h => nt (e1.mp h))] at h1
        rw [if_neg (fun h => nt (e2.mp h))] at h2
        rcases rg.read (ct := ct) (xa := xa) hn.2 (show i < n by omega) hg htb with ⟨hz, a1, a2⟩ | ⟨hz, a1, a2, a3⟩
        · rw [a1] at h1
          rw [a2] at h2
          dsimp only at h1 h2
          rw [if_neg (by decide)] at h1
          rw [if_pos rfl] at h2
          have hD : mm_Sq_held i (wr j) (fl j) ^^^ w = (fun p => xd (6 * j + p)) i ^^^ w := by
            rw [mm_Sq_held, hz, Int64.xor_zero, (ht.2.2.2 i (by omega) htb).2, gy_unit hk.1 hi 6 (Nat.le_refl _), if_pos hi]
          rw [hD, mm_RG_updateCoded] at h1
          obtain ⟨t', r, ct', th', wr', fl', xa', xb', xc', xt', xf', b1, b2, b3, b4, b5, b6⟩ := rd_put (k := k) (w := w) (xd := xd) (xr := xr) (D := fun p => xd (6 * j + p)) hk.1 hn.2 hi hk.2.2.2.1 hk.2.2.2.2.2.2 (n - 6) 6 0 _ (th j) (wr j) (fl j) _ xb xc xe xt xf t (by omega) (Nat.le_refl _) hg hc.rd htb hz (fun a ha hb => by rw [if_neg (by omega)]; exact (ht.2.2.2 a ha hb).2)
          rw [b1] at h1
          rw [b2] at h2
          dsimp only at h1
          obtain ⟨ct2, hc2, w1, w2, w3⟩ := rg.write (wr := wr') (v := w) hn.2 (show i < n by omega) b3 b4
          rw [w1] at h1
          rw [w2] at h2
          dsimp only at h1 h2
          cases h1; cases h2
          have hfin : rsx k n j (nI (t' ||| 2 ^ i)) (vp_updL wr' i w) (vp_updL fl' i 0) (vp_updL xd (6 * j + i) w) (upd xt' (11 * j + i) 1) (vp_updL xf' (11 * j + i) 0) (t' ||| 2 ^ i) := by
            refine rg.to w3 (fun a ha hb => ?_)
            have hcg : ∀ r, gy_d (fun p => vp_updL xd (6 * j + i) w (6 * j + p)) r 6 = gy_d (va_up (fun p => xd (6 * j + p)) i w) r 6 := fun r => gy_dcg r 6 (fun p hp => by
              by_cases hpi : p = i
              · subst hpi; rw [vq_at, pk_uLs]
              · rw [vq_ne hpi, pk_uLn (by omega)])
            rw [hcg]
            by_cases hai : a = i
            · subst hai; rw [pk_uLs, gy_unit hk.1 hi 6 (Nat.le_refl _), if_pos hi, vq_at]
            · rw [Nat.testBit_or, Nat.testBit_two_pow_of_ne (fun h => hai h.symm), Bool.or_false] at hb
              rw [pk_uLn hai, b6 a ha hb]
              by_cases h6a : 6 ≤ a
              · rw [if_pos h6a]
              · rw [if_neg h6a, gy_unit hk.1 (by omega) 6 (Nat.le_refl _), if_pos (by omega), gy_unit hk.1 (by omega) 6 (Nat.le_refl _), if_pos (by omega), vq_ne hai]
          exact ⟨rfl, k, hk, rl_hs hn.2 hs j hfin (rf.tr b5 (rf.upd (by omega))) (fun c hc => pk_uLn (by omega)), hw, hc2.1, hc2.2.1, hc2.2.2.1, hc2.2.2.2, hl⟩
        · rw [a1] at h1
          rw [a2] at h2
          dsimp only at h1 h2
          rw [if_pos rfl] at h1
          rw [if_neg (by decide)] at h2
          dsimp only at h1
          cases h1; cases h2
          have hfin : rsx k n j (nI (gm_cl t i)) (wr j) (fl j) xd (upd xt (11 * j + i) 0) (vp_updL xf (11 * j + i) 0) (gm_cl t i) := rg.to a3 (fun a ha hb => (ht.2.2.2 a ha (cl_sub hn.2 (show i < n by omega) ha hb)).2)
          exact ⟨rfl, k, hk, rl_hs hn.2 hs j hfin (rf.upd (by omega)) (fun _ _ => rfl), hw, hc.rd.1, hc.rd.2.1, hc.rd.2.2.1, hc.rd.2.2.2, hl⟩
