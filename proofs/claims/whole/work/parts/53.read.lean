/-! reading a shard, on both sides -/
theorem cl_b1 : ∀ i, i < 12 → ∀ q, q < 12 → (4095 - 2 ^ i).testBit q = decide (q ≠ i) := by decide +kernel
theorem cl_bit {t i q : Nat} (hi : i < 12) (hq : q < 12) : (gm_cl t i).testBit q = (t.testBit q && decide (q ≠ i)) := by
  unfold gm_cl
  rw [Nat.testBit_and, cl_b1 i hi q hq]
theorem cl_lt {t i N : Nat} (h : t < N) : gm_cl t i < N := Nat.lt_of_le_of_lt Nat.and_le_left h
theorem gy_dcg {D D' : Nat → Int64} (r : Int64) : ∀ p, (∀ q, q < p → D q = D' q) → gy_d D r p = gy_d D' r p
  | 0, _ => rfl
  | p + 1, h => by
    show gy_d D r p ^^^ gy_T (gy_a r p) (D p) = gy_d D' r p ^^^ gy_T (gy_a r p) (D' p)
    rw [gy_dcg r p (fun q hq => h q (by omega)), h p (by omega)]
/-- the cells of stripe j in the reference's arrays alone have changed -/
def rf (j : Nat) (xt xt' : Nat → Int32) (xf xf' : Nat → Int64) : Prop := ∀ c, (c < 11 * j ∨ 11 * j + 11 ≤ c) → xt' c = xt c ∧ xf' c = xf c
theorem rf.rfl {j : Nat} {xt : Nat → Int32} {xf : Nat → Int64} : rf j xt xt xf xf := fun _ _ => ⟨Eq.refl _, Eq.refl _⟩
theorem rf.tr {j : Nat} {xt xt' xt2 : Nat → Int32} {xf xf' xf2 : Nat → Int64} (h : rf j xt xt' xf xf') (h2 : rf j xt' xt2 xf' xf2) : rf j xt xt2 xf xf2 := fun c hc => ⟨((h2 c hc).1).trans (h c hc).1, ((h2 c hc).2).trans (h c hc).2⟩
theorem rf.upd {j i : Nat} {xt : Nat → Int32} {xf : Nat → Int64} {a : Int32} {b : Int64} (hi : i < 11) : rf j xt (upd xt (11 * j + i) a) xf (vp_updL xf (11 * j + i) b) := fun c hc => ⟨pk_un (by omega), pk_uLn (by omega)⟩
abbrev rsx (k n sg : Nat) (th : Int32) (wr fl : Nat → Int64) (xd : Nat → Int64) (xt : Nat → Int32) (xf : Nat → Int64) (t : Nat) : Prop := rs k n th wr fl (fun p => xd (6 * sg + p)) (fun i => xt (11 * sg + i)) (fun i => xf (11 * sg + i)) t
theorem rl_hs {k n : Nat} {th : Nat → Int32} {wr fl : Nat → Nat → Int64} {xd xd' : Nat → Int64} {xt xt' : Nat → Int32} {xf xf' : Nat → Int64} {th' : Int32} {wr' fl' : Nat → Int64} {t : Nat} (hn : n ≤ 11) (hs : ∀ q, q < 3 → ∃ t, rsx k n q (th q) (wr q) (fl q) xd xt xf t) (j : Nat)
    (h : rsx k n j th' wr' fl' xd' xt' xf' t) (hx : rf j xt xt' xf xf') (hd : ∀ c, (c < 6 * j ∨ 6 * j + 6 ≤ c) → xd' c = xd c) : ∀ q, q < 3 → ∃ t, rsx k n q (va_up th j th' q) (va_up wr j wr' q) (va_up fl j fl' q) xd' xt' xf' t := by
  intro q hq
  by_cases hqj : q = j
  · subst hqj
    rw [vq_at, vq_at, vq_at]
    exact ⟨t, h⟩
  · rw [vq_ne hqj, vq_ne hqj, vq_ne hqj]
    obtain ⟨t', h1, h2, h3, h4⟩ := hs q hq
    refine ⟨t', h1, h2, fun i hi => ?_, fun i hi hb => ?_⟩
    · show xt' (11 * q + i) = _
      rw [(hx _ (by omega)).1]; exact h3 i hi
    · obtain ⟨f1, f2⟩ := h4 i hi hb
      refine ⟨?_, ?_⟩
      · show fl q i = xf' (11 * q + i)
        rw [(hx _ (by omega)).2]; exact f1
      · rw [f2]
        exact gy_dcg _ 6 (fun p hp => (hd _ (by omega)).symm)
theorem rd_lose {k n sg : Nat} {th : Int32} {wr fl xd : Nat → Int64} {xt : Nat → Int32} {xf : Nat → Int64} {t i : Nat} (hn : n ≤ 11) (hi : i < n) (h : rsx k n sg th wr fl xd xt xf t) : mm_Sq_lose i th = nI (gm_cl t i) ∧ rsx k n sg (nI (gm_cl t i)) wr fl xd (upd xt (11 * sg + i) 0) (vp_updL xf (11 * sg + i) 0) (gm_cl t i) := by
  obtain ⟨h0, h1⟩ := h.th hn
  refine ⟨by rw [h1, gm_lose t h0 i (by omega)], cl_lt h.1, rfl, fun a ha => ?_, fun a ha hb => ?_⟩
  · show upd xt (11 * sg + i) 0 (11 * sg + a) = _
    rw [cl_bit (by omega) (by omega)]
    by_cases hai : a = i
    · subst hai; rw [pk_us]; simp
    · rw [pk_un (by omega)]
      have := h.2.2.1 a ha
      rw [show decide (a ≠ i) = true from decide_eq_true hai, Bool.and_true]
      exact this
  · rw [cl_bit (by omega) (by omega), Bool.and_eq_true] at hb
    have hai : a ≠ i := of_decide_eq_true hb.2
    obtain ⟨f1, f2⟩ := h.2.2.2 a ha hb.1
    refine ⟨?_, f2⟩
    show fl a = vp_updL xf (11 * sg + i) 0 (11 * sg + a)
    rw [pk_uLn (by omega)]; exact f1
theorem rd1 {k n sg : Nat} {th : Int32} {wr fl xd : Nat → Int64} {xt ct : Nat → Int32} {xf : Nat → Int64} {t i : Nat} {xa : Int32} (hn : n ≤ 11) (hi : i < n) (h : rsx k n sg th wr fl xd xt xf t) (hb : t.testBit i = true) :
    (fl i = 0 ∧ xf (11 * sg + i) = 0 ∧ mm_RG_readShard i ct th fl = (1, upd ct 0 (ct 0 + 1), th) ∧ mm_Mo_rejected sg i xa xt xf = (0, xa + 1, xt, xf)) ∨
    (fl i ≠ 0 ∧ mm_RG_readShard i ct th fl = (0, upd ct 0 (ct 0 + 1), nI (gm_cl t i)) ∧ mm_Mo_rejected sg i xa xt xf = (1, xa + 1, upd xt (11 * sg + i) 0, vp_updL xf (11 * sg + i) 0) ∧ rsx k n sg (nI (gm_cl t i)) wr fl xd (upd xt (11 * sg + i) 0) (vp_updL xf (11 * sg + i) 0) (gm_cl t i)) := by
  have f1 : fl i = xf (11 * sg + i) := (h.2.2.2 i hi hb).1
  obtain ⟨l1, l2⟩ := rd_lose hn hi h
  by_cases hz : fl i = 0
  · refine Or.inl ⟨hz, f1.symm.trans hz, ?_, ?_⟩
    · rw [mm_RG_readShard, mm_Sq_isDamaged, if_pos ((lg_cmp_eq _ _).mpr hz), if_pos rfl]
    · rw [mm_Mo_rejected, if_pos ((lg_cmp_eq _ _).mpr (f1.symm.trans hz))]
  · refine Or.inr ⟨hz, ?_, ?_, l2⟩
    · rw [mm_RG_readShard, mm_Sq_isDamaged, if_neg (fun h => hz ((lg_cmp_eq _ _).mp h)), if_neg (by decide), l1]
    · rw [mm_Mo_rejected, if_neg (fun h => hz (f1.trans ((lg_cmp_eq _ _).mp h)))]
theorem rd_scrub {k n sg : Nat} {wr fl xd : Nat → Int64} (hn : n ≤ 11) : ∀ (q j : Nat) (v : Int32) (ct : Nat → Int32) (th : Int32) (xa : Int32) (xt : Nat → Int32) (xf : Nat → Int64) (t : Nat), j + q = n → rsx k n sg th wr fl xd xt xf t → ct 0 = xa →
    ∃ t' r ct' th' xa' xt' xf', mm_RG_scrub_L21 fl q j v ct th = (r, ct', th') ∧ mm_Mo_scrub_L14 sg q j v xa xt xf = (r, xa', xt', xf') ∧ rsx k n sg th' wr fl xd xt' xf' t' ∧ ct' 0 = xa' ∧ (∀ c, c ≠ 0 → ct' c = ct c) ∧ rf sg xt xt' xf xf'
  | 0, j, v, ct, th, xa, xt, xf, t, _, h, hc => ⟨t, v, ct, th, xa, xt, xf, by rw [mm_RG_scrub_L21], by rw [mm_Mo_scrub_L14], h, hc, fun _ _ => rfl, rf.rfl⟩
  | q + 1, j, v, ct, th, xa, xt, xf, t, hj, h, hc => by
    obtain ⟨e1, e2⟩ := h.there hn (i := j) (by omega)
    rw [mm_RG_scrub_L21, mm_Mo_scrub_L14]
    cases hb : t.testBit j with
    | false =>
      rw [if_pos (e1.mpr hb), if_pos (e2.mpr hb), Int32.add_zero]
      exact rd_scrub hn q (j + 1) v ct th xa xt xf t (by omega) h hc
    | true =>
      have nt : ¬ (t.testBit j = false) := by rw [hb]; decide
      rw [if_neg (fun h => nt (e1.mp h)), if_neg (fun h => nt (e2.mp h))]
      have hc' : ∀ ct : Nat → Int32, ct 0 = xa → upd ct 0 (ct 0 + 1) 0 = xa + 1 := fun ct h => by rw [pk_us, h]
      rcases rd1 (ct := ct) (xa := xa) hn (show j < n by omega) h hb with ⟨-, -, a1, a2⟩ | ⟨-, a1, a2, a3⟩
      · rw [a1, a2]
        dsimp only
        rw [if_neg (by decide), if_pos rfl, Int32.add_zero]
        obtain ⟨t', r, ct', th', xa', xt', xf', b1, b2, b3, b4, b5, b6⟩ := rd_scrub hn q (j + 1) v _ th _ xt xf t (by omega) h (hc' ct hc)
        exact ⟨t', r, ct', th', xa', xt', xf', b1, b2, b3, b4, fun c hc => (b5 c hc).trans (pk_un hc), b6⟩
      · rw [a1, a2]
        dsimp only
        rw [if_pos rfl, if_neg (by decide)]
        obtain ⟨t', r, ct', th', xa', xt', xf', b1, b2, b3, b4, b5, b6⟩ := rd_scrub hn q (j + 1) (v + 1) _ _ _ _ _ _ (by omega) a3 (hc' ct hc)
        exact ⟨t', r, ct', th', xa', xt', xf', b1, b2, b3, b4, fun c hc => (b5 c hc).trans (pk_un hc), rf.tr (rf.upd (by omega)) b6⟩
theorem e_scrub {n : Nat} {gr al xk : Int32} {ro : Nat → Int64} {xr : Nat → Int32} {lf : Int64} {up : Nat → Int32} {ct : Nat → Int32} {th : Nat → Int32} {wr : Nat → Nat → Int64} {fl : Nat → Nat → Int64} {xa : Int32} {xb : Int32} {xc : Int32} {xe : Int32} {xl : Int64} {xd : Nat → Int64} {xt : Nat → Int32} {xf : Nat → Int64} {xw : Nat → Int32} {x : Int32} {r_1 r_2 : Int32} {ct_1 : Nat → Int32} {th_1 : Nat → Int32} {xa_2 : Int32} {xt_2 : Nat → Int32} {xf_2 : Nat → Int64} (hrl : (rl n gr ro al xk xr lf up ct th wr fl xa xb xc xe xl xd xt xf xw)) (h1 : (r_1, ct_1, th_1) = m3_RG_scrub x n ct th fl) (h2 : (r_2, xa_2, xt_2, xf_2) = mm_Mo_scrub x n xa xt xf) : r_1 = r_2 ∧ (rl n gr ro al xk xr lf up ct_1 th_1 wr fl xa_2 xb xc xe xl xd xt_2 xf_2 xw) := by
  obtain ⟨k, hk, hs, hw, c0, c1, c2, c3, hl⟩ := hrl
  have hn := hk.n
  rw [m3_RG_scrub, mm_RG_scrub] at h1
  rw [mm_Mo_scrub] at h2
  rcases q_stripe x with ⟨a, b⟩ | ⟨j, hj, rfl⟩
  · rw [if_pos a] at h1
    rw [if_neg b] at h2
    dsimp only at h1
    cases h1; cases h2
    refine ⟨rfl, k, hk, fun q hq => ?_, hw, c0, c1, c2, c3, hl⟩
    rw [vq_same]; exact hs q hq
  · obtain ⟨a, b, c⟩ := q_sI j hj
    obtain ⟨t, ht⟩ := hs j hj
    rw [if_neg (q_ne a), c] at h1
    rw [if_pos b, q_cl (by omega)] at h2
    obtain ⟨t', r, ct', th', xa', xt', xf', b1, b2, b3, b4, b5, b6⟩ := rd_scrub hn.2 n 0 0 ct (th j) xa xt xf t (by omega) ht c0
    rw [b1] at h1
    rw [b2] at h2
    dsimp only at h1
    cases h1; cases h2
    have hz := rl_hs hn.2 hs j b3 b6 (fun _ _ => rfl)
    refine ⟨rfl, k, hk, fun q hq => ?_, hw, b4, (b5 1 (by decide)).trans c1, (b5 2 (by decide)).trans c2, (b5 3 (by decide)).trans c3, hl⟩
    obtain ⟨t2, h2⟩ := hz q hq
    rw [vq_same, vq_same] at h2
    exact ⟨t2, h2⟩
