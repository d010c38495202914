/-! following plans -/
def sm (w : Nat → Nat) : Nat → Nat
  | 0 => 0
  | n + 1 => sm w n + w n
theorem sm_cg {w w' : Nat → Nat} : ∀ n, (∀ b, b < n → w' b = w b) → sm w' n = sm w n
  | 0, _ => rfl
  | n + 1, h => by rw [sm, sm, sm_cg n (fun b hb => h b (by omega)), h n (by omega)]
theorem sm_ch {w w' : Nat → Nat} {a : Nat} (ha : w' a + 1 = w a) : ∀ n, a < n → (∀ b, b < n → b ≠ a → w' b = w b) → sm w' n + 1 = sm w n
  | 0, h, _ => absurd h (Nat.not_lt_zero _)
  | n + 1, h, hw => by
    rw [sm, sm]
    rcases Nat.lt_succ_iff_lt_or_eq.mp h with h9 | h9
    · have := sm_ch ha n h9 (fun b hb => hw b (by omega))
      rw [hw n (by omega) (by omega)]; omega
    · subst h9
      rw [sm_cg a (fun b hb => hw b (by omega) (by omega))]; omega
theorem sm_le {w : Nat → Nat} {c : Nat} : ∀ n, (∀ b, b < n → w b ≤ c) → sm w n ≤ c * n
  | 0, _ => Nat.zero_le _
  | n + 1, h => by
    have := sm_le n (fun b hb => h b (by omega))
    have := h n (by omega)
    rw [sm, Nat.mul_succ]; omega
/-- weights: a shard that is there and damaged, a lost one -/
def wd (t : Nat) (fl : Nat → Int64) (a : Nat) : Nat := if t.testBit a then (if fl a = 0 then 0 else 1) else 0
def mw (t : Nat) (fl : Nat → Int64) (a : Nat) : Nat := if t.testBit a then (if fl a = 0 then 0 else 2) else 1
theorem wd_le (t : Nat) (fl : Nat → Int64) (a : Nat) : wd t fl a ≤ 1 := by unfold wd; split; split <;> decide; decide
theorem mw_le (t : Nat) (fl : Nat → Int64) (a : Nat) : mw t fl a ≤ 2 := by unfold mw; split; split <;> decide; decide
theorem wd_lose {t n a : Nat} {fl : Nat → Int64} (hn : n ≤ 11) (ha : a < n) (hb : t.testBit a = true) (hf : fl a ≠ 0) : sm (wd (gm_cl t a) fl) n + 1 = sm (wd t fl) n := by
  refine sm_ch (a := a) ?_ n ha (fun b hb9 hba => ?_)
  · unfold wd
    rw [cl_bit (by omega) (by omega), hb, decide_eq_false (fun h => h rfl), if_neg (show ¬ ((true && false) = true) by decide), if_pos rfl, if_neg hf]
  · unfold wd
    rw [cl_bit (by omega) (by omega), decide_eq_true hba, Bool.and_true]
theorem mw_lose {t n a : Nat} {fl : Nat → Int64} (hn : n ≤ 11) (ha : a < n) (hb : t.testBit a = true) (hf : fl a ≠ 0) : sm (mw (gm_cl t a) fl) n + 1 = sm (mw t fl) n := by
  refine sm_ch (a := a) ?_ n ha (fun b hb9 hba => ?_)
  · unfold mw
    rw [cl_bit (by omega) (by omega), hb, decide_eq_false (fun h => h rfl), if_neg (show ¬ ((true && false) = true) by decide), if_pos rfl, if_neg hf]
  · unfold mw
    rw [cl_bit (by omega) (by omega), decide_eq_true hba, Bool.and_true]
theorem mw_write {t n a : Nat} {fl : Nat → Int64} (ha : a < n) (hb : t.testBit a = false) : sm (mw (t ||| 2 ^ a) (vp_updL fl a 0)) n + 1 = sm (mw t fl) n := by
  refine sm_ch (a := a) ?_ n ha (fun b hb9 hba => ?_)
  · unfold mw
    rw [Nat.testBit_or, Nat.testBit_two_pow_self, Bool.or_true, if_pos rfl, pk_uLs, if_pos rfl, hb, if_neg (show ¬ (false = true) by decide)]
  · unfold mw
    rw [Nat.testBit_or, Nat.testBit_two_pow_of_ne (fun h => hba h.symm), Bool.or_false, pk_uLn hba]
theorem fo_L43 {sg i n : Nat} {xp : Nat → Nat} {xa xc : Int32} {xt : Nat → Int32} {xf : Nat → Int64} : ∀ (k j : Nat), mm_Mo_follow_L43 sg i n xp k j 0 xa xc xt xf = (0, xa, xc, xt, xf)
  | 0, j => by rw [mm_Mo_follow_L43]
  | k + 1, j => by rw [mm_Mo_follow_L43, if_pos rfl]
theorem rp_L3 {sg i n m t xs : Nat} {xp : Nat → Nat} {th xb xe : Int32} {fl : Nat → Int64} {xt : Nat → Int32} {xf : Nat → Int64} (hn : 10 ≤ n ∧ n ≤ 11) (hm : m < 2 ^ n) (hp : pls m n xs xp) (hsub : ∀ q, q < n → m.testBit q = true → t.testBit q = true) (h : rg n sg th fl xt xf t) :
    ∀ (q j : Nat) (ct : Nat → Int32) (xa xc : Int32), j + q = n → rc ct xa xb xc xe → ∃ (ct' : Nat → Int32) (xa' xc' : Int32), rc ct' xa' xb xc' xe ∧
      (((∀ a, j ≤ a → a < n → m.testBit a = true → fl a = 0) ∧ mm_RG_readPlan_L3 (nI m) i (5 * sg) fl q j ct th = (1, ct', th) ∧ mm_Mo_follow_L43 sg i n xp (xs - cb m j) (cb m j) 1 xa xc xt xf = (1, xa', xc', xt, xf)) ∨
       ∃ a, a < n ∧ m.testBit a = true ∧ fl a ≠ 0 ∧ mm_RG_readPlan_L3 (nI m) i (5 * sg) fl q j ct th = (0, ct', nI (gm_cl t a)) ∧ mm_Mo_follow_L43 sg i n xp (xs - cb m j) (cb m j) 1 xa xc xt xf = (0, xa', xc', upd xt (11 * sg + a) 0, vp_updL xf (11 * sg + a) 0) ∧
         rg n sg (nI (gm_cl t a)) fl (upd xt (11 * sg + a) 0) (vp_updL xf (11 * sg + a) 0) (gm_cl t a))
  | 0, j, ct, xa, xc, hj, hc => by
    have hjn : j = n := by omega
    refine ⟨ct, xa, xc, hc, Or.inl ⟨fun a h1 h2 => by omega, by rw [mm_RG_readPlan_L3], ?_⟩⟩
    rw [hp.1, hjn, Nat.sub_self, mm_Mo_follow_L43]
  | q + 1, j, ct, xa, xc, hj, hc => by
    have hm2 : m < 2048 := Nat.lt_of_lt_of_le hm (Nat.pow_le_pow_right (n := 2) (by decide) hn.2)
    have hin := gm_isIn m hm2 j (by omega)
    rw [mm_RG_readPlan_L3]
    cases hb : m.testBit j with
    | false =>
      rw [hb, if_neg (show ¬ (false = true) by decide)] at hin
      rw [if_pos hin]
      have e : cb m (j + 1) = cb m j := by rw [cb, hb, if_neg (show ¬ (false = true) by decide)]
      obtain ⟨ct', xa', xc', a1, a2⟩ := rp_L3 (i := i) hn hm hp hsub h q (j + 1) ct xa xc (by omega) hc
      rw [e] at a2
      refine ⟨ct', xa', xc', a1, ?_⟩
      rcases a2 with ⟨b1, b2, b3⟩ | a2
      · refine Or.inl ⟨fun a h1 h2 h3 => ?_, b2, b3⟩
        rcases Nat.lt_or_eq_of_le h1 with h9 | h9
        · exact b1 a h9 h2 h3
        · subst h9; rw [hb] at h3; cases h3
      · exact Or.inr a2
    | true =>
      rw [hb, if_pos (show true = true from rfl)] at hin
      rw [if_neg (q_ne hin)]
      have e : cb m (j + 1) = cb m j + 1 := by rw [cb, if_pos hb]
      have hlt : cb m (j + 1) ≤ cb m n := cb_mono n (by omega)
      have e2 : xs - cb m j = (xs - cb m (j + 1)) + 1 := by rw [hp.1]; omega
      rw [e2, mm_Mo_follow_L43, if_neg (by decide), hp.2 j (by omega) hb, Nat.mod_eq_of_lt (show j < n by omega)]
      obtain ⟨ct1, xa1, xc1, hc1, ⟨hz, a1, a2⟩ | ⟨hz, a1, a2, a3⟩⟩ := rg.readFor (q := i) hn.2 (show j < n by omega) h (hsub j (by omega) hb) hc
      · rw [a1, a2]
        dsimp only
        rw [if_neg (by decide), if_pos rfl]
        obtain ⟨ct', xa', xc', b1, b2⟩ := rp_L3 (i := i) hn hm hp hsub h q (j + 1) ct1 xa1 xc1 (by omega) hc1
        rw [← e]
        refine ⟨ct', xa', xc', b1, ?_⟩
        rcases b2 with ⟨d1, d2, d3⟩ | b2
        · refine Or.inl ⟨fun a h1 h2 h3 => ?_, d2, d3⟩
          rcases Nat.lt_or_eq_of_le h1 with h9 | h9
          · exact d1 a h9 h2 h3
          · subst h9; exact hz
        · exact Or.inr b2
      · rw [a1, a2]
        dsimp only
        rw [if_pos rfl, if_neg (by decide), fo_L43]
        exact ⟨ct1, xa1, xc1, hc1, Or.inr ⟨j, by omega, hb, hz, rfl, rfl, a3⟩⟩
theorem dc_val {k n i x : Nat} {gr al xk : Int32} {ro sr sv wr fl D : Nat → Int64} {xr : Nat → Int32} (hk : rk k n gr ro al xk xr) (hi : i < n) (hx : x < 2 ^ n) (hg : z6 (gs_rest (gi_d (gk_row k) x n 0 (fun _ => 0)) 6 0 (gk_row k i)))
    (hh : ∀ q, q < n → x.testBit q = true → mm_Sq_held q wr fl = gy_d D (gk_row k q) 6) : ∃ sr' sv', mm_RG_decode (nI x) i n ro sr sv wr fl = (gy_d D (gk_row k i) 6, sr', sv') := by
  have hn := hk.n
  have hro := hk.2.2.2.1
  have hc := gl_clear sr sv
  have hx2 : x < 2048 := Nat.lt_of_lt_of_le hx (Nat.pow_le_pow_right (n := 2) (by decide) hn.2)
  obtain ⟨sv', h1⟩ := gi_dec (D := D) (ro := ro) (wr := wr) (fl := fl) (i := i) hx2 n 0 (mm_Sp_clear sr sv).1 (mm_Sp_clear sr sv).2 (by omega) (gl_V0 hc)
    (fun q hq hb => by
      have hqn : q < n := by
        refine Classical.byContradiction (fun h => ?_)
        rw [Nat.testBit_lt_two_pow (Nat.lt_of_lt_of_le hx (Nat.pow_le_pow_right (by decide) (by omega)))] at hb
        cases hb
      rw [hro q hqn]; exact hh q hqn hb)
    (fun q hq => by
      have hE := gl_d (x := x) hro n 0 (mm_Sp_clear sr sv).1 (fun _ => 0) (by omega) (fun p hp => (hc p hp).1)
      rw [gl_rest hE 6 0 _ rfl, hro i hi]
      exact hg q hq)
  refine ⟨gi_d ro x n 0 (mm_Sp_clear sr sv).1, sv', ?_⟩
  rw [mm_RG_decode]
  show mm_RG_decode_L10 (nI x) i ro wr fl n 0 (mm_Sp_clear sr sv).1 (mm_Sp_clear sr sv).2 = _
  rw [h1, hro i hi]
theorem fo_L2 {k n i sg : Nat} {gr al xk xb : Int32} {ro wr fl D : Nat → Int64} {rb : Int64} {xr : Nat → Int32} (hk : rk k n gr ro al xk xr) (hi : i < n) :
    ∀ (K K' j j' : Nat) (v3 : Int32) (sr sv : Nat → Int64) (ct : Nat → Int32) (t : Nat) (xa xc xe : Int32) (xs xg : Nat) (xt : Nat → Int32) (xf : Nat → Int64) (xp : Nat → Nat) (xq : Nat → Int32) (xv : Nat → Nat) (xo : Nat → Int32),
      sm (wd t fl) n < K → sm (wd t fl) n < K' → j + K ≤ 40 → nI j = v3 + 1 → 1 ≤ j → rg n sg (nI t) fl xt xf t → (∀ a, a < n → t.testBit a = true → wr a = gy_d D (gk_row k a) 6) → rc ct xa xb xc xe →
      ∃ (r : Int32) (rb' : Int64) (sr' sv' : Nat → Int64) (ct' : Nat → Int32) (t' : Nat) (xa' xc' xe' : Int32) (xs' xg' : Nat) (xt' : Nat → Int32) (xf' : Nat → Int64) (xp' : Nat → Nat) (xq' : Nat → Int32) (xv' : Nat → Nat) (xo' : Nat → Int32),
        mm_RG_followPlans_L2 i n (5 * sg) rb gr ro al wr fl K j sr sv ct (nI t) = (r, rb', sr', sv', ct', nI t') ∧
        mm_Mo_follow_L5 sg i n xk xr K' j' v3 xa xc xe xs xg xt xf xp xq xv xo = (r, xa', xc', xe', xs', xg', xt', xf', xp', xq', xv', xo') ∧
        rg n sg (nI t') fl xt' xf' t' ∧ rc ct' xa' xb xc' xe' ∧ rf sg xt xt' xf xf' ∧ (∀ a, a < n → t'.testBit a = true → t.testBit a = true) ∧ sm (mw t' fl) n ≤ sm (mw t fl) n ∧
        ((r = -4 ∧ (gP k n t i ≠ 0 → sm (mw t' fl) n < sm (mw t fl) n)) ∨ ∃ u, r = nI u ∧ 1 ≤ u ∧ u < 64 ∧ rb' = gy_d D (gk_row k i) 6)
  | 0, _, _, _, _, _, _, _, _, _, _, _, _, _, _, _, _, _, _, _, h, _, _, _, _, _, _, _ => absurd h (Nat.not_lt_zero _)
  | _ + 1, 0, _, _, _, _, _, _, _, _, _, _, _, _, _, _, _, _, _, _, _, h, _, _, _, _, _, _ => absurd h (Nat.not_lt_zero _)
  | K + 1, K' + 1, j, j', v3, sr, sv, ct, t, xa, xc, xe, xs, xg, xt, xf, xp, xq, xv, xo, hK, hK', hj, hv, h1, h, hw, hc => by
    have hn := hk.n
    obtain ⟨sr1, sv1, c1⟩ := gP_cls (sr := sr) (sv := sv) hk hi h.1
    obtain ⟨r1, xs1, xg1, xp1, xq1, xv1, xo1, r2, r3⟩ := gP_ref (t := t) (sg := sg) (xt := xt) (xg := xg) (xq := xq) (xo := xo) (xp := xp) (xv := xv) hk hi (fun q hq => (h.there hn.2 hq).2)
    rw [mm_RG_followPlans_L2, mm_Mo_follow_L5, c1, r2]
    dsimp only
    rcases r3 with ⟨z, rz⟩ | ⟨z, rz, ls⟩
    · rw [if_pos ((nI_m0 (gP_2048 hk hi)).mpr z), if_pos rz]
      exact ⟨_, _, _, _, _, t, _, _, _, _, _, _, _, _, _, _, _, rfl, rfl, h, hc, rf.rfl, fun _ _ h => h, Nat.le_refl _, Or.inl ⟨rfl, fun h => absurd z h⟩⟩
    · rw [if_neg (fun h => z ((nI_m0 (gP_2048 hk hi)).mp h)), if_neg (show ¬ r1 = 0 by rw [rz]; decide)]
      obtain ⟨ct1, xa1, xc1, hc1, b⟩ := rp_L3 (i := i) hn (gP_lt hk hi) ls (fun q hq hb => gP_sub hk hi hq hb) h n 0 _ xa xc (by omega) hc.pl
      rw [show cb (gP k n t i) 0 = 0 from rfl, Nat.sub_zero] at b
      rcases b with ⟨b1, b2, b3⟩ | ⟨a, ha, hma, hfa, b2, b3, b4⟩
      · rw [mm_RG_readPlan, b2, b3]
        dsimp only
        rw [if_neg (by decide), if_neg (by decide)]
        obtain ⟨sr2, sv2, d1⟩ := dc_val (D := D) (sr := sr1) (sv := sv1) (wr := wr) (fl := fl) hk hi (gP_lt hk hi) (gP_good hk hi z) (fun q hq hb => by
          rw [mm_Sq_held, b1 q (Nat.zero_le _) hq hb, Int64.xor_zero]
          exact hw q hq (gP_sub hk hi hq hb))
        rw [d1, ← hv]
        exact ⟨_, _, _, _, _, t, _, _, _, _, _, _, _, _, _, _, _, rfl, rfl, h, hc1, rf.rfl, fun _ _ h => h, Nat.le_refl _, Or.inr ⟨j, rfl, h1, by omega, rfl⟩⟩
      · have hta := gP_sub hk hi ha hma
        rw [mm_RG_readPlan, b2, b3]
        dsimp only
        rw [if_pos rfl, if_pos rfl]
        have w1 := wd_lose (t := t) hn.2 ha hta hfa
        have w2 := mw_lose (t := t) hn.2 ha hta hfa
        obtain ⟨r, rb', sr', sv', ct', t', xa', xc', xe', xs', xg', xt', xf', xp', xq', xv', xo', e1, e2, e3, e4, e5, e6, e7, e8⟩ := fo_L2 (sg := sg) (xb := xb) (wr := wr) (fl := fl) (D := D) (rb := rb) hk hi K K' (j + 1) (j' + 1) (v3 + 1) sr1 sv1 ct1 (gm_cl t a) xa1 xc1 (xe + 1) xs1 xg1 _ _ xp1 xq1 xv1 xo1 (by omega) (by omega) (by omega) (by rw [nI_succ, hv]) (by omega) b4
          (fun q hq hb => hw q hq (cl_sub hn.2 ha hq hb)) hc1
        refine ⟨r, rb', sr', sv', ct', t', xa', xc', xe', xs', xg', xt', xf', xp', xq', xv', xo', e1, e2, e3, e4, rf.tr (rf.upd (by omega)) e5, fun q hq hb => cl_sub hn.2 ha hq (e6 q hq hb), by omega, ?_⟩
        rcases e8 with ⟨e8, -⟩ | e8
        · exact Or.inl ⟨e8, fun _ => by omega⟩
        · exact Or.inr e8
theorem fo {k n i sg : Nat} {gr al xk th xa xb xc xe : Int32} {ro sr sv wr fl xd : Nat → Int64} {rb : Int64} {xr ct xt : Nat → Int32} {xf : Nat → Int64} {xs xg t : Nat} {xp xv : Nat → Nat} {xq xo : Nat → Int32} (hk : rk k n gr ro al xk xr) (hi : i < n) (h : rsx k n sg th wr fl xd xt xf t) (hc : rc ct xa xb xc xe) :
    ∃ (r : Int32) (rb' : Int64) (sr' sv' : Nat → Int64) (ct' : Nat → Int32) (t' : Nat) (xa' xc' xe' : Int32) (xs' xg' : Nat) (xt' : Nat → Int32) (xf' : Nat → Int64) (xp' : Nat → Nat) (xq' : Nat → Int32) (xv' : Nat → Nat) (xo' : Nat → Int32),
      mm_RG_followPlans i n (5 * sg) rb gr ro sr sv ct al th wr fl = (r, rb', sr', sv', ct', nI t') ∧
      mm_Mo_follow sg i n xk xa xc xe xs xg xr xt xf xp xq xv xo = (r, xa', xc', xe', xs', xg', xt', xf', xp', xq', xv', xo') ∧
      rsx k n sg (nI t') wr fl xd xt' xf' t' ∧ rc ct' xa' xb xc' xe' ∧ rf sg xt xt' xf xf' ∧ (∀ a, a < n → t'.testBit a = true → t.testBit a = true) ∧ sm (mw t' fl) n ≤ sm (mw t fl) n ∧
      ((r = -4 ∧ (gP k n t i ≠ 0 → sm (mw t' fl) n < sm (mw t fl) n)) ∨ ∃ u, r = nI u ∧ 1 ≤ u ∧ u < 64 ∧ rb' = gy_d (fun p => xd (6 * sg + p)) (gk_row k i) 6) := by
  have hn := hk.n
  have hth := h.2.1
  subst hth
  have hle := sm_le (w := wd t fl) (c := 1) n (fun b _ => wd_le t fl b)
  have hw : ∀ a, a < n → t.testBit a = true → wr a = gy_d (fun p => xd (6 * sg + p)) (gk_row k a) 6 := fun a ha hb => (h.2.2.2 a ha hb).2
  obtain ⟨r, rb', sr', sv', ct', t', xa', xc', xe', xs', xg', xt', xf', xp', xq', xv', xo', e1, e2, e3, e4, e5, e6, e7, e8⟩ := fo_L2 (sg := sg) (xb := xb) (wr := wr) (fl := fl) (D := fun p => xd (6 * sg + p)) (rb := rb) hk hi 32 12 1 0 0 sr sv ct t xa xc xe xs xg xt xf xp xq xv xo (by omega) (by omega) (by omega) (by decide) (by omega) (rg.of h) hw hc
  refine ⟨r, rb', sr', sv', ct', t', xa', xc', xe', xs', xg', xt', xf', xp', xq', xv', xo', by rw [mm_RG_followPlans]; exact e1, by rw [mm_Mo_follow]; exact e2, rg.to e3 (fun a ha hb => hw a ha (e6 a ha hb)), e4, e5, e6, e7, e8⟩
theorem nI_neg4 : ((-4 : Int32) < (0 : Int32)) := by decide
theorem e_fetch {n : Nat} {gr al xk : Int32} {ro : Nat → Int64} {xr : Nat → Int32} {lf : Int64} {rb : Int64} {sr : Nat → Int64} {sv : Nat → Int64} {up : Nat → Int32} {ct : Nat → Int32} {th : Nat → Int32} {wr : Nat → Nat → Int64} {fl : Nat → Nat → Int64} {xa : Int32} {xb : Int32} {xc : Int32} {xe : Int32} {xl : Int64} {xs : Nat} {xg : Nat} {xd : Nat → Int64} {xt : Nat → Int32} {xf : Nat → Int64} {xw : Nat → Int32} {xp : Nat → Nat} {xq : Nat → Int32} {xv : Nat → Nat} {xo : Nat → Int32} {x : Int32} {y : Int32} {r_1 r_2 : Int32} {lf_1 : Int64} {rb_1 : Int64} {sr_1 : Nat → Int64} {sv_1 : Nat → Int64} {ct_1 : Nat → Int32} {th_1 : Nat → Int32} {xa_2 : Int32} {xc_2 : Int32} {xe_2 : Int32} {xl_2 : Int64} {xs_2 : Nat} {xg_2 : Nat} {xt_2 : Nat → Int32} {xf_2 : Nat → Int64} {xp_2 : Nat → Nat} {xq_2 : Nat → Int32} {xv_2 : Nat → Nat} {xo_2 : Nat → Int32} (hrl : (rl n gr ro al xk xr lf up ct th wr fl xa xb xc xe xl xd xt xf xw)) (h1 : (r_1, lf_1, rb_1, sr_1, sv_1, ct_1, th_1) = m3_RG_fetch x y n lf rb gr ro sr sv ct al th wr fl) (h2 : (r_2, xa_2, xc_2, xe_2, xl_2, xs_2, xg_2, xt_2, xf_2, xp_2, xq_2, xv_2, xo_2) = mm_Mo_fetch x y n xk xa xc xe xl xs xg xr xd xt xf xp xq xv xo) : r_1 = r_2 ∧ (rl n gr ro al xk xr lf_1 up ct_1 th_1 wr fl xa_2 xb xc_2 xe_2 xl_2 xd xt_2 xf_2 xw) := by
  obtain ⟨k, hk, hs, hw, c0, c1, c2, c3, hl⟩ := hrl
  have hn := hk.n
  have hc : rc ct xa xb xc xe := ⟨c0, c1, c2, c3⟩
  rw [m3_RG_fetch, mm_RG_fetch] at h1
  rw [mm_Mo_fetch] at h2
  rcases q_shard hn.2 x y with ⟨a, b⟩ | ⟨j, i, hj, hi, rfl, rfl⟩
  · rw [if_pos a] at h1
    rw [if_neg b] at h2
    dsimp only at h1
    cases h1; cases h2
    refine ⟨rfl, k, hk, fun q hq => ?_, hw, c0, c1, c2, c3, hl⟩
    rw [vq_same]; exact hs q hq
  · obtain ⟨a, b⟩ := q_shI hn.2 hj hi
    obtain ⟨t, ht⟩ := hs j hj
    obtain ⟨e1, e2⟩ := ht.there hn.2 hi
    rw [if_neg (q_ne a), q_cl (by omega), (q_sI j hj).2.2] at h1
    rw [if_pos b, q_cl (by omega), q_cl (by omega), mv_value (hk.2.2.2.2.2.2 i hi)] at h2
    have fin : ∀ {t' : Nat} {xt' : Nat → Int32} {xf' : Nat → Int64} {ct' : Nat → Int32} {xa' xc' xe' : Int32} {l : Int64}, rsx k n j (nI t') (wr j) (fl j) xd xt' xf' t' → rc ct' xa' xb xc' xe' → rf j xt xt' xf xf' → rl n gr ro al xk xr l up ct' (va_up th j (nI t')) wr fl xa' xb xc' xe' l xd xt' xf' xw := by
      intro t' xt' xf' ct' xa' xc' xe' l g1 g2 g3
      have hz := rl_hs hn.2 hs j g1 g3 (fun _ _ => rfl)
      refine ⟨k, hk, fun q hq => ?_, hw, g2.1, g2.2.1, g2.2.2.1, g2.2.2.2, rfl⟩
      obtain ⟨t2, h2⟩ := hz q hq
      rw [vq_same, vq_same] at h2
      exact ⟨t2, h2⟩
    cases htb : t.testBit i with
    | false =>
      rw [if_pos (e1.mpr htb)] at h1
      rw [if_pos (e2.mpr htb)] at h2
      obtain ⟨r, rb', sr', sv', ct', t', xa', xc', xe', xs', xg', xt', xf', xp', xq', xv', xo', f1, f2, f3, f4, f5, f6, f7, f8⟩ := fo (rb := rb) (sr := sr) (sv := sv) (xs := xs) (xg := xg) (xp := xp) (xv := xv) (xq := xq) (xo := xo) hk hi ht hc
      rw [f1] at h1
      rw [f2] at h2
      dsimp only at h1 h2
      rcases f8 with ⟨f8, -⟩ | ⟨u, f8, u1, u2, f9⟩
      · rw [if_pos (by rw [f8]; decide)] at h1 h2
        dsimp only at h1
        cases h1; cases h2
        subst hl
        exact ⟨rfl, fin f3 f4 f5⟩
      · rw [if_neg (by rw [f8]; exact nI_pos (by omega))] at h1 h2
        dsimp only at h1
        cases h1; cases h2
        refine ⟨rfl, ?_⟩
        rw [f9]
        exact fin f3 f4 f5
    | true =>
      have nt : ¬ (t.testBit i = false) := by rw [htb]; decide
      rw [if_neg (fun h => nt (e1.mp h))] at h1
      rw [if_neg (fun h => nt (e2.mp h))] at h2
      rcases rd1 (ct := ct) (xa := xa) hn.2 hi ht htb with ⟨z, -, a1, a2⟩ | ⟨z, a1, a2, a3⟩
      · rw [a1] at h1
        rw [a2] at h2
        dsimp only at h1 h2
        rw [if_neg (by decide), mm_Sq_held, z, Int64.xor_zero, (ht.2.2.2 i hi htb).2] at h1
        rw [if_pos rfl] at h2
        dsimp only at h1
        cases h1; cases h2
        refine ⟨rfl, ?_⟩
        rw [ht.2.1]
        have ht' := ht
        rw [ht.2.1] at ht'
        exact fin ht' hc.rd rf.rfl
      · rw [a1] at h1
        rw [a2] at h2
        dsimp only at h1 h2
        rw [if_pos rfl] at h1
        rw [if_neg (by decide)] at h2
        obtain ⟨r, rb', sr', sv', ct', t', xa', xc', xe', xs', xg', xt', xf', xp', xq', xv', xo', f1, f2, f3, f4, f5, f6, f7, f8⟩ := fo (rb := rb) (sr := sr) (sv := sv) (xs := xs) (xg := xg) (xp := xp) (xv := xv) (xq := xq) (xo := xo) hk hi a3 hc.rd
        rw [f1] at h1
        rw [f2] at h2
        dsimp only at h1 h2
        have f5' := rf.tr (rf.upd (by omega)) f5
        rcases f8 with ⟨f8, -⟩ | ⟨u, f8, u1, u2, f9⟩
        · rw [if_pos (by rw [f8]; decide)] at h1 h2
          dsimp only at h1
          cases h1; cases h2
          subst hl
          exact ⟨rfl, fin f3 f4 f5'⟩
        · rw [if_neg (by rw [f8]; exact nI_pos (by omega))] at h1 h2
          dsimp only at h1
          cases h1; cases h2
          refine ⟨rfl, ?_⟩
          rw [f9]
          exact fin f3 f4 f5'
/-- a lost shard is made again -/
theorem re {k n i sg : Nat} {gr al xk th xa xb xc xe : Int32} {ro sr sv wr fl xd : Nat → Int64} {rb : Int64} {xr ct xt xw : Nat → Int32} {xf : Nat → Int64} {xs xg t : Nat} {xp xv : Nat → Nat} {xq xo : Nat → Int32} (hk : rk k n gr ro al xk xr) (hj : sg < 3) (hi : i < n) (h : rsx k n sg th wr fl xd xt xf t) (hc : rc ct xa xb xc xe) (htb : t.testBit i = false) (hxw : xw ((5 * sg + i) % 12) = 0) :
    ∃ (r : Int32) (rb' : Int64) (sr' sv' : Nat → Int64) (ct' : Nat → Int32) (t' : Nat) (wr' fl' : Nat → Int64) (xa' xb' xc' xe' : Int32) (xs' xg' : Nat) (xt' : Nat → Int32) (xf' : Nat → Int64) (xp' : Nat → Nat) (xq' : Nat → Int32) (xv' : Nat → Nat) (xo' : Nat → Int32),
      mm_RG_rebuild i n (5 * sg) rb gr ro sr sv ct al th wr fl = (r, rb', sr', sv', ct', nI t', wr', fl') ∧
      mm_Mo_repair (nI sg) (nI i) n xk xa xb xc xe xs xg xr xt xf xw xp xq xv xo = (r, xa', xb', xc', xe', xs', xg', xt', xf', xp', xq', xv', xo') ∧
      rsx k n sg (nI t') wr' fl' xd xt' xf' t' ∧ rc ct' xa' xb' xc' xe' ∧ rf sg xt xt' xf xf' ∧
      ((r = -4 ∧ (gP k n t i ≠ 0 → sm (mw t' fl') n < sm (mw t fl) n)) ∨ ∃ u, r = nI u ∧ 1 ≤ u ∧ u < 64 ∧ sm (mw t' fl') n < sm (mw t fl) n) := by
  have hn := hk.n
  obtain ⟨a, b⟩ := q_shI hn.2 hj hi
  obtain ⟨e1, e2⟩ := h.there hn.2 hi
  obtain ⟨r, rb', sr', sv', ct', t', xa', xc', xe', xs', xg', xt', xf', xp', xq', xv', xo', f1, f2, f3, f4, f5, f6, f7, f8⟩ := fo (rb := rb) (sr := sr) (sv := sv) (xs := xs) (xg := xg) (xp := xp) (xv := xv) (xq := xq) (xo := xo) hk hi h hc
  rw [mm_RG_rebuild, f1, mm_Mo_repair, if_pos b, q_cl (show sg < 12 by omega), q_cl (show i < 12 by omega), if_pos (e2.mpr htb), if_pos hxw, f2]
  dsimp only
  rcases f8 with ⟨f8, f9⟩ | ⟨u, f8, u1, u2, f9⟩
  · rw [if_pos (by rw [f8]; decide), if_pos (by rw [f8]; decide)]
    exact ⟨_, _, _, _, _, t', _, _, _, _, _, _, _, _, _, _, _, _, _, _, rfl, rfl, f3, f4, f5, Or.inl ⟨f8, f9⟩⟩
  · rw [if_neg (by rw [f8]; exact nI_pos (by omega)), if_neg (by rw [f8]; exact nI_pos (by omega))]
    obtain ⟨ct2, hc2, w1, w2, w3⟩ := rg.write (wr := wr) (v := rb') hn.2 hi (rg.of f3) f4
    rw [w1, w2]
    dsimp only
    have htb' : t'.testBit i = false := by
      cases hb : t'.testBit i
      · rfl
      · rw [f6 i hi hb] at htb; cases htb
    have hm := mw_write (t := t') (fl := fl) hi htb'
    refine ⟨_, _, _, _, _, t' ||| 2 ^ i, _, _, _, _, _, _, _, _, _, _, _, _, _, _, rfl, rfl, rg.to w3 (fun q hq hb => ?_), hc2, rf.tr f5 (rf.upd (by omega)), Or.inr ⟨u, f8, u1, u2, by omega⟩⟩
    by_cases hqi : q = i
    · subst hqi; rw [pk_uLs]; exact f9
    · rw [Nat.testBit_or, Nat.testBit_two_pow_of_ne (fun h => hqi h.symm), Bool.or_false] at hb
      rw [pk_uLn hqi]
      exact (f3.2.2.2 q hq hb).2
theorem e_repair {n : Nat} {gr al xk : Int32} {ro : Nat → Int64} {xr : Nat → Int32} {lf : Int64} {rb : Int64} {sr : Nat → Int64} {sv : Nat → Int64} {up : Nat → Int32} {ct : Nat → Int32} {th : Nat → Int32} {wr : Nat → Nat → Int64} {fl : Nat → Nat → Int64} {xa : Int32} {xb : Int32} {xc : Int32} {xe : Int32} {xl : Int64} {xs : Nat} {xg : Nat} {xd : Nat → Int64} {xt : Nat → Int32} {xf : Nat → Int64} {xw : Nat → Int32} {xp : Nat → Nat} {xq : Nat → Int32} {xv : Nat → Nat} {xo : Nat → Int32} {x : Int32} {y : Int32} {r_1 r_2 : Int32} {rb_1 : Int64} {sr_1 : Nat → Int64} {sv_1 : Nat → Int64} {ct_1 : Nat → Int32} {th_1 : Nat → Int32} {wr_1 : Nat → Nat → Int64} {fl_1 : Nat → Nat → Int64} {xa_2 : Int32} {xb_2 : Int32} {xc_2 : Int32} {xe_2 : Int32} {xs_2 : Nat} {xg_2 : Nat} {xt_2 : Nat → Int32} {xf_2 : Nat → Int64} {xp_2 : Nat → Nat} {xq_2 : Nat → Int32} {xv_2 : Nat → Nat} {xo_2 : Nat → Int32} (hrl : (rl n gr ro al xk xr lf up ct th wr fl xa xb xc xe xl xd xt xf xw)) (h1 : (r_1, rb_1, sr_1, sv_1, ct_1, th_1, wr_1, fl_1) = m3_RG_repair x y n rb gr ro sr sv up ct al th wr fl) (h2 : (r_2, xa_2, xb_2, xc_2, xe_2, xs_2, xg_2, xt_2, xf_2, xp_2, xq_2, xv_2, xo_2) = mm_Mo_repair x y n xk xa xb xc xe xs xg xr xt xf xw xp xq xv xo) : r_1 = r_2 ∧ (rl n gr ro al xk xr lf up ct_1 th_1 wr_1 fl_1 xa_2 xb_2 xc_2 xe_2 xl xd xt_2 xf_2 xw) := by
  obtain ⟨k, hk, hs, hw, c0, c1, c2, c3, hl⟩ := hrl
  have hn := hk.n
  have hc : rc ct xa xb xc xe := ⟨c0, c1, c2, c3⟩
  have hsame : ∀ j, ∀ q, q < 3 → ∃ t, rsx k n q (va_up th j (th j) q) (va_up wr j (wr j) q) (va_up fl j (fl j) q) xd xt xf t := fun j q hq => by
    rw [vq_same, vq_same, vq_same]; exact hs q hq
  rw [m3_RG_repair, mm_RG_repair] at h1
  rcases q_shard hn.2 x y with ⟨a, b⟩ | ⟨j, i, hj, hi, rfl, rfl⟩
  · rw [if_pos a] at h1
    rw [mm_Mo_repair, if_neg b] at h2
    dsimp only at h1
    cases h1; cases h2
    exact ⟨rfl, k, hk, hsame _, hw, c0, c1, c2, c3, hl⟩
  · obtain ⟨a, b⟩ := q_shI hn.2 hj hi
    obtain ⟨t, ht⟩ := hs j hj
    obtain ⟨e1, e2⟩ := ht.there hn.2 hi
    rw [if_neg (q_ne a), q_cl (by omega), (q_sI j hj).2.2] at h1
    cases htb : t.testBit i with
    | true =>
      have nt : ¬ (t.testBit i = false) := by rw [htb]; decide
      rw [if_neg (fun h => nt (e1.mp h))] at h1
      rw [mm_Mo_repair, if_pos b, q_cl (show j < 12 by omega), q_cl (show i < 12 by omega), if_neg (fun h => nt (e2.mp h))] at h2
      dsimp only at h1
      cases h1; cases h2
      exact ⟨rfl, k, hk, hsame _, hw, c0, c1, c2, c3, hl⟩
    | false =>
      rw [if_pos (e1.mpr htb)] at h1
      rcases hw ((5 * j + i) % 12) (Nat.mod_lt _ (by decide)) with ⟨u, v⟩ | ⟨u, v⟩
      · rw [v, if_neg (by decide)] at h1
        obtain ⟨r, rb', sr', sv', ct', t', wr', fl', xa', xb', xc', xe', xs', xg', xt', xf', xp', xq', xv', xo', f1, f2, f3, f4, f5, f6⟩ := re (rb := rb) (sr := sr) (sv := sv) (xs := xs) (xg := xg) (xp := xp) (xv := xv) (xq := xq) (xo := xo) (xw := xw) hk hj hi ht hc htb u
        rw [f1] at h1
        rw [f2] at h2
        dsimp only at h1
        cases h1; cases h2
        exact ⟨rfl, k, hk, rl_hs hn.2 hs j f3 f5 (fun _ _ => rfl), hw, f4.1, f4.2.1, f4.2.2.1, f4.2.2.2, hl⟩
      · rw [v, if_pos rfl] at h1
        rw [mm_Mo_repair, if_pos b, q_cl (show j < 12 by omega), q_cl (show i < 12 by omega), if_pos (e2.mpr htb), if_neg (by rw [u]; decide)] at h2
        dsimp only at h1
        cases h1; cases h2
        exact ⟨rfl, k, hk, hsame _, hw, c0, c1, c2, c3, hl⟩
