/-! plans: the same sets of shards on both sides -/
def cb (m : Nat) : Nat → Nat
  | 0 => 0
  | j + 1 => if m.testBit j then cb m j + 1 else cb m j
theorem cb_pc : ∀ m, m < 2048 → gm_pc m = cb m 11 := by decide +kernel
theorem cb_n {m n : Nat} (hn : 10 ≤ n ∧ n ≤ 11) (hm : m < 2 ^ n) : gm_pc m = cb m n := by
  have hm2 : m < 2048 := Nat.lt_of_lt_of_le hm (Nat.pow_le_pow_right (n := 2) (by decide) hn.2)
  rw [cb_pc m hm2]
  rcases (by omega : n = 10 ∨ n = 11) with rfl | rfl
  · rw [cb, Nat.testBit_lt_two_pow hm, if_neg (show ¬ (false = true) by decide)]
  · rfl
theorem cb_mono {m i : Nat} : ∀ j, i ≤ j → cb m i ≤ cb m j
  | 0, h => by rw [show i = 0 by omega]; exact Nat.le_refl _
  | j + 1, h => by
    rcases Nat.lt_or_eq_of_le h with h1 | h1
    · have := cb_mono (m := m) (i := i) j (by omega)
      rw [cb]; split <;> omega
    · rw [h1]; exact Nat.le_refl _
theorem cb_lt {m i j : Nat} (h : i < j) (hb : m.testBit i = true) : cb m i < cb m j := by
  have h1 : cb m (i + 1) = cb m i + 1 := by rw [cb, if_pos hb]
  have := cb_mono (m := m) (i := i + 1) j h
  omega
theorem cb_cg {m m' : Nat} : ∀ j, (∀ i, i < j → m.testBit i = m'.testBit i) → cb m j = cb m' j
  | 0, _ => rfl
  | j + 1, h => by rw [cb, cb, h j (by omega), cb_cg j (fun i hi => h i (by omega))]
/-- the list of the bits of m below j, in their order -/
def pls (m j xs : Nat) (xp : Nat → Nat) : Prop := xs = cb m j ∧ ∀ i, i < j → m.testBit i = true → xp (cb m i) = i
theorem pls.zero {m : Nat} {xp : Nat → Nat} : pls m 0 0 xp := ⟨rfl, fun i hi => absurd hi (Nat.not_lt_zero _)⟩
theorem pls.skip {m j xs : Nat} {xp : Nat → Nat} (h : pls m j xs xp) (hb : m.testBit j = false) : pls m (j + 1) xs xp := by
  refine ⟨by rw [cb, hb, if_neg (show ¬ (false = true) by decide)]; exact h.1, fun i hi hbi => ?_⟩
  rcases Nat.lt_succ_iff_lt_or_eq.mp hi with h9 | h9
  · exact h.2 i h9 hbi
  · subst h9; rw [hb] at hbi; cases hbi
theorem pls.add {m j xs : Nat} {xp : Nat → Nat} (h : pls m j xs xp) (hb : m.testBit j = true) : pls m (j + 1) (xs + 1) (va_up xp xs j) := by
  refine ⟨by rw [cb, if_pos hb, h.1], fun i hi hbi => ?_⟩
  rcases Nat.lt_succ_iff_lt_or_eq.mp hi with h9 | h9
  · have := cb_lt h9 hbi
    rw [vq_ne (by rw [h.1]; omega)]
    exact h.2 i h9 hbi
  · subst h9; rw [← h.1, vq_at]
theorem pls.cg {m m' j xs : Nat} {xp : Nat → Nat} (h : pls m j xs xp) (hm : ∀ i, i < j → m.testBit i = m'.testBit i) : pls m' j xs xp := by
  refine ⟨by rw [h.1, cb_cg j hm], fun i hi hb => ?_⟩
  rw [← cb_cg i (fun q hq => hm q (by omega))]
  exact h.2 i hi (by rw [hm i hi]; exact hb)
theorem or_bit {m j : Nat} (h : m < 2 ^ j) : m ||| 2 ^ j < 2 ^ (j + 1) ∧ (∀ i, i < j → m.testBit i = (m ||| 2 ^ j).testBit i) ∧ (m ||| 2 ^ j).testBit j = true := by
  refine ⟨Nat.or_lt_two_pow (Nat.lt_of_lt_of_le h (Nat.pow_le_pow_right (by decide) (by omega))) (Nat.pow_lt_pow_right (by decide) (by omega)), fun i hi => ?_, ?_⟩
  · rw [Nat.testBit_or, Nat.testBit_two_pow_of_ne (by omega), Bool.or_false]
  · rw [Nat.testBit_or, Nat.testBit_two_pow_self, Bool.or_true]
/-- the reference's walk over the shards -/
theorem go_L12 {n sg t : Nat} {ro : Nat → Int64} {xr xt : Nat → Int32} (hxr : ∀ j, j < n → ∀ p, p < 6 → xr (6 * j + p) = nI (gy_a (ro j) p)) (hx : ∀ i, i < n → (xt (11 * sg + i) = (0 : Int32) ↔ t.testBit i = false)) :
    ∀ (k j xs m : Nat) (xp : Nat → Nat) (sr : Nat → Int64) (g : Nat) (b : Nat → Int64) (xq : Nat → Int32) (xv : Nat → Nat) (xo : Nat → Int32), j + k = n → m < 2 ^ j → ga sr g b xq xv → pls m j xs xp →
      ∃ (xs' : Nat) (xp' : Nat → Nat) (xq' : Nat → Int32) (xv' : Nat → Nat) (xo' : Nat → Int32), mm_Mo_goOver_L12 sg xr xt k j xs g xp xq xv xo = (xs', gi_c (gi_f ro t k j m sr).2 6, xp', xq', xv', xo') ∧ pls (gi_f ro t k j m sr).1 n xs' xp'
  | 0, j, xs, m, xp, sr, g, b, xq, xv, xo, hj, hm, h, hl => by
    refine ⟨xs, xp, xq, xv, xo, ?_, ?_⟩
    · rw [mm_Mo_goOver_L12, gi_f, ← h.2.1]
    · rw [gi_f, ← show j = n by omega]; exact hl
  | k + 1, j, xs, m, xp, sr, g, b, xq, xv, xo, hj, hm, h, hl => by
    have hm1 : m < 2 ^ (j + 1) := Nat.lt_of_lt_of_le hm (Nat.pow_le_pow_right (by decide) (by omega))
    have hl1 : pls m (j + 1) xs xp := hl.skip (Nat.testBit_lt_two_pow hm)
    rw [mm_Mo_goOver_L12, gi_f]
    cases hb : t.testBit j with
    | false =>
      rw [if_pos ((hx j (by omega)).mpr hb), if_neg (show ¬ (false = true) by decide)]
      exact go_L12 hxr hx k (j + 1) xs m xp sr g b xq xv xo (by omega) hm1 h hl1
    | true =>
      have nt : ¬ (t.testBit j = false) := by rw [hb]; decide
      have hg6 : g ≤ 6 := by rw [h.2.1]; exact gi_cle sr 6
      rw [if_neg (fun h => nt ((hx j (by omega)).mp h)), if_pos (show true = true from rfl)]
      by_cases h6 : g = 6
      · have htn : gs_tk sr 6 0 (ro j) = none := by
          cases ht : gs_tk sr 6 0 (ro j) with
          | none => rfl
          | some pr =>
            obtain ⟨p, r⟩ := pr
            have q0 := (gs_tkP h.1 6 0 (ro j) rfl (fun q hq => absurd hq (Nat.not_lt_zero _)) p r ht).1
            exact absurd q0 (gi_call 6 (by rw [← h.2.1, h6]) p (gs_tklt 6 0 (ro j) rfl p r ht))
        rw [htn, if_pos (by rw [h6]; decide)]
        exact go_L12 hxr hx k (j + 1) xs m xp sr g b xq xv xo (by omega) hm1 h hl1
      · have hlt : ¬ ((6 : Int32) ≤ nI g) := nI_ge (b := 6) (by omega) (by decide)
        rw [if_neg hlt]
        rcases ga_adds (xo := xo) h (hxr j (by omega)) with ⟨ht, xo', ha⟩ | ⟨p, r', b', xq', xv', xo', ht, ha, hga⟩
        · rw [ht, ha]
          dsimp only
          rw [if_pos rfl]
          exact go_L12 hxr hx k (j + 1) xs m xp sr g b xq xv xo' (by omega) hm1 h hl1
        · rw [ht, ha]
          dsimp only
          rw [if_neg (by decide)]
          obtain ⟨o1, o2, o3⟩ := or_bit hm
          exact go_L12 hxr hx k (j + 1) (xs + 1) (m ||| 2 ^ j) _ _ (g + 1) b' xq' xv' xo' (by omega) o1 hga ((hl.cg o2).add o3)
theorem gl_f {ro ro' : Nat → Int64} {t N : Nat} (hr : ∀ j, j < N → ro j = ro' j) : ∀ (k j m : Nat) (sr sr' : Nat → Int64), j + k ≤ N → gl_E sr sr' → (gi_f ro t k j m sr).1 = (gi_f ro' t k j m sr').1 ∧ gl_E (gi_f ro t k j m sr).2 (gi_f ro' t k j m sr').2
  | 0, j, m, sr, sr', _, hE => by rw [gi_f, gi_f]; exact ⟨rfl, hE⟩
  | k + 1, j, m, sr, sr', hj, hE => by
    rw [gi_f, gi_f, hr j (by omega), gl_tk hE 6 0 _ rfl]
    split
    · split
      · exact gl_f hr k (j + 1) m sr sr' (by omega) hE
      · exact gl_f hr k (j + 1) _ _ _ (by omega) (gl_upd hE _ _)
    · exact gl_f hr k (j + 1) m sr sr' (by omega) hE
/-- the independent shards of those that are there -/
def gM (k n t : Nat) : Nat := (gi_f (gk_row k) t n 0 0 (fun _ => 0)).1
theorem gi_cE {sr sr' : Nat → Int64} (h : gl_E sr sr') : ∀ N, N ≤ 6 → gi_c sr N = gi_c sr' N
  | 0, _ => rfl
  | N + 1, hN => by rw [gi_c, gi_c, gi_cE h N (by omega), h N (by omega)]
section GM
variable {k n t : Nat}
theorem gM_lt : gM k n t < 2 ^ n := by
  have := (gi_bits (ro := gk_row k) (t := t) n 0 0 (fun _ => 0) (by decide)).1
  rw [Nat.zero_add] at this
  exact this
theorem gM_sub {q : Nat} (h : (gM k n t).testBit q = true) : t.testBit q = true := by
  rcases (gi_bits (ro := gk_row k) (t := t) n 0 0 (fun _ => 0) (by decide)).2.2.2 q h with h | h
  · rw [Nat.zero_testBit] at h; cases h
  · exact h
theorem gM_cnt (hn : n ≤ 11) : gs_P (gi_f (gk_row k) t n 0 0 (fun _ => 0)).2 ∧ gm_pc (gM k n t) = gi_c (gi_f (gk_row k) t n 0 0 (fun _ => 0)).2 6 :=
  gi_cnt n 0 0 (fun _ => 0) (by omega) (by decide) (fun _ _ => Or.inl rfl) (by decide)
theorem gM_le (hn : n ≤ 11) : gm_pc (gM k n t) ≤ 6 := by rw [(gM_cnt hn).2]; exact gi_cle _ 6
theorem gM_full (hn : n ≤ 11) (h6 : gm_pc (gM k n t) = 6) (i : Nat) : z6 (gs_rest (gi_d (gk_row k) (gM k n t) n 0 (fun _ => 0)) 6 0 (gk_row k i)) := by
  obtain ⟨h1, h2⟩ := gM_cnt (k := k) (t := t) hn
  have h3 := (gi_bits (ro := gk_row k) (t := t) n 0 0 (fun _ => 0) (by decide)).2.2.1
  unfold gM
  rw [h3]
  exact fun q hq => gs_restF h1 (gi_call 6 (by rw [← h2, h6])) 6 0 _ rfl (fun q hq => absurd hq (Nat.not_lt_zero _)) q hq
theorem gM_ref {sg : Nat} {xr xt xq xo : Nat → Int32} {xp xv : Nat → Nat} (hn : n ≤ 11) (hxr : ∀ j, j < n → ∀ p, p < 6 → xr (6 * j + p) = nI (gy_a (gk_row k j) p)) (hx : ∀ i, i < n → (xt (11 * sg + i) = (0 : Int32) ↔ t.testBit i = false)) :
    ∃ (xs' : Nat) (xp' : Nat → Nat) (xq' : Nat → Int32) (xv' : Nat → Nat) (xo' : Nat → Int32), mm_Mo_goOver sg n xr xt xp xq xv xo = (xs', gm_pc (gM k n t), xp', xq', xv', xo') ∧ pls (gM k n t) n xs' xp' := by
  rw [mm_Mo_goOver, (gM_cnt hn).2]
  exact go_L12 hxr hx n 0 0 0 xp (fun _ => 0) 0 (fun _ => 0) xq xv xo (by omega) (by decide) ⟨fun _ _ => Or.inl rfl, by decide, fun j hj => absurd hj (Nat.not_lt_zero _), fun _ _ => z6_0, fun j hj => absurd hj (Nat.not_lt_zero _)⟩ pls.zero
theorem gM_cls {ro sr sv : Nat → Int64} (hn : n ≤ 11) (hro : ∀ j, j < n → ro j = gk_row k j) (ht : t < 2048) : ∃ sr' sv', mm_RG_independentShards n ro sr sv (nI t) = (nI (gM k n t), sr', sv') := by
  have hc := gl_clear sr sv
  obtain ⟨sv', h1, -⟩ := gi_ind (ro := ro) ht n 0 0 (mm_Sp_clear sr sv).1 (mm_Sp_clear sr sv).2 (by omega) (gl_V0 hc)
  have h2 := gl_f (t := t) hro n 0 0 (mm_Sp_clear sr sv).1 (fun _ => 0) (by omega) (fun p hp => (hc p hp).1)
  refine ⟨(gi_f ro t n 0 0 (mm_Sp_clear sr sv).1).2, sv', ?_⟩
  rw [mm_RG_independentShards]
  show mm_RG_independentShards_L11 ro (nI t) n 0 (nI 0) (mm_Sp_clear sr sv).1 (mm_Sp_clear sr sv).2 = _
  rw [h1, h2.1]
  rfl
end GM
theorem nI_m0 {m : Nat} (h : m < 2048) : nI m = (0 : Int32) ↔ m = 0 := nI_eq (b := 0) (by omega) (by decide)
theorem gM_2048 {k n t : Nat} (hn : n ≤ 11) : gM k n t < 2048 := Nat.lt_of_lt_of_le gM_lt (Nat.pow_le_pow_right (n := 2) (by decide) hn)
theorem e_rank {n : Nat} {gr al xk : Int32} {ro : Nat → Int64} {xr : Nat → Int32} {lf : Int64} {sr : Nat → Int64} {sv : Nat → Int64} {up : Nat → Int32} {ct : Nat → Int32} {th : Nat → Int32} {wr : Nat → Nat → Int64} {fl : Nat → Nat → Int64} {xa : Int32} {xb : Int32} {xc : Int32} {xe : Int32} {xl : Int64} {xs : Nat} {xg : Nat} {xd : Nat → Int64} {xt : Nat → Int32} {xf : Nat → Int64} {xw : Nat → Int32} {xp : Nat → Nat} {xq : Nat → Int32} {xv : Nat → Nat} {xo : Nat → Int32} {x : Int32} {r_1 r_2 : Int32} {sr_1 : Nat → Int64} {sv_1 : Nat → Int64} {xs_2 : Nat} {xg_2 : Nat} {xp_2 : Nat → Nat} {xq_2 : Nat → Int32} {xv_2 : Nat → Nat} {xo_2 : Nat → Int32} (hrl : (rl n gr ro al xk xr lf up ct th wr fl xa xb xc xe xl xd xt xf xw)) (h1 : (r_1, sr_1, sv_1) = m3_RG_rank x n ro sr sv th) (h2 : (r_2, xs_2, xg_2, xp_2, xq_2, xv_2, xo_2) = mm_Mo_rank x n xs xg xr xt xp xq xv xo) : r_1 = r_2 ∧ (rl n gr ro al xk xr lf up ct th wr fl xa xb xc xe xl xd xt xf xw) := by
  refine ⟨?_, hrl⟩
  obtain ⟨k, hk, hs, hw, hc⟩ := hrl
  have hn := hk.n
  rw [m3_RG_rank, mm_RG_rank] at h1
  rw [mm_Mo_rank] at h2
  rcases q_stripe x with ⟨a, b⟩ | ⟨j, hj, rfl⟩
  · rw [if_pos a] at h1
    rw [if_neg b] at h2
    dsimp only at h1
    cases h1; cases h2
    rfl
  · obtain ⟨a, b, c⟩ := q_sI j hj
    obtain ⟨t, ht⟩ := hs j hj
    obtain ⟨t1, t2⟩ := ht.th hn.2
    rw [if_neg (q_ne a), c, t2] at h1
    rw [if_pos b, q_cl (by omega)] at h2
    obtain ⟨xs', xp', xq', xv', xo', r1, r2⟩ := gM_ref (k := k) (t := t) (sg := j) (xr := xr) (xt := xt) (xq := xq) (xo := xo) (xp := xp) (xv := xv) hn.2 hk.2.2.2.2.2.2 (fun i hi => (ht.there hn.2 hi).2)
    obtain ⟨sr', sv', c1⟩ := gM_cls (k := k) (t := t) (ro := ro) (sr := sr) (sv := sv) hn.2 hk.2.2.2.1 t1
    rw [c1] at h1
    rw [r1] at h2
    dsimp only at h1 h2
    rw [gm_bitCount _ (gM_2048 hn.2)] at h1
    cases h1; cases h2
    rfl
/-! local plans -/
theorem gk_gr : ∀ k, k < 3 → ∀ i, i < gk_n k → ∀ j, j < gk_n k → decide (mm_Mo_grouped i j (nI k) = (0 : Int32)) = !(gk_g k i).testBit j := by decide +kernel
theorem gk_cg : ∀ k, k < 3 → ∀ i, i < gk_n k → (mm_Co_groupOf i (gk_n k) (if k = 0 then 0 else 1)) &&& (((1 : Int32) <<< ((nI i) &&& 31)) ^^^ (-1 : Int32)) = nI (gk_g k i) := by decide +kernel
theorem gk_glt : ∀ k, k < 3 → ∀ i, i < gk_n k → gk_g k i < 2 ^ gk_n k := by decide +kernel
theorem gl_lbit {t q : Nat} : ∀ n, (gl_l t n).testBit q = (decide (q < n) && !t.testBit q)
  | 0 => by rw [show gl_l t 0 = 0 from rfl, Nat.zero_testBit]; simp
  | n + 1 => by
    have ih := gl_lbit (t := t) (q := q) n
    show (if t.testBit n then gl_l t n else gl_l t n ||| 2 ^ n).testBit q = _
    by_cases hq : q = n
    · subst hq
      cases hb : t.testBit q
      · rw [if_neg (show ¬ (false = true) by decide), Nat.testBit_or, Nat.testBit_two_pow_self, Bool.or_true, decide_eq_true (Nat.lt_succ_self q)]; rfl
      · rw [if_pos (show true = true from rfl), ih, hb]; simp
    · have hd : decide (q < n + 1) = decide (q < n) := by
        by_cases h : q < n
        · rw [decide_eq_true h, decide_eq_true (by omega)]
        · rw [decide_eq_false h, decide_eq_false (by omega)]
      rw [hd]
      split
      · exact ih
      · rw [Nat.testBit_or, Nat.testBit_two_pow_of_ne (fun h => hq h.symm), Bool.or_false, ih]
theorem gl_sub {g t n : Nat} (hg : g < 2 ^ n) : g &&& gl_l t n = 0 ↔ ∀ q, q < n → g.testBit q = true → t.testBit q = true := by
  constructor
  · intro h q hq hb
    have h1 : (g &&& gl_l t n).testBit q = false := by rw [h, Nat.zero_testBit]
    rw [Nat.testBit_and, hb, gl_lbit, decide_eq_true hq] at h1
    simpa using h1
  · intro h
    apply Nat.eq_of_testBit_eq
    intro q
    rw [Nat.zero_testBit, Nat.testBit_and, gl_lbit]
    cases hb : g.testBit q with
    | false => rfl
    | true =>
      by_cases hq : q < n
      · rw [h q hq hb, decide_eq_true hq]; rfl
      · rw [decide_eq_false hq]; rfl
def gL (k n t i : Nat) : Nat := if gk_g k i &&& gl_l t n = 0 then gk_g k i else 0
/-- the plan that is chosen for shard i; 0 for none -/
def gP (k n t i : Nat) : Nat := if gL k n t i = 0 then (if gm_pc (gM k n t) = 6 then gM k n t else 0) else gL k n t i
theorem nz_bit {m n : Nat} (h : m < 2 ^ n) : m ≠ 0 ↔ ∃ q, q < n ∧ m.testBit q = true := by
  constructor
  · intro h0
    obtain ⟨q, hq⟩ := Nat.exists_testBit_of_ne_zero h0
    refine ⟨q, ?_, hq⟩
    refine Classical.byContradiction (fun hn => ?_)
    rw [Nat.testBit_lt_two_pow (Nat.lt_of_lt_of_le h (Nat.pow_le_pow_right (by decide) (by omega)))] at hq
    cases hq
  · intro ⟨q, _, hq⟩ h0
    rw [h0, Nat.zero_testBit] at hq; cases hq
theorem lo_L8 {sg i n t g : Nat} {xk : Int32} {xt : Nat → Int32} (hg : ∀ j, j < n → (mm_Mo_grouped i j xk = (0 : Int32) ↔ g.testBit j = false)) (hx : ∀ j, j < n → (xt (11 * sg + j) = (0 : Int32) ↔ t.testBit j = false)) :
    ∀ (k j : Nat) (v3 v4 : Int32), j + k = n → (v3 = 0 ∧ (∀ q, q < j → g.testBit q = false) ∨ v3 = 1 ∧ ∃ q, q < j ∧ g.testBit q = true) → (v4 = 1 ∧ (∀ q, q < j → g.testBit q = true → t.testBit q = true) ∨ v4 = 0 ∧ ∃ q, q < j ∧ g.testBit q = true ∧ t.testBit q = false) →
      (mm_Mo_local_L8 sg i xk xt k j v3 v4 = 0 ↔ ¬ ((∃ q, q < n ∧ g.testBit q = true) ∧ ∀ q, q < n → g.testBit q = true → t.testBit q = true))
  | 0, j, v3, v4, hj, h3, h4 => by
    have hjn : j = n := by omega
    subst hjn
    rw [mm_Mo_local_L8]
    rcases h3 with ⟨e3, h3⟩ | ⟨e3, q, hq, hb⟩
    · rw [e3, if_pos rfl]
      refine ⟨fun _ h => ?_, fun _ => rfl⟩
      obtain ⟨⟨q, hq, hb⟩, -⟩ := h
      rw [h3 q hq] at hb; cases hb
    · rw [e3, if_neg (by decide)]
      rcases h4 with ⟨e4, h4⟩ | ⟨e4, p, hp, hbp, htp⟩
      · rw [e4, if_neg (by decide)]
        exact ⟨fun h => absurd h (by decide), fun h => absurd ⟨⟨q, hq, hb⟩, h4⟩ h⟩
      · rw [e4, if_pos rfl]
        refine ⟨fun _ h => ?_, fun _ => rfl⟩
        have := h.2 p hp hbp
        rw [htp] at this; cases this
  | k + 1, j, v3, v4, hj, h3, h4 => by
    rw [mm_Mo_local_L8]
    have hs : ∀ P : Nat → Prop, (∀ q, q < j → P q) → P j → ∀ q, q < j + 1 → P q := fun P h1 h2 q hq => by
      rcases Nat.lt_succ_iff_lt_or_eq.mp hq with h | h
      · exact h1 q h
      · subst h; exact h2
    cases hb : g.testBit j with
    | false =>
      rw [if_pos ((hg j (by omega)).mpr hb)]
      refine lo_L8 hg hx k (j + 1) v3 v4 (by omega) ?_ ?_
      · rcases h3 with ⟨e3, h3⟩ | ⟨e3, q, hq, hbq⟩
        · exact Or.inl ⟨e3, hs _ h3 hb⟩
        · exact Or.inr ⟨e3, q, by omega, hbq⟩
      · rcases h4 with ⟨e4, h4⟩ | ⟨e4, q, hq, h5⟩
        · exact Or.inl ⟨e4, hs _ h4 (fun h => by rw [hb] at h; cases h)⟩
        · exact Or.inr ⟨e4, q, by omega, h5⟩
    | true =>
      have nt : ¬ (g.testBit j = false) := by rw [hb]; decide
      rw [if_neg (fun h => nt ((hg j (by omega)).mp h))]
      have h3' : (1 : Int32) = 0 ∧ (∀ q, q < j + 1 → g.testBit q = false) ∨ (1 : Int32) = 1 ∧ ∃ q, q < j + 1 ∧ g.testBit q = true := Or.inr ⟨rfl, j, by omega, hb⟩
      rcases h4 with ⟨e4, h4⟩ | ⟨e4, q, hq, h5⟩
      · rw [e4, if_neg (by decide)]
        cases hbt : t.testBit j with
        | false =>
          rw [if_pos ((hx j (by omega)).mpr hbt)]
          exact lo_L8 hg hx k (j + 1) 1 0 (by omega) h3' (Or.inr ⟨rfl, j, by omega, hb, hbt⟩)
        | true =>
          have nt2 : ¬ (t.testBit j = false) := by rw [hbt]; decide
          rw [if_neg (fun h => nt2 ((hx j (by omega)).mp h))]
          exact lo_L8 hg hx k (j + 1) 1 1 (by omega) h3' (Or.inl ⟨rfl, hs _ h4 (fun _ => hbt)⟩)
      · rw [e4, if_pos rfl]
        exact lo_L8 hg hx k (j + 1) 1 0 (by omega) h3' (Or.inr ⟨rfl, q, by omega, h5⟩)
section GP
variable {k n t i sg : Nat} {gr al xk : Int32} {ro : Nat → Int64} {xr xt : Nat → Int32}
theorem gr_bit (hk : rk k n gr ro al xk xr) (hi : i < n) (j : Nat) (hj : j < n) : mm_Mo_grouped i j xk = (0 : Int32) ↔ (gk_g k i).testBit j = false := by
  obtain ⟨k3, hn, -, -, -, hxk, -⟩ := hk
  have h := gk_gr k k3 i (by omega) j (by omega)
  rw [hxk]
  constructor
  · intro h0
    rw [decide_eq_true h0] at h
    cases hb : (gk_g k i).testBit j
    · rfl
    · rw [hb] at h; cases h
  · intro hb
    rw [hb] at h
    exact of_decide_eq_true h
theorem gk_gl (hk : rk k n gr ro al xk xr) (hi : i < n) : gk_g k i < 2 ^ n := by
  obtain ⟨k3, hn, -⟩ := hk
  subst hn
  exact gk_glt k k3 i hi
theorem gL_ne (hk : rk k n gr ro al xk xr) (hi : i < n) : gL k n t i = 0 ↔ ¬ ((∃ q, q < n ∧ (gk_g k i).testBit q = true) ∧ ∀ q, q < n → (gk_g k i).testBit q = true → t.testBit q = true) := by
  have hg := gk_gl hk hi
  rw [← nz_bit hg, ← gl_sub hg, gL]
  by_cases h : gk_g k i &&& gl_l t n = 0
  · rw [if_pos h]
    exact ⟨fun h0 h1 => h1.1 h0, fun h1 => Classical.byContradiction (fun h0 => h1 ⟨h0, h⟩)⟩
  · rw [if_neg h]
    exact ⟨fun _ h1 => h h1.2, fun _ => rfl⟩
theorem gL_ref (hk : rk k n gr ro al xk xr) (hi : i < n) (hx : ∀ j, j < n → (xt (11 * sg + j) = (0 : Int32) ↔ t.testBit j = false)) : mm_Mo_local sg i n xk xt = 0 ↔ gL k n t i = 0 := by
  rw [mm_Mo_local, gL_ne hk hi]
  exact lo_L8 (gr_bit hk hi) hx n 0 0 1 (by omega) (Or.inl ⟨rfl, fun q hq => absurd hq (Nat.not_lt_zero _)⟩) (Or.inl ⟨rfl, fun q hq => absurd hq (Nat.not_lt_zero _)⟩)
theorem gL_cls (hk : rk k n gr ro al xk xr) (hi : i < n) (ht : t < 2 ^ n) : mm_RG_localPlan i n gr al (nI t) = nI (gL k n t i) := by
  have hn := hk.n
  have hg := gk_gl hk hi
  obtain ⟨k3, hnk, hgr, -, hal, -⟩ := hk
  have h := gk_cg k k3 i (by omega)
  rw [← hnk, ← hgr] at h
  rw [mm_RG_localPlan, h, hal, gl_lostM (by omega) ht, gm_and, gL]
  have hg2 : gk_g k i < 2048 := Nat.lt_of_lt_of_le hg (Nat.pow_le_pow_right (n := 2) (by decide) hn.2)
  have hm : gk_g k i &&& gl_l t n < 2048 := Nat.lt_of_le_of_lt Nat.and_le_left hg2
  by_cases h0 : gk_g k i &&& gl_l t n = 0
  · rw [if_pos h0, if_pos ((nI_m0 hm).mpr h0)]
  · rw [if_neg h0, if_neg (fun h => h0 ((nI_m0 hm).mp h))]
    rfl
theorem gL_lt (hk : rk k n gr ro al xk xr) (hi : i < n) : gL k n t i < 2 ^ n := by
  rw [gL]
  split
  · exact gk_gl hk hi
  · exact Nat.pow_pos (by decide)
theorem gP_lt (hk : rk k n gr ro al xk xr) (hi : i < n) : gP k n t i < 2 ^ n := by
  rw [gP]
  split
  · split
    · exact gM_lt
    · exact Nat.pow_pos (by decide)
  · exact gL_lt hk hi
theorem gP_2048 (hk : rk k n gr ro al xk xr) (hi : i < n) : gP k n t i < 2048 := Nat.lt_of_lt_of_le (gP_lt hk hi) (Nat.pow_le_pow_right (n := 2) (by decide) hk.n.2)
theorem gP_sub (hk : rk k n gr ro al xk xr) (hi : i < n) {q : Nat} (hq : q < n) (hb : (gP k n t i).testBit q = true) : t.testBit q = true := by
  rw [gP] at hb
  split at hb
  · split at hb
    · exact gM_sub hb
    · rw [Nat.zero_testBit] at hb; cases hb
  · rw [gL] at hb
    split at hb
    · next h => exact (gl_sub (gk_gl hk hi)).mp h q hq hb
    · rw [Nat.zero_testBit] at hb; cases hb
theorem gP_good (hk : rk k n gr ro al xk xr) (hi : i < n) (h0 : gP k n t i ≠ 0) : z6 (gs_rest (gi_d (gk_row k) (gP k n t i) n 0 (fun _ => 0)) 6 0 (gk_row k i)) := by
  have hn := hk.n
  rw [gP] at h0 ⊢
  split at h0
  · next hl =>
    rw [if_pos hl]
    split at h0
    · next h6 => rw [if_pos h6]; exact gM_full hn.2 h6 i
    · exact absurd rfl h0
  · next hl =>
    rw [if_neg hl]
    rw [gL] at h0 ⊢
    split at h0
    · next hs =>
      rw [if_pos hs]
      obtain ⟨k3, hnk, -⟩ := hk
      rw [hnk]
      exact gk_loc k k3 i (by omega) h0
    · exact absurd rfl h0
theorem gP_cls {sr sv : Nat → Int64} (hk : rk k n gr ro al xk xr) (hi : i < n) (ht : t < 2 ^ n) : ∃ sr' sv', mm_RG_choosePlan i n gr ro sr sv al (nI t) = (nI (gP k n t i), sr', sv') := by
  have hn := hk.n
  have hl2 : gL k n t i < 2048 := Nat.lt_of_lt_of_le (gL_lt hk hi) (Nat.pow_le_pow_right (n := 2) (by decide) hn.2)
  have ht2 : t < 2048 := Nat.lt_of_lt_of_le ht (Nat.pow_le_pow_right (n := 2) (by decide) hn.2)
  rw [mm_RG_choosePlan, gL_cls hk hi ht, gP]
  by_cases h0 : gL k n t i = 0
  · rw [if_pos ((nI_m0 hl2).mpr h0), if_pos h0]
    obtain ⟨sr', sv', c1⟩ := gM_cls (k := k) (t := t) (ro := ro) (sr := sr) (sv := sv) hn.2 hk.2.2.2.1 ht2
    rw [c1]
    dsimp only
    refine ⟨sr', sv', ?_⟩
    have hle := gM_le (k := k) (t := t) hn.2
    rw [mm_RG_globalPlan, gm_bitCount _ (gM_2048 hn.2)]
    have e6 : nI (gm_pc (gM k n t)) = (6 : Int32) ↔ gm_pc (gM k n t) = 6 := nI_eq (b := 6) (by omega) (by decide)
    by_cases h6 : gm_pc (gM k n t) = 6
    · rw [if_pos h6, if_pos (e6.mpr h6)]
    · rw [if_neg h6, if_neg (fun h => h6 (e6.mp h))]
      rfl
  · rw [if_neg (fun h => h0 ((nI_m0 hl2).mp h)), if_neg h0]
    exact ⟨sr, sv, rfl⟩
theorem ch_L36 {xk : Int32} {m xg : Nat} {xq xo : Nat → Int32} {xv : Nat → Nat} (hg : ∀ j, j < n → (mm_Mo_grouped i j xk = (0 : Int32) ↔ m.testBit j = false)) : ∀ (k j xs : Nat) (xp : Nat → Nat), j + k = n → pls m j xs xp → ∃ xs' xp', mm_Mo_choose_L36 i xk xg xq xv xo k j xs xp = (1, xs', xg, xp', xq, xv, xo) ∧ pls m n xs' xp'
  | 0, j, xs, xp, hj, h => ⟨xs, xp, by rw [mm_Mo_choose_L36], by rw [← show j = n by omega]; exact h⟩
  | k + 1, j, xs, xp, hj, h => by
    rw [mm_Mo_choose_L36]
    cases hb : m.testBit j with
    | false =>
      rw [if_pos ((hg j (by omega)).mpr hb)]
      exact ch_L36 hg k (j + 1) xs xp (by omega) (h.skip hb)
    | true =>
      have nt : ¬ (m.testBit j = false) := by rw [hb]; decide
      rw [if_neg (fun h => nt ((hg j (by omega)).mp h))]
      exact ch_L36 hg k (j + 1) _ _ (by omega) (h.add hb)
theorem gP_ref {xg : Nat} {xq xo : Nat → Int32} {xp xv : Nat → Nat} (hk : rk k n gr ro al xk xr) (hi : i < n) (hx : ∀ j, j < n → (xt (11 * sg + j) = (0 : Int32) ↔ t.testBit j = false)) :
    ∃ (r : Int32) (xs' xg' : Nat) (xp' : Nat → Nat) (xq' : Nat → Int32) (xv' : Nat → Nat) (xo' : Nat → Int32), mm_Mo_choose sg i n xk xg xr xt xp xq xv xo = (r, xs', xg', xp', xq', xv', xo') ∧ ((gP k n t i = 0 ∧ r = 0) ∨ (gP k n t i ≠ 0 ∧ r = 1 ∧ pls (gP k n t i) n xs' xp')) := by
  have hn := hk.n
  rw [mm_Mo_choose, gP]
  by_cases h0 : gL k n t i = 0
  · rw [if_pos ((gL_ref hk hi hx).mpr h0), if_pos h0]
    obtain ⟨xs', xp', xq', xv', xo', r1, r2⟩ := gM_ref (k := k) (t := t) (sg := sg) (xr := xr) (xt := xt) (xq := xq) (xo := xo) (xp := xp) (xv := xv) hn.2 hk.2.2.2.2.2.2 hx
    rw [r1]
    dsimp only
    have hle := gM_le (k := k) (t := t) hn.2
    have e6 : nI (gm_pc (gM k n t)) = (6 : Int32) ↔ gm_pc (gM k n t) = 6 := nI_eq (b := 6) (by omega) (by decide)
    by_cases h6 : gm_pc (gM k n t) = 6
    · rw [if_pos h6, if_pos (e6.mpr h6)]
      refine ⟨_, _, _, _, _, _, _, rfl, Or.inr ⟨fun hz => ?_, rfl, r2⟩⟩
      rw [hz] at h6; exact absurd h6 (by decide)
    · rw [if_neg h6, if_neg (fun h => h6 (e6.mp h))]
      exact ⟨_, _, _, _, _, _, _, rfl, Or.inl ⟨rfl, rfl⟩⟩
  · rw [if_neg (fun h => h0 ((gL_ref hk hi hx).mp h)), if_neg h0]
    obtain ⟨xs', xp', a1, a2⟩ := ch_L36 (xg := xg) (xq := xq) (xo := xo) (xv := xv) (gr_bit hk hi) n 0 0 xp (by omega) pls.zero
    have hz : gL k n t i = gk_g k i := by
      rw [gL] at h0 ⊢
      split
      · rfl
      · next h => rw [if_neg h] at h0; exact absurd rfl h0
    rw [a1]
    exact ⟨_, _, _, _, _, _, _, rfl, Or.inr ⟨h0, rfl, by rw [hz]; exact a2⟩⟩
end GP
theorem e_cost {n : Nat} {gr al xk : Int32} {ro : Nat → Int64} {xr : Nat → Int32} {lf : Int64} {sr : Nat → Int64} {sv : Nat → Int64} {up : Nat → Int32} {ct : Nat → Int32} {th : Nat → Int32} {wr : Nat → Nat → Int64} {fl : Nat → Nat → Int64} {xa : Int32} {xb : Int32} {xc : Int32} {xe : Int32} {xl : Int64} {xs : Nat} {xg : Nat} {xd : Nat → Int64} {xt : Nat → Int32} {xf : Nat → Int64} {xw : Nat → Int32} {xp : Nat → Nat} {xq : Nat → Int32} {xv : Nat → Nat} {xo : Nat → Int32} {x : Int32} {y : Int32} {r_1 r_2 : Int32} {sr_1 : Nat → Int64} {sv_1 : Nat → Int64} {xs_2 : Nat} {xg_2 : Nat} {xp_2 : Nat → Nat} {xq_2 : Nat → Int32} {xv_2 : Nat → Nat} {xo_2 : Nat → Int32} (hrl : (rl n gr ro al xk xr lf up ct th wr fl xa xb xc xe xl xd xt xf xw)) (h1 : (r_1, sr_1, sv_1) = m3_RG_cost x y n gr ro sr sv al th) (h2 : (r_2, xs_2, xg_2, xp_2, xq_2, xv_2, xo_2) = mm_Mo_cost x y n xk xs xg xr xt xp xq xv xo) : r_1 = r_2 ∧ (rl n gr ro al xk xr lf up ct th wr fl xa xb xc xe xl xd xt xf xw) := by
  refine ⟨?_, hrl⟩
  obtain ⟨k, hk, hs, hw, hc⟩ := hrl
  have hn := hk.n
  rw [m3_RG_cost, mm_RG_cost] at h1
  rw [mm_Mo_cost] at h2
  rcases q_shard hn.2 x y with ⟨a, b⟩ | ⟨j, i, hj, hi, rfl, rfl⟩
  · rw [if_pos a] at h1
    rw [if_neg b] at h2
    dsimp only at h1
    cases h1; cases h2
    rfl
  · obtain ⟨a, b⟩ := q_shI hn.2 hj hi
    obtain ⟨t, ht⟩ := hs j hj
    obtain ⟨e1, e2⟩ := ht.there hn.2 hi
    obtain ⟨t1, t2⟩ := ht.th hn.2
    rw [if_neg (q_ne a), q_cl (by omega), (q_sI j hj).2.2] at h1
    rw [if_pos b, q_cl (by omega), q_cl (by omega)] at h2
    cases htb : t.testBit i with
    | true =>
      have nt : ¬ (t.testBit i = false) := by rw [htb]; decide
      rw [if_neg (fun h => nt (e1.mp h))] at h1
      rw [if_neg (fun h => nt (e2.mp h))] at h2
      dsimp only at h1
      cases h1; cases h2
      rfl
    | false =>
      rw [if_pos (e1.mpr htb), t2] at h1
      rw [if_pos (e2.mpr htb)] at h2
      obtain ⟨sr', sv', c1⟩ := gP_cls (sr := sr) (sv := sv) hk hi ht.1
      obtain ⟨r, xs', xg', xp', xq', xv', xo', r1, r2⟩ := gP_ref (t := t) (sg := j) (xt := xt) (xg := xg) (xq := xq) (xo := xo) (xp := xp) (xv := xv) hk hi (fun q hq => (ht.there hn.2 hq).2)
      rw [c1] at h1
      rw [r1] at h2
      dsimp only at h1 h2
      rcases r2 with ⟨z, rz⟩ | ⟨z, rz, ls⟩
      · rw [if_pos ((nI_m0 (gP_2048 hk hi)).mpr z)] at h1
        rw [if_pos rz] at h2
        dsimp only at h1
        cases h1; cases h2
        rfl
      · rw [if_neg (fun h => z ((nI_m0 (gP_2048 hk hi)).mp h))] at h1
        rw [if_neg (by rw [rz]; decide)] at h2
        dsimp only at h1
        rw [gm_bitCount _ (gP_2048 hk hi), cb_n hn (gP_lt hk hi), ← ls.1] at h1
        cases h1; cases h2
        rfl
