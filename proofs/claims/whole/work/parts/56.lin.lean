/-! rows taken off one after another: at each turn the byte at a place, times a row -/
def z6 (v : Int64) : Prop := ∀ q, q < 6 → gy_a v q = 0
theorem z6_0 : z6 0 := fun q _ => gy_a0 q
theorem z6_x {a b : Int64} (ha : z6 a) (hb : z6 b) : z6 (a ^^^ b) := fun q hq => by rw [gy_ax, ha q hq, hb q hq]; rfl
theorem z6_T {f : Nat} (hf : f < 256) {a : Int64} (ha : z6 a) : z6 (gy_T f a) := fun q hq => by rw [gy_aT hf a (by omega), ha q hq, gf_t0]
theorem z6_xr {a b : Int64} (hb : z6 b) : z6 (a ^^^ b) ↔ z6 a := by
  refine ⟨fun h => ?_, fun h => z6_x h hb⟩
  have := z6_x h hb
  rw [Int64.xor_assoc, Int64.xor_self, Int64.xor_zero] at this
  exact this
def rr (b : Nat → Int64) (xv : Nat → Nat) : Nat → Nat → Int64 → Int64
  | 0, _, v => v
  | k + 1, j, v => rr b xv k (j + 1) (v ^^^ gy_T (gy_a v (xv j % 6)) (b j))
theorem rr_x {b : Nat → Int64} {xv : Nat → Nat} : ∀ (k j : Nat) (x y : Int64), rr b xv k j (x ^^^ y) = rr b xv k j x ^^^ rr b xv k j y
  | 0, _, _, _ => rfl
  | k + 1, j, x, y => by
    rw [rr, rr, rr, ← rr_x k (j + 1), gy_ax, gy_Tadd (gy_alt _ _) (gy_alt _ _), gy_x4]
theorem rr_T {b : Nat → Int64} {xv : Nat → Nat} {f : Nat} (hf : f < 256) : ∀ (k j : Nat) (x : Int64), rr b xv k j (gy_T f x) = gy_T f (rr b xv k j x)
  | 0, _, _ => rfl
  | k + 1, j, x => by
    have h6 : xv j % 6 < 6 := Nat.mod_lt _ (by decide)
    rw [rr, rr, ← rr_T hf k (j + 1), gy_aT hf x (by omega), gy_Tx hf, gy_TT hf (gy_alt _ _)]
theorem rr_z {b : Nat → Int64} {xv : Nat → Nat} : ∀ (k j : Nat) {v : Int64}, z6 v → z6 (rr b xv k j v)
  | 0, _, _, h => h
  | k + 1, j, v, h => by
    rw [rr, h _ (Nat.mod_lt _ (by decide)), gy_T0, Int64.xor_zero]
    exact rr_z k (j + 1) h
theorem rr_rr {b b' : Nat → Int64} {xv xv' : Nat → Nat} {k' j' K : Nat} (hk : ∀ i, i < K → z6 (rr b' xv' k' j' (b i))) : ∀ (k j : Nat) (v : Int64), j + k ≤ K → (z6 (rr b' xv' k' j' (rr b xv k j v)) ↔ z6 (rr b' xv' k' j' v))
  | 0, _, _, _ => Iff.rfl
  | k + 1, j, v, hj => by
    rw [rr, rr_rr hk k (j + 1) _ (by omega), rr_x, rr_T (gy_alt _ _)]
    exact z6_xr (z6_T (gy_alt _ _) (hk j (by omega)))
theorem rr_snoc {b : Nat → Int64} {xv : Nat → Nat} : ∀ (k j : Nat) (v : Int64), rr b xv (k + 1) j v = rr b xv k j v ^^^ gy_T (gy_a (rr b xv k j v) (xv (j + k) % 6)) (b (j + k))
  | 0, _, _ => rfl
  | k + 1, j, v => by
    rw [rr, rr_snoc k (j + 1), show j + 1 + k = j + (k + 1) by omega]
    rfl
theorem rr_cg {b b' : Nat → Int64} {xv xv' : Nat → Nat} : ∀ (k j : Nat) (v : Int64), (∀ i, i < j + k → b i = b' i ∧ xv i = xv' i) → rr b xv k j v = rr b' xv' k j v
  | 0, _, _, _ => rfl
  | k + 1, j, v, h => by
    rw [rr, rr, (h j (by omega)).1, (h j (by omega)).2, rr_cg k (j + 1) _ (fun i hi => h i (by omega))]
/-- the class's: each place's own row -/
abbrev rI : Nat → Nat := fun j => j
theorem rI_rest {sr : Nat → Int64} : ∀ (k j : Nat) (v : Int64), j + k = 6 → gs_rest sr k j v = rr sr rI k j v
  | 0, _, _, _ => rfl
  | k + 1, j, v, hj => by
    rw [gs_rest, rr, rI_rest k (j + 1) _ (by omega), show rI j % 6 = j from Nat.mod_eq_of_lt (show j < 6 by omega)]
theorem rI_own {sr : Nat → Int64} (hP : gs_P sr) {p : Nat} (hp : p < 6) : ∀ (k j : Nat), j + k = 6 → j ≤ p → z6 (rr sr rI k j (sr p))
  | 0, j, hj, hjp => by omega
  | k + 1, j, hj, hjp => by
    rcases hP p hp with h0 | ⟨h1, h2⟩
    · rw [h0]; exact rr_z _ _ z6_0
    · rw [rr, show rI j % 6 = j from Nat.mod_eq_of_lt (show j < 6 by omega)]
      rcases Nat.lt_or_eq_of_le hjp with h | h
      · rw [h2 j h, gy_T0, Int64.xor_zero]
        exact rI_own hP hp k (j + 1) (by omega) h
      · subst h
        rw [h1, gy_T1, Int64.xor_self]
        exact rr_z _ _ z6_0
theorem tk_none {sr : Nat → Int64} (hP : gs_P sr) : ∀ (k j : Nat) (v : Int64), j + k = 6 → (∀ q, q < j → gy_a v q = 0) → gs_tk sr k j v = none → z6 (rr sr rI k j v)
  | 0, j, v, hj, hz, _ => fun q hq => by rw [rr]; exact hz q (by omega)
  | k + 1, j, v, hj, hz, h => by
    rw [gs_tk] at h
    by_cases hc : gy_a v j ≠ 0 ∧ sr j = 0
    · rw [if_pos hc] at h; cases h
    · rw [if_neg hc] at h
      rw [rr, show rI j % 6 = j from Nat.mod_eq_of_lt (show j < 6 by omega)]
      exact tk_none hP k (j + 1) _ (by omega) (gs_elim hP (by omega) hz hc) h
theorem rI_keep {sr : Nat → Int64} (hP : gs_P sr) {p : Nat} : ∀ (k j : Nat) (v : Int64), j + k = 6 → p < j → gy_a (rr sr rI k j v) p = gy_a v p
  | 0, _, _, _, _ => rfl
  | k + 1, j, v, hj, hp => by
    rw [rr, rI_keep hP k (j + 1) _ (by omega) (by omega), gy_ax, gy_aT (gy_alt _ _) _ (by omega)]
    have : gy_a (sr j) p = 0 := by
      rcases hP j (by omega) with h0 | ⟨_, h2⟩
      · rw [h0]; exact gy_a0 p
      · exact h2 p hp
    rw [this, gf_t0, Nat.xor_zero]
theorem tk_some {sr : Nat → Int64} (hP : gs_P sr) : ∀ (k j : Nat) (v : Int64) (p : Nat) (r : Int64), j + k = 6 → gs_tk sr k j v = some (p, r) → ¬ z6 (rr sr rI k j v)
  | 0, _, _, _, _, _, h => by cases h
  | k + 1, j, v, p, r, hj, h => by
    rw [gs_tk] at h
    rw [rr, show rI j % 6 = j from Nat.mod_eq_of_lt (show j < 6 by omega)]
    by_cases hc : gy_a v j ≠ 0 ∧ sr j = 0
    · intro hz
      have h1 := hz j (by omega)
      rw [hc.2, gy_T_z (gy_alt _ _), Int64.xor_zero, rI_keep hP k (j + 1) v (by omega) (by omega)] at h1
      exact hc.1 h1
    · rw [if_neg hc] at h
      exact tk_some hP k (j + 1) _ p r (by omega) h
theorem tk_r {sr b' : Nat → Int64} {xv' : Nat → Nat} {k' j' : Nat} (hk : ∀ i, i < 6 → z6 (rr b' xv' k' j' (sr i))) : ∀ (k j : Nat) (v : Int64) (p : Nat) (r : Int64), j + k = 6 → gs_tk sr k j v = some (p, r) → (z6 (rr b' xv' k' j' r) ↔ z6 (rr b' xv' k' j' v))
  | 0, _, _, _, _, _, h => by cases h
  | k + 1, j, v, p, r, hj, h => by
    rw [gs_tk] at h
    by_cases hc : gy_a v j ≠ 0 ∧ sr j = 0
    · rw [if_pos hc] at h
      cases h
      obtain ⟨i1, _, i3⟩ := gx_inverse _ (gy_alt v j)
      refine ⟨fun h => ?_, fun h => ?_⟩
      · have h2 := z6_T (gy_alt v j) h
        rw [← rr_T (gy_alt v j), gy_TT (gy_alt v j) i1, gf_tcomm _ (gy_alt v j) _ i1, i3 hc.1, gy_T1] at h2
        exact h2
      · rw [rr_T i1]; exact z6_T i1 h
    · rw [if_neg hc] at h
      rw [tk_r hk k (j + 1) _ p r (by omega) h, rr_x, rr_T (gy_alt _ _)]
      exact z6_xr (z6_T (gy_alt _ _) (hk j (by omega)))
/-! the reference's adds -/
theorem ad_L2 {i : Nat} {xr : Nat → Int32} {r : Int64} (hr : ∀ p, p < 6 → xr (6 * i + p) = nI (gy_a r p)) : ∀ (k j : Nat) (xo : Nat → Int32), j + k = 6 → (∀ p, p < j → xo p = nI (gy_a r p)) → ∀ p, p < 6 → mm_Mo_adds_L2 i xr k j xo p = nI (gy_a r p)
  | 0, j, xo, hj, h, p, hp => by rw [mm_Mo_adds_L2]; exact h p (by omega)
  | k + 1, j, xo, hj, h, p, hp => by
    rw [mm_Mo_adds_L2]
    refine ad_L2 hr k (j + 1) _ (by omega) (fun q hq => ?_) p hp
    by_cases hqj : q = j
    · subst hqj; rw [pk_us]; exact hr q (by omega)
    · rw [pk_un hqj]; exact h q (by omega)
theorem ad_L56 {xq : Nat → Int32} {xv : Nat → Nat} {xo : Nat → Int32} {j33 : Nat} {v b : Int64} (ho : ∀ p, p < 6 → xo p = nI (gy_a v p)) (hq : ∀ p, p < 6 → xq (6 * j33 + p) = nI (gy_a b p)) : ∀ (k j : Nat) (xo' : Nat → Int32), j + k = 6 →
    (∀ p, p < j → xo' p = nI (gy_a (v ^^^ gy_T (gy_a v (xv j33 % 6)) b) p)) → (∀ p, j ≤ p → p < 6 → xo' p = nI (gy_a v p)) → ∀ p, p < 6 → mm_Mo_adds_L56 xq xv xo j33 k j xo' p = nI (gy_a (v ^^^ gy_T (gy_a v (xv j33 % 6)) b) p)
  | 0, j, xo', hj, h, _, p, hp => by rw [mm_Mo_adds_L56]; exact h p (by omega)
  | k + 1, j, xo', hj, h, h', p, hp => by
    rw [mm_Mo_adds_L56]
    refine ad_L56 ho hq k (j + 1) _ (by omega) (fun q hqj => ?_) (fun q h1 h2 => by rw [pk_un (by omega)]; exact h' q (by omega) h2) p hp
    by_cases hq2 : q = j
    · subst hq2
      rw [pk_us, h' q (Nat.le_refl _) (by omega), ho _ (Nat.mod_lt _ (by decide)), hq q (by omega), mp_product (gy_alt _ _) (gy_alt _ _), gm_xor, gy_ax, gy_aT (gy_alt _ _) _ (by omega)]
    · rw [pk_un hq2]; exact h q (by omega)
theorem ad_L33 {xq : Nat → Int32} {xv : Nat → Nat} {b : Nat → Int64} {g : Nat} (hq : ∀ j, j < g → ∀ p, p < 6 → xq (6 * j + p) = nI (gy_a (b j) p)) : ∀ (k j : Nat) (xo : Nat → Int32) (v : Int64), j + k ≤ g → (∀ p, p < 6 → xo p = nI (gy_a v p)) → ∀ p, p < 6 → mm_Mo_adds_L33 xq xv k j xo p = nI (gy_a (rr b xv k j v) p)
  | 0, j, xo, v, _, h => by intro p hp; rw [mm_Mo_adds_L33, rr]; exact h p hp
  | k + 1, j, xo, v, hj, h => by
    intro p hp
    rw [mm_Mo_adds_L33, rr]
    exact ad_L33 hq k (j + 1) _ _ (by omega) (ad_L56 h (hq j (by omega)) 6 0 xo rfl (fun q hq => absurd hq (Nat.not_lt_zero _)) (fun q _ h2 => h q h2)) p hp
theorem ad_L111 {xo : Nat → Int32} : ∀ (k : Nat) (v : Int32), ((∀ p, p < k → xo p = 0) ∧ mm_Mo_adds_L111 xo k v = v) ∨ ∃ p, p < k ∧ xo p ≠ 0 ∧ mm_Mo_adds_L111 xo k v = nI p
  | 0, v => Or.inl ⟨fun p hp => absurd hp (Nat.not_lt_zero _), by rw [mm_Mo_adds_L111]⟩
  | k + 1, v => by
    rw [mm_Mo_adds_L111]
    by_cases h : xo k = 0
    · rw [if_pos h]
      rcases ad_L111 (xo := xo) k v with ⟨h1, h2⟩ | ⟨p, h1, h2, h3⟩
      · refine Or.inl ⟨fun p hp => ?_, h2⟩
        rcases Nat.lt_succ_iff_lt_or_eq.mp hp with h9 | h9
        · exact h1 p h9
        · subst h9; exact h
      · exact Or.inr ⟨p, by omega, h2, h3⟩
    · rw [if_neg h]
      rcases ad_L111 (xo := xo) k (nI k) with ⟨h1, h2⟩ | ⟨p, h1, h2, h3⟩
      · exact Or.inr ⟨k, by omega, h, h2⟩
      · exact Or.inr ⟨p, by omega, h2, h3⟩
theorem ad_L156 {g : Nat} {xo : Nat → Int32} {w : Int32} : ∀ (k j : Nat) (xq : Nat → Int32), j + k = 6 → (∀ p, p < j → xq (6 * g + p) = mm_Mo_product (xo p) w) → (∀ p, p < 6 → mm_Mo_adds_L156 g xo w k j xq (6 * g + p) = mm_Mo_product (xo p) w) ∧ ∀ c, c < 6 * g → mm_Mo_adds_L156 g xo w k j xq c = xq c
  | 0, j, xq, hj, h => ⟨fun p hp => by rw [mm_Mo_adds_L156]; exact h p (by omega), fun c _ => by rw [mm_Mo_adds_L156]⟩
  | k + 1, j, xq, hj, h => by
    rw [mm_Mo_adds_L156]
    obtain ⟨h1, h2⟩ := ad_L156 (g := g) (xo := xo) (w := w) k (j + 1) (upd xq (6 * g + j) (mm_Mo_product (xo j) w)) (by omega) (fun p hp => by
      by_cases hpj : p = j
      · subst hpj; rw [pk_us]
      · rw [pk_un (by omega)]; exact h p (by omega))
    exact ⟨h1, fun c hc => by rw [h2 c hc, pk_un (by omega)]⟩
theorem ad_inv4 {a : Nat} (ha : a < 256) : ∀ (k j : Nat) (v : Int32), j + k = 256 → ((∀ c, j ≤ c → c < 256 → gf_t a c ≠ 1) ∧ mm_Mo_inverse_L4 (nI a) k j v = v) ∨ ∃ c, c < 256 ∧ gf_t a c = 1 ∧ mm_Mo_inverse_L4 (nI a) k j v = nI c
  | 0, j, v, hj => Or.inl ⟨fun c h1 h2 => by omega, by rw [mm_Mo_inverse_L4]⟩
  | k + 1, j, v, hj => by
    have hjl : j < 256 := by omega
    rw [mm_Mo_inverse_L4, mp_product ha hjl]
    have hb := gf_tlt a j hjl
    have he : nI (gf_t a j) = (1 : Int32) ↔ gf_t a j = 1 := nI_eq (b := 1) (by omega) (by decide)
    by_cases h : gf_t a j = 1
    · rw [if_pos (he.mpr h)]
      rcases ad_inv4 ha k (j + 1) (nI j) (by omega) with ⟨h1, h2⟩ | ⟨c, h1, h2, h3⟩
      · exact Or.inr ⟨j, by omega, h, h2⟩
      · exact Or.inr ⟨c, h1, h2, h3⟩
    · rw [if_neg (fun h9 => h (he.mp h9))]
      rcases ad_inv4 ha k (j + 1) v (by omega) with ⟨h1, h2⟩ | ⟨c, h1, h2, h3⟩
      · refine Or.inl ⟨fun c hc1 hc2 => ?_, h2⟩
        rcases Nat.lt_or_eq_of_le hc1 with h9 | h9
        · exact h1 c h9 hc2
        · subst h9; exact h
      · exact Or.inr ⟨c, h1, h2, h3⟩
theorem ad_inv {a : Nat} (ha : a < 256) (h0 : a ≠ 0) : ∃ c, c < 256 ∧ gf_t a c = 1 ∧ mm_Mo_inverse (nI a) = nI c := by
  rw [mm_Mo_inverse]
  rcases ad_inv4 ha 255 1 0 rfl with ⟨h1, -⟩ | h
  · obtain ⟨i1, -, i3⟩ := gx_inverse a ha
    have h9 := i3 h0
    have hne : gx_inv a ≠ 0 := fun hz => by rw [hz, gf_t00 a ha] at h9; cases h9
    rw [gf_tcomm _ i1 a ha] at h9
    exact absurd h9 (h1 _ (by omega) i1)
  · exact h
/-- the class's span and the reference's rows so far: each takes off the other's -/
def ga (sr : Nat → Int64) (g : Nat) (b : Nat → Int64) (xq : Nat → Int32) (xv : Nat → Nat) : Prop :=
  gs_P sr ∧ g = gi_c sr 6 ∧ (∀ j, j < g → ∀ p, p < 6 → xq (6 * j + p) = nI (gy_a (b j) p)) ∧ (∀ p, p < 6 → z6 (rr b xv g 0 (sr p))) ∧ ∀ j, j < g → z6 (rr sr rI 6 0 (b j))
theorem ga_adds {sr : Nat → Int64} {g : Nat} {b : Nat → Int64} {xq : Nat → Int32} {xv : Nat → Nat} {i : Nat} {xr xo : Nat → Int32} {r : Int64} (h : ga sr g b xq xv) (hr : ∀ p, p < 6 → xr (6 * i + p) = nI (gy_a r p)) :
    (gs_tk sr 6 0 r = none ∧ ∃ xo', mm_Mo_adds i g xr xq xv xo = (0, g, xq, xv, xo')) ∨
    ∃ p r' b' xq' xv' xo', gs_tk sr 6 0 r = some (p, r') ∧ mm_Mo_adds i g xr xq xv xo = (1, g + 1, xq', xv', xo') ∧ ga (vp_updL sr p r') (g + 1) b' xq' xv' := by
  obtain ⟨hP, hg, hq, hI1, hI2⟩ := h
  have hU := ad_L33 (xv := xv) hq g 0 _ r (by omega) (ad_L2 hr 6 0 xo rfl (fun p hp => absurd hp (Nat.not_lt_zero _)))
  rw [mm_Mo_adds]
  generalize mm_Mo_adds_L33 xq xv g 0 (mm_Mo_adds_L2 i xr 6 0 xo) = U at hU ⊢
  have hUz : ∀ p, p < 6 → (U p = 0 ↔ gy_a (rr b xv g 0 r) p = 0) := fun p hp => by rw [hU p hp]; exact nI_byte0 (gy_alt _ _)
  cases ht : gs_tk sr 6 0 r with
  | none =>
    have z1 := tk_none hP 6 0 r rfl (fun q hq => absurd hq (Nat.not_lt_zero _)) ht
    have z2 : z6 (rr b xv g 0 r) := (rr_rr (K := 6) hI1 6 0 r (Nat.le_refl _)).mp (rr_z _ _ z1)
    refine Or.inl ⟨rfl, U, ?_⟩
    rcases ad_L111 (xo := U) 6 (-1) with ⟨-, h2⟩ | ⟨p, h1, h2, -⟩
    · rw [h2, if_neg (by decide)]
    · exact absurd ((hUz p h1).mpr (z2 p h1)) h2
  | some pr =>
    obtain ⟨p, r'⟩ := pr
    have z1 := tk_some hP 6 0 r p r' rfl ht
    have z2 : ¬ z6 (rr b xv g 0 r) := fun hz => z1 ((rr_rr (K := g) hI2 g 0 r (by omega)).mp (rr_z _ _ hz))
    obtain ⟨q0, q1, q2⟩ := gs_tkP hP 6 0 r rfl (fun q hq => absurd hq (Nat.not_lt_zero _)) p r' ht
    have hp : p < 6 := gs_tklt 6 0 r rfl p r' ht
    have hP' := gs_Pupd hP q1 q2
    rcases ad_L111 (xo := U) 6 (-1) with ⟨h1, -⟩ | ⟨p0, hp0, hne, h2⟩
    · exact absurd (fun p hp => (hUz p hp).mp (h1 p hp)) z2
    · rw [h2, if_pos (nI_pos' (by omega)), nI_clamp (by omega)]
      have hne' : gy_a (rr b xv g 0 r) p0 ≠ 0 := fun h => hne ((hUz p0 hp0).mpr h)
      obtain ⟨c, c1, c2, c3⟩ := ad_inv (gy_alt (rr b xv g 0 r) p0) hne'
      rw [hU p0 hp0, c3]
      obtain ⟨w1, w2⟩ := ad_L156 (g := g) (xo := U) (w := nI c) 6 0 xq rfl (fun p hp => absurd hp (Nat.not_lt_zero _))
      refine Or.inr ⟨p, r', vp_updL b g (gy_T c (rr b xv g 0 r)), _, _, U, rfl, rfl, hP', ?_, fun j hj q hq6 => ?_, ?_⟩
      · rw [gi_cupd q0 (gi_ne0 q1) 6 hp, hg]
      · rcases Nat.lt_succ_iff_lt_or_eq.mp hj with h9 | h9
        · rw [w2 _ (by omega), pk_uLn (by omega)]; exact hq j h9 q hq6
        · subst h9
          rw [w1 q hq6, pk_uLs, hU q hq6, mp_product (gy_alt _ _) c1, gy_aT c1 _ (by omega), gf_tcomm _ (gy_alt _ _) _ c1]
      · have hs : ∀ v, rr (vp_updL b g (gy_T c (rr b xv g 0 r))) (va_up xv g p0) (g + 1) 0 v = rr b xv g 0 v ^^^ gy_T (gy_a (rr b xv g 0 v) p0) (gy_T c (rr b xv g 0 r)) := by
          intro v
          rw [rr_snoc, Nat.zero_add, pk_uLs, vq_at, Nat.mod_eq_of_lt hp0, rr_cg (b' := b) (xv' := xv) g 0 v (fun i hi => ⟨pk_uLn (by omega), vq_ne (by omega)⟩)]
        have hold : ∀ q, q < 6 → z6 (rr (vp_updL b g (gy_T c (rr b xv g 0 r))) (va_up xv g p0) (g + 1) 0 (sr q)) := by
          intro q hq6
          rw [hs, hI1 q hq6 p0 hp0, gy_T0, Int64.xor_zero]
          exact hI1 q hq6
        have hrow : z6 (rr (vp_updL b g (gy_T c (rr b xv g 0 r))) (va_up xv g p0) (g + 1) 0 r) := by
          rw [hs, gy_TT (gy_alt _ _) c1, c2, gy_T1, Int64.xor_self]
          exact z6_0
        have hown : ∀ q, q < 6 → z6 (rr (vp_updL sr p r') rI 6 0 (vp_updL sr p r' q)) := fun q hq6 => rI_own hP' hq6 6 0 rfl (Nat.zero_le _)
        have hold2 : ∀ q, q < 6 → z6 (rr (vp_updL sr p r') rI 6 0 (sr q)) := by
          intro q hq6
          by_cases hqp : q = p
          · subst hqp; rw [q0]; exact rr_z _ _ z6_0
          · have := hown q hq6; rw [pk_uLn hqp] at this; exact this
        have hnew : z6 (rr (vp_updL sr p r') rI 6 0 r') := by have := hown p hp; rw [pk_uLs] at this; exact this
        have hb : ∀ j, j < g → z6 (rr (vp_updL sr p r') rI 6 0 (b j)) := fun j hj => (rr_rr (K := 6) hold2 6 0 (b j) (Nat.le_refl _)).mp (rr_z _ _ (hI2 j hj))
        refine ⟨fun q hq6 => ?_, fun j hj => ?_⟩
        · by_cases hqp : q = p
          · subst hqp; rw [pk_uLs]
            exact (tk_r hold 6 0 r q r' rfl ht).mpr hrow
          · rw [pk_uLn hqp]; exact hold q hq6
        · rcases Nat.lt_succ_iff_lt_or_eq.mp hj with h9 | h9
          · rw [pk_uLn (by omega)]; exact hb j h9
          · subst h9
            rw [pk_uLs, rr_T c1]
            exact z6_T c1 ((rr_rr (K := j) hb j 0 r (by omega)).mpr ((tk_r hold2 6 0 r p r' rfl ht).mp hnew))
