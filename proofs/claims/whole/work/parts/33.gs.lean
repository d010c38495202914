/-! the span: rows that do not depend on one another -/
theorem nI_byte0 {b : Nat} (h : b < 256) : nI b = (0 : Int32) ↔ b = 0 := nI_eq (b := 0) (by omega) (by decide)
theorem gs_at0 (v : Int64) {j : Nat} (hj : j < 8) : mm_By_at v j = (0 : Int32) ↔ gy_a v j = 0 := by
  rw [gy_at v hj]; exact nI_byte0 (gy_alt v j)
/-- a row that has its first byte other than 0 at p, and there a 1; or none -/
def gs_P (sr : Nat → Int64) : Prop := ∀ p, p < 6 → sr p = 0 ∨ (gy_a (sr p) p = 1 ∧ ∀ q, q < p → gy_a (sr p) q = 0)
/-- each row's value is what a shard of this row holds -/
def gs_V (D : Nat → Int64) (sr sv : Nat → Int64) : Prop := ∀ p, p < 6 → sv p = gy_d D (sr p) 6
/-- the rows' part of take -/
def gs_tk (sr : Nat → Int64) : Nat → Nat → Int64 → Option (Nat × Int64)
  | 0, _, _ => none
  | k + 1, j, v => if gy_a v j ≠ 0 ∧ sr j = 0 then some (j, gy_T (gx_inv (gy_a v j)) v) else gs_tk sr k (j + 1) (v ^^^ gy_T (gy_a v j) (sr j))
theorem gy_a0 (p : Nat) : gy_a 0 p = 0 := by
  show 0 / 256 ^ p % 256 = 0
  rw [Nat.zero_div]
theorem gs_elim {sr : Nat → Int64} (hP : gs_P sr) {v : Int64} {j : Nat} (hj : j < 6) (hz : ∀ q, q < j → gy_a v q = 0) (hc : ¬ (gy_a v j ≠ 0 ∧ sr j = 0)) : ∀ q, q < j + 1 → gy_a (v ^^^ gy_T (gy_a v j) (sr j)) q = 0 := by
  intro q hq
  have hb := gy_alt v j
  rw [gy_ax, gy_aT hb (sr j) (by omega)]
  rcases Nat.lt_succ_iff_lt_or_eq.mp hq with h | h
  · rw [hz q h]
    rcases hP j hj with h0 | ⟨_, h2⟩
    · rw [h0, gy_a0, gf_t0]; rfl
    · rw [h2 q h, gf_t0]; rfl
  · subst h
    rcases hP q hj with h0 | ⟨h1, _⟩
    · have : gy_a v q = 0 := Classical.byContradiction (fun h => hc ⟨h, h0⟩)
      rw [this, h0, gy_a0, gf_t0]; rfl
    · rw [h1, gf_tcomm _ hb 1 (by decide), gf_t1 _ hb, Nat.xor_self]
/-- take: its answer and its rows are those of gs_tk, whatever the values -/
theorem gs_take9 {D : Nat → Int64} {sr sv : Nat → Int64} (hV : gs_V D sr sv) : ∀ (k j : Nat) (v5 v7 : Int64), j + k = 6 → v7 = gy_d D v5 6 →
    (gs_tk sr k j v5 = none ∧ mm_Sp_take_L9 sr sv k j v5 v7 = (0, sr, sv)) ∨ ∃ p r, gs_tk sr k j v5 = some (p, r) ∧ j ≤ p ∧ p < 6 ∧ mm_Sp_take_L9 sr sv k j v5 v7 = (1, vp_updL sr p r, vp_updL sv p (gy_d D r 6))
  | 0, j, v5, v7, _, _ => Or.inl ⟨rfl, by rw [mm_Sp_take_L9]⟩
  | k + 1, j, v5, v7, hj, h7 => by
    have hb := gy_alt v5 j
    have e5 : v5 ^^^ mm_By_times (mm_By_at v5 j) (sr j) = v5 ^^^ gy_T (gy_a v5 j) (sr j) := by rw [gy_at v5 (by omega)]; rfl
    have e7 : v7 ^^^ mm_By_times (mm_By_at v5 j) (sv j) = gy_d D (v5 ^^^ gy_T (gy_a v5 j) (sr j)) 6 := by
      rw [gy_at v5 (by omega), gy_dx, gy_dT D hb _ 6 (by decide), ← hV j (by omega), ← h7]; rfl
    rw [mm_Sp_take_L9, gs_tk]
    by_cases h0 : gy_a v5 j = 0
    · rw [if_pos ((gs_at0 v5 (by omega)).mpr h0), if_neg (fun h => h.1 h0), e5, e7]
      rcases gs_take9 hV k (j + 1) _ _ (by omega) rfl with h | ⟨p, r, h1, h2, h3⟩
      · exact Or.inl h
      · exact Or.inr ⟨p, r, h1, by omega, h3⟩
    · rw [if_neg (fun h => h0 ((gs_at0 v5 (by omega)).mp h))]
      by_cases hs : sr j = 0
      · rw [if_pos ((lg_cmp_eq _ _).mpr hs), if_pos ⟨h0, hs⟩]
        obtain ⟨i1, i2, _⟩ := gx_inverse _ hb
        refine Or.inr ⟨j, _, rfl, Nat.le_refl _, by omega, ?_⟩
        rw [gy_at v5 (by omega), i2, h7]
        show ((1 : Int32), vp_updL sr j (gy_T _ v5), vp_updL sv j (gy_T _ (gy_d D v5 6))) = _
        rw [← gy_dT D i1 v5 6 (by decide)]
      · rw [if_neg (fun h => hs ((lg_cmp_eq _ _).mp h)), if_neg (fun h => hs h.2), e5, e7]
        rcases gs_take9 hV k (j + 1) _ _ (by omega) rfl with h | ⟨p, r, h1, h2, h3⟩
        · exact Or.inl h
        · exact Or.inr ⟨p, r, h1, by omega, h3⟩
/-- what gs_tk adds keeps the form, at a place that was free -/
theorem gs_tkP {sr : Nat → Int64} (hP : gs_P sr) : ∀ (k j : Nat) (v : Int64), j + k = 6 → (∀ q, q < j → gy_a v q = 0) → ∀ p r, gs_tk sr k j v = some (p, r) → sr p = 0 ∧ gy_a r p = 1 ∧ ∀ q, q < p → gy_a r q = 0
  | 0, _, _, _, _, p, r, h => by cases h
  | k + 1, j, v, hj, hz, p, r, h => by
    rw [gs_tk] at h
    by_cases hc : gy_a v j ≠ 0 ∧ sr j = 0
    · rw [if_pos hc] at h
      cases h
      have hb := gy_alt v j
      obtain ⟨i1, _, i3⟩ := gx_inverse _ hb
      refine ⟨hc.2, ?_, fun q hq => ?_⟩
      · rw [gy_aT i1 v (by omega), i3 hc.1]
      · rw [gy_aT i1 v (by omega), hz q hq, gf_t0]
    · rw [if_neg hc] at h
      exact gs_tkP hP k (j + 1) _ (by omega) (gs_elim hP (by omega) hz hc) p r h
theorem gs_tklt {sr : Nat → Int64} : ∀ (k j : Nat) (v : Int64), j + k = 6 → ∀ p r, gs_tk sr k j v = some (p, r) → p < 6
  | 0, _, _, _, p, r, h => by cases h
  | k + 1, j, v, hj, p, r, h => by
    rw [gs_tk] at h
    by_cases hc : gy_a v j ≠ 0 ∧ sr j = 0
    · rw [if_pos hc] at h
      cases h
      omega
    · rw [if_neg hc] at h
      exact gs_tklt k (j + 1) _ (by omega) p r h
theorem gs_Pupd {sr : Nat → Int64} (hP : gs_P sr) {p : Nat} {r : Int64} (h1 : gy_a r p = 1) (h2 : ∀ q, q < p → gy_a r q = 0) : gs_P (vp_updL sr p r) := by
  intro q hq
  by_cases h : q = p
  · subst h; rw [pk_uLs]; exact Or.inr ⟨h1, h2⟩
  · rw [pk_uLn h]; exact hP q hq
theorem gs_Vupd {D : Nat → Int64} {sr sv : Nat → Int64} (hV : gs_V D sr sv) {p : Nat} {r : Int64} : gs_V D (vp_updL sr p r) (vp_updL sv p (gy_d D r 6)) := by
  intro q hq
  by_cases h : q = p
  · subst h; rw [pk_uLs, pk_uLs]
  · rw [pk_uLn h, pk_uLn h]; exact hV q hq
/-- the value of a row: what is left of the row is taken off -/
def gs_rest (sr : Nat → Int64) : Nat → Nat → Int64 → Int64
  | 0, _, v => v
  | k + 1, j, v => gs_rest sr k (j + 1) (v ^^^ gy_T (gy_a v j) (sr j))
theorem gs_value8 {D : Nat → Int64} {sr sv : Nat → Int64} (hV : gs_V D sr sv) : ∀ (k j : Nat) (v3 v5 : Int64), j + k = 6 → mm_Sp_valueOf_L8 sr sv k j v3 v5 = v5 ^^^ gy_d D v3 6 ^^^ gy_d D (gs_rest sr k j v3) 6
  | 0, j, v3, v5, _ => by
    rw [mm_Sp_valueOf_L8, gs_rest, Int64.xor_assoc, Int64.xor_self, Int64.xor_zero]
  | k + 1, j, v3, v5, hj => by
    rw [mm_Sp_valueOf_L8, gs_rest, gs_value8 hV k (j + 1) _ _ (by omega), gy_at v3 (by omega)]
    show v5 ^^^ gy_T (gy_a v3 j) (sv j) ^^^ gy_d D (v3 ^^^ gy_T (gy_a v3 j) (sr j)) 6 ^^^ _ = _
    rw [gy_dx, gy_dT D (gy_alt v3 j) _ 6 (by decide), ← hV j (by omega)]
    congr 1
    rw [Int64.xor_assoc, ← Int64.xor_assoc _ (gy_d D v3 6), Int64.xor_comm _ (gy_d D v3 6), Int64.xor_assoc (gy_d D v3 6), Int64.xor_self, Int64.xor_zero]
theorem gs_value {D : Nat → Int64} {sr sv : Nat → Int64} (hV : gs_V D sr sv) (x : Int64) (hr : ∀ q, q < 6 → gy_a (gs_rest sr 6 0 x) q = 0) : mm_Sp_valueOf x sr sv = gy_d D x 6 := by
  rw [mm_Sp_valueOf, gs_value8 hV 6 0 x 0 rfl, gy_d0 D 6 hr, Int64.xor_zero, Int64.zero_xor]
/-- a full span leaves nothing -/
theorem gs_restF {sr : Nat → Int64} (hP : gs_P sr) (hF : ∀ p, p < 6 → sr p ≠ 0) : ∀ (k j : Nat) (v : Int64), j + k = 6 → (∀ q, q < j → gy_a v q = 0) → ∀ q, q < 6 → gy_a (gs_rest sr k j v) q = 0
  | 0, j, v, hj, hz, q, hq => by rw [gs_rest]; exact hz q (by omega)
  | k + 1, j, v, hj, hz, q, hq => by
    rw [gs_rest]
    exact gs_restF hP hF k (j + 1) _ (by omega) (gs_elim hP (by omega) hz (fun h => hF j (by omega) h.2)) q hq
