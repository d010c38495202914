/-! masks: an int that is nI m, m < 2048, a bit for each shard -/
theorem gm_or (a b : Nat) : nI a ||| nI b = nI (a ||| b) := by
  apply Int32.toBitVec_inj.mp
  rw [Int32.toBitVec_or]
  show BitVec.ofNat 32 a ||| BitVec.ofNat 32 b = BitVec.ofNat 32 (a ||| b)
  exact (BitVec.ofNat_or).symm
theorem gm_and (a b : Nat) : nI a &&& nI b = nI (a &&& b) := by
  apply Int32.toBitVec_inj.mp
  rw [Int32.toBitVec_and]
  show BitVec.ofNat 32 a &&& BitVec.ofNat 32 b = BitVec.ofNat 32 (a &&& b)
  exact (BitVec.ofNat_and).symm
theorem gm_1 : ∀ i, i < 12 → ((1 : Int32) <<< ((nI i) &&& 31)) = nI (2 ^ i) := by decide +kernel
def gm_cl (m i : Nat) : Nat := m &&& (4095 - 2 ^ i)
theorem gm_lose : ∀ m, m < 2048 → ∀ i, i < 11 → mm_Sq_lose i (nI m) = nI (gm_cl m i) := by decide +kernel
theorem gm_isIn : ∀ m, m < 2048 → ∀ i, i < 11 → mm_RG_isIn (nI m) i = if m.testBit i then 1 else 0 := by decide +kernel
def gm_pc (m : Nat) : Nat := (List.range 11).foldl (fun c i => if m.testBit i then c + 1 else c) 0
theorem gm_bitCount : ∀ m, m < 2048 → mm_In_bitCount (nI m) = nI (gm_pc m) := by decide +kernel
/-! which shards are independent, and what a plan decodes to -/
def gi_Z : Nat → Int64 := fun _ => 0
theorem gi_dZ (r : Int64) : ∀ p, gy_d gi_Z r p = 0
  | 0 => rfl
  | p + 1 => by
    show gy_d gi_Z r p ^^^ gy_T (gy_a r p) 0 = 0
    rw [gi_dZ r p, gy_T_z (gy_alt r p), Int64.xor_self]
/-- the rows' part of independentShards -/
def gi_f (ro : Nat → Int64) (t : Nat) : Nat → Nat → Nat → (Nat → Int64) → Nat × (Nat → Int64)
  | 0, _, m, sr => (m, sr)
  | k + 1, j, m, sr => if t.testBit j then (match gs_tk sr 6 0 (ro j) with | none => gi_f ro t k (j + 1) m sr | some (p, r) => gi_f ro t k (j + 1) (m ||| 2 ^ j) (vp_updL sr p r)) else gi_f ro t k (j + 1) m sr
theorem gi_there {t j : Nat} (ht : t < 2048) (hj : j < 11) : mm_Sq_isThere j (nI t) = (0 : Int32) ↔ t.testBit j = false := by
  rw [mm_Sq_isThere, gm_isIn t ht j hj]
  cases h : t.testBit j
  · simp
  · simp
theorem gi_ind {ro : Nat → Int64} {t : Nat} (ht : t < 2048) : ∀ (k j m : Nat) (sr sv : Nat → Int64), j + k ≤ 11 → gs_V gi_Z sr sv → ∃ sv', mm_RG_independentShards_L11 ro (nI t) k j (nI m) sr sv = (nI (gi_f ro t k j m sr).1, (gi_f ro t k j m sr).2, sv') ∧ gs_V gi_Z (gi_f ro t k j m sr).2 sv'
  | 0, j, m, sr, sv, _, hV => ⟨sv, by rw [mm_RG_independentShards_L11, gi_f], by rw [gi_f]; exact hV⟩
  | k + 1, j, m, sr, sv, hj, hV => by
    rw [mm_RG_independentShards_L11, gi_f]
    cases hb : t.testBit j with
    | false =>
      rw [if_pos ((gi_there ht (by omega)).mpr hb), if_neg (show ¬ (false = true) by decide)]
      exact gi_ind ht k (j + 1) m sr sv (by omega) hV
    | true =>
      rw [if_neg (show ¬ (mm_Sq_isThere j (nI t) = (0 : Int32)) from fun h => by rw [(gi_there ht (by omega)).mp h] at hb; cases hb), if_pos (show true = true from rfl)]
      rcases gs_take9 hV 6 0 (ro j) 0 rfl (gi_dZ (ro j) 6).symm with ⟨h1, h2⟩ | ⟨p, r, h1, _, hp, h2⟩
      · rw [h1, mm_Sp_take, h2]
        dsimp only
        rw [if_pos rfl]
        exact gi_ind ht k (j + 1) m sr sv (by omega) hV
      · rw [h1, mm_Sp_take, h2]
        dsimp only
        rw [if_neg (by decide), gm_1 j (by omega), gm_or]
        exact gi_ind ht k (j + 1) (m ||| 2 ^ j) _ _ (by omega) (gs_Vupd hV)
/-- the rows' part of decode -/
def gi_d (ro : Nat → Int64) (x : Nat) : Nat → Nat → (Nat → Int64) → (Nat → Int64)
  | 0, _, sr => sr
  | k + 1, j, sr => if x.testBit j then (match gs_tk sr 6 0 (ro j) with | none => gi_d ro x k (j + 1) sr | some (p, r) => gi_d ro x k (j + 1) (vp_updL sr p r)) else gi_d ro x k (j + 1) sr
theorem gi_dec {D : Nat → Int64} {ro wr fl : Nat → Int64} {x i : Nat} (hx : x < 2048) : ∀ (k j : Nat) (sr sv : Nat → Int64), j + k ≤ 11 → gs_V D sr sv → (∀ q, q < 11 → x.testBit q = true → mm_Sq_held q wr fl = gy_d D (ro q) 6) → (∀ q, q < 6 → gy_a (gs_rest (gi_d ro x k j sr) 6 0 (ro i)) q = 0) →
    ∃ sv', mm_RG_decode_L10 (nI x) i ro wr fl k j sr sv = (gy_d D (ro i) 6, gi_d ro x k j sr, sv')
  | 0, j, sr, sv, _, hV, _, hr => ⟨sv, by rw [mm_RG_decode_L10, gi_d, gs_value hV (ro i) (by rw [gi_d] at hr; exact hr)]⟩
  | k + 1, j, sr, sv, hj, hV, hh, hr => by
    rw [mm_RG_decode_L10]
    rw [gi_d] at hr ⊢
    have hin := gm_isIn x hx j (by omega)
    cases hb : x.testBit j with
    | false =>
      rw [hb] at hr hin
      rw [if_neg (show ¬ (false = true) by decide)] at hr hin
      rw [if_pos hin, if_neg (show ¬ (false = true) by decide)]
      exact gi_dec hx k (j + 1) sr sv (by omega) hV hh hr
    | true =>
      rw [hb] at hr hin
      rw [if_pos (show true = true from rfl)] at hr hin
      rw [if_neg (show ¬ (mm_RG_isIn (nI x) j = (0 : Int32)) by rw [hin]; decide), if_pos (show true = true from rfl), hh j (by omega) hb]
      rcases gs_take9 hV 6 0 (ro j) _ rfl rfl with ⟨h1, h2⟩ | ⟨p, r, h1, _, hp, h2⟩
      · rw [h1] at hr ⊢
        rw [mm_Sp_take, h2]
        dsimp only at hr ⊢
        exact gi_dec hx k (j + 1) sr sv (by omega) hV hh hr
      · rw [h1] at hr ⊢
        rw [mm_Sp_take, h2]
        dsimp only at hr ⊢
        exact gi_dec hx k (j + 1) _ _ (by omega) (gs_Vupd hV) hh hr
/-- the bits of the mask -/
theorem gi_bits {ro : Nat → Int64} {t : Nat} : ∀ (k j m : Nat) (sr : Nat → Int64), m < 2 ^ j → (gi_f ro t k j m sr).1 < 2 ^ (j + k) ∧ (∀ q, q < j → (gi_f ro t k j m sr).1.testBit q = m.testBit q) ∧ gi_d ro (gi_f ro t k j m sr).1 k j sr = (gi_f ro t k j m sr).2 ∧ ∀ q, (gi_f ro t k j m sr).1.testBit q = true → m.testBit q = true ∨ t.testBit q = true
  | 0, j, m, sr, hm => ⟨by rw [gi_f]; exact hm, fun q _ => by rw [gi_f], by rw [gi_f, gi_d], fun q h => by rw [gi_f] at h; exact Or.inl h⟩
  | k + 1, j, m, sr, hm => by
    have hm1 : m < 2 ^ (j + 1) := Nat.lt_of_lt_of_le hm (Nat.pow_le_pow_right (by decide) (by omega))
    have hmj : m.testBit j = false := Nat.testBit_lt_two_pow hm
    rw [gi_f]
    cases hb : t.testBit j with
    | false =>
      rw [if_neg (show ¬ (false = true) by decide)]
      obtain ⟨h1, h2, h3, h4⟩ := gi_bits (ro := ro) (t := t) k (j + 1) m sr hm1
      refine ⟨by rw [show j + (k + 1) = j + 1 + k by omega]; exact h1, fun q hq => h2 q (by omega), ?_, h4⟩
      rw [gi_d, h2 j (by omega), hmj, if_neg (show ¬ (false = true) by decide)]
      exact h3
    | true =>
      rw [if_pos rfl]
      cases ht : gs_tk sr 6 0 (ro j) with
      | none =>
        dsimp only
        obtain ⟨h1, h2, h3, h4⟩ := gi_bits (ro := ro) (t := t) k (j + 1) m sr hm1
        refine ⟨by rw [show j + (k + 1) = j + 1 + k by omega]; exact h1, fun q hq => h2 q (by omega), ?_, h4⟩
        rw [gi_d, h2 j (by omega), hmj, if_neg (show ¬ (false = true) by decide)]
        exact h3
      | some pr =>
        obtain ⟨p, r⟩ := pr
        dsimp only
        have hm2 : m ||| 2 ^ j < 2 ^ (j + 1) := Nat.or_lt_two_pow hm1 (Nat.pow_lt_pow_right (by decide) (by omega))
        obtain ⟨h1, h2, h3, h4⟩ := gi_bits (ro := ro) (t := t) k (j + 1) (m ||| 2 ^ j) (vp_updL sr p r) hm2
        refine ⟨by rw [show j + (k + 1) = j + 1 + k by omega]; exact h1, fun q hq => ?_, ?_, fun q hq => ?_⟩
        · rw [h2 q (by omega), Nat.testBit_or, Nat.testBit_two_pow_of_ne (by omega), Bool.or_false]
        · rw [gi_d, h2 j (by omega), Nat.testBit_or, Nat.testBit_two_pow_self, Bool.or_true, if_pos (show true = true from rfl), ht]
          exact h3
        · rcases h4 q hq with h | h
          · rw [Nat.testBit_or, Bool.or_eq_true] at h
            rcases h with h | h
            · exact Or.inl h
            · by_cases hqj : j = q
              · subst hqj; exact Or.inr hb
              · rw [Nat.testBit_two_pow_of_ne hqj] at h; cases h
          · exact Or.inr h
