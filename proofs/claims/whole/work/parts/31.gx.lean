/-! the class's bytes and products as numbers -/
def uN (x : Int64) : Nat := x.toUInt64.toNat
theorem uN_lt (x : Int64) : uN x < 18446744073709551616 := x.toUInt64.toNat_lt
theorem uN_inj {x y : Int64} (h : uN x = uN y) : x = y := congrArg UInt64.toInt64 (UInt64.toNat_inj.mp h)
theorem ux_xor (x y : Int64) : uN (x ^^^ y) = uN x ^^^ uN y := UInt64.toNat_xor _ _
theorem ux_and (x y : Int64) : uN (x &&& y) = uN x &&& uN y := UInt64.toNat_and _ _
theorem uN_mul (x y : Int64) : uN (x * y) = (uN x * uN y) % 18446744073709551616 := by
  show (x.toUInt64 * y.toUInt64).toNat = _
  rw [UInt64.toNat_mul]
  rfl
theorem ux_cu : ∀ k, k < 64 → ((nI k).toInt64.toUInt64 &&& Int64.toUInt64 63).toNat % 64 = k := by decide +kernel
theorem uN_shr (x : Int64) (s : UInt64) : uN (x.toUInt64 >>> s).toInt64 = uN x / 2 ^ (s.toNat % 64) := by
  show (x.toUInt64 >>> s).toNat = _
  rw [UInt64.toNat_shiftRight, Nat.shiftRight_eq_div_pow]
  rfl
theorem uN_sk (x : Int64) {k : Nat} (hk : k < 64) : uN (x.toUInt64 >>> ((nI k).toInt64.toUInt64 &&& Int64.toUInt64 63)).toInt64 = uN x / 2 ^ k := by
  rw [uN_shr, ux_cu k hk]
theorem ux_shl (x : Int64) : uN (x <<< ((1 : Int32).toInt64 &&& 63)) = (2 * uN x) % 18446744073709551616 := by
  have h : (x <<< ((1 : Int32).toInt64 &&& 63)).toBitVec = x.toBitVec <<< (1 : Nat) := by
    rw [Int64.toBitVec_shiftLeft]
    rw [show (((1 : Int32).toInt64 &&& 63).toBitVec.smod 64) = 1#64 from by decide]
    rfl
  show (x <<< ((1 : Int32).toInt64 &&& 63)).toBitVec.toNat = _
  rw [h, BitVec.toNat_shiftLeft, Nat.shiftLeft_eq]
  show uN x * 2 ^ 1 % 2 ^ 64 = _
  rw [Nat.mul_comm]
theorem gx_bit : ∀ f, f < 256 → ∀ j, j < 8 → decide (((nI f >>> (nI j &&& 31)) &&& (1 : Int32)) = (0 : Int32)) = !f.testBit j := by decide +kernel
theorem gx_step (v : Int64) : uN (((v &&& (9187201950435737471 : Int64)) <<< ((1 : Int32).toInt64 &&& 63)) ^^^ (((v.toUInt64 >>> ((7 : Int32).toInt64.toUInt64 &&& Int64.toUInt64 63)).toInt64 &&& (72340172838076673 : Int64)) * (29 : Int64))) = gf_X 8 (uN v) := by
  have h7 : uN (v.toUInt64 >>> ((7 : Int32).toInt64.toUInt64 &&& Int64.toUInt64 63)).toInt64 = uN v / 128 := uN_sk v (k := 7) (by decide)
  have hM : uN (9187201950435737471 : Int64) = gf_M 8 := by decide
  have hL : uN (72340172838076673 : Int64) = gf_L 8 := by decide
  have h29 : uN (29 : Int64) = 29 := by decide
  have b1 : uN v &&& gf_M 8 ≤ gf_M 8 := Nat.and_le_right
  have b2 : uN v / 128 &&& gf_L 8 ≤ gf_L 8 := Nat.and_le_right
  have e1 : gf_M 8 = 9187201950435737471 := by decide
  have e2 : gf_L 8 = 72340172838076673 := by decide
  rw [ux_xor, ux_shl, uN_mul, ux_and, ux_and, h7, hM, hL, h29, Nat.mod_eq_of_lt (by omega), Nat.mod_eq_of_lt (by omega), Nat.mul_comm 2]
  rfl
theorem gx_L8 {f : Nat} (hf : f < 256) {X : Nat} : ∀ (k j : Nat) (v3 v5 : Int64), j + k = 8 → uN v3 = gf_P 8 f j X → uN v5 = gf_I 8 j X → uN (mm_By_times_L8 (nI f) k j v3 v5) = gf_P 8 f 8 X
  | 0, j, v3, v5, hj, h3, _ => by
    have : j = 8 := by omega
    subst this
    rw [mm_By_times_L8]; exact h3
  | k + 1, j, v3, v5, hj, h3, h5 => by
    have hb := gx_bit f hf j (by omega)
    have h5' : uN (((v5 &&& (9187201950435737471 : Int64)) <<< ((1 : Int32).toInt64 &&& 63)) ^^^ (((v5.toUInt64 >>> ((7 : Int32).toInt64.toUInt64 &&& Int64.toUInt64 63)).toInt64 &&& (72340172838076673 : Int64)) * (29 : Int64))) = gf_I 8 (j + 1) X := by
      rw [gx_step, h5]; rfl
    rw [mm_By_times_L8]
    by_cases h : ((nI f >>> (nI j &&& 31)) &&& (1 : Int32)) = (0 : Int32)
    · rw [if_pos h]
      rw [decide_eq_true h] at hb
      have ht : f.testBit j = false := by simpa using hb.symm
      refine gx_L8 hf k (j + 1) v3 _ (by omega) ?_ h5'
      show uN v3 = gf_P 8 f j X ^^^ (if f.testBit j then gf_I 8 j X else 0)
      rw [ht, h3]; simp
    · rw [if_neg h]
      rw [decide_eq_false h] at hb
      have ht : f.testBit j = true := by simpa using hb.symm
      refine gx_L8 hf k (j + 1) _ _ (by omega) ?_ h5'
      show uN (v3 ^^^ v5) = gf_P 8 f j X ^^^ (if f.testBit j then gf_I 8 j X else 0)
      rw [ux_xor, h3, h5, ht]; simp
theorem gx_times {f : Nat} (hf : f < 256) (b : Int64) : uN (mm_By_times (nI f) b) = gf_T 8 f (uN b) := by
  rw [mm_By_times]
  exact gx_L8 hf 8 0 0 b rfl rfl rfl
theorem ux_i32 (y : Int64) : y.toInt32 &&& (255 : Int32) = nI (uN y % 256) := by
  rw [pk_and y.toInt32 (m := 255) 8 (by decide)]
  have h : y.toInt32.toBitVec.toNat = uN y % 2 ^ 32 := by
    show (y.toBitVec.signExtend 32).toNat = _
    rw [BitVec.signExtend_eq_setWidth_of_le _ (by decide), BitVec.toNat_setWidth]
    rfl
  rw [h]
  congr 1
  omega
theorem gx_at (b : Int64) {i : Nat} (hi : i < 8) : mm_By_at b i = nI (uN b / 256 ^ i % 256) := by
  rw [mm_By_at, ux_i32]
  have h8 : (8 : Int32) * nI i = nI (8 * i) := pk_mul 8 i
  rw [h8, uN_sk b (k := 8 * i) (by omega)]
  congr 2
  rw [show (256 : Nat) = 2 ^ 8 from rfl, ← Nat.pow_mul]
def gx_inv (f : Nat) : Nat := (mm_By_inverse (nI f)).toBitVec.toNat
theorem gx_inverse : ∀ f, f < 256 → gx_inv f < 256 ∧ mm_By_inverse (nI f) = nI (gx_inv f) ∧ (f ≠ 0 → gf_t (gx_inv f) f = 1) := by decide +kernel
