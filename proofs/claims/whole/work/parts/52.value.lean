/-! the reference's bytes, products and values -/
theorem gm_xor (a b : Nat) : nI a ^^^ nI b = nI (a ^^^ b) := by
  apply Int32.toBitVec_inj.mp
  rw [Int32.toBitVec_xor]
  show BitVec.ofNat 32 a ^^^ BitVec.ofNat 32 b = BitVec.ofNat 32 (a ^^^ b)
  exact (BitVec.ofNat_xor).symm
theorem mp_dbl : ∀ c, c < 256 → (if (nI c <<< ((1 : Int32) &&& 31)) ≤ (255 : Int32) then nI c <<< ((1 : Int32) &&& 31) else (nI c <<< ((1 : Int32) &&& 31)) ^^^ (285 : Int32)) = nI (gf_x c) := by decide +kernel
theorem mp_bit : ∀ b, b < 256 → ∀ k, k < 8 → decide (((nI b >>> ((nI k) &&& 31)) &&& (1 : Int32)) = (1 : Int32)) = b.testBit k := by decide +kernel
theorem mp_L6 {a b : Nat} (ha : a < 256) (hb : b < 256) : ∀ (k c : Nat), k ≤ 8 → c < 256 → mm_Mo_product_L6 (nI a) (nI b) k (nI c) = nI (gf_i k c ^^^ gf_p b k a)
  | 0, c, _, _ => by
    rw [mm_Mo_product_L6]
    show nI c = nI (c ^^^ 0)
    rw [Nat.xor_zero]
  | k + 1, c, hk, hc => by
    have hd := mp_dbl c hc
    have hbit := mp_bit b hb k (by omega)
    have hx := gf_xlt1 c hc
    have key : ∀ v : Int32, v = nI (gf_x c) → (if ((nI b >>> ((nI k) &&& 31)) &&& (1 : Int32)) = (1 : Int32) then mm_Mo_product_L6 (nI a) (nI b) k (v ^^^ nI a) else mm_Mo_product_L6 (nI a) (nI b) k v) = nI (gf_i (k + 1) c ^^^ gf_p b (k + 1) a) := by
      intro v hv
      subst hv
      have e1 : gf_i (k + 1) c = gf_i k (gf_x c) := by
        have : ∀ k c, gf_i k (gf_x c) = gf_x (gf_i k c) := by
          intro k
          induction k with
          | zero => intro c; rfl
          | succ k ih => intro c; show gf_x (gf_i k (gf_x c)) = _; rw [ih]; rfl
        rw [this k c]; rfl
      by_cases h : ((nI b >>> ((nI k) &&& 31)) &&& (1 : Int32)) = (1 : Int32)
      · rw [decide_eq_true h] at hbit
        rw [if_pos h, gm_xor, mp_L6 ha hb k _ (by omega) (gf_xlt hx ha), gf_ilin k hx ha, e1]
        show _ = nI (_ ^^^ (gf_p b k a ^^^ (if b.testBit k then gf_i k a else 0)))
        rw [← hbit, if_pos rfl, Nat.xor_assoc, Nat.xor_comm (gf_i k a)]
      · rw [decide_eq_false h] at hbit
        rw [if_neg h, mp_L6 ha hb k _ (by omega) hx, e1]
        show _ = nI (_ ^^^ (gf_p b k a ^^^ (if b.testBit k then gf_i k a else 0)))
        rw [← hbit, if_neg (show ¬ (false = true) by decide), Nat.xor_zero]
    rw [mm_Mo_product_L6]
    by_cases h : (nI c <<< ((1 : Int32) &&& 31)) ≤ (255 : Int32)
    · rw [if_pos h] at hd ⊢
      exact key _ hd
    · rw [if_neg h] at hd ⊢
      exact key _ hd
theorem gf_i0 : ∀ k, gf_i k 0 = 0
  | 0 => rfl
  | k + 1 => by show gf_x (gf_i k 0) = 0; rw [gf_i0 k]; decide
theorem mp_product {a b : Nat} (ha : a < 256) (hb : b < 256) : mm_Mo_product (nI a) (nI b) = nI (gf_t a b) := by
  rw [mm_Mo_product]
  have h := mp_L6 ha hb 8 0 (Nat.le_refl _) (by decide)
  rw [gf_i0, Nat.zero_xor] at h
  rw [gf_tcomm a ha b hb]
  exact h
theorem mp_byteOf (x : Int64) {j : Nat} (hj : j < 8) : mm_Mo_byteOf x j = nI (gy_a x j) := by
  rw [mm_Mo_byteOf]
  have h1 : uN ((x.toUInt64 >>> ((nI (8 * j)).toInt64.toUInt64 &&& Int64.toUInt64 63)).toInt64 &&& (255 : Int64)) = gy_a x j := by
    rw [ux_and, uN_sk x (k := 8 * j) (by omega)]
    show uN x / 2 ^ (8 * j) &&& 255 = uN x / 256 ^ j % 256
    rw [show (256 : Nat) ^ j = 2 ^ (8 * j) by rw [Nat.pow_mul]]
    exact Nat.and_two_pow_sub_one_eq_mod _ 8
  apply Int32.toBitVec_inj.mp
  apply BitVec.eq_of_toNat_eq
  have hb := gy_alt x j
  show (BitVec.signExtend 32 _).toNat = (BitVec.ofNat 32 _).toNat
  rw [BitVec.signExtend_eq_setWidth_of_le _ (by decide), BitVec.toNat_setWidth, BitVec.toNat_ofNat]
  congr 1
/-- a byte of what a shard holds -/
def gy_b (D : Nat → Int64) (r : Int64) (j : Nat) : Nat → Nat
  | 0 => 0
  | p + 1 => gy_b D r j p ^^^ gf_t (gy_a r p) (gy_a (D p) j)
theorem gy_blt (D : Nat → Int64) (r : Int64) (j : Nat) : ∀ p, gy_b D r j p < 256
  | 0 => by show 0 < 256; decide
  | p + 1 => gf_xlt (gy_blt D r j p) (gf_tlt _ _ (gy_alt _ _))
theorem gy_bd (D : Nat → Int64) (r : Int64) {j : Nat} (hj : j < 8) : ∀ p, gy_a (gy_d D r p) j = gy_b D r j p
  | 0 => gy_a0 j
  | p + 1 => by
    show gy_a (gy_d D r p ^^^ gy_T (gy_a r p) (D p)) j = gy_b D r j p ^^^ gf_t (gy_a r p) (gy_a (D p) j)
    rw [gy_ax, gy_bd D r hj p, gy_aT (gy_alt r p) (D p) hj]
theorem mv_L18 {sg i j : Nat} {xr : Nat → Int32} {xd : Nat → Int64} {r : Int64} (hj : j < 8) (hr : ∀ p, p < 6 → xr (6 * i + p) = nI (gy_a r p)) : ∀ (k q v : Nat), q + k = 6 → v = gy_b (fun p => xd (6 * sg + p)) r j q → mm_Mo_value_L18 sg i xr xd j k q (nI v) = nI (gy_b (fun p => xd (6 * sg + p)) r j 6)
  | 0, q, v, hq, hv => by
    rw [mm_Mo_value_L18, hv, show q = 6 by omega]
  | k + 1, q, v, hq, hv => by
    rw [mm_Mo_value_L18, hr q (by omega), mp_byteOf _ hj, mp_product (gy_alt _ _) (gy_alt _ _), gm_xor]
    refine mv_L18 hj hr k (q + 1) _ (by omega) ?_
    rw [hv]; rfl
theorem ux_or (x y : Int64) : uN (x ||| y) = uN x ||| uN y := UInt64.toNat_or _ _
theorem mv_sh : ∀ j, j < 8 → ∀ b, b < 256 → uN ((nI b).toInt64 <<< ((nI (8 * j)).toInt64 &&& 63)) = b * 256 ^ j := by decide +kernel
theorem mv_L5 {sg i : Nat} {xr : Nat → Int32} {xd : Nat → Int64} {r : Int64} (hr : ∀ p, p < 6 → xr (6 * i + p) = nI (gy_a r p)) : ∀ (k j : Nat) (v : Int64), j + k = 8 → uN v = uN (gy_d (fun p => xd (6 * sg + p)) r 6) % 256 ^ j → mm_Mo_value_L5 sg i xr xd k j v = gy_d (fun p => xd (6 * sg + p)) r 6
  | 0, j, v, hj, hv => by
    rw [mm_Mo_value_L5]
    apply uN_inj
    rw [hv, show j = 8 by omega, Nat.mod_eq_of_lt (gy_lt8 _)]
  | k + 1, j, v, hj, hv => by
    rw [mm_Mo_value_L5]
    have h18 := mv_L18 (sg := sg) (i := i) (xd := xd) (j := j) (by omega) hr 6 0 0 rfl rfl
    rw [show (0 : Int32) = nI 0 from rfl, h18]
    refine mv_L5 hr k (j + 1) _ (by omega) ?_
    rw [ux_or, mv_sh j (by omega) _ (gy_blt _ _ _ _), ← gy_bd _ r (by omega) 6, hv]
    unfold gy_a
    generalize uN (gy_d (fun p => xd (6 * sg + p)) r 6) = N
    have h1 : N % 256 ^ j < 2 ^ (8 * j) := by rw [Nat.pow_mul]; exact Nat.mod_lt _ (Nat.pow_pos (by decide))
    rw [Nat.or_comm, show N / 256 ^ j % 256 * 256 ^ j = 2 ^ (8 * j) * (N / 256 ^ j % 256) by rw [Nat.pow_mul, Nat.mul_comm], ← Nat.two_pow_add_eq_or_of_lt h1, Nat.pow_succ, Nat.mod_mul, Nat.pow_mul, Nat.add_comm]
theorem mv_value {sg i : Nat} {xr : Nat → Int32} {xd : Nat → Int64} {r : Int64} (hr : ∀ p, p < 6 → xr (6 * i + p) = nI (gy_a r p)) : mm_Mo_value sg i xr xd = gy_d (fun p => xd (6 * sg + p)) r 6 := by
  rw [mm_Mo_value]
  exact mv_L5 hr 8 0 0 rfl (by rw [Nat.pow_zero, Nat.mod_one]; rfl)
theorem e_content {n : Nat} {gr al xk : Int32} {ro : Nat → Int64} {xr : Nat → Int32} {lf : Int64} {up : Nat → Int32} {ct : Nat → Int32} {th : Nat → Int32} {wr : Nat → Nat → Int64} {fl : Nat → Nat → Int64} {xa : Int32} {xb : Int32} {xc : Int32} {xe : Int32} {xl : Int64} {xd : Nat → Int64} {xt : Nat → Int32} {xf : Nat → Int64} {xw : Nat → Int32} {x : Int32} {y : Int32} {r_1 r_2 : Int64} (hrl : (rl n gr ro al xk xr lf up ct th wr fl xa xb xc xe xl xd xt xf xw)) (h1 : r_1 = m3_RG_content x y n th wr fl) (h2 : r_2 = mm_Mo_content x y n xr xd xt xf) : r_1 = r_2 ∧ (rl n gr ro al xk xr lf up ct th wr fl xa xb xc xe xl xd xt xf xw) := by
  refine ⟨?_, hrl⟩
  obtain ⟨k, hk, hs, hw, hc⟩ := hrl
  have hn := hk.n
  rw [h1, h2, m3_RG_content, mm_RG_content, mm_Mo_content]
  dsimp only
  rcases q_shard hn.2 x y with ⟨a, b⟩ | ⟨j, i, hj, hi, rfl, rfl⟩
  · rw [if_pos a, if_neg b]
  · obtain ⟨a, b⟩ := q_shI hn.2 hj hi
    obtain ⟨t, ht⟩ := hs j hj
    obtain ⟨e1, e2⟩ := ht.there hn.2 hi
    rw [if_neg (q_ne a), if_pos b, q_cl (by omega), q_cl (by omega), (q_sI j hj).2.2]
    cases htb : t.testBit i with
    | false => rw [if_pos (e1.mpr htb), if_pos (e2.mpr htb)]
    | true =>
      have nt : ¬ (t.testBit i = false) := by rw [htb]; decide
      rw [if_neg (fun h => nt (e1.mp h)), if_neg (fun h => nt (e2.mp h)), mm_Sq_held, mv_value (hk.2.2.2.2.2.2 i hi)]
      obtain ⟨f1, f2⟩ := ht.2.2.2 i hi htb
      rw [f1, f2]
/-- the lost ones of n shards -/
def gl_l (t : Nat) : Nat → Nat
  | 0 => 0
  | j + 1 => if t.testBit j then gl_l t j else gl_l t j ||| 2 ^ j
theorem gl_lost10 : ∀ t, t < 1024 → mm_Sq_lostMask (nI (2 ^ 10 - 1)) (nI t) = nI (gl_l t 10) := by decide +kernel
theorem gl_lost11 : ∀ t, t < 2048 → mm_Sq_lostMask (nI (2 ^ 11 - 1)) (nI t) = nI (gl_l t 11) := by decide +kernel
theorem gl_lostM {n : Nat} (hn : n = 10 ∨ n = 11) {t : Nat} (ht : t < 2 ^ n) : mm_Sq_lostMask (nI (2 ^ n - 1)) (nI t) = nI (gl_l t n) := by
  rcases hn with rfl | rfl
  · exact gl_lost10 t ht
  · exact gl_lost11 t ht
theorem gl_L14 {sg n t : Nat} {xt : Nat → Int32} (hn : n ≤ 11) (hx : ∀ i, i < n → (xt (11 * sg + i) = (0 : Int32) ↔ t.testBit i = false)) : ∀ (k j : Nat), j + k = n → mm_Mo_lost_L14 xt sg k j (nI (gl_l t j)) = nI (gl_l t n)
  | 0, j, hj => by rw [mm_Mo_lost_L14, show j = n by omega]
  | k + 1, j, hj => by
    rw [mm_Mo_lost_L14]
    have e : gl_l t (j + 1) = if t.testBit j then gl_l t j else gl_l t j ||| 2 ^ j := rfl
    cases hb : t.testBit j with
    | false =>
      rw [if_pos ((hx j (by omega)).mpr hb), gm_1 j (by omega), gm_or]
      rw [hb, if_neg (show ¬ (false = true) by decide)] at e
      rw [← e]
      exact gl_L14 hn hx k (j + 1) (by omega)
    | true =>
      have nt : ¬ (t.testBit j = false) := by rw [hb]; decide
      rw [if_neg (fun h => nt ((hx j (by omega)).mp h))]
      rw [hb, if_pos (show true = true from rfl)] at e
      rw [← e]
      exact gl_L14 hn hx k (j + 1) (by omega)
theorem e_lost {n : Nat} {gr al xk : Int32} {ro : Nat → Int64} {xr : Nat → Int32} {lf : Int64} {up : Nat → Int32} {ct : Nat → Int32} {th : Nat → Int32} {wr : Nat → Nat → Int64} {fl : Nat → Nat → Int64} {xa : Int32} {xb : Int32} {xc : Int32} {xe : Int32} {xl : Int64} {xd : Nat → Int64} {xt : Nat → Int32} {xf : Nat → Int64} {xw : Nat → Int32} {x : Int32} {r_1 r_2 : Int32} (hrl : (rl n gr ro al xk xr lf up ct th wr fl xa xb xc xe xl xd xt xf xw)) (h1 : r_1 = m3_RG_lost x al th) (h2 : r_2 = mm_Mo_lost x n xt) : r_1 = r_2 ∧ (rl n gr ro al xk xr lf up ct th wr fl xa xb xc xe xl xd xt xf xw) := by
  refine ⟨?_, hrl⟩
  obtain ⟨k, hk, hs, hw, hc⟩ := hrl
  have hn := hk.n
  rw [h1, h2, m3_RG_lost, mm_RG_lost, mm_Mo_lost]
  dsimp only
  rcases q_stripe x with ⟨a, b⟩ | ⟨j, hj, rfl⟩
  · rw [if_pos a, if_neg b]
  · obtain ⟨a, b, c⟩ := q_sI j hj
    obtain ⟨t, ht⟩ := hs j hj
    rw [if_neg (q_ne a), if_pos b, q_cl (by omega), c, hk.2.2.2.2.1, ht.2.1, gl_lostM (by omega) ht.1]
    exact (gl_L14 hn.2 (fun i hi => (ht.there hn.2 hi).2) n 0 (by omega)).symm
