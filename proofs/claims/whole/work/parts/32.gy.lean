/-! rows of six bytes, products, and what a shard of a row holds -/
theorem gf_tadd {a b c : Nat} (ha : a < 256) (hb : b < 256) (hc : c < 256) : gf_t (a ^^^ b) c = gf_t a c ^^^ gf_t b c := by
  rw [gf_tcomm _ (gf_xlt ha hb) c hc, gf_tlin c ha hb, gf_tcomm c hc a ha, gf_tcomm c hc b hb]
theorem gf_Tadd (n : Nat) {a b x : Nat} (ha : a < 256) (hb : b < 256) (hx : x < 256 ^ n) : gf_T n (a ^^^ b) x = gf_T n a x ^^^ gf_T n b x := by
  rw [gf_T_eq n _ hx, gf_T_eq n a hx, gf_T_eq n b hx, gf_Bx (gf_tlt a) (gf_tlt b)]
  exact gf_Bcongr (fun c hc => gf_tadd ha hb hc) n x
theorem gf_Bdig {f : Nat → Nat} (hf : ∀ b, b < 256 → f b < 256) : ∀ (p n x : Nat), p < n → gf_B f n x / 256 ^ p % 256 = f (x / 256 ^ p % 256)
  | 0, n + 1, x, _ => by
    rw [Nat.pow_zero, Nat.div_one, Nat.div_one]
    exact gf_Bm hf n x
  | p + 1, n + 1, x, h => by
    rw [Nat.pow_succ, Nat.mul_comm, ← Nat.div_div_eq_div_mul, ← Nat.div_div_eq_div_mul, gf_Bd hf n x]
    exact gf_Bdig hf p n (x / 256) (by omega)
theorem gf_xdig (x y p : Nat) : (x ^^^ y) / 256 ^ p % 256 = x / 256 ^ p % 256 ^^^ y / 256 ^ p % 256 := by
  rw [show (256 : Nat) ^ p = 2 ^ (8 * p) by rw [Nat.pow_mul], Nat.xor_div_two_pow, gf_xm]
def gy_T (f : Nat) (x : Int64) : Int64 := mm_By_times (nI f) x
def gy_a (x : Int64) (p : Nat) : Nat := uN x / 256 ^ p % 256
theorem gy_alt (x : Int64) (p : Nat) : gy_a x p < 256 := Nat.mod_lt _ (by decide)
theorem gy_lt8 (x : Int64) : uN x < 256 ^ 8 := uN_lt x
theorem gy_uT {f : Nat} (hf : f < 256) (x : Int64) : uN (gy_T f x) = gf_T 8 f (uN x) := gx_times hf x
theorem gy_Tx {f : Nat} (hf : f < 256) (x y : Int64) : gy_T f (x ^^^ y) = gy_T f x ^^^ gy_T f y := by
  apply uN_inj
  rw [gy_uT hf, ux_xor, ux_xor, gy_uT hf, gy_uT hf, gf_Tlin 8 f (gy_lt8 x) (gy_lt8 y)]
theorem gy_TT {a b : Nat} (ha : a < 256) (hb : b < 256) (x : Int64) : gy_T a (gy_T b x) = gy_T (gf_t a b) x := by
  apply uN_inj
  rw [gy_uT ha, gy_uT hb, gy_uT (gf_tlt a b hb), gf_Tassoc 8 ha hb (gy_lt8 x)]
theorem gy_Tadd {a b : Nat} (ha : a < 256) (hb : b < 256) (x : Int64) : gy_T (a ^^^ b) x = gy_T a x ^^^ gy_T b x := by
  apply uN_inj
  rw [gy_uT (gf_xlt ha hb), ux_xor, gy_uT ha, gy_uT hb, gf_Tadd 8 ha hb (gy_lt8 x)]
theorem gf_t1 : ∀ b, b < 256 → gf_t 1 b = b := by decide +kernel
theorem gf_t00 : ∀ b, b < 256 → gf_t 0 b = 0 := by decide +kernel
theorem gy_T1 (x : Int64) : gy_T 1 x = x := by
  apply uN_inj
  rw [gy_uT (by decide), gf_T_eq 8 1 (gy_lt8 x), gf_Bcongr gf_t1, gf_Bid 8 _ (gy_lt8 x)]
theorem gy_T0 (x : Int64) : gy_T 0 x = 0 := by
  apply uN_inj
  rw [gy_uT (by decide), gf_T_eq 8 0 (gy_lt8 x), gf_Bcongr gf_t00, gf_B0]
  rfl
theorem gy_T_z {f : Nat} (hf : f < 256) : gy_T f 0 = 0 := by
  have h := gy_Tx hf 0 0
  rw [Int64.xor_self, Int64.xor_self] at h
  exact h
theorem gy_ax (x y : Int64) (p : Nat) : gy_a (x ^^^ y) p = gy_a x p ^^^ gy_a y p := by
  unfold gy_a
  rw [ux_xor, gf_xdig]
theorem gy_aT {f : Nat} (hf : f < 256) (x : Int64) {p : Nat} (hp : p < 8) : gy_a (gy_T f x) p = gf_t f (gy_a x p) := by
  unfold gy_a
  rw [gy_uT hf, gf_T_eq 8 f (gy_lt8 x), gf_Bdig (gf_tlt f) p 8 _ hp]
theorem gy_at (b : Int64) {i : Nat} (hi : i < 8) : mm_By_at b i = nI (gy_a b i) := gx_at b hi
/-- what a shard of the row r holds over the data D: the first p places -/
def gy_d (D : Nat → Int64) (r : Int64) : Nat → Int64
  | 0 => 0
  | p + 1 => gy_d D r p ^^^ gy_T (gy_a r p) (D p)
theorem gy_x4 (a b c d : Int64) : (a ^^^ b) ^^^ (c ^^^ d) = (a ^^^ c) ^^^ (b ^^^ d) := by
  rw [Int64.xor_assoc, Int64.xor_assoc, ← Int64.xor_assoc b c d, Int64.xor_comm b c, Int64.xor_assoc c b d]
theorem gy_dx (D : Nat → Int64) (r q : Int64) : ∀ p, gy_d D (r ^^^ q) p = gy_d D r p ^^^ gy_d D q p
  | 0 => by show (0 : Int64) = 0 ^^^ 0; rw [Int64.xor_self]
  | p + 1 => by
    show gy_d D (r ^^^ q) p ^^^ gy_T (gy_a (r ^^^ q) p) (D p) = (gy_d D r p ^^^ gy_T (gy_a r p) (D p)) ^^^ (gy_d D q p ^^^ gy_T (gy_a q p) (D p))
    rw [gy_dx D r q p, gy_ax, gy_Tadd (gy_alt r p) (gy_alt q p), gy_x4]
theorem gy_dT (D : Nat → Int64) {f : Nat} (hf : f < 256) (r : Int64) : ∀ p, p ≤ 8 → gy_d D (gy_T f r) p = gy_T f (gy_d D r p)
  | 0, _ => (gy_T_z hf).symm
  | p + 1, hp => by
    show gy_d D (gy_T f r) p ^^^ gy_T (gy_a (gy_T f r) p) (D p) = gy_T f (gy_d D r p ^^^ gy_T (gy_a r p) (D p))
    rw [gy_dT D hf r p (by omega), gy_aT hf r (by omega), gy_Tx hf, gy_TT hf (gy_alt r p)]
theorem gy_d0 (D : Nat → Int64) {r : Int64} : ∀ p, (∀ q, q < p → gy_a r q = 0) → gy_d D r p = 0
  | 0, _ => rfl
  | p + 1, h => by
    show gy_d D r p ^^^ gy_T (gy_a r p) (D p) = 0
    rw [gy_d0 D p (fun q hq => h q (by omega)), h p (by omega), gy_T0, Int64.xor_self]
