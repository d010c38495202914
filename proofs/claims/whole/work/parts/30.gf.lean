/-! The field of 256 elements, on numbers: a byte is a number below 256, a long eight of them. DRAFT, never compiled yet. -/
/-- the product of a byte and the polynomial x -/
def gf_x (b : Nat) : Nat := (b % 128 * 2) ^^^ (b / 128 * 29)
/-- a byte map on each of n bytes -/
def gf_B (f : Nat → Nat) : Nat → Nat → Nat
  | 0, _ => 0
  | n + 1, x => 256 * gf_B f n (x / 256) + f (x % 256)
/-- n bytes 1, n bytes 127 -/
def gf_L : Nat → Nat
  | 0 => 0
  | n + 1 => 256 * gf_L n + 1
def gf_M : Nat → Nat
  | 0 => 0
  | n + 1 => 256 * gf_M n + 127
/-- what the class does in a turn of its loop: each of n bytes times x -/
def gf_X (n x : Nat) : Nat := ((x &&& gf_M n) * 2) ^^^ ((x / 128 &&& gf_L n) * 29)
theorem gf_split (x : Nat) : 256 * (x / 256) + x % 256 = x := Nat.div_add_mod x 256
theorem gf_eq {x y : Nat} (h1 : x / 256 = y / 256) (h2 : x % 256 = y % 256) : x = y := by
  rw [← gf_split x, ← gf_split y, h1, h2]
theorem gf_div {a b : Nat} (hb : b < 256) : (256 * a + b) / 256 = a := by omega
theorem gf_mod {a b : Nat} (hb : b < 256) : (256 * a + b) % 256 = b := by omega
theorem gf_xd (x y : Nat) : (x ^^^ y) / 256 = x / 256 ^^^ y / 256 := Nat.xor_div_two_pow (n := 8)
theorem gf_xm (x y : Nat) : (x ^^^ y) % 256 = x % 256 ^^^ y % 256 := Nat.xor_mod_two_pow (n := 8)
theorem gf_ad (x y : Nat) : (x &&& y) / 256 = x / 256 &&& y / 256 := Nat.and_div_two_pow (n := 8)
theorem gf_am (x y : Nat) : (x &&& y) % 256 = x % 256 &&& y % 256 := Nat.and_mod_two_pow (n := 8)
theorem gf_xlt {a b : Nat} (ha : a < 256) (hb : b < 256) : a ^^^ b < 256 := Nat.xor_lt_two_pow (n := 8) ha hb
theorem gf_dig {a b c d : Nat} (hb : b < 256) (hd : d < 256) : (256 * a + b) ^^^ (256 * c + d) = 256 * (a ^^^ c) + (b ^^^ d) := by
  refine gf_eq ?_ ?_
  · rw [gf_xd, gf_div hb, gf_div hd, gf_div (gf_xlt hb hd)]
  · rw [gf_xm, gf_mod hb, gf_mod hd, gf_mod (gf_xlt hb hd)]
theorem gf_xlt1 : ∀ b, b < 256 → gf_x b < 256 := by decide +kernel
theorem gf_and127 : ∀ b, b < 256 → b &&& 127 = b % 128 := by decide +kernel
theorem gf_and1 : ∀ b, b < 256 → b &&& 1 = b % 2 := by decide +kernel
theorem gf_Xstep (n x : Nat) : gf_X (n + 1) x = 256 * gf_X n (x / 256) + gf_x (x % 256) := by
  have hb : x % 256 < 256 := Nat.mod_lt _ (by decide)
  have e1 : x &&& gf_M (n + 1) = 256 * (x / 256 &&& gf_M n) + x % 256 % 128 := by
    refine gf_eq ?_ ?_
    · rw [gf_ad, show gf_M (n + 1) / 256 = gf_M n from gf_div (by decide), gf_div (by omega)]
    · rw [gf_am, show gf_M (n + 1) % 256 = 127 from gf_mod (by decide), gf_mod (by omega), gf_and127 _ hb]
  have e2 : x / 128 &&& gf_L (n + 1) = 256 * (x / 256 / 128 &&& gf_L n) + x % 256 / 128 := by
    refine gf_eq ?_ ?_
    · rw [gf_ad, show gf_L (n + 1) / 256 = gf_L n from gf_div (by decide), gf_div (by omega), show x / 128 / 256 = x / 256 / 128 by omega]
    · rw [gf_am, show gf_L (n + 1) % 256 = 1 from gf_mod (by decide), gf_mod (by omega), gf_and1 _ (Nat.mod_lt _ (by decide))]
      omega
  show ((x &&& gf_M (n + 1)) * 2) ^^^ ((x / 128 &&& gf_L (n + 1)) * 29) = _
  rw [e1, e2, show (256 * (x / 256 &&& gf_M n) + x % 256 % 128) * 2 = 256 * ((x / 256 &&& gf_M n) * 2) + x % 256 % 128 * 2 by omega,
    show (256 * (x / 256 / 128 &&& gf_L n) + x % 256 / 128) * 29 = 256 * ((x / 256 / 128 &&& gf_L n) * 29) + x % 256 / 128 * 29 by omega,
    gf_dig (by omega) (by omega)]
  rfl
theorem gf_X_eq : ∀ (n x : Nat), gf_X n x = gf_B gf_x n x
  | 0, x => by simp [gf_X, gf_B, gf_M, gf_L]
  | n + 1, x => by rw [gf_Xstep, gf_X_eq n]; rfl
/-- byte maps after one another, and side by side -/
theorem gf_Bd {f : Nat → Nat} (hf : ∀ b, b < 256 → f b < 256) (n x : Nat) : gf_B f (n + 1) x / 256 = gf_B f n (x / 256) := gf_div (hf _ (Nat.mod_lt _ (by decide)))
theorem gf_Bm {f : Nat → Nat} (hf : ∀ b, b < 256 → f b < 256) (n x : Nat) : gf_B f (n + 1) x % 256 = f (x % 256) := gf_mod (hf _ (Nat.mod_lt _ (by decide)))
theorem gf_BB {f g : Nat → Nat} (hg : ∀ b, b < 256 → g b < 256) : ∀ (n x : Nat), gf_B f n (gf_B g n x) = gf_B (fun b => f (g b)) n x
  | 0, _ => rfl
  | n + 1, x => by
    show 256 * gf_B f n (gf_B g (n + 1) x / 256) + f (gf_B g (n + 1) x % 256) = _
    rw [gf_Bd hg, gf_Bm hg, gf_BB hg n]
    rfl
theorem gf_Bx {f g : Nat → Nat} (hf : ∀ b, b < 256 → f b < 256) (hg : ∀ b, b < 256 → g b < 256) : ∀ (n x : Nat), gf_B f n x ^^^ gf_B g n x = gf_B (fun b => f b ^^^ g b) n x
  | 0, _ => Nat.xor_self 0
  | n + 1, x => by
    show (256 * gf_B f n (x / 256) + f (x % 256)) ^^^ (256 * gf_B g n (x / 256) + g (x % 256)) = _
    rw [gf_dig (hf _ (Nat.mod_lt _ (by decide))) (hg _ (Nat.mod_lt _ (by decide))), gf_Bx hf hg n]
    rfl
theorem gf_Blin {f : Nat → Nat} (hf : ∀ b, b < 256 → f b < 256) (hl : ∀ a b, a < 256 → b < 256 → f (a ^^^ b) = f a ^^^ f b) : ∀ (n x y : Nat), gf_B f n (x ^^^ y) = gf_B f n x ^^^ gf_B f n y
  | 0, _, _ => (Nat.xor_self 0).symm
  | n + 1, x, y => by
    have hx : x % 256 < 256 := Nat.mod_lt _ (by decide)
    have hy : y % 256 < 256 := Nat.mod_lt _ (by decide)
    show 256 * gf_B f n ((x ^^^ y) / 256) + f ((x ^^^ y) % 256) = (256 * gf_B f n (x / 256) + f (x % 256)) ^^^ (256 * gf_B f n (y / 256) + f (y % 256))
    rw [gf_dig (hf _ hx) (hf _ hy), gf_xd, gf_xm, gf_Blin hf hl n, hl _ _ hx hy]
theorem gf_Bid : ∀ (n x : Nat), x < 256 ^ n → gf_B (fun b => b) n x = x
  | 0, x, h => by
    have : x = 0 := by simpa using h
    rw [this]; rfl
  | n + 1, x, h => by
    show 256 * gf_B (fun b => b) n (x / 256) + x % 256 = x
    rw [gf_Bid n (x / 256) (by rw [Nat.pow_succ] at h; omega), gf_split]
theorem gf_Bcongr {f g : Nat → Nat} (h : ∀ b, b < 256 → f b = g b) : ∀ (n x : Nat), gf_B f n x = gf_B g n x
  | 0, _ => rfl
  | n + 1, x => by
    show 256 * gf_B f n (x / 256) + f (x % 256) = 256 * gf_B g n (x / 256) + g (x % 256)
    rw [gf_Bcongr h n, h _ (Nat.mod_lt _ (by decide))]
theorem gf_Blt {f : Nat → Nat} (hf : ∀ b, b < 256 → f b < 256) : ∀ (n x : Nat), gf_B f n x < 256 ^ n
  | 0, _ => by show (0 : Nat) < 1; decide
  | n + 1, x => by
    have h1 := gf_Blt hf n (x / 256)
    have h2 := hf (x % 256) (Nat.mod_lt _ (by decide))
    show 256 * gf_B f n (x / 256) + f (x % 256) < 256 ^ (n + 1)
    rw [Nat.pow_succ]
    omega
/-- the turns of the loop: the shifted bytes, the sum so far -/
def gf_i : Nat → Nat → Nat
  | 0, b => b
  | k + 1, b => gf_x (gf_i k b)
def gf_p (f : Nat) : Nat → Nat → Nat
  | 0, _ => 0
  | k + 1, b => gf_p f k b ^^^ (if f.testBit k then gf_i k b else 0)
/-- the product of two bytes -/
def gf_t (f b : Nat) : Nat := gf_p f 8 b
def gf_I (n : Nat) : Nat → Nat → Nat
  | 0, x => x
  | k + 1, x => gf_X n (gf_I n k x)
def gf_P (n f : Nat) : Nat → Nat → Nat
  | 0, _ => 0
  | k + 1, x => gf_P n f k x ^^^ (if f.testBit k then gf_I n k x else 0)
/-- the product of a byte and each of n bytes -/
def gf_T (n f x : Nat) : Nat := gf_P n f 8 x
theorem gf_ilt : ∀ (k b : Nat), b < 256 → gf_i k b < 256
  | 0, _, h => h
  | k + 1, b, h => gf_xlt1 _ (gf_ilt k b h)
theorem gf_plt (f : Nat) : ∀ (k b : Nat), b < 256 → gf_p f k b < 256
  | 0, _, _ => by show 0 < 256; decide
  | k + 1, b, h => by
    refine gf_xlt (gf_plt f k b h) ?_
    split
    · exact gf_ilt k b h
    · decide
theorem gf_I_eq (n : Nat) {x : Nat} (hx : x < 256 ^ n) : ∀ k : Nat, gf_I n k x = gf_B (gf_i k) n x
  | 0 => (gf_Bid n x hx).symm
  | k + 1 => by
    show gf_X n (gf_I n k x) = _
    rw [gf_I_eq n hx k, gf_X_eq, gf_BB (gf_ilt k)]
    rfl
theorem gf_B0 : ∀ (n x : Nat), gf_B (fun _ => 0) n x = 0
  | 0, _ => rfl
  | n + 1, x => by
    show 256 * gf_B (fun _ => 0) n (x / 256) + 0 = 0
    rw [gf_B0 n]
theorem gf_P_eq (n f : Nat) {x : Nat} (hx : x < 256 ^ n) : ∀ k : Nat, gf_P n f k x = gf_B (gf_p f k) n x
  | 0 => (gf_B0 n x).symm
  | k + 1 => by
    show gf_P n f k x ^^^ (if f.testBit k then gf_I n k x else 0) = _
    rw [gf_P_eq n f hx k]
    by_cases h : f.testBit k = true
    · rw [if_pos h, gf_I_eq n hx k, gf_Bx (gf_plt f k) (gf_ilt k)]
      exact gf_Bcongr (fun b _ => by show _ = gf_p f k b ^^^ (if f.testBit k then gf_i k b else 0); rw [if_pos h]) n x
    · rw [if_neg h, Nat.xor_zero]
      exact gf_Bcongr (fun b _ => by show _ = gf_p f k b ^^^ (if f.testBit k then gf_i k b else 0); rw [if_neg h, Nat.xor_zero]) n x
theorem gf_T_eq (n f : Nat) {x : Nat} (hx : x < 256 ^ n) : gf_T n f x = gf_B (gf_t f) n x := gf_P_eq n f hx 8
theorem gf_tlt (f b : Nat) (h : b < 256) : gf_t f b < 256 := gf_plt f 8 b h
/-! the field's laws, on bytes -/
theorem gf_x4 (a b c d : Nat) : (a ^^^ b) ^^^ (c ^^^ d) = (a ^^^ c) ^^^ (b ^^^ d) := by
  rw [Nat.xor_assoc, Nat.xor_assoc, ← Nat.xor_assoc b c d, Nat.xor_comm b c, Nat.xor_assoc c b d]
theorem gf_dbl (x y : Nat) : (x ^^^ y) * 2 = x * 2 ^^^ y * 2 := by
  have h := Nat.shiftLeft_xor_distrib (a := x) (b := y) (i := 1)
  rw [Nat.shiftLeft_eq, Nat.shiftLeft_eq, Nat.shiftLeft_eq] at h
  exact h
theorem gf_b29 : ∀ u, u < 2 → ∀ v, v < 2 → (u ^^^ v) * 29 = u * 29 ^^^ v * 29 := by decide +kernel
theorem gf_xlin : ∀ a, a < 256 → ∀ b, b < 256 → gf_x (a ^^^ b) = gf_x a ^^^ gf_x b := by
  intro a ha b hb
  have h1 : (a ^^^ b) % 128 = a % 128 ^^^ b % 128 := Nat.xor_mod_two_pow (n := 7)
  have h2 : (a ^^^ b) / 128 = a / 128 ^^^ b / 128 := Nat.xor_div_two_pow (n := 7)
  unfold gf_x
  rw [h1, h2, gf_dbl, gf_b29 _ (by omega) _ (by omega), gf_x4]
theorem gf_ilin : ∀ (k : Nat) {a b : Nat}, a < 256 → b < 256 → gf_i k (a ^^^ b) = gf_i k a ^^^ gf_i k b
  | 0, _, _, _, _ => rfl
  | k + 1, a, b, ha, hb => by
    show gf_x (gf_i k (a ^^^ b)) = gf_x (gf_i k a) ^^^ gf_x (gf_i k b)
    rw [gf_ilin k ha hb, gf_xlin _ (gf_ilt k a ha) _ (gf_ilt k b hb)]
theorem gf_plin (f : Nat) : ∀ (k : Nat) {a b : Nat}, a < 256 → b < 256 → gf_p f k (a ^^^ b) = gf_p f k a ^^^ gf_p f k b
  | 0, _, _, _, _ => (Nat.xor_self 0).symm
  | k + 1, a, b, ha, hb => by
    show gf_p f k (a ^^^ b) ^^^ (if f.testBit k then gf_i k (a ^^^ b) else 0) = (gf_p f k a ^^^ (if f.testBit k then gf_i k a else 0)) ^^^ (gf_p f k b ^^^ (if f.testBit k then gf_i k b else 0))
    rw [gf_plin f k ha hb, gf_ilin k ha hb, gf_x4]
    congr 1
    split
    · rfl
    · rfl
theorem gf_tlin (f : Nat) {a b : Nat} (ha : a < 256) (hb : b < 256) : gf_t f (a ^^^ b) = gf_t f a ^^^ gf_t f b := gf_plin f 8 ha hb
theorem gf_t0 (f : Nat) : gf_t f 0 = 0 := by
  have h := gf_tlin f (a := 0) (b := 0) (by decide) (by decide)
  rw [Nat.xor_self] at h
  rw [h, Nat.xor_self]
/-- a byte map that is linear and passes x commutes with a product -/
theorem gf_tx (s : Nat) : ∀ b, b < 256 → gf_t s (gf_x b) = gf_x (gf_t s b) := by
  have hi : ∀ k b, gf_i k (gf_x b) = gf_x (gf_i k b) := by
    intro k
    induction k with
    | zero => intro b; rfl
    | succ k ih => intro b; show gf_x (gf_i k (gf_x b)) = _; rw [ih]; rfl
  have hx0 : gf_x 0 = 0 := by decide
  have hp : ∀ k b, b < 256 → gf_p s k (gf_x b) = gf_x (gf_p s k b) := by
    intro k
    induction k with
    | zero => intro b _; exact hx0.symm
    | succ k ih =>
      intro b hb
      show gf_p s k (gf_x b) ^^^ (if s.testBit k then gf_i k (gf_x b) else 0) = gf_x (gf_p s k b ^^^ (if s.testBit k then gf_i k b else 0))
      rw [ih b hb, hi k b]
      split
      · rw [gf_xlin _ (gf_plt s k b hb) _ (gf_ilt k b hb)]
      · rw [Nat.xor_zero, Nat.xor_zero]
  exact hp 8
theorem gf_ti (s : Nat) : ∀ (k b : Nat), b < 256 → gf_t s (gf_i k b) = gf_i k (gf_t s b)
  | 0, _, _ => rfl
  | k + 1, b, hb => by
    show gf_t s (gf_x (gf_i k b)) = gf_x (gf_i k (gf_t s b))
    rw [gf_tx s _ (gf_ilt k b hb), gf_ti s k b hb]
theorem gf_tp (s f : Nat) : ∀ (k b : Nat), b < 256 → gf_t s (gf_p f k b) = gf_p f k (gf_t s b)
  | 0, _, _ => gf_t0 s
  | k + 1, b, hb => by
    show gf_t s (gf_p f k b ^^^ (if f.testBit k then gf_i k b else 0)) = gf_p f k (gf_t s b) ^^^ (if f.testBit k then gf_i k (gf_t s b) else 0)
    have h2 : (if f.testBit k then gf_i k b else 0) < 256 := by
      split
      · exact gf_ilt k b hb
      · decide
    rw [gf_tlin s (gf_plt f k b hb) h2, gf_tp s f k b hb]
    congr 1
    split
    · exact gf_ti s k b hb
    · exact gf_t0 s
/-- products change places: s (r b) = r (s b) -/
theorem gf_tt (s r : Nat) {b : Nat} (hb : b < 256) : gf_t s (gf_t r b) = gf_t r (gf_t s b) := gf_tp s r 8 b hb
theorem gf_one : ∀ b, b < 256 → gf_t b 1 = b := by decide +kernel
theorem gf_tcomm : ∀ a, a < 256 → ∀ b, b < 256 → gf_t a b = gf_t b a := by
  intro a ha b hb
  have h := gf_tt a b (b := 1) (by decide)
  rw [gf_one b hb, gf_one a ha] at h
  exact h
theorem gf_tassoc {s r b : Nat} (hs : s < 256) (hr : r < 256) (hb : b < 256) : gf_t s (gf_t r b) = gf_t (gf_t s r) b := by
  rw [gf_tcomm _ (gf_tlt s r hr) b hb, gf_tt b s hr, gf_tcomm b hb r hr]
/-! the same on n bytes -/
theorem gf_Tlt (n f : Nat) {x : Nat} (hx : x < 256 ^ n) : gf_T n f x < 256 ^ n := by rw [gf_T_eq n f hx]; exact gf_Blt (gf_tlt f) n x
theorem gf_xlt' {n x y : Nat} (hx : x < 256 ^ n) (hy : y < 256 ^ n) : x ^^^ y < 256 ^ n := by
  rw [show (256 : Nat) = 2 ^ 8 from rfl, ← Nat.pow_mul] at *
  exact Nat.xor_lt_two_pow hx hy
theorem gf_Tlin (n f : Nat) {x y : Nat} (hx : x < 256 ^ n) (hy : y < 256 ^ n) : gf_T n f (x ^^^ y) = gf_T n f x ^^^ gf_T n f y := by
  rw [gf_T_eq n f (gf_xlt' hx hy), gf_T_eq n f hx, gf_T_eq n f hy]
  exact gf_Blin (gf_tlt f) (fun a b ha hb => gf_tlin f ha hb) n x y
theorem gf_Tassoc (n : Nat) {s r x : Nat} (hs : s < 256) (hr : r < 256) (hx : x < 256 ^ n) : gf_T n s (gf_T n r x) = gf_T n (gf_t s r) x := by
  rw [gf_T_eq n s (gf_Tlt n r hx), gf_T_eq n r hx, gf_T_eq n (gf_t s r) hx, gf_BB (gf_tlt r)]
  exact gf_Bcongr (fun b hb => gf_tassoc hs hr hb) n x
