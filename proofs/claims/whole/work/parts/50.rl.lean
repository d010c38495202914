/-! the class's state and the reference's, side by side -/
/-- a stripe: t has a bit for each shard that is there -/
def rs (k n : Nat) (th : Int32) (wr fl D : Nat → Int64) (xt : Nat → Int32) (xf : Nat → Int64) (t : Nat) : Prop :=
  t < 2 ^ n ∧ th = nI t ∧ (∀ i, i < n → xt i = if t.testBit i then 1 else 0) ∧ ∀ i, i < n → t.testBit i = true → fl i = xf i ∧ wr i = gy_d D (gk_row k i) 6
/-- what never changes: the kind k -/
def rk (k n : Nat) (gr : Int32) (ro : Nat → Int64) (al xk : Int32) (xr : Nat → Int32) : Prop :=
  k < 3 ∧ n = gk_n k ∧ gr = (if k = 0 then 0 else 1) ∧ (∀ j, j < n → ro j = gk_row k j) ∧ al = nI (2 ^ n - 1) ∧ xk = nI k ∧ ∀ i, i < n → ∀ p, p < 6 → xr (6 * i + p) = nI (gy_a (gk_row k i) p)
def rl (n : Nat) (gr : Int32) (ro : Nat → Int64) (al xk : Int32) (xr : Nat → Int32) (lf : Int64) (up ct th : Nat → Int32) (wr fl : Nat → Nat → Int64) (xa xb xc xe : Int32) (xl : Int64) (xd : Nat → Int64) (xt : Nat → Int32) (xf : Nat → Int64) (xw : Nat → Int32) : Prop :=
  ∃ k, rk k n gr ro al xk xr ∧ (∀ q, q < 3 → ∃ t, rs k n (th q) (wr q) (fl q) (fun p => xd (6 * q + p)) (fun i => xt (11 * q + i)) (fun i => xf (11 * q + i)) t) ∧
    (∀ x, x < 12 → (xw x = 0 ∧ up x = 1) ∨ (xw x = 1 ∧ up x = 0)) ∧ ct 0 = xa ∧ ct 1 = xb ∧ ct 2 = xc ∧ ct 3 = xe ∧ lf = xl
