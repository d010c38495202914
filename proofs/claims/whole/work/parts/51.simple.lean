theorem q_sI : ∀ j, j < 3 → mm_RG_isStripe (nI j) = 1 ∧ mm_Mo_noStripe (nI j) = 0 ∧ sx (nI j) = j := by decide +kernel
theorem q_stripe (x : Int32) : (mm_RG_isStripe x = 0 ∧ ¬ mm_Mo_noStripe x = 0) ∨ ∃ j, j < 3 ∧ x = nI j := by
  by_cases h : mm_RG_isStripe x = 0
  · by_cases h2 : mm_Mo_noStripe x = 0
    · obtain ⟨j, hj, hx⟩ := in_noStripe rfl h2
      exact Or.inr ⟨j, hj, hx⟩
    · exact Or.inl ⟨h, h2⟩
  · exact Or.inr (in_isStripe rfl h)
theorem q_ne {x : Int32} (h : x = 1) : ¬ x = 0 := by rw [h]; decide
theorem q_shI {n j i : Nat} (hn : n ≤ 11) (hj : j < 3) (hi : i < n) : mm_RG_isShard (nI j) (nI i) n = 1 ∧ mm_Mo_noShard (nI j) (nI i) n = 0 := by
  obtain ⟨a, b, -⟩ := q_sI j hj
  unfold mm_RG_isShard mm_Mo_noShard
  rw [if_neg (q_ne a), if_pos b, if_neg (nI_pos (by omega)), if_neg (nI_ge hi (by omega)), if_neg (nI_pos (by omega)), if_pos (nI_lt hi (by omega))]
  exact ⟨rfl, rfl⟩
theorem q_shard {n : Nat} (hn : n ≤ 11) (x y : Int32) : (mm_RG_isShard x y n = 0 ∧ ¬ mm_Mo_noShard x y n = 0) ∨ ∃ j i, j < 3 ∧ i < n ∧ x = nI j ∧ y = nI i := by
  by_cases h : mm_RG_isShard x y n = 0
  · by_cases h2 : mm_Mo_noShard x y n = 0
    · obtain ⟨j, hj, hx, i, hi, hy⟩ := in_noShard hn rfl h2
      exact Or.inr ⟨j, i, hj, hi, hx, hy⟩
    · exact Or.inl ⟨h, h2⟩
  · obtain ⟨j, hj, hx, i, hi, hy⟩ := in_isShard hn rfl h
    exact Or.inr ⟨j, i, hj, hi, hx, hy⟩
theorem rk.n {k n : Nat} {gr al xk : Int32} {ro : Nat → Int64} {xr : Nat → Int32} (h : rk k n gr ro al xk xr) : 10 ≤ n ∧ n ≤ 11 := by
  obtain ⟨-, h, -⟩ := h
  rw [h]; unfold gk_n; split <;> decide
theorem q_cl {j : Nat} (h : j < 12) : (nI j).toNatClampNeg = j := nI_clamp (by omega)
theorem e_size {n : Nat} {gr al xk : Int32} {ro : Nat → Int64} {xr : Nat → Int32} {lf : Int64} {up : Nat → Int32} {ct : Nat → Int32} {th : Nat → Int32} {wr : Nat → Nat → Int64} {fl : Nat → Nat → Int64} {xa : Int32} {xb : Int32} {xc : Int32} {xe : Int32} {xl : Int64} {xd : Nat → Int64} {xt : Nat → Int32} {xf : Nat → Int64} {xw : Nat → Int32} {r_1 r_2 : Int32} (hrl : (rl n gr ro al xk xr lf up ct th wr fl xa xb xc xe xl xd xt xf xw)) (h1 : r_1 = m3_RG_size n) (h2 : r_2 = mm_Mo_size n) : r_1 = r_2 ∧ (rl n gr ro al xk xr lf up ct th wr fl xa xb xc xe xl xd xt xf xw) := by
  exact ⟨h1.trans h2.symm, hrl⟩
theorem e_fetched {n : Nat} {gr al xk : Int32} {ro : Nat → Int64} {xr : Nat → Int32} {lf : Int64} {up : Nat → Int32} {ct : Nat → Int32} {th : Nat → Int32} {wr : Nat → Nat → Int64} {fl : Nat → Nat → Int64} {xa : Int32} {xb : Int32} {xc : Int32} {xe : Int32} {xl : Int64} {xd : Nat → Int64} {xt : Nat → Int32} {xf : Nat → Int64} {xw : Nat → Int32} {r_1 r_2 : Int64} (hrl : (rl n gr ro al xk xr lf up ct th wr fl xa xb xc xe xl xd xt xf xw)) (h1 : r_1 = m3_RG_fetched lf) (h2 : r_2 = mm_Mo_fetched xl) : r_1 = r_2 ∧ (rl n gr ro al xk xr lf up ct th wr fl xa xb xc xe xl xd xt xf xw) := by
  refine ⟨?_, hrl⟩
  obtain ⟨k, -, -, -, -, -, -, -, h⟩ := hrl
  rw [h1, h2]; exact h
theorem q_node (x : Int32) : (mm_RG_isNode x = 0 ∧ (x < 0 ∨ (¬ x < 0 ∧ (12 : Int32) ≤ x))) ∨ ∃ j, j < 12 ∧ x = nI j := by
  by_cases h : mm_RG_isNode x = 0
  · by_cases h0 : x < 0
    · exact Or.inl ⟨h, Or.inl h0⟩
    · by_cases h1 : (12 : Int32) ≤ x
      · exact Or.inl ⟨h, Or.inr ⟨h0, h1⟩⟩
      · exact Or.inr (ly_rng2 (N := 12) h0 h1 (by decide))
  · exact Or.inr (in_isNode rfl h)
theorem q_nI : ∀ j, j < 12 → mm_RG_isNode (nI j) = 1 ∧ ¬ nI j < 0 ∧ ¬ (12 : Int32) ≤ nI j ∧ ¬ (11 : Int32) < nI j ∧ nI j ≤ (11 : Int32) := by decide +kernel
theorem q_12 {x : Int32} (h : (12 : Int32) ≤ x) : (11 : Int32) < x ∧ ¬ x ≤ (11 : Int32) := by
  rw [Int32.le_iff_toInt_le] at h
  have h12 : (12 : Int32).toInt = 12 := by decide
  have h11 : (11 : Int32).toInt = 11 := by decide
  rw [Int32.lt_iff_toInt_lt, Int32.le_iff_toInt_le]
  omega
theorem e_up {n : Nat} {gr al xk : Int32} {ro : Nat → Int64} {xr : Nat → Int32} {lf : Int64} {up : Nat → Int32} {ct : Nat → Int32} {th : Nat → Int32} {wr : Nat → Nat → Int64} {fl : Nat → Nat → Int64} {xa : Int32} {xb : Int32} {xc : Int32} {xe : Int32} {xl : Int64} {xd : Nat → Int64} {xt : Nat → Int32} {xf : Nat → Int64} {xw : Nat → Int32} {x : Int32} {r_1 r_2 : Int32} (hrl : (rl n gr ro al xk xr lf up ct th wr fl xa xb xc xe xl xd xt xf xw)) (h1 : r_1 = m3_RG_up x up) (h2 : r_2 = mm_Mo_up x xw) : r_1 = r_2 ∧ (rl n gr ro al xk xr lf up ct th wr fl xa xb xc xe xl xd xt xf xw) := by
  refine ⟨?_, hrl⟩
  obtain ⟨k, -, -, hw, -⟩ := hrl
  rw [h1, h2, m3_RG_up, mm_RG_up, mm_Mo_up]
  rcases q_node x with ⟨a, b⟩ | ⟨j, hj, rfl⟩
  · rw [if_pos a]
    rcases b with b | ⟨b, c⟩
    · rw [if_pos b]
    · rw [if_neg b, if_pos c]
  · obtain ⟨a, b, c, -⟩ := q_nI j hj
    rw [if_neg (q_ne a), if_neg b, if_neg c, q_cl hj]
    rcases hw j hj with ⟨u, v⟩ | ⟨u, v⟩
    · rw [u, v, if_neg (by decide), if_pos rfl]
    · rw [u, v, if_pos rfl, if_neg (by decide)]
theorem e_revive {n : Nat} {gr al xk : Int32} {ro : Nat → Int64} {xr : Nat → Int32} {lf : Int64} {up : Nat → Int32} {ct : Nat → Int32} {th : Nat → Int32} {wr : Nat → Nat → Int64} {fl : Nat → Nat → Int64} {xa : Int32} {xb : Int32} {xc : Int32} {xe : Int32} {xl : Int64} {xd : Nat → Int64} {xt : Nat → Int32} {xf : Nat → Int64} {xw : Nat → Int32} {x : Int32} {r_1 r_2 : Int32} {up_1 : Nat → Int32} {xw_2 : Nat → Int32} (hrl : (rl n gr ro al xk xr lf up ct th wr fl xa xb xc xe xl xd xt xf xw)) (h1 : (r_1, up_1) = m3_RG_revive x up) (h2 : (r_2, xw_2) = mm_Mo_revive x xw) : r_1 = r_2 ∧ (rl n gr ro al xk xr lf up_1 ct th wr fl xa xb xc xe xl xd xt xf xw_2) := by
  obtain ⟨k, hk, hs, hw, hc⟩ := hrl
  rw [m3_RG_revive, mm_RG_revive] at h1
  rw [mm_Mo_revive] at h2
  rcases q_node x with ⟨a, b⟩ | ⟨j, hj, rfl⟩
  · rw [if_pos a] at h1
    have h2' : (r_2, xw_2) = ((0 : Int32), xw) := by
      rcases b with b | ⟨b, c⟩
      · rw [if_pos b] at h2; exact h2
      · rw [if_neg b, if_pos (q_12 c).1] at h2; exact h2
    cases h1; cases h2'
    exact ⟨rfl, k, hk, hs, hw, hc⟩
  · obtain ⟨a, b, -, c, -⟩ := q_nI j hj
    rw [if_neg (q_ne a), q_cl hj] at h1
    rw [if_neg b, if_neg c, q_cl hj] at h2
    rcases hw j hj with ⟨u, v⟩ | ⟨u, v⟩
    · rw [v, if_neg (by decide)] at h1
      rw [u, if_pos rfl] at h2
      cases h1; cases h2
      exact ⟨rfl, k, hk, hs, hw, hc⟩
    · rw [v, if_pos rfl] at h1
      rw [u, if_neg (by decide)] at h2
      dsimp only at h1 h2
      cases h1; cases h2
      refine ⟨rfl, k, hk, hs, fun y hy => ?_, hc⟩
      by_cases h : y = j
      · subst h; rw [pk_us, pk_us]; exact Or.inl ⟨rfl, rfl⟩
      · rw [pk_un h, pk_un h]; exact hw y hy
theorem e_node {n : Nat} {gr al xk : Int32} {ro : Nat → Int64} {xr : Nat → Int32} {lf : Int64} {up : Nat → Int32} {ct : Nat → Int32} {th : Nat → Int32} {wr : Nat → Nat → Int64} {fl : Nat → Nat → Int64} {xa : Int32} {xb : Int32} {xc : Int32} {xe : Int32} {xl : Int64} {xd : Nat → Int64} {xt : Nat → Int32} {xf : Nat → Int64} {xw : Nat → Int32} {x : Int32} {y : Int32} {r_1 r_2 : Int32} (hrl : (rl n gr ro al xk xr lf up ct th wr fl xa xb xc xe xl xd xt xf xw)) (h1 : r_1 = m3_RG_node x y n) (h2 : r_2 = mm_Mo_node x y n) : r_1 = r_2 ∧ (rl n gr ro al xk xr lf up ct th wr fl xa xb xc xe xl xd xt xf xw) := by
  refine ⟨?_, hrl⟩
  obtain ⟨k, hk, -⟩ := hrl
  rw [h1, h2, m3_RG_node, mm_RG_node, mm_Mo_node]
  rcases q_shard hk.n.2 x y with ⟨a, b⟩ | ⟨j, i, hj, hi, rfl, rfl⟩
  · rw [if_pos a, if_neg b]
  · obtain ⟨a, b⟩ := q_shI hk.n.2 hj hi
    have := hk.n.2
    rw [if_neg (q_ne a), if_pos b, q_cl (by omega), q_cl (by omega), (q_sI j hj).2.2]
theorem q_cnt : ∀ j, j < 4 → ¬ nI j < 0 ∧ ¬ (4 : Int32) ≤ nI j := by decide +kernel
theorem e_count {n : Nat} {gr al xk : Int32} {ro : Nat → Int64} {xr : Nat → Int32} {lf : Int64} {up : Nat → Int32} {ct : Nat → Int32} {th : Nat → Int32} {wr : Nat → Nat → Int64} {fl : Nat → Nat → Int64} {xa : Int32} {xb : Int32} {xc : Int32} {xe : Int32} {xl : Int64} {xd : Nat → Int64} {xt : Nat → Int32} {xf : Nat → Int64} {xw : Nat → Int32} {x : Int32} {r_1 r_2 : Int32} (hrl : (rl n gr ro al xk xr lf up ct th wr fl xa xb xc xe xl xd xt xf xw)) (h1 : r_1 = m3_RG_count x ct) (h2 : r_2 = mm_Mo_count x xa xb xc xe) : r_1 = r_2 ∧ (rl n gr ro al xk xr lf up ct th wr fl xa xb xc xe xl xd xt xf xw) := by
  refine ⟨?_, hrl⟩
  obtain ⟨k, -, -, -, c0, c1, c2, c3, -⟩ := hrl
  rw [h1, h2, m3_RG_count, mm_RG_count, mm_Mo_count]
  by_cases hx0 : x < 0
  · rw [if_pos hx0, if_neg, if_neg, if_neg, if_neg] <;> (intro h; subst h; exact absurd hx0 (by decide))
  · by_cases hx4 : (4 : Int32) ≤ x
    · rw [if_neg hx0, if_pos hx4, if_neg, if_neg, if_neg, if_neg] <;> (intro h; subst h; exact absurd hx4 (by decide))
    · obtain ⟨j, hj, rfl⟩ := ly_rng2 (N := 4) hx0 hx4 (by decide)
      rw [if_neg hx0, if_neg hx4, q_cl (by omega)]
      rcases (by omega : j = 0 ∨ j = 1 ∨ j = 2 ∨ j = 3) with rfl | rfl | rfl | rfl
      · rw [if_pos (by decide)]; exact c0
      · rw [if_neg (by decide), if_pos (by decide)]; exact c1
      · rw [if_neg (by decide), if_neg (by decide), if_pos (by decide)]; exact c2
      · rw [if_neg (by decide), if_neg (by decide), if_neg (by decide), if_pos (by decide)]; exact c3
theorem vq_at {α : Type} {f : Nat → α} {k : Nat} {v : α} : va_up f k v k = v := if_pos rfl
theorem vq_ne {α : Type} {f : Nat → α} {k j : Nat} {v : α} (h : j ≠ k) : va_up f k v j = f j := if_neg h
theorem vq_same {α : Type} {f : Nat → α} {k j : Nat} : va_up f k (f k) j = f j := by
  by_cases h : j = k
  · subst h; exact vq_at
  · exact vq_ne h
theorem q_64 {x : Int32} (h : (64 : Int32) ≤ x) : ¬ x ≤ (63 : Int32) := by
  rw [Int32.le_iff_toInt_le] at h
  have h1 : (64 : Int32).toInt = 64 := by decide
  have h2 : (63 : Int32).toInt = 63 := by decide
  rw [Int32.le_iff_toInt_le]
  omega
theorem q_63 {x : Int32} (h : ¬ (64 : Int32) ≤ x) : x ≤ (63 : Int32) := by
  rw [Int32.le_iff_toInt_le] at h
  have h1 : (64 : Int32).toInt = 64 := by decide
  have h2 : (63 : Int32).toInt = 63 := by decide
  rw [Int32.le_iff_toInt_le]
  omega
/-- a stripe's bits -/
theorem rs.th {k n : Nat} {th : Int32} {wr fl D : Nat → Int64} {xt : Nat → Int32} {xf : Nat → Int64} {t : Nat} (h : rs k n th wr fl D xt xf t) (hn : n ≤ 11) : t < 2048 ∧ th = nI t := ⟨Nat.lt_of_lt_of_le h.1 (Nat.pow_le_pow_right (n := 2) (by decide) hn), h.2.1⟩
theorem rs.there {k n : Nat} {th : Int32} {wr fl D : Nat → Int64} {xt : Nat → Int32} {xf : Nat → Int64} {t i : Nat} (h : rs k n th wr fl D xt xf t) (hn : n ≤ 11) (hi : i < n) : (mm_Sq_isThere i th = (0 : Int32) ↔ t.testBit i = false) ∧ (xt i = (0 : Int32) ↔ t.testBit i = false) := by
  obtain ⟨h1, h2⟩ := h.th hn
  subst h2
  refine ⟨gi_there h1 (by omega), ?_⟩
  rw [h.2.2.1 i hi]
  cases t.testBit i
  · simp
  · simp
theorem e_damage {n : Nat} {gr al xk : Int32} {ro : Nat → Int64} {xr : Nat → Int32} {lf : Int64} {up : Nat → Int32} {ct : Nat → Int32} {th : Nat → Int32} {wr : Nat → Nat → Int64} {fl : Nat → Nat → Int64} {xa : Int32} {xb : Int32} {xc : Int32} {xe : Int32} {xl : Int64} {xd : Nat → Int64} {xt : Nat → Int32} {xf : Nat → Int64} {xw : Nat → Int32} {x : Int32} {y : Int32} {w : Int32} {r_1 r_2 : Int32} {fl_1 : Nat → Nat → Int64} {xf_2 : Nat → Int64} (hrl : (rl n gr ro al xk xr lf up ct th wr fl xa xb xc xe xl xd xt xf xw)) (h1 : (r_1, fl_1) = m3_RG_damage x y w n th fl) (h2 : (r_2, xf_2) = mm_Mo_damage x y w n xt xf) : r_1 = r_2 ∧ (rl n gr ro al xk xr lf up ct th wr fl_1 xa xb xc xe xl xd xt xf_2 xw) := by
  obtain ⟨k, hk, hs, hw, hc⟩ := hrl
  have hn := hk.n
  rw [m3_RG_damage, mm_RG_damage] at h1
  rw [mm_Mo_damage] at h2
  rcases q_shard hn.2 x y with ⟨a, b⟩ | ⟨j, i, hj, hi, rfl, rfl⟩
  · rw [if_pos a] at h1
    rw [if_neg b] at h2
    dsimp only at h1
    cases h1; cases h2
    refine ⟨rfl, k, hk, fun q hq => ?_, hw, hc⟩
    rw [vq_same]; exact hs q hq
  · obtain ⟨a, b⟩ := q_shI hn.2 hj hi
    obtain ⟨t, ht⟩ := hs j hj
    obtain ⟨e1, e2⟩ := ht.there hn.2 hi
    rw [if_neg (q_ne a), q_cl (by omega), (q_sI j hj).2.2] at h1
    rw [if_pos b, q_cl (by omega), q_cl (by omega)] at h2
    have same : ∀ q, q < 3 → ∃ t, rs k n (th q) (wr q) (va_up fl j (fl j) q) (fun p => xd (6 * q + p)) (fun i => xt (11 * q + i)) (fun i => xf (11 * q + i)) t := fun q hq => by rw [vq_same]; exact hs q hq
    cases htb : t.testBit i with
    | false =>
      have h2' : (r_2, xf_2) = ((0 : Int32), xf) := by rw [if_pos (e2.mpr htb)] at h2; exact h2
      have h1' : (r_1, fl_1) = ((0 : Int32), va_up fl j (fl j)) := by
        by_cases c1 : w < 0
        · rw [if_pos c1] at h1; exact h1
        · by_cases c2 : (64 : Int32) ≤ w
          · rw [if_neg c1, if_pos c2] at h1; exact h1
          · rw [if_neg c1, if_neg c2, if_pos (e1.mpr htb)] at h1; exact h1
      cases h1'; cases h2'
      exact ⟨rfl, k, hk, same, hw, hc⟩
    | true =>
      have nt : ¬ (t.testBit i = false) := by rw [htb]; decide
      rw [if_neg (fun h => nt (e2.mp h))] at h2
      by_cases c1 : w < 0
      · rw [if_pos c1] at h1 h2
        dsimp only at h1
        cases h1; cases h2
        exact ⟨rfl, k, hk, same, hw, hc⟩
      · by_cases c2 : (64 : Int32) ≤ w
        · rw [if_neg c1, if_pos c2] at h1
          rw [if_neg c1, if_neg (q_64 c2)] at h2
          dsimp only at h1
          cases h1; cases h2
          exact ⟨rfl, k, hk, same, hw, hc⟩
        · rw [if_neg c1, if_neg c2, if_neg (fun h => nt (e1.mp h))] at h1
          rw [if_neg c1, if_pos (q_63 c2)] at h2
          dsimp only at h1
          cases h1; cases h2
          refine ⟨rfl, k, hk, fun q hq => ?_, hw, hc⟩
          by_cases hqj : q = j
          · subst hqj
            refine ⟨t, ht.1, ht.2.1, ht.2.2.1, fun a ha hta => ?_⟩
            obtain ⟨f1, f2⟩ := ht.2.2.2 a ha hta
            refine ⟨?_, f2⟩
            show va_up fl q (mm_Sq_flip i w (fl q)) q a = vp_updL xf (11 * q + i) _ (11 * q + a)
            rw [vq_at, mm_Sq_flip]
            by_cases hai : a = i
            · subst hai; rw [pk_uLs, pk_uLs, f1]
            · rw [pk_uLn hai, pk_uLn (by omega), f1]
          · obtain ⟨t', ht'⟩ := hs q hq
            refine ⟨t', ht'.1, ht'.2.1, ht'.2.2.1, fun a ha hta => ?_⟩
            obtain ⟨f1, f2⟩ := ht'.2.2.2 a ha hta
            refine ⟨?_, f2⟩
            show va_up fl j _ q a = vp_updL xf (11 * j + i) _ (11 * q + a)
            rw [vq_ne hqj, pk_uLn (by omega), f1]
