theorem rs_fr {k n q j : Nat} {th : Int32} {wr fl xd : Nat → Int64} {xt xt' : Nat → Int32} {xf xf' : Nat → Int64} {t : Nat} (hn : n ≤ 11) (h : rsx k n q th wr fl xd xt xf t) (hx : rf j xt xt' xf xf') (hq : q ≠ j) : rsx k n q th wr fl xd xt' xf' t := by
  obtain ⟨h1, h2, h3, h4⟩ := h
  refine ⟨h1, h2, fun i hi => ?_, fun i hi hb => ?_⟩
  · show xt' (11 * q + i) = _
    rw [(hx _ (by omega)).1]; exact h3 i hi
  · obtain ⟨f1, f2⟩ := h4 i hi hb
    refine ⟨?_, f2⟩
    show fl i = xf' (11 * q + i)
    rw [(hx _ (by omega)).2]; exact f1
theorem rd_drop {k n sg fn Q : Nat} {wr fl xd : Nat → Int64} (hn : n ≤ 11) (hfn : fn = 5 * sg) (a : Int32) : ∀ (q j : Nat) (u v th : Int32) (xt : Nat → Int32) (xf : Nat → Int64) (t : Nat), j + q = n → v = a + u → rsx k n sg th wr fl xd xt xf t →
    ∃ (t' : Nat) (r th' : Int32) (xt' : Nat → Int32) (xf' : Nat → Int64), mm_RG_dropShardsOn_L5 (nI Q) fn q j u th = (r, th') ∧ mm_Mo_fail_L43 Q sg q j v xt xf = (a + r, xt', xf') ∧ rsx k n sg th' wr fl xd xt' xf' t' ∧ rf sg xt xt' xf xf'
  | 0, j, u, v, th, xt, xf, t, _, hv, h => ⟨t, u, th, xt, xf, by rw [mm_RG_dropShardsOn_L5], by rw [mm_Mo_fail_L43, hv], h, rf.rfl⟩
  | q + 1, j, u, v, th, xt, xf, t, hj, hv, h => by
    obtain ⟨e1, e2⟩ := h.there hn (i := j) (by omega)
    rw [mm_RG_dropShardsOn_L5, mm_Mo_fail_L43, hfn]
    have go := rd_drop (Q := Q) (wr := wr) (fl := fl) (xd := xd) (k := k) hn hfn a q (j + 1) u v th xt xf t (by omega) hv h
    rw [hfn] at go
    by_cases hx : nI ((5 * sg + j) % 12) = nI Q
    · rw [if_pos hx, if_pos hx]
      cases hb : t.testBit j with
      | false =>
        rw [if_pos (e1.mpr hb), if_pos (e2.mpr hb)]
        exact go
      | true =>
        have nt : ¬ (t.testBit j = false) := by rw [hb]; decide
        obtain ⟨l1, l2⟩ := rd_lose hn (show j < n by omega) h
        rw [if_neg (fun h => nt (e1.mp h)), if_neg (fun h => nt (e2.mp h)), l1]
        obtain ⟨t', r, th', xt', xf', b1, b2, b3, b4⟩ := rd_drop (Q := Q) hn hfn a q (j + 1) (u + 1) (v + 1) _ _ _ _ (by omega) (by rw [hv, Int32.add_assoc]) l2
        rw [hfn] at b1
        exact ⟨t', r, th', xt', xf', b1, b2, b3, rf.tr (rf.upd (by omega)) b4⟩
    · rw [if_neg hx, if_neg hx]
      exact go
theorem e_fail {n : Nat} {gr al xk : Int32} {ro : Nat → Int64} {xr : Nat → Int32} {lf : Int64} {up : Nat → Int32} {ct : Nat → Int32} {th : Nat → Int32} {wr : Nat → Nat → Int64} {fl : Nat → Nat → Int64} {xa : Int32} {xb : Int32} {xc : Int32} {xe : Int32} {xl : Int64} {xd : Nat → Int64} {xt : Nat → Int32} {xf : Nat → Int64} {xw : Nat → Int32} {x : Int32} {r_1 r_2 : Int32} {up_1 : Nat → Int32} {th_1 : Nat → Int32} {xt_2 : Nat → Int32} {xf_2 : Nat → Int64} {xw_2 : Nat → Int32} (hrl : (rl n gr ro al xk xr lf up ct th wr fl xa xb xc xe xl xd xt xf xw)) (h1 : (r_1, up_1, th_1) = m3_RG_fail x n up th) (h2 : (r_2, xt_2, xf_2, xw_2) = mm_Mo_fail x n xt xf xw) : r_1 = r_2 ∧ (rl n gr ro al xk xr lf up_1 ct th_1 wr fl xa xb xc xe xl xd xt_2 xf_2 xw_2) := by
  obtain ⟨k, hk, hs, hw, hcc⟩ := hrl
  have hn := hk.n
  rw [m3_RG_fail, mm_RG_fail] at h1
  rw [mm_Mo_fail] at h2
  have same : rl n gr ro al xk xr lf up ct (mk3 (th 0) (th 1) (th 2)) wr fl xa xb xc xe xl xd xt xf xw := ⟨k, hk, fun q hq => by
    rcases (by omega : q = 0 ∨ q = 1 ∨ q = 2) with rfl | rfl | rfl <;> exact hs _ (by decide), hw, hcc⟩
  rcases q_node x with ⟨a, b⟩ | ⟨Q, hQ, rfl⟩
  · rw [if_pos a] at h1
    have h2' : (r_2, xt_2, xf_2, xw_2) = ((-1 : Int32), xt, xf, xw) := by
      rcases b with b | ⟨b, c⟩
      · rw [if_pos b] at h2; exact h2
      · rw [if_neg b, if_neg (q_12 c).2] at h2; exact h2
    dsimp only at h1
    cases h1; cases h2'
    exact ⟨rfl, same⟩
  · obtain ⟨a, b, -, -, c⟩ := q_nI Q hQ
    rw [if_neg (q_ne a), q_cl hQ] at h1
    rw [if_neg b, if_pos c, q_cl hQ] at h2
    rcases hw Q hQ with ⟨u, v⟩ | ⟨u, v⟩
    · rw [v, if_neg (by decide)] at h1
      rw [u, if_pos rfl] at h2
      obtain ⟨t0, s0⟩ := hs 0 (by decide)
      obtain ⟨t1, s1⟩ := hs 1 (by decide)
      obtain ⟨t2, s2⟩ := hs 2 (by decide)
      obtain ⟨t0', r0, th0', xt0, xf0, a1, a2, a3, a4⟩ := rd_drop (Q := Q) (fn := 0) hn.2 rfl 0 n 0 0 0 (th 0) xt xf t0 (by omega) (by decide) s0
      obtain ⟨t1', r1, th1', xt1, xf1, b1, b2, b3, b4⟩ := rd_drop (Q := Q) (fn := 5) hn.2 rfl (0 + r0) n 0 0 (0 + r0) (th 1) xt0 xf0 t1 (by omega) (Int32.add_zero _).symm (rs_fr hn.2 s1 a4 (by decide))
      obtain ⟨t2', r2, th2', xt2, xf2, d1, d2, d3, d4⟩ := rd_drop (Q := Q) (fn := 10) hn.2 rfl (0 + r0 + r1) n 0 0 (0 + r0 + r1) (th 2) xt1 xf1 t2 (by omega) (Int32.add_zero _).symm (rs_fr hn.2 (rs_fr hn.2 s2 a4 (by decide)) b4 (by decide))
      rw [mm_RG_dropShardsOn, a1, mm_RG_dropShardsOn, b1, mm_RG_dropShardsOn, d1] at h1
      rw [mm_Mo_fail_L35, a2] at h2
      dsimp only at h2
      rw [mm_Mo_fail_L35, b2] at h2
      dsimp only at h2
      rw [mm_Mo_fail_L35, d2] at h2
      dsimp only at h1 h2
      rw [mm_Mo_fail_L35] at h2
      cases h1; cases h2
      refine ⟨rfl, k, hk, fun q hq => ?_, fun y hy => ?_, hcc⟩
      · rcases (by omega : q = 0 ∨ q = 1 ∨ q = 2) with rfl | rfl | rfl
        · exact ⟨t0', rs_fr hn.2 (rs_fr hn.2 a3 b4 (by decide)) d4 (by decide)⟩
        · exact ⟨t1', rs_fr hn.2 b3 d4 (by decide)⟩
        · exact ⟨t2', d3⟩
      · by_cases h : y = Q
        · subst h; rw [pk_us, pk_us]; exact Or.inr ⟨rfl, rfl⟩
        · rw [pk_un h, pk_un h]; exact hw y hy
    · rw [v, if_pos rfl] at h1
      rw [u, if_neg (by decide)] at h2
      dsimp only at h1
      cases h1; cases h2
      exact ⟨rfl, same⟩
/-! the start -/
set_option maxRecDepth 100000 in
theorem in_rows0 : ∀ i, i < 10 → ∀ p, p < 6 → mm_Mo_init_L116 10 0 6 0 (fun _ => 0) (6 * i + p) = nI (gy_a (gk_row 0 i) p) := by decide +kernel
set_option maxRecDepth 100000 in
theorem in_rows1 : ∀ i, i < 10 → ∀ p, p < 6 → mm_Mo_init_L116 10 1 6 0 (fun _ => 0) (6 * i + p) = nI (gy_a (gk_row 1 i) p) := by decide +kernel
set_option maxRecDepth 100000 in
theorem in_rows2 : ∀ i, i < 11 → ∀ p, p < 6 → mm_Mo_init_L116 11 2 6 0 (fun _ => 0) (6 * i + p) = nI (gy_a (gk_row 2 i) p) := by decide +kernel
theorem in_there : ∀ c, c < 33 → mm_Mo_init_L174 33 0 (fun _ => (0 : Int32)) c = 1 := by decide +kernel
theorem in_rk (x0 : Int32) : rk (gk_k x0) (ck_n x0) (ck_g x0) (ck_r x0) (ck_all (ck_n x0)) (mk_k x0) (mm_Mo_init_L116 (ck_n x0) (mk_k x0) 6 0 (fun _ => (0 : Int32))) := by
  by_cases h1 : x0 = 1
  · subst h1
    exact ⟨by decide, by decide, by decide, gk_rows1, by decide, by decide, in_rows1⟩
  · by_cases h2 : x0 = 2
    · subst h2
      exact ⟨by decide, by decide, by decide, gk_rows2, by decide, by decide, in_rows2⟩
    · have e0 : gk_k x0 = 0 := by unfold gk_k; rw [if_neg h1, if_neg h2]
      have e1 : ck_n x0 = 10 := by unfold ck_n; rw [if_neg h2]
      have e2 : ck_g x0 = 0 := by unfold ck_g; rw [if_neg h1, if_neg h2]
      have e3 : mk_k x0 = 0 := by unfold mk_k; rw [if_neg h1, if_neg h2]
      rw [e0, e1, e3, e2, ck_r, e1, e2]
      exact ⟨by decide, by decide, by decide, gk_rows0, by decide, by decide, in_rows0⟩
theorem rl_init (x0 : Int32) : rl (ck_n x0) (ck_g x0) (ck_r x0) (ck_all (ck_n x0)) (mk_k x0) (mm_Mo_init_L116 (ck_n x0) (mk_k x0) 6 0 (fun _ => (0 : Int32))) (0 : Int64) (upd (upd (upd (upd (upd (upd (upd (upd (upd (upd (upd (upd (fun _ => (0 : Int32)) 0 (1 : Int32)) 1 (1 : Int32)) 2 (1 : Int32)) 3 (1 : Int32)) 4 (1 : Int32)) 5 (1 : Int32)) 6 (1 : Int32)) 7 (1 : Int32)) 8 (1 : Int32)) 9 (1 : Int32)) 10 (1 : Int32)) 11 (1 : Int32)) (fun _ => (0 : Int32)) (fun _ => ck_all (ck_n x0)) (fun _ _ => (0 : Int64)) (fun _ _ => (0 : Int64)) (0 : Int32) (0 : Int32) (0 : Int32) (0 : Int32) (0 : Int64) (fun _ => (0 : Int64)) (mm_Mo_init_L174 33 0 (fun _ => (0 : Int32))) (fun _ => (0 : Int64)) (fun _ => (0 : Int32)) := by
  have hk := in_rk x0
  refine ⟨gk_k x0, hk, fun q hq => ⟨2 ^ ck_n x0 - 1, ?_, hk.2.2.2.2.1, fun i hi => ?_, fun i hi hb => ⟨rfl, ?_⟩⟩, by decide, rfl, rfl, rfl, rfl, rfl⟩
  · have := Nat.pow_pos (n := ck_n x0) (show 0 < 2 by decide)
    omega
  · have hn := hk.n.2
    show mm_Mo_init_L174 33 0 (fun _ => (0 : Int32)) (11 * q + i) = _
    rw [in_there _ (by omega), Nat.testBit_two_pow_sub_one, decide_eq_true hi, if_pos rfl]
  · exact (gi_dZ _ 6).symm
