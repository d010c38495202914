def mm_Mo_place (sg : Nat) (i : Nat) : Int32 := (nI (((5 * sg) + i) % 12))
set_option maxHeartbeats 4000000 in
set_option maxRecDepth 100000 in
theorem cc_Mo_place {l : Launch} (D : va_G) (K : Nat → ClassId) (mh m1 m2 m3 m4 m5 m6 m7 m8 m9 : Nat) (sg : Nat) (i : Nat) (n : Nat) (xk : Int32) (xa : Int32) (xb : Int32) (xc : Int32) (xe : Int32) (xl : Int64) (xs : Nat) (xg : Nat) (xr : Nat → Int32) (xd : Nat → Int64) (xt : Nat → Int32) (xf : Nat → Int64) (xw : Nat → Int32) (xp : Nat → Nat) (xq : Nat → Int32) (xv : Nat → Nat) (xo : Nat → Int32) (hsg : sg < 3) (hi : i < n) (hn : n ≤ 11) (hn6 : 6 ≤ n) : ly_i l yy_Mo_place bb_Mo_place 3 (some .int) 0 0 D K [.ref mh, .int (nI sg), .int (nI i)] (ws_Mo K mh m1 m2 m3 m4 m5 m6 m7 m8 m9 n xk xa xb xc xe xl xs xg xr xd xt xf xw xp xq xv xo) (fun z => z) (fun _ => (ws_Mo K mh m1 m2 m3 m4 m5 m6 m7 m8 m9 n xk xa xb xc xe xl xs xg xr xd xt xf xw xp xq xv xo)) (mm_Mo_place sg i) := by
  refine ly_entI (by decide) (Nat.le_of_ble_eq_true rfl) ?_
  intro p e s m av below meth c A ls R Q H locs res hM C hRf hRl hS hP hD hl ret
  obtain ⟨hx, hb, -⟩ := id C
  have hcs : 0 ≤ R.cells ∧ 0 ≤ R.slots := ⟨Nat.zero_le _, Nat.zero_le _⟩
  have hl : lv_has ls 3 [(0, .ref mh), (1, .int (nI sg)), (2, .int (nI i))] := hl
  rw [mm_Mo_place] at hM
  refine lv_iconst (v := (5 : Int32)) hx hb dd_Mo_place_0 (by decide) ?_
  refine lv_iload_n hx hb dd_Mo_place_1 rfl (lv_at hl 1 rfl) ?_
  refine ly_imulN C 5 sg rfl rfl dd_Mo_place_2 ?_
  refine lv_iload_n hx hb dd_Mo_place_3 rfl (lv_at hl 2 rfl) ?_
  refine ly_iaddN C (5 * sg) i rfl rfl dd_Mo_place_4 ?_
  refine lv_bipush (v := (12 : Int32)) hx hb dd_Mo_place_5 (by decide) ?_
  refine ly_iremN C ((5 * sg) + i) 12 rfl rfl (by omega) (by decide) (by decide) dd_Mo_place_7 ?_
  exact ret (nI (((5 * sg) + i) % 12)) H locs 8 ls hM rfl hS hP hD dd_Mo_place_8

def mm_Mo_cell (sg : Nat) (i : Nat) : Int32 := (nI ((11 * sg) + i))
set_option maxHeartbeats 4000000 in
set_option maxRecDepth 100000 in
theorem cc_Mo_cell {l : Launch} (D : va_G) (K : Nat → ClassId) (mh m1 m2 m3 m4 m5 m6 m7 m8 m9 : Nat) (sg : Nat) (i : Nat) (n : Nat) (xk : Int32) (xa : Int32) (xb : Int32) (xc : Int32) (xe : Int32) (xl : Int64) (xs : Nat) (xg : Nat) (xr : Nat → Int32) (xd : Nat → Int64) (xt : Nat → Int32) (xf : Nat → Int64) (xw : Nat → Int32) (xp : Nat → Nat) (xq : Nat → Int32) (xv : Nat → Nat) (xo : Nat → Int32) (hsg : sg < 3) (hi : i < n) (hn : n ≤ 11) (hn6 : 6 ≤ n) : ly_i l yy_Mo_cell bb_Mo_cell 3 (some .int) 0 0 D K [.ref mh, .int (nI sg), .int (nI i)] (ws_Mo K mh m1 m2 m3 m4 m5 m6 m7 m8 m9 n xk xa xb xc xe xl xs xg xr xd xt xf xw xp xq xv xo) (fun z => z) (fun _ => (ws_Mo K mh m1 m2 m3 m4 m5 m6 m7 m8 m9 n xk xa xb xc xe xl xs xg xr xd xt xf xw xp xq xv xo)) (mm_Mo_cell sg i) := by
  refine ly_entI (by decide) (Nat.le_of_ble_eq_true rfl) ?_
  intro p e s m av below meth c A ls R Q H locs res hM C hRf hRl hS hP hD hl ret
  obtain ⟨hx, hb, -⟩ := id C
  have hcs : 0 ≤ R.cells ∧ 0 ≤ R.slots := ⟨Nat.zero_le _, Nat.zero_le _⟩
  have hl : lv_has ls 3 [(0, .ref mh), (1, .int (nI sg)), (2, .int (nI i))] := hl
  rw [mm_Mo_cell] at hM
  refine lv_bipush (v := (11 : Int32)) hx hb dd_Mo_cell_0 (by decide) ?_
  refine lv_iload_n hx hb dd_Mo_cell_2 rfl (lv_at hl 1 rfl) ?_
  refine ly_imulN C 11 sg rfl rfl dd_Mo_cell_3 ?_
  refine lv_iload_n hx hb dd_Mo_cell_4 rfl (lv_at hl 2 rfl) ?_
  refine ly_iaddN C (11 * sg) i rfl rfl dd_Mo_cell_5 ?_
  exact ret (nI ((11 * sg) + i)) H locs 6 ls hM rfl hS hP hD dd_Mo_cell_6

def mm_Mo_rejected (sg : Nat) (i : Nat) (xa : Int32) (xt : Nat → Int32) (xf : Nat → Int64) : Int32 × (Int32) × (Nat → Int32) × (Nat → Int64) := (if (lg_cmp (xf (11 * sg + i)) (0 : Int64)) = (0 : Int32) then ((0 : Int32), (xa + (1 : Int32)), xt, xf) else ((1 : Int32), (xa + (1 : Int32)), (upd xt (11 * sg + i) (0 : Int32)), (vp_updL xf (11 * sg + i) (0 : Int64))))
set_option maxHeartbeats 4000000 in
set_option maxRecDepth 100000 in
theorem cc_Mo_rejected {l : Launch} (D : va_G) (K : Nat → ClassId) (mh m1 m2 m3 m4 m5 m6 m7 m8 m9 : Nat) (sg : Nat) (i : Nat) (n : Nat) (xk : Int32) (xa : Int32) (xb : Int32) (xc : Int32) (xe : Int32) (xl : Int64) (xs : Nat) (xg : Nat) (xr : Nat → Int32) (xd : Nat → Int64) (xt : Nat → Int32) (xf : Nat → Int64) (xw : Nat → Int32) (xp : Nat → Nat) (xq : Nat → Int32) (xv : Nat → Nat) (xo : Nat → Int32) (hsg : sg < 3) (hi : i < n) (hn : n ≤ 11) (hn6 : 6 ≤ n) : ly_i l yy_Mo_rejected bb_Mo_rejected 4 (some .boolean) 1 22 D K [.ref mh, .int (nI sg), .int (nI i)] (ws_Mo K mh m1 m2 m3 m4 m5 m6 m7 m8 m9 n xk xa xb xc xe xl xs xg xr xd xt xf xw xp xq xv xo) (fun z => z.1) (fun z => (ws_Mo K mh m1 m2 m3 m4 m5 m6 m7 m8 m9 n xk (z.2.1) xb xc xe xl xs xg xr xd (z.2.2.1) (z.2.2.2) xw xp xq xv xo)) (mm_Mo_rejected sg i xa xt xf) := by
  refine ly_entI (by decide) (Nat.le_of_ble_eq_true rfl) ?_
  intro p e s m av below meth c A ls R Q H locs res hM C hRf hRl hS hP hD hl ret
  obtain ⟨hx, hb, -⟩ := id C
  have hcs : 0 ≤ R.cells ∧ 0 ≤ R.slots := ⟨Nat.zero_le _, Nat.zero_le _⟩
  have hl : lv_has ls 4 [(0, .ref mh), (1, .int (nI sg)), (2, .int (nI i))] := hl
  rw [mm_Mo_rejected] at hM
  refine lv_aload_n hx hb dd_Mo_rejected_0 rfl (lv_at hl 0 rfl) ?_
  refine lv_dup hx hb dd_Mo_rejected_1 rfl ?_
  refine ly_get (v := .int xa) C hP 0 rfl uw_Mo rfl 7 (by decide) wa_291 rfl dd_Mo_rejected_2 ?_
  refine lv_iconst (v := (1 : Int32)) hx hb dd_Mo_rejected_5 (by decide) ?_
  refine lv_iadd hx hb dd_Mo_rejected_6 ?_
  refine ly_put (ws' := (ws_Mo K mh m1 m2 m3 m4 m5 m6 m7 m8 m9 n xk (xa + (1 : Int32)) xb xc xe xl xs xg xr xd xt xf xw xp xq xv xo)) C hP hD hS 0 rfl uw_Mo tt_Mo nn_Mo rfl 7 (by decide) wa_291 rfl rfl rfl (Nat.le_of_ble_eq_true rfl) dd_Mo_rejected_7 rfl (fun H locs hP hD hS => ?_)
  refine lv_aload_n hx hb dd_Mo_rejected_10 rfl (lv_at hl 0 rfl) ?_
  refine lv_iload_n hx hb dd_Mo_rejected_11 rfl (lv_at hl 1 rfl) ?_
  refine lv_iload_n hx hb dd_Mo_rejected_12 rfl (lv_at hl 2 rfl) ?_
  refine ly_cV_i (n := 2) (z := (nI (11 * sg + i))) (rest := []) (wn := (ws_Mo K mh m1 m2 m3 m4 m5 m6 m7 m8 m9 n xk (xa + (1 : Int32)) xb xc xe xl xs xg xr xd xt xf xw xp xq xv xo)) C (cc_Mo_cell D K mh m1 m2 m3 m4 m5 m6 m7 m8 m9 sg i n xk (xa + (1 : Int32)) xb xc xe xl xs xg xr xd xt xf xw xp xq xv xo (by omega) (by omega) (by omega) (by omega)) rfl wa_289 wa_292 wa_265 wa_293 wa_294 (by decide) (Nat.le_trans (by decide) hRf) (Nat.le_trans (by decide) hRl) rfl hl.1 rfl (Nat.le_of_ble_eq_true rfl) dd_Mo_rejected_13 hcs [0, 1, 2, 3, 4, 5, 6, 7, 8, 9] [] [0, 1, 2, 3, 4, 5, 6, 7, 8, 9] hP hD hS rfl rfl (by decide) rfl rfl rfl (fun H locs hP hD hS => ?_)
  refine W.eq (g2 := F0 m 16 ls [.int (nI (11 * sg + i))]) rfl ?_
  refine lv_istore_n (lv' := [(3, .int (nI (11 * sg + i))), (0, .ref mh), (1, .int (nI sg)), (2, .int (nI i))]) hx hb dd_Mo_rejected_16 rfl hl (by decide) rfl (fun ls hl => ?_)
  refine lv_aload_n hx hb dd_Mo_rejected_17 rfl (lv_at hl 1 rfl) ?_
  refine ly_get (v := .ref m4) C hP 0 rfl uw_Mo rfl 5 (by decide) wa_256 rfl dd_Mo_rejected_18 ?_
  refine lv_iload_n hx hb dd_Mo_rejected_21 rfl (lv_at hl 0 rfl) ?_
  refine ly_lald C hP 4 rfl (11 * sg + i) rfl (by omega) (by omega) dd_Mo_rejected_22 ?_
  refine lv_lconst (v := (0 : Int64)) hx hb dd_Mo_rejected_23 (by decide) ?_
  refine W.lcmp hx hb dd_Mo_rejected_24 ?_
  refine lv_if_ne (tgt := 30) hx hb dd_Mo_rejected_25 (by decide) (fun h25 => ?_) (fun h25 => ?_)
  · rw [if_neg h25] at hM
    refine lv_aload_n hx hb dd_Mo_rejected_30 rfl (lv_at hl 1 rfl) ?_
    refine ly_get (v := .ref m3) C hP 0 rfl uw_Mo rfl 4 (by decide) wa_255 rfl dd_Mo_rejected_31 ?_
    refine lv_iload_n hx hb dd_Mo_rejected_34 rfl (lv_at hl 0 rfl) ?_
    refine lv_iconst (v := (0 : Int32)) hx hb dd_Mo_rejected_35 (by decide) ?_
    refine ly_zast (ws' := (ws_Mo K mh m1 m2 m3 m4 m5 m6 m7 m8 m9 n xk (xa + (1 : Int32)) xb xc xe xl xs xg xr xd (upd xt (11 * sg + i) (0 : Int32)) xf xw xp xq xv xo)) C hP hD hS 3 rfl (by decide) (11 * sg + i) rfl (by omega) (by omega) dd_Mo_rejected_36 rfl (fun H locs hP hD hS => ?_)
    refine lv_aload_n hx hb dd_Mo_rejected_37 rfl (lv_at hl 1 rfl) ?_
    refine ly_get (v := .ref m4) C hP 0 rfl uw_Mo rfl 5 (by decide) wa_256 rfl dd_Mo_rejected_38 ?_
    refine lv_iload_n hx hb dd_Mo_rejected_41 rfl (lv_at hl 0 rfl) ?_
    refine lv_lconst (v := (0 : Int64)) hx hb dd_Mo_rejected_42 (by decide) ?_
    refine ly_last (ws' := (ws_Mo K mh m1 m2 m3 m4 m5 m6 m7 m8 m9 n xk (xa + (1 : Int32)) xb xc xe xl xs xg xr xd (upd xt (11 * sg + i) (0 : Int32)) (vp_updL xf (11 * sg + i) (0 : Int64)) xw xp xq xv xo)) C hP hD hS 4 rfl (11 * sg + i) rfl (by omega) (by omega) dd_Mo_rejected_43 rfl (fun H locs hP hD hS => ?_)
    refine lv_iconst (v := (1 : Int32)) hx hb dd_Mo_rejected_44 (by decide) ?_
    exact ret ((1 : Int32), (xa + (1 : Int32)), (upd xt (11 * sg + i) (0 : Int32)), (vp_updL xf (11 * sg + i) (0 : Int64))) H locs 45 ls hM ly_z1 hS hP hD dd_Mo_rejected_45
  · rw [if_pos h25] at hM
    refine lv_iconst (v := (0 : Int32)) hx hb dd_Mo_rejected_28 (by decide) ?_
    exact ret ((0 : Int32), (xa + (1 : Int32)), xt, xf) H locs 29 ls hM ly_z0 hS hP hD dd_Mo_rejected_29
theorem zb_Mo_rejected {sg i : Nat} {xa xa' r : Int32} {xt xt' : Nat → Int32} {xf xf' : Nat → Int64} (h : (r, xa', xt', xf') = mm_Mo_rejected sg i xa xt xf) : narrow .boolean (.int r) = .int r := by
  unfold mm_Mo_rejected at h
  split at h
  · cases h; rfl
  · cases h; rfl
def mm_Mo_rejectedFor (sg : Nat) (i : Nat) (q : Nat) (xa : Int32) (xc : Int32) (xt : Nat → Int32) (xf : Nat → Int64) : Int32 × (Int32) × (Int32) × (Nat → Int32) × (Nat → Int64) := (if (nI (((5 * sg + i) % 12) / 3)) = (nI (((5 * sg + q) % 12) / 3)) then (match mm_Mo_rejected sg i xa xt xf with | (r_36, xa_36, xt_36, xf_36) => (r_36, xa_36, (xc + (0 : Int32)), xt_36, xf_36)) else (match mm_Mo_rejected sg i xa xt xf with | (r_36, xa_36, xt_36, xf_36) => (r_36, xa_36, (xc + (1 : Int32)), xt_36, xf_36)))
set_option maxHeartbeats 4000000 in
set_option maxRecDepth 100000 in
theorem cc_Mo_rejectedFor {l : Launch} (D : va_G) (K : Nat → ClassId) (mh m1 m2 m3 m4 m5 m6 m7 m8 m9 : Nat) (sg : Nat) (i : Nat) (q : Nat) (n : Nat) (xk : Int32) (xa : Int32) (xb : Int32) (xc : Int32) (xe : Int32) (xl : Int64) (xs : Nat) (xg : Nat) (xr : Nat → Int32) (xd : Nat → Int64) (xt : Nat → Int32) (xf : Nat → Int64) (xw : Nat → Int32) (xp : Nat → Nat) (xq : Nat → Int32) (xv : Nat → Nat) (xo : Nat → Int32) (hsg : sg < 3) (hi : i < n) (hq : q < n) (hn : n ≤ 11) (hn6 : 6 ≤ n) : ly_i l yy_Mo_rejectedFor bb_Mo_rejectedFor 4 (some .boolean) 2 45 D K [.ref mh, .int (nI sg), .int (nI i), .int (nI q)] (ws_Mo K mh m1 m2 m3 m4 m5 m6 m7 m8 m9 n xk xa xb xc xe xl xs xg xr xd xt xf xw xp xq xv xo) (fun z => z.1) (fun z => (ws_Mo K mh m1 m2 m3 m4 m5 m6 m7 m8 m9 n xk (z.2.1) xb (z.2.2.1) xe xl xs xg xr xd (z.2.2.2.1) (z.2.2.2.2) xw xp xq xv xo)) (mm_Mo_rejectedFor sg i q xa xc xt xf) := by
  refine ly_entI (by decide) (Nat.le_of_ble_eq_true rfl) ?_
  intro p e s m av below meth c A ls R Q H locs res hM C hRf hRl hS hP hD hl ret
  obtain ⟨hx, hb, -⟩ := id C
  have hcs : 0 ≤ R.cells ∧ 0 ≤ R.slots := ⟨Nat.zero_le _, Nat.zero_le _⟩
  have hl : lv_has ls 4 [(0, .ref mh), (1, .int (nI sg)), (2, .int (nI i)), (3, .int (nI q))] := hl
  rw [mm_Mo_rejectedFor] at hM
  refine lv_aload_n hx hb dd_Mo_rejectedFor_0 rfl (lv_at hl 0 rfl) ?_
  refine lv_dup hx hb dd_Mo_rejectedFor_1 rfl ?_
  refine ly_get (v := .int xc) C hP 0 rfl uw_Mo rfl 9 (by decide) wa_296 rfl dd_Mo_rejectedFor_2 ?_
  refine lv_aload_n hx hb dd_Mo_rejectedFor_5 rfl (lv_at hl 0 rfl) ?_
  refine lv_iload_n hx hb dd_Mo_rejectedFor_6 rfl (lv_at hl 1 rfl) ?_
  refine lv_iload_n hx hb dd_Mo_rejectedFor_7 rfl (lv_at hl 2 rfl) ?_
  refine ly_cV_i (n := 2) (z := (nI ((5 * sg + i) % 12))) (rest := [.int xc, .ref mh]) (wn := (ws_Mo K mh m1 m2 m3 m4 m5 m6 m7 m8 m9 n xk xa xb xc xe xl xs xg xr xd xt xf xw xp xq xv xo)) C (cc_Mo_place D K mh m1 m2 m3 m4 m5 m6 m7 m8 m9 sg i n xk xa xb xc xe xl xs xg xr xd xt xf xw xp xq xv xo (by omega) (by omega) (by omega) (by omega)) rfl wa_288 wa_297 wa_265 wa_298 wa_299 (by decide) (Nat.le_trans (by decide) hRf) (Nat.le_trans (by decide) hRl) rfl hl.1 rfl (Nat.le_of_ble_eq_true rfl) dd_Mo_rejectedFor_8 hcs [0, 1, 2, 3, 4, 5, 6, 7, 8, 9] [] [0, 1, 2, 3, 4, 5, 6, 7, 8, 9] hP hD hS rfl rfl (by decide) rfl rfl rfl (fun H locs hP hD hS => ?_)
  refine W.eq (g2 := F0 m 11 ls [.int (nI ((5 * sg + i) % 12)), .int xc, .ref mh]) rfl ?_
  refine lv_iconst (v := (3 : Int32)) hx hb dd_Mo_rejectedFor_11 (by decide) ?_
  refine ly_idivN C ((5 * sg + i) % 12) 3 rfl rfl (by omega) (by decide) (by decide) dd_Mo_rejectedFor_12 ?_
  refine lv_aload_n hx hb dd_Mo_rejectedFor_13 rfl (lv_at hl 0 rfl) ?_
  refine lv_iload_n hx hb dd_Mo_rejectedFor_14 rfl (lv_at hl 1 rfl) ?_
  refine lv_iload_n hx hb dd_Mo_rejectedFor_15 rfl (lv_at hl 3 rfl) ?_
  refine ly_cV_i (n := 2) (z := (nI ((5 * sg + q) % 12))) (rest := [.int (nI (((5 * sg + i) % 12) / 3)), .int xc, .ref mh]) (wn := (ws_Mo K mh m1 m2 m3 m4 m5 m6 m7 m8 m9 n xk xa xb xc xe xl xs xg xr xd xt xf xw xp xq xv xo)) C (cc_Mo_place D K mh m1 m2 m3 m4 m5 m6 m7 m8 m9 sg q n xk xa xb xc xe xl xs xg xr xd xt xf xw xp xq xv xo (by omega) (by omega) (by omega) (by omega)) rfl wa_288 wa_297 wa_265 wa_298 wa_299 (by decide) (Nat.le_trans (by decide) hRf) (Nat.le_trans (by decide) hRl) rfl hl.1 rfl (Nat.le_of_ble_eq_true rfl) dd_Mo_rejectedFor_16 hcs [0, 1, 2, 3, 4, 5, 6, 7, 8, 9] [] [0, 1, 2, 3, 4, 5, 6, 7, 8, 9] hP hD hS rfl rfl (by decide) rfl rfl rfl (fun H locs hP hD hS => ?_)
  refine W.eq (g2 := F0 m 19 ls [.int (nI ((5 * sg + q) % 12)), .int (nI (((5 * sg + i) % 12) / 3)), .int xc, .ref mh]) rfl ?_
  refine lv_iconst (v := (3 : Int32)) hx hb dd_Mo_rejectedFor_19 (by decide) ?_
  refine ly_idivN C ((5 * sg + q) % 12) 3 rfl rfl (by omega) (by decide) (by decide) dd_Mo_rejectedFor_20 ?_
  refine lv_icmp_eq (tgt := 28) hx hb dd_Mo_rejectedFor_21 (by decide) (fun h21 => ?_) (fun h21 => ?_)
  · rw [if_pos h21] at hM
    refine lv_iconst (v := (0 : Int32)) hx hb dd_Mo_rejectedFor_28 (by decide) ?_
    refine lv_iadd hx hb dd_Mo_rejectedFor_29 ?_
    refine ly_put (ws' := (ws_Mo K mh m1 m2 m3 m4 m5 m6 m7 m8 m9 n xk xa xb (xc + (0 : Int32)) xe xl xs xg xr xd xt xf xw xp xq xv xo)) C hP hD hS 0 rfl uw_Mo tt_Mo nn_Mo rfl 9 (by decide) wa_296 rfl rfl rfl (Nat.le_of_ble_eq_true rfl) dd_Mo_rejectedFor_30 rfl (fun H locs hP hD hS => ?_)
    refine lv_aload_n hx hb dd_Mo_rejectedFor_33 rfl (lv_at hl 0 rfl) ?_
    refine lv_iload_n hx hb dd_Mo_rejectedFor_34 rfl (lv_at hl 1 rfl) ?_
    refine lv_iload_n hx hb dd_Mo_rejectedFor_35 rfl (lv_at hl 2 rfl) ?_
    obtain ⟨⟨r_36, xa_36, xt_36, xf_36⟩, hq36⟩ : ∃ z, z = mm_Mo_rejected sg i xa xt xf := ⟨_, rfl⟩
    try rw [← hq36] at hM
    try dsimp only at hM
    refine ly_cV_i (n := 2) (z := (r_36, xa_36, xt_36, xf_36)) (rest := []) (wn := (ws_Mo K mh m1 m2 m3 m4 m5 m6 m7 m8 m9 n xk xa_36 xb (xc + (0 : Int32)) xe xl xs xg xr xd xt_36 xf_36 xw xp xq xv xo)) C (cc_Mo_rejected D K mh m1 m2 m3 m4 m5 m6 m7 m8 m9 sg i n xk xa xb (xc + (0 : Int32)) xe xl xs xg xr xd xt xf xw xp xq xv xo (by omega) (by omega) (by omega) (by omega)) hq36 wa_290 wa_300 wa_265 wa_301 wa_302 (by decide) (Nat.le_trans (by decide) hRf) (Nat.le_trans (by decide) hRl) rfl hl.1 rfl (Nat.le_of_ble_eq_true rfl) dd_Mo_rejectedFor_36 hcs [0, 1, 2, 3, 4, 5, 6, 7, 8, 9] [] [0, 1, 2, 3, 4, 5, 6, 7, 8, 9] hP hD hS rfl rfl (by decide) rfl rfl rfl (fun H locs hP hD hS => ?_)
    refine W.eq (g2 := F0 m 39 ls [.int r_36]) rfl ?_
    exact ret (r_36, xa_36, (xc + (0 : Int32)), xt_36, xf_36) H locs 39 ls hM (by first | exact zb_Mo_rejected hq36) hS hP hD dd_Mo_rejectedFor_39
  · rw [if_neg h21] at hM
    refine lv_iconst (v := (1 : Int32)) hx hb dd_Mo_rejectedFor_24 (by decide) ?_
    refine lv_goto (tgt := 29) hx hb dd_Mo_rejectedFor_25 (by decide) ?_
    refine lv_iadd hx hb dd_Mo_rejectedFor_29 ?_
    refine ly_put (ws' := (ws_Mo K mh m1 m2 m3 m4 m5 m6 m7 m8 m9 n xk xa xb (xc + (1 : Int32)) xe xl xs xg xr xd xt xf xw xp xq xv xo)) C hP hD hS 0 rfl uw_Mo tt_Mo nn_Mo rfl 9 (by decide) wa_296 rfl rfl rfl (Nat.le_of_ble_eq_true rfl) dd_Mo_rejectedFor_30 rfl (fun H locs hP hD hS => ?_)
    refine lv_aload_n hx hb dd_Mo_rejectedFor_33 rfl (lv_at hl 0 rfl) ?_
    refine lv_iload_n hx hb dd_Mo_rejectedFor_34 rfl (lv_at hl 1 rfl) ?_
    refine lv_iload_n hx hb dd_Mo_rejectedFor_35 rfl (lv_at hl 2 rfl) ?_
    obtain ⟨⟨r_36, xa_36, xt_36, xf_36⟩, hq36⟩ : ∃ z, z = mm_Mo_rejected sg i xa xt xf := ⟨_, rfl⟩
    try rw [← hq36] at hM
    try dsimp only at hM
    refine ly_cV_i (n := 2) (z := (r_36, xa_36, xt_36, xf_36)) (rest := []) (wn := (ws_Mo K mh m1 m2 m3 m4 m5 m6 m7 m8 m9 n xk xa_36 xb (xc + (1 : Int32)) xe xl xs xg xr xd xt_36 xf_36 xw xp xq xv xo)) C (cc_Mo_rejected D K mh m1 m2 m3 m4 m5 m6 m7 m8 m9 sg i n xk xa xb (xc + (1 : Int32)) xe xl xs xg xr xd xt xf xw xp xq xv xo (by omega) (by omega) (by omega) (by omega)) hq36 wa_290 wa_300 wa_265 wa_301 wa_302 (by decide) (Nat.le_trans (by decide) hRf) (Nat.le_trans (by decide) hRl) rfl hl.1 rfl (Nat.le_of_ble_eq_true rfl) dd_Mo_rejectedFor_36 hcs [0, 1, 2, 3, 4, 5, 6, 7, 8, 9] [] [0, 1, 2, 3, 4, 5, 6, 7, 8, 9] hP hD hS rfl rfl (by decide) rfl rfl rfl (fun H locs hP hD hS => ?_)
    refine W.eq (g2 := F0 m 39 ls [.int r_36]) rfl ?_
    exact ret (r_36, xa_36, (xc + (1 : Int32)), xt_36, xf_36) H locs 39 ls hM (by first | exact zb_Mo_rejected hq36) hS hP hD dd_Mo_rejectedFor_39

def mm_Mo_written (sg : Nat) (i : Nat) (xb : Int32) (xt : Nat → Int32) (xf : Nat → Int64) : (Int32) × (Nat → Int32) × (Nat → Int64) := ((xb + (1 : Int32)), (upd xt (11 * sg + i) (1 : Int32)), (vp_updL xf (11 * sg + i) (0 : Int64)))
set_option maxHeartbeats 4000000 in
set_option maxRecDepth 100000 in
theorem cc_Mo_written {l : Launch} (D : va_G) (K : Nat → ClassId) (mh m1 m2 m3 m4 m5 m6 m7 m8 m9 : Nat) (sg : Nat) (i : Nat) (n : Nat) (xk : Int32) (xa : Int32) (xb : Int32) (xc : Int32) (xe : Int32) (xl : Int64) (xs : Nat) (xg : Nat) (xr : Nat → Int32) (xd : Nat → Int64) (xt : Nat → Int32) (xf : Nat → Int64) (xw : Nat → Int32) (xp : Nat → Nat) (xq : Nat → Int32) (xv : Nat → Nat) (xo : Nat → Int32) (hsg : sg < 3) (hi : i < n) (hn : n ≤ 11) (hn6 : 6 ≤ n) : ly_v l yy_Mo_written bb_Mo_written 3 none 1 22 D K [.ref mh, .int (nI sg), .int (nI i)] (ws_Mo K mh m1 m2 m3 m4 m5 m6 m7 m8 m9 n xk xa xb xc xe xl xs xg xr xd xt xf xw xp xq xv xo) (fun z => (ws_Mo K mh m1 m2 m3 m4 m5 m6 m7 m8 m9 n xk xa (z.1) xc xe xl xs xg xr xd (z.2.1) (z.2.2) xw xp xq xv xo)) (mm_Mo_written sg i xb xt xf) := by
  refine ly_entV (by decide) (Nat.le_of_ble_eq_true rfl) ?_
  intro p e s m av below meth c A ls R Q H locs res hM C hRf hRl hS hP hD hl ret
  obtain ⟨hx, hb, -⟩ := id C
  have hcs : 0 ≤ R.cells ∧ 0 ≤ R.slots := ⟨Nat.zero_le _, Nat.zero_le _⟩
  have hl : lv_has ls 3 [(0, .ref mh), (1, .int (nI sg)), (2, .int (nI i))] := hl
  rw [mm_Mo_written] at hM
  refine lv_aload_n hx hb dd_Mo_written_0 rfl (lv_at hl 0 rfl) ?_
  refine lv_dup hx hb dd_Mo_written_1 rfl ?_
  refine ly_get (v := .int xb) C hP 0 rfl uw_Mo rfl 8 (by decide) wa_304 rfl dd_Mo_written_2 ?_
  refine lv_iconst (v := (1 : Int32)) hx hb dd_Mo_written_5 (by decide) ?_
  refine lv_iadd hx hb dd_Mo_written_6 ?_
  refine ly_put (ws' := (ws_Mo K mh m1 m2 m3 m4 m5 m6 m7 m8 m9 n xk xa (xb + (1 : Int32)) xc xe xl xs xg xr xd xt xf xw xp xq xv xo)) C hP hD hS 0 rfl uw_Mo tt_Mo nn_Mo rfl 8 (by decide) wa_304 rfl rfl rfl (Nat.le_of_ble_eq_true rfl) dd_Mo_written_7 rfl (fun H locs hP hD hS => ?_)
  refine lv_aload_n hx hb dd_Mo_written_10 rfl (lv_at hl 0 rfl) ?_
  refine ly_get (v := .ref m3) C hP 0 rfl uw_Mo rfl 4 (by decide) wa_255 rfl dd_Mo_written_11 ?_
  refine lv_aload_n hx hb dd_Mo_written_14 rfl (lv_at hl 0 rfl) ?_
  refine lv_iload_n hx hb dd_Mo_written_15 rfl (lv_at hl 1 rfl) ?_
  refine lv_iload_n hx hb dd_Mo_written_16 rfl (lv_at hl 2 rfl) ?_
  refine ly_cV_i (n := 2) (z := (nI (11 * sg + i))) (rest := [.ref m3]) (wn := (ws_Mo K mh m1 m2 m3 m4 m5 m6 m7 m8 m9 n xk xa (xb + (1 : Int32)) xc xe xl xs xg xr xd xt xf xw xp xq xv xo)) C (cc_Mo_cell D K mh m1 m2 m3 m4 m5 m6 m7 m8 m9 sg i n xk xa (xb + (1 : Int32)) xc xe xl xs xg xr xd xt xf xw xp xq xv xo (by omega) (by omega) (by omega) (by omega)) rfl wa_289 wa_292 wa_265 wa_293 wa_294 (by decide) (Nat.le_trans (by decide) hRf) (Nat.le_trans (by decide) hRl) rfl hl.1 rfl (Nat.le_of_ble_eq_true rfl) dd_Mo_written_17 hcs [0, 1, 2, 3, 4, 5, 6, 7, 8, 9] [] [0, 1, 2, 3, 4, 5, 6, 7, 8, 9] hP hD hS rfl rfl (by decide) rfl rfl rfl (fun H locs hP hD hS => ?_)
  refine W.eq (g2 := F0 m 20 ls [.int (nI (11 * sg + i)), .ref m3]) rfl ?_
  refine lv_iconst (v := (1 : Int32)) hx hb dd_Mo_written_20 (by decide) ?_
  refine ly_zast (ws' := (ws_Mo K mh m1 m2 m3 m4 m5 m6 m7 m8 m9 n xk xa (xb + (1 : Int32)) xc xe xl xs xg xr xd (upd xt (11 * sg + i) (1 : Int32)) xf xw xp xq xv xo)) C hP hD hS 3 rfl (by decide) (11 * sg + i) rfl (by omega) (by omega) dd_Mo_written_21 rfl (fun H locs hP hD hS => ?_)
  refine lv_aload_n hx hb dd_Mo_written_22 rfl (lv_at hl 0 rfl) ?_
  refine ly_get (v := .ref m4) C hP 0 rfl uw_Mo rfl 5 (by decide) wa_256 rfl dd_Mo_written_23 ?_
  refine lv_aload_n hx hb dd_Mo_written_26 rfl (lv_at hl 0 rfl) ?_
  refine lv_iload_n hx hb dd_Mo_written_27 rfl (lv_at hl 1 rfl) ?_
  refine lv_iload_n hx hb dd_Mo_written_28 rfl (lv_at hl 2 rfl) ?_
  refine ly_cV_i (n := 2) (z := (nI (11 * sg + i))) (rest := [.ref m4]) (wn := (ws_Mo K mh m1 m2 m3 m4 m5 m6 m7 m8 m9 n xk xa (xb + (1 : Int32)) xc xe xl xs xg xr xd (upd xt (11 * sg + i) (1 : Int32)) xf xw xp xq xv xo)) C (cc_Mo_cell D K mh m1 m2 m3 m4 m5 m6 m7 m8 m9 sg i n xk xa (xb + (1 : Int32)) xc xe xl xs xg xr xd (upd xt (11 * sg + i) (1 : Int32)) xf xw xp xq xv xo (by omega) (by omega) (by omega) (by omega)) rfl wa_289 wa_292 wa_265 wa_293 wa_294 (by decide) (Nat.le_trans (by decide) hRf) (Nat.le_trans (by decide) hRl) rfl hl.1 rfl (Nat.le_of_ble_eq_true rfl) dd_Mo_written_29 hcs [0, 1, 2, 3, 4, 5, 6, 7, 8, 9] [] [0, 1, 2, 3, 4, 5, 6, 7, 8, 9] hP hD hS rfl rfl (by decide) rfl rfl rfl (fun H locs hP hD hS => ?_)
  refine W.eq (g2 := F0 m 32 ls [.int (nI (11 * sg + i)), .ref m4]) rfl ?_
  refine lv_lconst (v := (0 : Int64)) hx hb dd_Mo_written_32 (by decide) ?_
  refine ly_last (ws' := (ws_Mo K mh m1 m2 m3 m4 m5 m6 m7 m8 m9 n xk xa (xb + (1 : Int32)) xc xe xl xs xg xr xd (upd xt (11 * sg + i) (1 : Int32)) (vp_updL xf (11 * sg + i) (0 : Int64)) xw xp xq xv xo)) C hP hD hS 4 rfl (11 * sg + i) rfl (by omega) (by omega) dd_Mo_written_33 rfl (fun H locs hP hD hS => ?_)
  exact ret ((xb + (1 : Int32)), (upd xt (11 * sg + i) (1 : Int32)), (vp_updL xf (11 * sg + i) (0 : Int64))) H locs 34 ls hM hS hP hD dd_Mo_written_34

def mm_Mo_group (i : Nat) (xk : Int32) : Int32 := (if (6 : Int32) ≤ (nI i) then (if (8 : Int32) ≤ (nI i) then (if xk = (2 : Int32) then (2 : Int32) else (-1 : Int32)) else ((nI i) - (6 : Int32))) else (nI (i / 3)))
set_option maxHeartbeats 4000000 in
set_option maxRecDepth 100000 in
theorem cc_Mo_group {l : Launch} (D : va_G) (K : Nat → ClassId) (mh m1 m2 m3 m4 m5 m6 m7 m8 m9 : Nat) (i : Nat) (n : Nat) (xk : Int32) (xa : Int32) (xb : Int32) (xc : Int32) (xe : Int32) (xl : Int64) (xs : Nat) (xg : Nat) (xr : Nat → Int32) (xd : Nat → Int64) (xt : Nat → Int32) (xf : Nat → Int64) (xw : Nat → Int32) (xp : Nat → Nat) (xq : Nat → Int32) (xv : Nat → Nat) (xo : Nat → Int32) (hi : i < n) (hn : n ≤ 11) (hn6 : 6 ≤ n) : ly_i l yy_Mo_group bb_Mo_group 2 (some .int) 0 0 D K [.ref mh, .int (nI i)] (ws_Mo K mh m1 m2 m3 m4 m5 m6 m7 m8 m9 n xk xa xb xc xe xl xs xg xr xd xt xf xw xp xq xv xo) (fun z => z) (fun _ => (ws_Mo K mh m1 m2 m3 m4 m5 m6 m7 m8 m9 n xk xa xb xc xe xl xs xg xr xd xt xf xw xp xq xv xo)) (mm_Mo_group i xk) := by
  refine ly_entI (by decide) (Nat.le_of_ble_eq_true rfl) ?_
  intro p e s m av below meth c A ls R Q H locs res hM C hRf hRl hS hP hD hl ret
  obtain ⟨hx, hb, -⟩ := id C
  have hcs : 0 ≤ R.cells ∧ 0 ≤ R.slots := ⟨Nat.zero_le _, Nat.zero_le _⟩
  have hl : lv_has ls 2 [(0, .ref mh), (1, .int (nI i))] := hl
  rw [mm_Mo_group] at hM
  refine lv_iload_n hx hb dd_Mo_group_0 rfl (lv_at hl 1 rfl) ?_
  refine lv_bipush (v := (6 : Int32)) hx hb dd_Mo_group_1 (by decide) ?_
  refine lv_icmp_ge (tgt := 10) hx hb dd_Mo_group_3 (by decide) (fun h3 => ?_) (fun h3 => ?_)
  · rw [if_pos h3] at hM
    refine lv_iload_n hx hb dd_Mo_group_10 rfl (lv_at hl 1 rfl) ?_
    refine lv_bipush (v := (8 : Int32)) hx hb dd_Mo_group_11 (by decide) ?_
    refine lv_icmp_ge (tgt := 23) hx hb dd_Mo_group_13 (by decide) (fun h13 => ?_) (fun h13 => ?_)
    · rw [if_pos h13] at hM
      refine lv_aload_n hx hb dd_Mo_group_23 rfl (lv_at hl 0 rfl) ?_
      refine ly_get (v := .int xk) C hP 0 rfl uw_Mo rfl 0 (by decide) wa_262 rfl dd_Mo_group_24 ?_
      refine lv_iconst (v := (2 : Int32)) hx hb dd_Mo_group_27 (by decide) ?_
      refine lv_icmp_ne (tgt := 35) hx hb dd_Mo_group_28 (by decide) (fun h28 => ?_) (fun h28 => ?_)
      · rw [if_neg h28] at hM
        refine lv_iconst (v := (-1 : Int32)) hx hb dd_Mo_group_35 (by decide) ?_
        exact ret (-1 : Int32) H locs 36 ls hM rfl hS hP hD dd_Mo_group_36
      · rw [if_pos h28] at hM
        refine lv_iconst (v := (2 : Int32)) hx hb dd_Mo_group_31 (by decide) ?_
        refine lv_goto (tgt := 36) hx hb dd_Mo_group_32 (by decide) ?_
        exact ret (2 : Int32) H locs 36 ls hM rfl hS hP hD dd_Mo_group_36
    · rw [if_neg h13] at hM
      refine lv_iload_n hx hb dd_Mo_group_16 rfl (lv_at hl 1 rfl) ?_
      refine lv_bipush (v := (6 : Int32)) hx hb dd_Mo_group_17 (by decide) ?_
      refine lv_isub hx hb dd_Mo_group_19 ?_
      refine lv_goto (tgt := 36) hx hb dd_Mo_group_20 (by decide) ?_
      exact ret ((nI i) - (6 : Int32)) H locs 36 ls hM rfl hS hP hD dd_Mo_group_36
  · rw [if_neg h3] at hM
    refine lv_iload_n hx hb dd_Mo_group_6 rfl (lv_at hl 1 rfl) ?_
    refine lv_iconst (v := (3 : Int32)) hx hb dd_Mo_group_7 (by decide) ?_
    refine ly_idivN C i 3 rfl rfl (by omega) (by decide) (by decide) dd_Mo_group_8 ?_
    exact ret (nI (i / 3)) H locs 9 ls hM rfl hS hP hD dd_Mo_group_9

def mm_Mo_grouped (i : Nat) (q : Nat) (xk : Int32) : Int32 := (if xk = (0 : Int32) then (0 : Int32) else (if (nI i) = (nI q) then (0 : Int32) else (if (mm_Mo_group i xk) = (mm_Mo_group q xk) then (if (mm_Mo_group i xk) < (0 : Int32) then (0 : Int32) else (1 : Int32)) else (0 : Int32))))
set_option maxHeartbeats 4000000 in
set_option maxRecDepth 100000 in
theorem cc_Mo_grouped {l : Launch} (D : va_G) (K : Nat → ClassId) (mh m1 m2 m3 m4 m5 m6 m7 m8 m9 : Nat) (i : Nat) (q : Nat) (n : Nat) (xk : Int32) (xa : Int32) (xb : Int32) (xc : Int32) (xe : Int32) (xl : Int64) (xs : Nat) (xg : Nat) (xr : Nat → Int32) (xd : Nat → Int64) (xt : Nat → Int32) (xf : Nat → Int64) (xw : Nat → Int32) (xp : Nat → Nat) (xq : Nat → Int32) (xv : Nat → Nat) (xo : Nat → Int32) (hi : i < n) (hq : q < n) (hn : n ≤ 11) (hn6 : 6 ≤ n) : ly_i l yy_Mo_grouped bb_Mo_grouped 3 (some .boolean) 1 21 D K [.ref mh, .int (nI i), .int (nI q)] (ws_Mo K mh m1 m2 m3 m4 m5 m6 m7 m8 m9 n xk xa xb xc xe xl xs xg xr xd xt xf xw xp xq xv xo) (fun z => z) (fun _ => (ws_Mo K mh m1 m2 m3 m4 m5 m6 m7 m8 m9 n xk xa xb xc xe xl xs xg xr xd xt xf xw xp xq xv xo)) (mm_Mo_grouped i q xk) := by
  refine ly_entI (by decide) (Nat.le_of_ble_eq_true rfl) ?_
  intro p e s m av below meth c A ls R Q H locs res hM C hRf hRl hS hP hD hl ret
  obtain ⟨hx, hb, -⟩ := id C
  have hcs : 0 ≤ R.cells ∧ 0 ≤ R.slots := ⟨Nat.zero_le _, Nat.zero_le _⟩
  have hl : lv_has ls 3 [(0, .ref mh), (1, .int (nI i)), (2, .int (nI q))] := hl
  rw [mm_Mo_grouped] at hM
  refine lv_aload_n hx hb dd_Mo_grouped_0 rfl (lv_at hl 0 rfl) ?_
  refine ly_get (v := .int xk) C hP 0 rfl uw_Mo rfl 0 (by decide) wa_262 rfl dd_Mo_grouped_1 ?_
  refine lv_if_eq (tgt := 12) hx hb dd_Mo_grouped_4 (by decide) (fun h4 => ?_) (fun h4 => ?_)
  · rw [if_pos h4] at hM
    refine lv_iconst (v := (0 : Int32)) hx hb dd_Mo_grouped_12 (by decide) ?_
    exact ret (0 : Int32) H locs 13 ls hM ly_z0 hS hP hD dd_Mo_grouped_13
  · rw [if_neg h4] at hM
    refine lv_iload_n hx hb dd_Mo_grouped_7 rfl (lv_at hl 1 rfl) ?_
    refine lv_iload_n hx hb dd_Mo_grouped_8 rfl (lv_at hl 2 rfl) ?_
    refine lv_icmp_ne (tgt := 14) hx hb dd_Mo_grouped_9 (by decide) (fun h9 => ?_) (fun h9 => ?_)
    · rw [if_neg h9] at hM
      refine lv_aload_n hx hb dd_Mo_grouped_14 rfl (lv_at hl 0 rfl) ?_
      refine lv_iload_n hx hb dd_Mo_grouped_15 rfl (lv_at hl 1 rfl) ?_
      obtain ⟨r_16, hq16⟩ : ∃ z, z = mm_Mo_group i xk := ⟨_, rfl⟩
      try rw [← hq16] at hM
      refine ly_cV_i (n := 1) (z := r_16) (rest := []) (wn := (ws_Mo K mh m1 m2 m3 m4 m5 m6 m7 m8 m9 n xk xa xb xc xe xl xs xg xr xd xt xf xw xp xq xv xo)) C (cc_Mo_group D K mh m1 m2 m3 m4 m5 m6 m7 m8 m9 i n xk xa xb xc xe xl xs xg xr xd xt xf xw xp xq xv xo (by omega) (by omega) (by omega)) hq16 wa_309 wa_306 wa_265 wa_307 wa_308 (by decide) (Nat.le_trans (by decide) hRf) (Nat.le_trans (by decide) hRl) rfl hl.1 rfl (Nat.le_of_ble_eq_true rfl) dd_Mo_grouped_16 hcs [0, 1, 2, 3, 4, 5, 6, 7, 8, 9] [] [0, 1, 2, 3, 4, 5, 6, 7, 8, 9] hP hD hS rfl rfl (by decide) rfl rfl rfl (fun H locs hP hD hS => ?_)
      refine W.eq (g2 := F0 m 19 ls [.int r_16]) rfl ?_
      refine lv_aload_n hx hb dd_Mo_grouped_19 rfl (lv_at hl 0 rfl) ?_
      refine lv_iload_n hx hb dd_Mo_grouped_20 rfl (lv_at hl 2 rfl) ?_
      obtain ⟨r_21, hq21⟩ : ∃ z, z = mm_Mo_group q xk := ⟨_, rfl⟩
      try rw [← hq21] at hM
      refine ly_cV_i (n := 1) (z := r_21) (rest := [.int r_16]) (wn := (ws_Mo K mh m1 m2 m3 m4 m5 m6 m7 m8 m9 n xk xa xb xc xe xl xs xg xr xd xt xf xw xp xq xv xo)) C (cc_Mo_group D K mh m1 m2 m3 m4 m5 m6 m7 m8 m9 q n xk xa xb xc xe xl xs xg xr xd xt xf xw xp xq xv xo (by omega) (by omega) (by omega)) hq21 wa_309 wa_306 wa_265 wa_307 wa_308 (by decide) (Nat.le_trans (by decide) hRf) (Nat.le_trans (by decide) hRl) rfl hl.1 rfl (Nat.le_of_ble_eq_true rfl) dd_Mo_grouped_21 hcs [0, 1, 2, 3, 4, 5, 6, 7, 8, 9] [] [0, 1, 2, 3, 4, 5, 6, 7, 8, 9] hP hD hS rfl rfl (by decide) rfl rfl rfl (fun H locs hP hD hS => ?_)
      refine W.eq (g2 := F0 m 24 ls [.int r_21, .int r_16]) rfl ?_
      refine lv_icmp_ne (tgt := 39) hx hb dd_Mo_grouped_24 (by decide) (fun h24 => ?_) (fun h24 => ?_)
      · rw [if_neg h24] at hM
        refine lv_iconst (v := (0 : Int32)) hx hb dd_Mo_grouped_39 (by decide) ?_
        exact ret (0 : Int32) H locs 40 ls hM ly_z0 hS hP hD dd_Mo_grouped_40
      · rw [if_pos h24] at hM
        refine lv_aload_n hx hb dd_Mo_grouped_27 rfl (lv_at hl 0 rfl) ?_
        refine lv_iload_n hx hb dd_Mo_grouped_28 rfl (lv_at hl 1 rfl) ?_
        refine ly_cV_i (n := 1) (z := r_16) (rest := []) (wn := (ws_Mo K mh m1 m2 m3 m4 m5 m6 m7 m8 m9 n xk xa xb xc xe xl xs xg xr xd xt xf xw xp xq xv xo)) C (cc_Mo_group D K mh m1 m2 m3 m4 m5 m6 m7 m8 m9 i n xk xa xb xc xe xl xs xg xr xd xt xf xw xp xq xv xo (by omega) (by omega) (by omega)) hq16 wa_309 wa_306 wa_265 wa_307 wa_308 (by decide) (Nat.le_trans (by decide) hRf) (Nat.le_trans (by decide) hRl) rfl hl.1 rfl (Nat.le_of_ble_eq_true rfl) dd_Mo_grouped_29 hcs [0, 1, 2, 3, 4, 5, 6, 7, 8, 9] [] [0, 1, 2, 3, 4, 5, 6, 7, 8, 9] hP hD hS rfl rfl (by decide) rfl rfl rfl (fun H locs hP hD hS => ?_)
        refine W.eq (g2 := F0 m 32 ls [.int r_16]) rfl ?_
        refine lv_if_lt (tgt := 39) hx hb dd_Mo_grouped_32 (by decide) (fun h32 => ?_) (fun h32 => ?_)
        · rw [if_pos h32] at hM
          refine lv_iconst (v := (0 : Int32)) hx hb dd_Mo_grouped_39 (by decide) ?_
          exact ret (0 : Int32) H locs 40 ls hM ly_z0 hS hP hD dd_Mo_grouped_40
        · rw [if_neg h32] at hM
          refine lv_iconst (v := (1 : Int32)) hx hb dd_Mo_grouped_35 (by decide) ?_
          refine lv_goto (tgt := 40) hx hb dd_Mo_grouped_36 (by decide) ?_
          exact ret (1 : Int32) H locs 40 ls hM ly_z1 hS hP hD dd_Mo_grouped_40
    · rw [if_pos h9] at hM
      refine lv_iconst (v := (0 : Int32)) hx hb dd_Mo_grouped_12 (by decide) ?_
      exact ret (0 : Int32) H locs 13 ls hM ly_z0 hS hP hD dd_Mo_grouped_13

def mm_Mo_local_L8 (sg : Nat) (i : Nat) (xk : Int32) (xt : Nat → Int32) : Nat → Nat → (Int32) → (Int32) → Int32
  | 0, j, v3, v4 => (if v3 = (0 : Int32) then (0 : Int32) else (if v4 = (0 : Int32) then (0 : Int32) else (1 : Int32)))
  | k + 1, j, v3, v4 => (if (mm_Mo_grouped i j xk) = (0 : Int32) then (mm_Mo_local_L8 sg i xk xt k (j + 1) v3 v4) else (if v4 = (0 : Int32) then (mm_Mo_local_L8 sg i xk xt k (j + 1) (1 : Int32) (0 : Int32)) else (if (xt (11 * sg + j)) = (0 : Int32) then (mm_Mo_local_L8 sg i xk xt k (j + 1) (1 : Int32) (0 : Int32)) else (mm_Mo_local_L8 sg i xk xt k (j + 1) (1 : Int32) (1 : Int32)))))
def mm_Mo_local (sg : Nat) (i : Nat) (n : Nat) (xk : Int32) (xt : Nat → Int32) : Int32 := (mm_Mo_local_L8 sg i xk xt n 0 (0 : Int32) (1 : Int32))
set_option maxHeartbeats 4000000 in
set_option maxRecDepth 100000 in
theorem cc_Mo_local {l : Launch} (D : va_G) (K : Nat → ClassId) (mh m1 m2 m3 m4 m5 m6 m7 m8 m9 : Nat) (sg : Nat) (i : Nat) (n : Nat) (xk : Int32) (xa : Int32) (xb : Int32) (xc : Int32) (xe : Int32) (xl : Int64) (xs : Nat) (xg : Nat) (xr : Nat → Int32) (xd : Nat → Int64) (xt : Nat → Int32) (xf : Nat → Int64) (xw : Nat → Int32) (xp : Nat → Nat) (xq : Nat → Int32) (xv : Nat → Nat) (xo : Nat → Int32) (hsg : sg < 3) (hi : i < n) (hn : n ≤ 11) (hn6 : 6 ≤ n) : ly_i l yy_Mo_local bb_Mo_local 6 (some .boolean) 2 43 D K [.ref mh, .int (nI sg), .int (nI i)] (ws_Mo K mh m1 m2 m3 m4 m5 m6 m7 m8 m9 n xk xa xb xc xe xl xs xg xr xd xt xf xw xp xq xv xo) (fun z => z) (fun _ => (ws_Mo K mh m1 m2 m3 m4 m5 m6 m7 m8 m9 n xk xa xb xc xe xl xs xg xr xd xt xf xw xp xq xv xo)) (mm_Mo_local sg i n xk xt) := by
  refine ly_entI (by decide) (Nat.le_of_ble_eq_true rfl) ?_
  intro p e s m av below meth c A ls R Q H locs res hM C hRf hRl hS hP hD hl ret
  obtain ⟨hx, hb, -⟩ := id C
  have hcs : 0 ≤ R.cells ∧ 0 ≤ R.slots := ⟨Nat.zero_le _, Nat.zero_le _⟩
  have hl : lv_has ls 6 [(0, .ref mh), (1, .int (nI sg)), (2, .int (nI i))] := hl
  rw [mm_Mo_local] at hM
  refine lv_iconst (v := (0 : Int32)) hx hb dd_Mo_local_0 (by decide) ?_
  refine lv_istore_n (lv' := [(3, .int (0 : Int32)), (0, .ref mh), (1, .int (nI sg)), (2, .int (nI i))]) hx hb dd_Mo_local_1 rfl hl (by decide) rfl (fun ls hl => ?_)
  refine lv_iconst (v := (1 : Int32)) hx hb dd_Mo_local_2 (by decide) ?_
  refine lv_istore (lv' := [(4, .int (1 : Int32)), (3, .int (0 : Int32)), (0, .ref mh), (1, .int (nI sg)), (2, .int (nI i))]) hx hb dd_Mo_local_3 hl (by decide) rfl (fun ls hl => ?_)
  refine lv_iconst (v := (0 : Int32)) hx hb dd_Mo_local_5 (by decide) ?_
  refine lv_istore (lv' := [(5, .int (0 : Int32)), (4, .int (1 : Int32)), (3, .int (0 : Int32)), (0, .ref mh), (1, .int (nI sg)), (2, .int (nI i))]) hx hb dd_Mo_local_6 hl (by decide) rfl (fun ls hl => ?_)
  have lp8 : ∀ (k : Nat) (j : Nat) (v3 : Int32) (v4 : Int32) (ls : Array Slot) (H : Heap) (locs : List Loc), j + k = n → mm_Mo_local_L8 sg i xk xt k j v3 v4 = res → lv_has ls 6 [(5, .int (nI j)), (4, .int v4), (3, .int v3), (0, .ref mh), (1, .int (nI sg)), (2, .int (nI i))] → va_P D cl_all (ws_Mo K mh m1 m2 m3 m4 m5 m6 m7 m8 m9 n xk xa xb xc xe xl xs xg xr xd xt xf xw xp xq xv xo) H → va_D A (ws_Mo K mh m1 m2 m3 m4 m5 m6 m7 m8 m9 n xk xa xb xc xe xl xs xg xr xd xt xf xw xp xq xv xo) → va_S A s.heap H locs → W p l e R s m av below meth c H locs 0 0 Q (F0 m 8 ls []) := by
    intro k
    induction k with
    | zero =>
      intro j v3 v4 ls H locs hjk8 hM hl hP hD hS
      have hj0 : j = n := by omega
      subst j
      rw [mm_Mo_local_L8] at hM
      refine lv_iload hx hb dd_Mo_local_8 (lv_at hl 0 rfl) ?_
      refine lv_aload_n hx hb dd_Mo_local_10 rfl (lv_at hl 3 rfl) ?_
      refine ly_get (v := .int (nI n)) C hP 0 rfl uw_Mo rfl 1 (by decide) wa_263 rfl dd_Mo_local_11 ?_
      refine lv_icmp_ge (tgt := 62) hx hb dd_Mo_local_14 (by decide) (fun _ => ?_) (fun h => absurd (nI_le (a := n) (b := n) (by omega) (by omega)) h)
      refine lv_iload_n hx hb dd_Mo_local_62 rfl (lv_at hl 2 rfl) ?_
      refine lv_if_eq (tgt := 75) hx hb dd_Mo_local_63 (by decide) (fun h63 => ?_) (fun h63 => ?_)
      · rw [if_pos h63] at hM
        refine lv_iconst (v := (0 : Int32)) hx hb dd_Mo_local_75 (by decide) ?_
        exact ret (0 : Int32) H locs 76 ls hM ly_z0 hS hP hD dd_Mo_local_76
      · rw [if_neg h63] at hM
        refine lv_iload hx hb dd_Mo_local_66 (lv_at hl 1 rfl) ?_
        refine lv_if_eq (tgt := 75) hx hb dd_Mo_local_68 (by decide) (fun h68 => ?_) (fun h68 => ?_)
        · rw [if_pos h68] at hM
          refine lv_iconst (v := (0 : Int32)) hx hb dd_Mo_local_75 (by decide) ?_
          exact ret (0 : Int32) H locs 76 ls hM ly_z0 hS hP hD dd_Mo_local_76
        · rw [if_neg h68] at hM
          refine lv_iconst (v := (1 : Int32)) hx hb dd_Mo_local_71 (by decide) ?_
          refine lv_goto (tgt := 76) hx hb dd_Mo_local_72 (by decide) ?_
          exact ret (1 : Int32) H locs 76 ls hM ly_z1 hS hP hD dd_Mo_local_76
    | succ k ih8 =>
      intro j v3 v4 ls H locs hjk8 hM hl hP hD hS
      rw [mm_Mo_local_L8] at hM
      refine lv_iload hx hb dd_Mo_local_8 (lv_at hl 0 rfl) ?_
      refine lv_aload_n hx hb dd_Mo_local_10 rfl (lv_at hl 3 rfl) ?_
      refine ly_get (v := .int (nI n)) C hP 0 rfl uw_Mo rfl 1 (by decide) wa_263 rfl dd_Mo_local_11 ?_
      refine lv_icmp_ge (tgt := 62) hx hb dd_Mo_local_14 (by decide) (fun h => absurd h (nI_ge (a := j) (b := n) (by omega) (by omega))) (fun _ => ?_)
      refine lv_aload_n hx hb dd_Mo_local_17 rfl (lv_at hl 3 rfl) ?_
      refine lv_iload_n hx hb dd_Mo_local_18 rfl (lv_at hl 5 rfl) ?_
      refine lv_iload hx hb dd_Mo_local_19 (lv_at hl 0 rfl) ?_
      obtain ⟨r_21, hq21⟩ : ∃ z, z = mm_Mo_grouped i j xk := ⟨_, rfl⟩
      try rw [← hq21] at hM
      refine ly_cV_i (n := 2) (z := r_21) (rest := []) (wn := (ws_Mo K mh m1 m2 m3 m4 m5 m6 m7 m8 m9 n xk xa xb xc xe xl xs xg xr xd xt xf xw xp xq xv xo)) C (cc_Mo_grouped D K mh m1 m2 m3 m4 m5 m6 m7 m8 m9 i j n xk xa xb xc xe xl xs xg xr xd xt xf xw xp xq xv xo (by omega) (by omega) (by omega) (by omega)) hq21 wa_305 wa_311 wa_265 wa_312 wa_313 (by decide) (Nat.le_trans (by decide) hRf) (Nat.le_trans (by decide) hRl) rfl hl.1 rfl (Nat.le_of_ble_eq_true rfl) dd_Mo_local_21 hcs [0, 1, 2, 3, 4, 5, 6, 7, 8, 9] [] [0, 1, 2, 3, 4, 5, 6, 7, 8, 9] hP hD hS rfl rfl (by decide) rfl rfl rfl (fun H locs hP hD hS => ?_)
      refine W.eq (g2 := F0 m 24 ls [.int r_21]) rfl ?_
      refine lv_if_eq (tgt := 56) hx hb dd_Mo_local_24 (by decide) (fun h24 => ?_) (fun h24 => ?_)
      · rw [if_pos h24] at hM
        refine lv_iinc (k := 0) (v := (nI (j + 1))) (lv' := [(5, .int (nI (j + 1))), (4, .int v4), (3, .int v3), (0, .ref mh), (1, .int (nI sg)), (2, .int (nI i))]) hx hb dd_Mo_local_56 hl rfl (ly_incN _) (by decide) rfl (fun ls hl => ?_)
        refine lv_goto (tgt := 8) hx hb dd_Mo_local_59 (by decide) ?_
        exact ih8 (j + 1) v3 v4 ls H locs (by omega) hM (lv_sub hl [0, 1, 2, 3, 4, 5] rfl) hP hD hS
      · rw [if_neg h24] at hM
        refine lv_iconst (v := (1 : Int32)) hx hb dd_Mo_local_27 (by decide) ?_
        refine lv_istore_n (lv' := [(3, .int (1 : Int32)), (5, .int (nI j)), (4, .int v4), (0, .ref mh), (1, .int (nI sg)), (2, .int (nI i))]) hx hb dd_Mo_local_28 rfl hl (by decide) rfl (fun ls hl => ?_)
        refine lv_iload hx hb dd_Mo_local_29 (lv_at hl 2 rfl) ?_
        refine lv_if_eq (tgt := 53) hx hb dd_Mo_local_31 (by decide) (fun h31 => ?_) (fun h31 => ?_)
        · rw [if_pos h31] at hM
          refine lv_iconst (v := (0 : Int32)) hx hb dd_Mo_local_53 (by decide) ?_
          refine lv_istore (lv' := [(4, .int (0 : Int32)), (3, .int (1 : Int32)), (5, .int (nI j)), (0, .ref mh), (1, .int (nI sg)), (2, .int (nI i))]) hx hb dd_Mo_local_54 hl (by decide) rfl (fun ls hl => ?_)
          refine lv_iinc (k := 2) (v := (nI (j + 1))) (lv' := [(5, .int (nI (j + 1))), (4, .int (0 : Int32)), (3, .int (1 : Int32)), (0, .ref mh), (1, .int (nI sg)), (2, .int (nI i))]) hx hb dd_Mo_local_56 hl rfl (ly_incN _) (by decide) rfl (fun ls hl => ?_)
          refine lv_goto (tgt := 8) hx hb dd_Mo_local_59 (by decide) ?_
          exact ih8 (j + 1) (1 : Int32) (0 : Int32) ls H locs (by omega) hM (lv_sub hl [0, 1, 2, 3, 4, 5] rfl) hP hD hS
        · rw [if_neg h31] at hM
          refine lv_aload_n hx hb dd_Mo_local_34 rfl (lv_at hl 3 rfl) ?_
          refine ly_get (v := .ref m3) C hP 0 rfl uw_Mo rfl 4 (by decide) wa_255 rfl dd_Mo_local_35 ?_
          refine lv_aload_n hx hb dd_Mo_local_38 rfl (lv_at hl 3 rfl) ?_
          refine lv_iload_n hx hb dd_Mo_local_39 rfl (lv_at hl 4 rfl) ?_
          refine lv_iload hx hb dd_Mo_local_40 (lv_at hl 1 rfl) ?_
          refine ly_cV_i (n := 2) (z := (nI (11 * sg + j))) (rest := [.ref m3]) (wn := (ws_Mo K mh m1 m2 m3 m4 m5 m6 m7 m8 m9 n xk xa xb xc xe xl xs xg xr xd xt xf xw xp xq xv xo)) C (cc_Mo_cell D K mh m1 m2 m3 m4 m5 m6 m7 m8 m9 sg j n xk xa xb xc xe xl xs xg xr xd xt xf xw xp xq xv xo (by omega) (by omega) (by omega) (by omega)) rfl wa_289 wa_292 wa_265 wa_293 wa_294 (by decide) (Nat.le_trans (by decide) hRf) (Nat.le_trans (by decide) hRl) rfl hl.1 rfl (Nat.le_of_ble_eq_true rfl) dd_Mo_local_42 hcs [0, 1, 2, 3, 4, 5, 6, 7, 8, 9] [] [0, 1, 2, 3, 4, 5, 6, 7, 8, 9] hP hD hS rfl rfl (by decide) rfl rfl rfl (fun H locs hP hD hS => ?_)
          refine W.eq (g2 := F0 m 45 ls [.int (nI (11 * sg + j)), .ref m3]) rfl ?_
          refine ly_zald C hP 3 rfl (11 * sg + j) rfl (by omega) (by omega) dd_Mo_local_45 ?_
          refine lv_if_eq (tgt := 53) hx hb dd_Mo_local_46 (by decide) (fun h46 => ?_) (fun h46 => ?_)
          · rw [if_pos h46] at hM
            refine lv_iconst (v := (0 : Int32)) hx hb dd_Mo_local_53 (by decide) ?_
            refine lv_istore (lv' := [(4, .int (0 : Int32)), (3, .int (1 : Int32)), (5, .int (nI j)), (0, .ref mh), (1, .int (nI sg)), (2, .int (nI i))]) hx hb dd_Mo_local_54 hl (by decide) rfl (fun ls hl => ?_)
            refine lv_iinc (k := 2) (v := (nI (j + 1))) (lv' := [(5, .int (nI (j + 1))), (4, .int (0 : Int32)), (3, .int (1 : Int32)), (0, .ref mh), (1, .int (nI sg)), (2, .int (nI i))]) hx hb dd_Mo_local_56 hl rfl (ly_incN _) (by decide) rfl (fun ls hl => ?_)
            refine lv_goto (tgt := 8) hx hb dd_Mo_local_59 (by decide) ?_
            exact ih8 (j + 1) (1 : Int32) (0 : Int32) ls H locs (by omega) hM (lv_sub hl [0, 1, 2, 3, 4, 5] rfl) hP hD hS
          · rw [if_neg h46] at hM
            refine lv_iconst (v := (1 : Int32)) hx hb dd_Mo_local_49 (by decide) ?_
            refine lv_goto (tgt := 54) hx hb dd_Mo_local_50 (by decide) ?_
            refine lv_istore (lv' := [(4, .int (1 : Int32)), (3, .int (1 : Int32)), (5, .int (nI j)), (0, .ref mh), (1, .int (nI sg)), (2, .int (nI i))]) hx hb dd_Mo_local_54 hl (by decide) rfl (fun ls hl => ?_)
            refine lv_iinc (k := 2) (v := (nI (j + 1))) (lv' := [(5, .int (nI (j + 1))), (4, .int (1 : Int32)), (3, .int (1 : Int32)), (0, .ref mh), (1, .int (nI sg)), (2, .int (nI i))]) hx hb dd_Mo_local_56 hl rfl (ly_incN _) (by decide) rfl (fun ls hl => ?_)
            refine lv_goto (tgt := 8) hx hb dd_Mo_local_59 (by decide) ?_
            exact ih8 (j + 1) (1 : Int32) (1 : Int32) ls H locs (by omega) hM (lv_sub hl [0, 1, 2, 3, 4, 5] rfl) hP hD hS
  exact lp8 n 0 (0 : Int32) (1 : Int32) ls H locs (by omega) hM (lv_sub hl [0, 1, 2, 3, 4, 5] rfl) hP hD hS
