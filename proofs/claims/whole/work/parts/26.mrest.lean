def mm_Mo_next_L9 (sg : Nat) (n : Nat) (xk : Int32) (xr : Nat → Int32) (xt : Nat → Int32) (xw : Nat → Int32) : Nat → (Int32) → (Nat) → (Nat) → (Nat → Nat) → (Nat → Int32) → (Nat → Nat) → (Nat → Int32) → (Int32) × (Nat) × (Nat) × (Nat → Nat) × (Nat → Int32) × (Nat → Nat) × (Nat → Int32)
  | 0, v2L9, xsL9, xgL9, xpL9, xqL9, xvL9, xoL9 => (v2L9, xsL9, xgL9, xpL9, xqL9, xvL9, xoL9)
  | k9 + 1, v2L9, xsL9, xgL9, xpL9, xqL9, xvL9, xoL9 => (if (xt (11 * sg + k9)) = (0 : Int32) then (if (xw ((5 * sg + k9) % 12)) = (0 : Int32) then (match mm_Mo_choose sg k9 n xk xgL9 xr xt xpL9 xqL9 xvL9 xoL9 with | (r_44, xs_44, xg_44, xp_44, xq_44, xv_44, xo_44) => (if r_44 = (0 : Int32) then (mm_Mo_next_L9 sg n xk xr xt xw k9 v2L9 xs_44 xg_44 xp_44 xq_44 xv_44 xo_44) else (mm_Mo_next_L9 sg n xk xr xt xw k9 (nI k9) xs_44 xg_44 xp_44 xq_44 xv_44 xo_44))) else (mm_Mo_next_L9 sg n xk xr xt xw k9 v2L9 xsL9 xgL9 xpL9 xqL9 xvL9 xoL9)) else (mm_Mo_next_L9 sg n xk xr xt xw k9 v2L9 xsL9 xgL9 xpL9 xqL9 xvL9 xoL9))
def mm_Mo_next_L68 (sg : Nat) (n : Nat) (xk : Int32) (xt : Nat → Int32) (xw : Nat → Int32) : Nat → (Int32) → (Int32)
  | 0, v3L68 => v3L68
  | k68 + 1, v3L68 => (if (xt (11 * sg + k68)) = (0 : Int32) then (if (xw ((5 * sg + k68) % 12)) = (0 : Int32) then (if (mm_Mo_local sg k68 n xk xt) = (0 : Int32) then (mm_Mo_next_L68 sg n xk xt xw k68 v3L68) else (mm_Mo_next_L68 sg n xk xt xw k68 (nI k68))) else (mm_Mo_next_L68 sg n xk xt xw k68 v3L68)) else (mm_Mo_next_L68 sg n xk xt xw k68 v3L68))
def mm_Mo_next (sg : Nat) (n : Nat) (xk : Int32) (xs : Nat) (xg : Nat) (xr : Nat → Int32) (xt : Nat → Int32) (xw : Nat → Int32) (xp : Nat → Nat) (xq : Nat → Int32) (xv : Nat → Nat) (xo : Nat → Int32) : Int32 × (Nat) × (Nat) × (Nat → Nat) × (Nat → Int32) × (Nat → Nat) × (Nat → Int32) := (match mm_Mo_next_L9 sg n xk xr xt xw n (-1 : Int32) xs xg xp xq xv xo with | (v2_9, xs_9, xg_9, xp_9, xq_9, xv_9, xo_9) => (if (mm_Mo_next_L68 sg n xk xt xw n (-1 : Int32)) < (0 : Int32) then (v2_9, xs_9, xg_9, xp_9, xq_9, xv_9, xo_9) else ((mm_Mo_next_L68 sg n xk xt xw n (-1 : Int32)), xs_9, xg_9, xp_9, xq_9, xv_9, xo_9)))
set_option maxHeartbeats 4000000 in
set_option maxRecDepth 100000 in
theorem cc_Mo_next {l : Launch} (D : va_G) (K : Nat → ClassId) (mh m1 m2 m3 m4 m5 m6 m7 m8 m9 : Nat) (sg : Nat) (n : Nat) (xk : Int32) (xa : Int32) (xb : Int32) (xc : Int32) (xe : Int32) (xl : Int64) (xs : Nat) (xg : Nat) (xr : Nat → Int32) (xd : Nat → Int64) (xt : Nat → Int32) (xf : Nat → Int64) (xw : Nat → Int32) (xp : Nat → Nat) (xq : Nat → Int32) (xv : Nat → Nat) (xo : Nat → Int32) (hsg : sg < 3) (hn : n ≤ 11) (hn6 : 6 ≤ n) : ly_i l yy_Mo_next bb_Mo_next 5 (some .int) 5 116 D K [.ref mh, .int (nI sg)] (ws_Mo K mh m1 m2 m3 m4 m5 m6 m7 m8 m9 n xk xa xb xc xe xl xs xg xr xd xt xf xw xp xq xv xo) (fun z => z.1) (fun z => (ws_Mo K mh m1 m2 m3 m4 m5 m6 m7 m8 m9 n xk xa xb xc xe xl (z.2.1) (z.2.2.1) xr xd xt xf xw (z.2.2.2.1) (z.2.2.2.2.1) (z.2.2.2.2.2.1) (z.2.2.2.2.2.2))) (mm_Mo_next sg n xk xs xg xr xt xw xp xq xv xo) := by
  refine ly_entI (by decide) (Nat.le_of_ble_eq_true rfl) ?_
  intro p e s m av below meth c A ls R Q H locs res hM C hRf hRl hS hP hD hl ret
  obtain ⟨hx, hb, -⟩ := id C
  have hcs : 0 ≤ R.cells ∧ 0 ≤ R.slots := ⟨Nat.zero_le _, Nat.zero_le _⟩
  have hl : lv_has ls 5 [(0, .ref mh), (1, .int (nI sg))] := hl
  rw [mm_Mo_next] at hM
  refine lv_iconst (v := (-1 : Int32)) hx hb dd_Mo_next_0 (by decide) ?_
  refine lv_istore_n (lv' := [(2, .int (-1 : Int32)), (0, .ref mh), (1, .int (nI sg))]) hx hb dd_Mo_next_1 rfl hl (by decide) rfl (fun ls hl => ?_)
  refine lv_aload_n hx hb dd_Mo_next_2 rfl (lv_at hl 1 rfl) ?_
  refine ly_get (v := .int (nI n)) C hP 0 rfl uw_Mo rfl 1 (by decide) wa_263 rfl dd_Mo_next_3 ?_
  refine lv_iconst (v := (1 : Int32)) hx hb dd_Mo_next_6 (by decide) ?_
  refine lv_isub hx hb dd_Mo_next_7 ?_
  refine lv_istore_n (lv' := [(3, .int ((nI n) - (1 : Int32))), (2, .int (-1 : Int32)), (0, .ref mh), (1, .int (nI sg))]) hx hb dd_Mo_next_8 rfl hl (by decide) rfl (fun ls hl => ?_)
  have lp9 : ∀ (k9 : Nat) (v2L9 : Int32) (xsL9 : Nat) (xgL9 : Nat) (xpL9 : Nat → Nat) (xqL9 : Nat → Int32) (xvL9 : Nat → Nat) (xoL9 : Nat → Int32) (ls : Array Slot) (H : Heap) (locs : List Loc) (rs9 : (Int32) × (Nat) × (Nat) × (Nat → Nat) × (Nat → Int32) × (Nat → Nat) × (Nat → Int32)), k9 ≤ n → mm_Mo_next_L9 sg n xk xr xt xw k9 v2L9 xsL9 xgL9 xpL9 xqL9 xvL9 xoL9 = rs9 → lv_has ls 5 [(3, .int (nI k9 - 1)), (2, .int v2L9), (0, .ref mh), (1, .int (nI sg))] → va_P D cl_all (ws_Mo K mh m1 m2 m3 m4 m5 m6 m7 m8 m9 n xk xa xb xc xe xl xsL9 xgL9 xr xd xt xf xw xpL9 xqL9 xvL9 xoL9) H → va_D A (ws_Mo K mh m1 m2 m3 m4 m5 m6 m7 m8 m9 n xk xa xb xc xe xl xsL9 xgL9 xr xd xt xf xw xpL9 xqL9 xvL9 xoL9) → va_S A s.heap H locs → (∀ (v2L9 : Int32) (xsL9 : Nat) (xgL9 : Nat) (xpL9 : Nat → Nat) (xqL9 : Nat → Int32) (xvL9 : Nat → Nat) (xoL9 : Nat → Int32) (ls : Array Slot) (H : Heap) (locs : List Loc), (v2L9, xsL9, xgL9, xpL9, xqL9, xvL9, xoL9) = rs9 → lv_has ls 5 [(2, .int v2L9), (0, .ref mh), (1, .int (nI sg))] → va_P D cl_all (ws_Mo K mh m1 m2 m3 m4 m5 m6 m7 m8 m9 n xk xa xb xc xe xl xsL9 xgL9 xr xd xt xf xw xpL9 xqL9 xvL9 xoL9) H → va_D A (ws_Mo K mh m1 m2 m3 m4 m5 m6 m7 m8 m9 n xk xa xb xc xe xl xsL9 xgL9 xr xd xt xf xw xpL9 xqL9 xvL9 xoL9) → va_S A s.heap H locs → W p l e R s m av below meth c H locs 0 0 Q (F0 m 58 ls [])) → W p l e R s m av below meth c H locs 0 0 Q (F0 m 9 ls []) := by
    intro k9
    induction k9 with
    | zero =>
      intro v2L9 xsL9 xgL9 xpL9 xqL9 xvL9 xoL9 ls H locs rs9 hkn9 hM hl hP hD hS kap9
      rw [mm_Mo_next_L9] at hM
      refine lv_iload_n hx hb dd_Mo_next_9 rfl (lv_at hl 0 rfl) ?_
      refine lv_if_lt (tgt := 58) hx hb dd_Mo_next_10 (by decide) (fun _ => ?_) (fun h => absurd (by decide) h)
      exact kap9 v2L9 xsL9 xgL9 xpL9 xqL9 xvL9 xoL9 ls H locs hM (lv_sub hl [1, 2, 3] rfl) hP hD hS
    | succ k9 ih9 =>
      intro v2L9 xsL9 xgL9 xpL9 xqL9 xvL9 xoL9 ls H locs rs9 hkn9 hM hl hP hD hS kap9
      rw [nI_pred] at hl
      rw [mm_Mo_next_L9] at hM
      refine lv_iload_n hx hb dd_Mo_next_9 rfl (lv_at hl 0 rfl) ?_
      refine lv_if_lt (tgt := 58) hx hb dd_Mo_next_10 (by decide) (fun h => absurd h (nI_pos (by omega))) (fun _ => ?_)
      refine lv_aload_n hx hb dd_Mo_next_13 rfl (lv_at hl 2 rfl) ?_
      refine ly_get (v := .ref m3) C hP 0 rfl uw_Mo rfl 4 (by decide) wa_255 rfl dd_Mo_next_14 ?_
      refine lv_aload_n hx hb dd_Mo_next_17 rfl (lv_at hl 2 rfl) ?_
      refine lv_iload_n hx hb dd_Mo_next_18 rfl (lv_at hl 3 rfl) ?_
      refine lv_iload_n hx hb dd_Mo_next_19 rfl (lv_at hl 0 rfl) ?_
      refine ly_cV_i (n := 2) (z := (nI (11 * sg + k9))) (rest := [.ref m3]) (wn := (ws_Mo K mh m1 m2 m3 m4 m5 m6 m7 m8 m9 n xk xa xb xc xe xl xsL9 xgL9 xr xd xt xf xw xpL9 xqL9 xvL9 xoL9)) C (cc_Mo_cell D K mh m1 m2 m3 m4 m5 m6 m7 m8 m9 sg k9 n xk xa xb xc xe xl xsL9 xgL9 xr xd xt xf xw xpL9 xqL9 xvL9 xoL9 (by omega) (by omega) (by omega) (by omega)) rfl wa_289 wa_292 wa_265 wa_293 wa_294 (by decide) (Nat.le_trans (by decide) hRf) (Nat.le_trans (by decide) hRl) rfl hl.1 rfl (Nat.le_of_ble_eq_true rfl) dd_Mo_next_20 hcs [0, 1, 2, 3, 4, 5, 6, 7, 8, 9] [] [0, 1, 2, 3, 4, 5, 6, 7, 8, 9] hP hD hS rfl rfl (by decide) rfl rfl rfl (fun H locs hP hD hS => ?_)
      refine W.eq (g2 := F0 m 23 ls [.int (nI (11 * sg + k9)), .ref m3]) rfl ?_
      refine ly_zald C hP 3 rfl (11 * sg + k9) rfl (by omega) (by omega) dd_Mo_next_23 ?_
      refine lv_if_ne (tgt := 52) hx hb dd_Mo_next_24 (by decide) (fun h24 => ?_) (fun h24 => ?_)
      · rw [if_neg h24] at hM
        refine lv_iinc (k := 0) (v := (nI k9 - 1)) (lv' := [(3, .int (nI k9 - 1)), (2, .int v2L9), (0, .ref mh), (1, .int (nI sg))]) hx hb dd_Mo_next_52 hl rfl (ly_decN _) (by decide) rfl (fun ls hl => ?_)
        refine lv_goto (tgt := 9) hx hb dd_Mo_next_55 (by decide) ?_
        exact ih9 v2L9 xsL9 xgL9 xpL9 xqL9 xvL9 xoL9 ls H locs rs9 (by omega) hM (lv_sub hl [0, 1, 2, 3] rfl) hP hD hS kap9
      · rw [if_pos h24] at hM
        refine lv_aload_n hx hb dd_Mo_next_27 rfl (lv_at hl 2 rfl) ?_
        refine ly_get (v := .ref m5) C hP 0 rfl uw_Mo rfl 6 (by decide) wa_257 rfl dd_Mo_next_28 ?_
        refine lv_aload_n hx hb dd_Mo_next_31 rfl (lv_at hl 2 rfl) ?_
        refine lv_iload_n hx hb dd_Mo_next_32 rfl (lv_at hl 3 rfl) ?_
        refine lv_iload_n hx hb dd_Mo_next_33 rfl (lv_at hl 0 rfl) ?_
        refine ly_cV_i (n := 2) (z := (nI ((5 * sg + k9) % 12))) (rest := [.ref m5]) (wn := (ws_Mo K mh m1 m2 m3 m4 m5 m6 m7 m8 m9 n xk xa xb xc xe xl xsL9 xgL9 xr xd xt xf xw xpL9 xqL9 xvL9 xoL9)) C (cc_Mo_place D K mh m1 m2 m3 m4 m5 m6 m7 m8 m9 sg k9 n xk xa xb xc xe xl xsL9 xgL9 xr xd xt xf xw xpL9 xqL9 xvL9 xoL9 (by omega) (by omega) (by omega) (by omega)) rfl wa_288 wa_297 wa_265 wa_298 wa_299 (by decide) (Nat.le_trans (by decide) hRf) (Nat.le_trans (by decide) hRl) rfl hl.1 rfl (Nat.le_of_ble_eq_true rfl) dd_Mo_next_34 hcs [0, 1, 2, 3, 4, 5, 6, 7, 8, 9] [] [0, 1, 2, 3, 4, 5, 6, 7, 8, 9] hP hD hS rfl rfl (by decide) rfl rfl rfl (fun H locs hP hD hS => ?_)
        refine W.eq (g2 := F0 m 37 ls [.int (nI ((5 * sg + k9) % 12)), .ref m5]) rfl ?_
        refine ly_zald C hP 5 rfl ((5 * sg + k9) % 12) rfl (by omega) (by omega) dd_Mo_next_37 ?_
        refine lv_if_ne (tgt := 52) hx hb dd_Mo_next_38 (by decide) (fun h38 => ?_) (fun h38 => ?_)
        · rw [if_neg h38] at hM
          refine lv_iinc (k := 0) (v := (nI k9 - 1)) (lv' := [(3, .int (nI k9 - 1)), (2, .int v2L9), (0, .ref mh), (1, .int (nI sg))]) hx hb dd_Mo_next_52 hl rfl (ly_decN _) (by decide) rfl (fun ls hl => ?_)
          refine lv_goto (tgt := 9) hx hb dd_Mo_next_55 (by decide) ?_
          exact ih9 v2L9 xsL9 xgL9 xpL9 xqL9 xvL9 xoL9 ls H locs rs9 (by omega) hM (lv_sub hl [0, 1, 2, 3] rfl) hP hD hS kap9
        · rw [if_pos h38] at hM
          refine lv_aload_n hx hb dd_Mo_next_41 rfl (lv_at hl 2 rfl) ?_
          refine lv_iload_n hx hb dd_Mo_next_42 rfl (lv_at hl 3 rfl) ?_
          refine lv_iload_n hx hb dd_Mo_next_43 rfl (lv_at hl 0 rfl) ?_
          obtain ⟨⟨r_44, xs_44, xg_44, xp_44, xq_44, xv_44, xo_44⟩, hq44⟩ : ∃ z, z = mm_Mo_choose sg k9 n xk xgL9 xr xt xpL9 xqL9 xvL9 xoL9 := ⟨_, rfl⟩
          try rw [← hq44] at hM
          try dsimp only at hM
          refine ly_cV_i (n := 2) (z := (r_44, xs_44, xg_44, xp_44, xq_44, xv_44, xo_44)) (rest := []) (wn := (ws_Mo K mh m1 m2 m3 m4 m5 m6 m7 m8 m9 n xk xa xb xc xe xl xs_44 xg_44 xr xd xt xf xw xp_44 xq_44 xv_44 xo_44)) C (cc_Mo_choose D K mh m1 m2 m3 m4 m5 m6 m7 m8 m9 sg k9 n xk xa xb xc xe xl xsL9 xgL9 xr xd xt xf xw xpL9 xqL9 xvL9 xoL9 (by omega) (by omega) (by omega) (by omega)) hq44 wa_321 wa_329 wa_265 wa_330 wa_331 (by decide) (Nat.le_trans (by decide) hRf) (Nat.le_trans (by decide) hRl) rfl hl.1 rfl (Nat.le_of_ble_eq_true rfl) dd_Mo_next_44 hcs [0, 1, 2, 3, 4, 5, 6, 7, 8, 9] [] [0, 1, 2, 3, 4, 5, 6, 7, 8, 9] hP hD hS rfl rfl (by decide) rfl rfl rfl (fun H locs hP hD hS => ?_)
          refine W.eq (g2 := F0 m 47 ls [.int r_44]) rfl ?_
          have hpsc := ps_choose hn hq44
          refine lv_if_eq (tgt := 52) hx hb dd_Mo_next_47 (by decide) (fun h47 => ?_) (fun h47 => ?_)
          · rw [if_pos h47] at hM
            refine lv_iinc (k := 0) (v := (nI k9 - 1)) (lv' := [(3, .int (nI k9 - 1)), (2, .int v2L9), (0, .ref mh), (1, .int (nI sg))]) hx hb dd_Mo_next_52 hl rfl (ly_decN _) (by decide) rfl (fun ls hl => ?_)
            refine lv_goto (tgt := 9) hx hb dd_Mo_next_55 (by decide) ?_
            exact ih9 v2L9 xs_44 xg_44 xp_44 xq_44 xv_44 xo_44 ls H locs rs9 (by omega) hM (lv_sub hl [0, 1, 2, 3] rfl) hP hD hS kap9
          · rw [if_neg h47] at hM
            refine lv_iload_n hx hb dd_Mo_next_50 rfl (lv_at hl 0 rfl) ?_
            refine lv_istore_n (lv' := [(2, .int (nI k9)), (3, .int (nI k9)), (0, .ref mh), (1, .int (nI sg))]) hx hb dd_Mo_next_51 rfl hl (by decide) rfl (fun ls hl => ?_)
            refine lv_iinc (k := 1) (v := (nI k9 - 1)) (lv' := [(3, .int (nI k9 - 1)), (2, .int (nI k9)), (0, .ref mh), (1, .int (nI sg))]) hx hb dd_Mo_next_52 hl rfl (ly_decN _) (by decide) rfl (fun ls hl => ?_)
            refine lv_goto (tgt := 9) hx hb dd_Mo_next_55 (by decide) ?_
            exact ih9 (nI k9) xs_44 xg_44 xp_44 xq_44 xv_44 xo_44 ls H locs rs9 (by omega) hM (lv_sub hl [0, 1, 2, 3] rfl) hP hD hS kap9
  refine lp9 n (-1 : Int32) xs xg xp xq xv xo ls H locs _ (Nat.le_refl _) rfl (lv_sub hl [0, 1, 2, 3] rfl) hP hD hS (fun v2_9 xs_9 xg_9 xp_9 xq_9 xv_9 xo_9 ls H locs hqL9 hl hP hD hS => ?_)
  try rw [← hqL9] at hM
  try dsimp only at hM
  refine lv_iconst (v := (-1 : Int32)) hx hb dd_Mo_next_58 (by decide) ?_
  refine lv_istore_n (lv' := [(3, .int (-1 : Int32)), (2, .int v2_9), (0, .ref mh), (1, .int (nI sg))]) hx hb dd_Mo_next_59 rfl hl (by decide) rfl (fun ls hl => ?_)
  refine lv_aload_n hx hb dd_Mo_next_60 rfl (lv_at hl 2 rfl) ?_
  refine ly_get (v := .int (nI n)) C hP 0 rfl uw_Mo rfl 1 (by decide) wa_263 rfl dd_Mo_next_61 ?_
  refine lv_iconst (v := (1 : Int32)) hx hb dd_Mo_next_64 (by decide) ?_
  refine lv_isub hx hb dd_Mo_next_65 ?_
  refine lv_istore (lv' := [(4, .int ((nI n) - (1 : Int32))), (3, .int (-1 : Int32)), (2, .int v2_9), (0, .ref mh), (1, .int (nI sg))]) hx hb dd_Mo_next_66 hl (by decide) rfl (fun ls hl => ?_)
  have lp68 : ∀ (k68 : Nat) (v3L68 : Int32) (ls : Array Slot) (H : Heap) (locs : List Loc) (rs68 : (Int32)), k68 ≤ n → mm_Mo_next_L68 sg n xk xt xw k68 v3L68 = rs68 → lv_has ls 5 [(4, .int (nI k68 - 1)), (3, .int v3L68), (2, .int v2_9), (0, .ref mh), (1, .int (nI sg))] → va_P D cl_all (ws_Mo K mh m1 m2 m3 m4 m5 m6 m7 m8 m9 n xk xa xb xc xe xl xs_9 xg_9 xr xd xt xf xw xp_9 xq_9 xv_9 xo_9) H → va_D A (ws_Mo K mh m1 m2 m3 m4 m5 m6 m7 m8 m9 n xk xa xb xc xe xl xs_9 xg_9 xr xd xt xf xw xp_9 xq_9 xv_9 xo_9) → va_S A s.heap H locs → (∀ (v3L68 : Int32) (ls : Array Slot) (H : Heap) (locs : List Loc), v3L68 = rs68 → lv_has ls 5 [(3, .int v3L68), (2, .int v2_9), (0, .ref mh), (1, .int (nI sg))] → va_P D cl_all (ws_Mo K mh m1 m2 m3 m4 m5 m6 m7 m8 m9 n xk xa xb xc xe xl xs_9 xg_9 xr xd xt xf xw xp_9 xq_9 xv_9 xo_9) H → va_D A (ws_Mo K mh m1 m2 m3 m4 m5 m6 m7 m8 m9 n xk xa xb xc xe xl xs_9 xg_9 xr xd xt xf xw xp_9 xq_9 xv_9 xo_9) → va_S A s.heap H locs → W p l e R s m av below meth c H locs 0 0 Q (F0 m 126 ls [])) → W p l e R s m av below meth c H locs 0 0 Q (F0 m 68 ls []) := by
    intro k68
    induction k68 with
    | zero =>
      intro v3L68 ls H locs rs68 hkn68 hM hl hP hD hS kap68
      rw [mm_Mo_next_L68] at hM
      refine lv_iload hx hb dd_Mo_next_68 (lv_at hl 0 rfl) ?_
      refine lv_if_lt (tgt := 126) hx hb dd_Mo_next_70 (by decide) (fun _ => ?_) (fun h => absurd (by decide) h)
      exact kap68 v3L68 ls H locs hM (lv_sub hl [1, 2, 3, 4] rfl) hP hD hS
    | succ k68 ih68 =>
      intro v3L68 ls H locs rs68 hkn68 hM hl hP hD hS kap68
      rw [nI_pred] at hl
      rw [mm_Mo_next_L68] at hM
      refine lv_iload hx hb dd_Mo_next_68 (lv_at hl 0 rfl) ?_
      refine lv_if_lt (tgt := 126) hx hb dd_Mo_next_70 (by decide) (fun h => absurd h (nI_pos (by omega))) (fun _ => ?_)
      refine lv_aload_n hx hb dd_Mo_next_73 rfl (lv_at hl 3 rfl) ?_
      refine ly_get (v := .ref m3) C hP 0 rfl uw_Mo rfl 4 (by decide) wa_255 rfl dd_Mo_next_74 ?_
      refine lv_aload_n hx hb dd_Mo_next_77 rfl (lv_at hl 3 rfl) ?_
      refine lv_iload_n hx hb dd_Mo_next_78 rfl (lv_at hl 4 rfl) ?_
      refine lv_iload hx hb dd_Mo_next_79 (lv_at hl 0 rfl) ?_
      refine ly_cV_i (n := 2) (z := (nI (11 * sg + k68))) (rest := [.ref m3]) (wn := (ws_Mo K mh m1 m2 m3 m4 m5 m6 m7 m8 m9 n xk xa xb xc xe xl xs_9 xg_9 xr xd xt xf xw xp_9 xq_9 xv_9 xo_9)) C (cc_Mo_cell D K mh m1 m2 m3 m4 m5 m6 m7 m8 m9 sg k68 n xk xa xb xc xe xl xs_9 xg_9 xr xd xt xf xw xp_9 xq_9 xv_9 xo_9 (by omega) (by omega) (by omega) (by omega)) rfl wa_289 wa_292 wa_265 wa_293 wa_294 (by decide) (Nat.le_trans (by decide) hRf) (Nat.le_trans (by decide) hRl) rfl hl.1 rfl (Nat.le_of_ble_eq_true rfl) dd_Mo_next_81 hcs [0, 1, 2, 3, 4, 5, 6, 7, 8, 9] [] [0, 1, 2, 3, 4, 5, 6, 7, 8, 9] hP hD hS rfl rfl (by decide) rfl rfl rfl (fun H locs hP hD hS => ?_)
      refine W.eq (g2 := F0 m 84 ls [.int (nI (11 * sg + k68)), .ref m3]) rfl ?_
      refine ly_zald C hP 3 rfl (11 * sg + k68) rfl (by omega) (by omega) dd_Mo_next_84 ?_
      refine lv_if_ne (tgt := 118) hx hb dd_Mo_next_85 (by decide) (fun h85 => ?_) (fun h85 => ?_)
      · rw [if_neg h85] at hM
        refine lv_iload_n hx hb dd_Mo_next_118 rfl (lv_at hl 1 rfl) ?_
        refine lv_istore_n (lv' := [(3, .int v3L68), (4, .int (nI k68)), (2, .int v2_9), (0, .ref mh), (1, .int (nI sg))]) hx hb dd_Mo_next_119 rfl hl (by decide) rfl (fun ls hl => ?_)
        refine lv_iinc (k := 1) (v := (nI k68 - 1)) (lv' := [(4, .int (nI k68 - 1)), (3, .int v3L68), (2, .int v2_9), (0, .ref mh), (1, .int (nI sg))]) hx hb dd_Mo_next_120 hl rfl (ly_decN _) (by decide) rfl (fun ls hl => ?_)
        refine lv_goto (tgt := 68) hx hb dd_Mo_next_123 (by decide) ?_
        exact ih68 v3L68 ls H locs rs68 (by omega) hM (lv_sub hl [0, 1, 2, 3, 4] rfl) hP hD hS kap68
      · rw [if_pos h85] at hM
        refine lv_aload_n hx hb dd_Mo_next_88 rfl (lv_at hl 3 rfl) ?_
        refine ly_get (v := .ref m5) C hP 0 rfl uw_Mo rfl 6 (by decide) wa_257 rfl dd_Mo_next_89 ?_
        refine lv_aload_n hx hb dd_Mo_next_92 rfl (lv_at hl 3 rfl) ?_
        refine lv_iload_n hx hb dd_Mo_next_93 rfl (lv_at hl 4 rfl) ?_
        refine lv_iload hx hb dd_Mo_next_94 (lv_at hl 0 rfl) ?_
        refine ly_cV_i (n := 2) (z := (nI ((5 * sg + k68) % 12))) (rest := [.ref m5]) (wn := (ws_Mo K mh m1 m2 m3 m4 m5 m6 m7 m8 m9 n xk xa xb xc xe xl xs_9 xg_9 xr xd xt xf xw xp_9 xq_9 xv_9 xo_9)) C (cc_Mo_place D K mh m1 m2 m3 m4 m5 m6 m7 m8 m9 sg k68 n xk xa xb xc xe xl xs_9 xg_9 xr xd xt xf xw xp_9 xq_9 xv_9 xo_9 (by omega) (by omega) (by omega) (by omega)) rfl wa_288 wa_297 wa_265 wa_298 wa_299 (by decide) (Nat.le_trans (by decide) hRf) (Nat.le_trans (by decide) hRl) rfl hl.1 rfl (Nat.le_of_ble_eq_true rfl) dd_Mo_next_96 hcs [0, 1, 2, 3, 4, 5, 6, 7, 8, 9] [] [0, 1, 2, 3, 4, 5, 6, 7, 8, 9] hP hD hS rfl rfl (by decide) rfl rfl rfl (fun H locs hP hD hS => ?_)
        refine W.eq (g2 := F0 m 99 ls [.int (nI ((5 * sg + k68) % 12)), .ref m5]) rfl ?_
        refine ly_zald C hP 5 rfl ((5 * sg + k68) % 12) rfl (by omega) (by omega) dd_Mo_next_99 ?_
        refine lv_if_ne (tgt := 118) hx hb dd_Mo_next_100 (by decide) (fun h100 => ?_) (fun h100 => ?_)
        · rw [if_neg h100] at hM
          refine lv_iload_n hx hb dd_Mo_next_118 rfl (lv_at hl 1 rfl) ?_
          refine lv_istore_n (lv' := [(3, .int v3L68), (4, .int (nI k68)), (2, .int v2_9), (0, .ref mh), (1, .int (nI sg))]) hx hb dd_Mo_next_119 rfl hl (by decide) rfl (fun ls hl => ?_)
          refine lv_iinc (k := 1) (v := (nI k68 - 1)) (lv' := [(4, .int (nI k68 - 1)), (3, .int v3L68), (2, .int v2_9), (0, .ref mh), (1, .int (nI sg))]) hx hb dd_Mo_next_120 hl rfl (ly_decN _) (by decide) rfl (fun ls hl => ?_)
          refine lv_goto (tgt := 68) hx hb dd_Mo_next_123 (by decide) ?_
          exact ih68 v3L68 ls H locs rs68 (by omega) hM (lv_sub hl [0, 1, 2, 3, 4] rfl) hP hD hS kap68
        · rw [if_pos h100] at hM
          refine lv_aload_n hx hb dd_Mo_next_103 rfl (lv_at hl 3 rfl) ?_
          refine lv_iload_n hx hb dd_Mo_next_104 rfl (lv_at hl 4 rfl) ?_
          refine lv_iload hx hb dd_Mo_next_105 (lv_at hl 0 rfl) ?_
          obtain ⟨r_107, hq107⟩ : ∃ z, z = mm_Mo_local sg k68 n xk xt := ⟨_, rfl⟩
          try rw [← hq107] at hM
          refine ly_cV_i (n := 2) (z := r_107) (rest := []) (wn := (ws_Mo K mh m1 m2 m3 m4 m5 m6 m7 m8 m9 n xk xa xb xc xe xl xs_9 xg_9 xr xd xt xf xw xp_9 xq_9 xv_9 xo_9)) C (cc_Mo_local D K mh m1 m2 m3 m4 m5 m6 m7 m8 m9 sg k68 n xk xa xb xc xe xl xs_9 xg_9 xr xd xt xf xw xp_9 xq_9 xv_9 xo_9 (by omega) (by omega) (by omega) (by omega)) hq107 wa_310 wa_322 wa_265 wa_323 wa_324 (by decide) (Nat.le_trans (by decide) hRf) (Nat.le_trans (by decide) hRl) rfl hl.1 rfl (Nat.le_of_ble_eq_true rfl) dd_Mo_next_107 hcs [0, 1, 2, 3, 4, 5, 6, 7, 8, 9] [] [0, 1, 2, 3, 4, 5, 6, 7, 8, 9] hP hD hS rfl rfl (by decide) rfl rfl rfl (fun H locs hP hD hS => ?_)
          refine W.eq (g2 := F0 m 110 ls [.int r_107]) rfl ?_
          refine lv_if_eq (tgt := 118) hx hb dd_Mo_next_110 (by decide) (fun h110 => ?_) (fun h110 => ?_)
          · rw [if_pos h110] at hM
            refine lv_iload_n hx hb dd_Mo_next_118 rfl (lv_at hl 1 rfl) ?_
            refine lv_istore_n (lv' := [(3, .int v3L68), (4, .int (nI k68)), (2, .int v2_9), (0, .ref mh), (1, .int (nI sg))]) hx hb dd_Mo_next_119 rfl hl (by decide) rfl (fun ls hl => ?_)
            refine lv_iinc (k := 1) (v := (nI k68 - 1)) (lv' := [(4, .int (nI k68 - 1)), (3, .int v3L68), (2, .int v2_9), (0, .ref mh), (1, .int (nI sg))]) hx hb dd_Mo_next_120 hl rfl (ly_decN _) (by decide) rfl (fun ls hl => ?_)
            refine lv_goto (tgt := 68) hx hb dd_Mo_next_123 (by decide) ?_
            exact ih68 v3L68 ls H locs rs68 (by omega) hM (lv_sub hl [0, 1, 2, 3, 4] rfl) hP hD hS kap68
          · rw [if_neg h110] at hM
            refine lv_iload hx hb dd_Mo_next_113 (lv_at hl 0 rfl) ?_
            refine lv_goto (tgt := 119) hx hb dd_Mo_next_115 (by decide) ?_
            refine lv_istore_n (lv' := [(3, .int (nI k68)), (4, .int (nI k68)), (2, .int v2_9), (0, .ref mh), (1, .int (nI sg))]) hx hb dd_Mo_next_119 rfl hl (by decide) rfl (fun ls hl => ?_)
            refine lv_iinc (k := 1) (v := (nI k68 - 1)) (lv' := [(4, .int (nI k68 - 1)), (3, .int (nI k68)), (2, .int v2_9), (0, .ref mh), (1, .int (nI sg))]) hx hb dd_Mo_next_120 hl rfl (ly_decN _) (by decide) rfl (fun ls hl => ?_)
            refine lv_goto (tgt := 68) hx hb dd_Mo_next_123 (by decide) ?_
            exact ih68 (nI k68) ls H locs rs68 (by omega) hM (lv_sub hl [0, 1, 2, 3, 4] rfl) hP hD hS kap68
  refine lp68 n (-1 : Int32) ls H locs _ (Nat.le_refl _) rfl (lv_sub hl [0, 1, 2, 3, 4] rfl) hP hD hS (fun v3_68 ls H locs hqL68 hl hP hD hS => ?_)
  try rw [← hqL68] at hM
  refine lv_iload_n hx hb dd_Mo_next_126 rfl (lv_at hl 0 rfl) ?_
  refine lv_if_lt (tgt := 134) hx hb dd_Mo_next_127 (by decide) (fun h127 => ?_) (fun h127 => ?_)
  · rw [if_pos h127] at hM
    refine lv_iload_n hx hb dd_Mo_next_134 rfl (lv_at hl 1 rfl) ?_
    exact ret (v2_9, xs_9, xg_9, xp_9, xq_9, xv_9, xo_9) H locs 135 ls hM rfl hS hP hD dd_Mo_next_135
  · rw [if_neg h127] at hM
    refine lv_iload_n hx hb dd_Mo_next_130 rfl (lv_at hl 0 rfl) ?_
    refine lv_goto (tgt := 135) hx hb dd_Mo_next_131 (by decide) ?_
    exact ret (v3_68, xs_9, xg_9, xp_9, xq_9, xv_9, xo_9) H locs 135 ls hM rfl hS hP hD dd_Mo_next_135

def mm_Mo_mend_L21 (n : Nat) (xk : Int32) (xr : Nat → Int32) (xw : Nat → Int32) (sg : Nat) : Nat → Nat → (Int32) → (Int32) → (Int32) → (Int32) → (Int32) → (Int32) → (Nat) → (Nat) → (Nat → Int32) → (Nat → Int64) → (Nat → Nat) → (Nat → Int32) → (Nat → Nat) → (Nat → Int32) → Int32 × (Int32) × (Int32) × (Int32) × (Int32) × (Nat) × (Nat) × (Nat → Int32) × (Nat → Int64) × (Nat → Nat) × (Nat → Int32) × (Nat → Nat) × (Nat → Int32)
  | 0, j, v2, v3, xa, xb, xc, xe, xs, xg, xt, xf, xp, xq, xv, xo => (v2, xa, xb, xc, xe, xs, xg, xt, xf, xp, xq, xv, xo)
  | k + 1, j, v2, v3, xa, xb, xc, xe, xs, xg, xt, xf, xp, xq, xv, xo => (if v3 < (0 : Int32) then (v2, xa, xb, xc, xe, xs, xg, xt, xf, xp, xq, xv, xo) else (match mm_Mo_repair (nI sg) v3 n xk xa xb xc xe xs xg xr xt xf xw xp xq xv xo with | (r_36, xa_36, xb_36, xc_36, xe_36, xs_36, xg_36, xt_36, xf_36, xp_36, xq_36, xv_36, xo_36) => (if r_36 ≤ (0 : Int32) then (match mm_Mo_next sg n xk xs_36 xg_36 xr xt_36 xw xp_36 xq_36 xv_36 xo_36 with | (r_51, xs_51, xg_51, xp_51, xq_51, xv_51, xo_51) => (mm_Mo_mend_L21 n xk xr xw sg k (j + 1) (v2 + (0 : Int32)) r_51 xa_36 xb_36 xc_36 xe_36 xs_51 xg_51 xt_36 xf_36 xp_51 xq_51 xv_51 xo_51)) else (match mm_Mo_next sg n xk xs_36 xg_36 xr xt_36 xw xp_36 xq_36 xv_36 xo_36 with | (r_51, xs_51, xg_51, xp_51, xq_51, xv_51, xo_51) => (mm_Mo_mend_L21 n xk xr xw sg k (j + 1) (v2 + (1 : Int32)) r_51 xa_36 xb_36 xc_36 xe_36 xs_51 xg_51 xt_36 xf_36 xp_51 xq_51 xv_51 xo_51)))))
def mm_Mo_mend (x : Int32) (n : Nat) (xk : Int32) (xa : Int32) (xb : Int32) (xc : Int32) (xe : Int32) (xs : Nat) (xg : Nat) (xr : Nat → Int32) (xt : Nat → Int32) (xf : Nat → Int64) (xw : Nat → Int32) (xp : Nat → Nat) (xq : Nat → Int32) (xv : Nat → Nat) (xo : Nat → Int32) : Int32 × (Int32) × (Int32) × (Int32) × (Int32) × (Nat) × (Nat) × (Nat → Int32) × (Nat → Int64) × (Nat → Nat) × (Nat → Int32) × (Nat → Nat) × (Nat → Int32) := (if (mm_Mo_noStripe x) = (0 : Int32) then (match mm_Mo_next (x.toNatClampNeg) n xk xs xg xr xt xw xp xq xv xo with | (r_14, xs_14, xg_14, xp_14, xq_14, xv_14, xo_14) => (mm_Mo_mend_L21 n xk xr xw (x.toNatClampNeg) 50 0 (0 : Int32) r_14 xa xb xc xe xs_14 xg_14 xt xf xp_14 xq_14 xv_14 xo_14)) else ((-1 : Int32), xa, xb, xc, xe, xs, xg, xt, xf, xp, xq, xv, xo))
set_option maxHeartbeats 4000000 in
set_option maxRecDepth 100000 in
theorem cc_Mo_mend {l : Launch} (D : va_G) (K : Nat → ClassId) (mh m1 m2 m3 m4 m5 m6 m7 m8 m9 : Nat) (x : Int32) (n : Nat) (xk : Int32) (xa : Int32) (xb : Int32) (xc : Int32) (xe : Int32) (xl : Int64) (xs : Nat) (xg : Nat) (xr : Nat → Int32) (xd : Nat → Int64) (xt : Nat → Int32) (xf : Nat → Int64) (xw : Nat → Int32) (xp : Nat → Nat) (xq : Nat → Int32) (xv : Nat → Nat) (xo : Nat → Int32) (hn : n ≤ 11) (hn6 : 6 ≤ n) : ly_i l yy_Mo_mend bb_Mo_mend 5 (some .int) 7 165 D K [.ref mh, .int x] (ws_Mo K mh m1 m2 m3 m4 m5 m6 m7 m8 m9 n xk xa xb xc xe xl xs xg xr xd xt xf xw xp xq xv xo) (fun z => z.1) (fun z => (ws_Mo K mh m1 m2 m3 m4 m5 m6 m7 m8 m9 n xk (z.2.1) (z.2.2.1) (z.2.2.2.1) (z.2.2.2.2.1) xl (z.2.2.2.2.2.1) (z.2.2.2.2.2.2.1) xr xd (z.2.2.2.2.2.2.2.1) (z.2.2.2.2.2.2.2.2.1) xw (z.2.2.2.2.2.2.2.2.2.1) (z.2.2.2.2.2.2.2.2.2.2.1) (z.2.2.2.2.2.2.2.2.2.2.2.1) (z.2.2.2.2.2.2.2.2.2.2.2.2))) (mm_Mo_mend x n xk xa xb xc xe xs xg xr xt xf xw xp xq xv xo) := by
  refine ly_entI (by decide) (Nat.le_of_ble_eq_true rfl) ?_
  intro p e s m av below meth c A ls R Q H locs res hM C hRf hRl hS hP hD hl ret
  obtain ⟨hx, hb, -⟩ := id C
  have hcs : 0 ≤ R.cells ∧ 0 ≤ R.slots := ⟨Nat.zero_le _, Nat.zero_le _⟩
  have hl : lv_has ls 5 [(0, .ref mh), (1, .int x)] := hl
  rw [mm_Mo_mend] at hM
  refine lv_aload_n hx hb dd_Mo_mend_0 rfl (lv_at hl 0 rfl) ?_
  refine lv_iload_n hx hb dd_Mo_mend_1 rfl (lv_at hl 1 rfl) ?_
  obtain ⟨r_2, hq2⟩ : ∃ z, z = mm_Mo_noStripe x := ⟨_, rfl⟩
  try rw [← hq2] at hM
  refine ly_cV_i (n := 1) (z := r_2) (rest := []) (wn := (ws_Mo K mh m1 m2 m3 m4 m5 m6 m7 m8 m9 n xk xa xb xc xe xl xs xg xr xd xt xf xw xp xq xv xo)) C (cc_Mo_noStripe D K mh m1 m2 m3 m4 m5 m6 m7 m8 m9 x n xk xa xb xc xe xl xs xg xr xd xt xf xw xp xq xv xo (by omega) (by omega)) hq2 wa_283 wa_285 wa_265 wa_286 wa_287 (by decide) (Nat.le_trans (by decide) hRf) (Nat.le_trans (by decide) hRl) rfl hl.1 rfl (Nat.le_of_ble_eq_true rfl) dd_Mo_mend_2 hcs [0, 1, 2, 3, 4, 5, 6, 7, 8, 9] [] [0, 1, 2, 3, 4, 5, 6, 7, 8, 9] hP hD hS rfl rfl (by decide) rfl rfl rfl (fun H locs hP hD hS => ?_)
  refine W.eq (g2 := F0 m 5 ls [.int r_2]) rfl ?_
  refine lv_if_eq (tgt := 10) hx hb dd_Mo_mend_5 (by decide) (fun h5 => ?_) (fun h5 => ?_)
  · rw [if_pos h5] at hM
    obtain ⟨sg, hs, rfl⟩ := in_noStripe hq2 h5
    try rw [nI_clamp (n := sg) (by omega)] at hM
    refine lv_iconst (v := (0 : Int32)) hx hb dd_Mo_mend_10 (by decide) ?_
    refine lv_istore_n (lv' := [(2, .int (0 : Int32)), (0, .ref mh), (1, .int (nI sg))]) hx hb dd_Mo_mend_11 rfl hl (by decide) rfl (fun ls hl => ?_)
    refine lv_aload_n hx hb dd_Mo_mend_12 rfl (lv_at hl 1 rfl) ?_
    refine lv_iload_n hx hb dd_Mo_mend_13 rfl (lv_at hl 2 rfl) ?_
    obtain ⟨⟨r_14, xs_14, xg_14, xp_14, xq_14, xv_14, xo_14⟩, hq14⟩ : ∃ z, z = mm_Mo_next sg n xk xs xg xr xt xw xp xq xv xo := ⟨_, rfl⟩
    try rw [← hq14] at hM
    try dsimp only at hM
    refine ly_cV_i (n := 1) (z := (r_14, xs_14, xg_14, xp_14, xq_14, xv_14, xo_14)) (rest := []) (wn := (ws_Mo K mh m1 m2 m3 m4 m5 m6 m7 m8 m9 n xk xa xb xc xe xl xs_14 xg_14 xr xd xt xf xw xp_14 xq_14 xv_14 xo_14)) C (cc_Mo_next D K mh m1 m2 m3 m4 m5 m6 m7 m8 m9 sg n xk xa xb xc xe xl xs xg xr xd xt xf xw xp xq xv xo (by omega) (by omega) (by omega)) hq14 wa_356 wa_358 wa_265 wa_359 wa_360 (by decide) (Nat.le_trans (by decide) hRf) (Nat.le_trans (by decide) hRl) rfl hl.1 rfl (Nat.le_of_ble_eq_true rfl) dd_Mo_mend_14 hcs [0, 1, 2, 3, 4, 5, 6, 7, 8, 9] [] [0, 1, 2, 3, 4, 5, 6, 7, 8, 9] hP hD hS rfl rfl (by decide) rfl rfl rfl (fun H locs hP hD hS => ?_)
    refine W.eq (g2 := F0 m 17 ls [.int r_14]) rfl ?_
    refine lv_istore_n (lv' := [(3, .int r_14), (2, .int (0 : Int32)), (0, .ref mh), (1, .int (nI sg))]) hx hb dd_Mo_mend_17 rfl hl (by decide) rfl (fun ls hl => ?_)
    refine lv_iconst (v := (0 : Int32)) hx hb dd_Mo_mend_18 (by decide) ?_
    refine lv_istore (lv' := [(4, .int (0 : Int32)), (3, .int r_14), (2, .int (0 : Int32)), (0, .ref mh), (1, .int (nI sg))]) hx hb dd_Mo_mend_19 hl (by decide) rfl (fun ls hl => ?_)
    have lp21 : ∀ (k : Nat) (j : Nat) (v2 : Int32) (v3 : Int32) (xa : Int32) (xb : Int32) (xc : Int32) (xe : Int32) (xs : Nat) (xg : Nat) (xt : Nat → Int32) (xf : Nat → Int64) (xp : Nat → Nat) (xq : Nat → Int32) (xv : Nat → Nat) (xo : Nat → Int32) (ls : Array Slot) (H : Heap) (locs : List Loc), j + k = 50 → mm_Mo_mend_L21 n xk xr xw sg k j v2 v3 xa xb xc xe xs xg xt xf xp xq xv xo = res → lv_has ls 5 [(4, .int (nI j)), (3, .int v3), (2, .int v2), (0, .ref mh), (1, .int (nI sg))] → va_P D cl_all (ws_Mo K mh m1 m2 m3 m4 m5 m6 m7 m8 m9 n xk xa xb xc xe xl xs xg xr xd xt xf xw xp xq xv xo) H → va_D A (ws_Mo K mh m1 m2 m3 m4 m5 m6 m7 m8 m9 n xk xa xb xc xe xl xs xg xr xd xt xf xw xp xq xv xo) → va_S A s.heap H locs → W p l e R s m av below meth c H locs 0 0 Q (F0 m 21 ls []) := by
      intro k
      induction k with
      | zero =>
        intro j v2 v3 xa xb xc xe xs xg xt xf xp xq xv xo ls H locs hjk21 hM hl hP hD hS
        have hj0 : j = 50 := by omega
        subst j
        rw [mm_Mo_mend_L21] at hM
        refine lv_iload hx hb dd_Mo_mend_21 (lv_at hl 0 rfl) ?_
        refine lv_bipush (v := (50 : Int32)) hx hb dd_Mo_mend_23 (by decide) ?_
        refine lv_icmp_ge (tgt := 61) hx hb dd_Mo_mend_25 (by decide) (fun _ => ?_) (fun h => absurd (nI_le (a := 50) (b := 50) (by omega) (by omega)) h)
        refine lv_iload_n hx hb dd_Mo_mend_61 rfl (lv_at hl 2 rfl) ?_
        exact ret (v2, xa, xb, xc, xe, xs, xg, xt, xf, xp, xq, xv, xo) H locs 62 ls hM rfl hS hP hD dd_Mo_mend_62
      | succ k ih21 =>
        intro j v2 v3 xa xb xc xe xs xg xt xf xp xq xv xo ls H locs hjk21 hM hl hP hD hS
        rw [mm_Mo_mend_L21] at hM
        refine lv_iload hx hb dd_Mo_mend_21 (lv_at hl 0 rfl) ?_
        refine lv_bipush (v := (50 : Int32)) hx hb dd_Mo_mend_23 (by decide) ?_
        refine lv_icmp_ge (tgt := 61) hx hb dd_Mo_mend_25 (by decide) (fun h => absurd h (nI_ge (a := j) (b := 50) (by omega) (by omega))) (fun _ => ?_)
        refine lv_iload_n hx hb dd_Mo_mend_28 rfl (lv_at hl 1 rfl) ?_
        refine lv_if_lt (tgt := 61) hx hb dd_Mo_mend_29 (by decide) (fun h29 => ?_) (fun h29 => ?_)
        · rw [if_pos h29] at hM
          refine lv_iload_n hx hb dd_Mo_mend_61 rfl (lv_at hl 2 rfl) ?_
          exact ret (v2, xa, xb, xc, xe, xs, xg, xt, xf, xp, xq, xv, xo) H locs 62 ls hM rfl hS hP hD dd_Mo_mend_62
        · rw [if_neg h29] at hM
          refine lv_iload_n hx hb dd_Mo_mend_32 rfl (lv_at hl 2 rfl) ?_
          refine lv_aload_n hx hb dd_Mo_mend_33 rfl (lv_at hl 3 rfl) ?_
          refine lv_iload_n hx hb dd_Mo_mend_34 rfl (lv_at hl 4 rfl) ?_
          refine lv_iload_n hx hb dd_Mo_mend_35 rfl (lv_at hl 1 rfl) ?_
          obtain ⟨⟨r_36, xa_36, xb_36, xc_36, xe_36, xs_36, xg_36, xt_36, xf_36, xp_36, xq_36, xv_36, xo_36⟩, hq36⟩ : ∃ z, z = mm_Mo_repair (nI sg) v3 n xk xa xb xc xe xs xg xr xt xf xw xp xq xv xo := ⟨_, rfl⟩
          try rw [← hq36] at hM
          try dsimp only at hM
          refine ly_cV_i (n := 2) (z := (r_36, xa_36, xb_36, xc_36, xe_36, xs_36, xg_36, xt_36, xf_36, xp_36, xq_36, xv_36, xo_36)) (rest := [.int v2]) (wn := (ws_Mo K mh m1 m2 m3 m4 m5 m6 m7 m8 m9 n xk xa_36 xb_36 xc_36 xe_36 xl xs_36 xg_36 xr xd xt_36 xf_36 xw xp_36 xq_36 xv_36 xo_36)) C (cc_Mo_repair D K mh m1 m2 m3 m4 m5 m6 m7 m8 m9 (nI sg) v3 n xk xa xb xc xe xl xs xg xr xd xt xf xw xp xq xv xo (by omega) (by omega)) hq36 wa_355 wa_361 wa_265 wa_362 wa_363 (by decide) (Nat.le_trans (by decide) hRf) (Nat.le_trans (by decide) hRl) rfl hl.1 rfl (Nat.le_of_ble_eq_true rfl) dd_Mo_mend_36 hcs [0, 1, 2, 3, 4, 5, 6, 7, 8, 9] [] [0, 1, 2, 3, 4, 5, 6, 7, 8, 9] hP hD hS rfl rfl (by decide) rfl rfl rfl (fun H locs hP hD hS => ?_)
          refine W.eq (g2 := F0 m 39 ls [.int r_36, .int v2]) rfl ?_
          refine lv_if_le (tgt := 46) hx hb dd_Mo_mend_39 (by decide) (fun h39 => ?_) (fun h39 => ?_)
          · rw [if_pos h39] at hM
            refine lv_iconst (v := (0 : Int32)) hx hb dd_Mo_mend_46 (by decide) ?_
            refine lv_iadd hx hb dd_Mo_mend_47 ?_
            refine lv_istore_n (lv' := [(2, .int (v2 + (0 : Int32))), (4, .int (nI j)), (3, .int v3), (0, .ref mh), (1, .int (nI sg))]) hx hb dd_Mo_mend_48 rfl hl (by decide) rfl (fun ls hl => ?_)
            refine lv_aload_n hx hb dd_Mo_mend_49 rfl (lv_at hl 3 rfl) ?_
            refine lv_iload_n hx hb dd_Mo_mend_50 rfl (lv_at hl 4 rfl) ?_
            obtain ⟨⟨r_51, xs_51, xg_51, xp_51, xq_51, xv_51, xo_51⟩, hq51⟩ : ∃ z, z = mm_Mo_next sg n xk xs_36 xg_36 xr xt_36 xw xp_36 xq_36 xv_36 xo_36 := ⟨_, rfl⟩
            try rw [← hq51] at hM
            try dsimp only at hM
            refine ly_cV_i (n := 1) (z := (r_51, xs_51, xg_51, xp_51, xq_51, xv_51, xo_51)) (rest := []) (wn := (ws_Mo K mh m1 m2 m3 m4 m5 m6 m7 m8 m9 n xk xa_36 xb_36 xc_36 xe_36 xl xs_51 xg_51 xr xd xt_36 xf_36 xw xp_51 xq_51 xv_51 xo_51)) C (cc_Mo_next D K mh m1 m2 m3 m4 m5 m6 m7 m8 m9 sg n xk xa_36 xb_36 xc_36 xe_36 xl xs_36 xg_36 xr xd xt_36 xf_36 xw xp_36 xq_36 xv_36 xo_36 (by omega) (by omega) (by omega)) hq51 wa_356 wa_358 wa_265 wa_359 wa_360 (by decide) (Nat.le_trans (by decide) hRf) (Nat.le_trans (by decide) hRl) rfl hl.1 rfl (Nat.le_of_ble_eq_true rfl) dd_Mo_mend_51 hcs [0, 1, 2, 3, 4, 5, 6, 7, 8, 9] [] [0, 1, 2, 3, 4, 5, 6, 7, 8, 9] hP hD hS rfl rfl (by decide) rfl rfl rfl (fun H locs hP hD hS => ?_)
            refine W.eq (g2 := F0 m 54 ls [.int r_51]) rfl ?_
            refine lv_istore_n (lv' := [(3, .int r_51), (2, .int (v2 + (0 : Int32))), (4, .int (nI j)), (0, .ref mh), (1, .int (nI sg))]) hx hb dd_Mo_mend_54 rfl hl (by decide) rfl (fun ls hl => ?_)
            refine lv_iinc (k := 2) (v := (nI (j + 1))) (lv' := [(4, .int (nI (j + 1))), (3, .int r_51), (2, .int (v2 + (0 : Int32))), (0, .ref mh), (1, .int (nI sg))]) hx hb dd_Mo_mend_55 hl rfl (ly_incN _) (by decide) rfl (fun ls hl => ?_)
            refine lv_goto (tgt := 21) hx hb dd_Mo_mend_58 (by decide) ?_
            exact ih21 (j + 1) (v2 + (0 : Int32)) r_51 xa_36 xb_36 xc_36 xe_36 xs_51 xg_51 xt_36 xf_36 xp_51 xq_51 xv_51 xo_51 ls H locs (by omega) hM (lv_sub hl [0, 1, 2, 3, 4] rfl) hP hD hS
          · rw [if_neg h39] at hM
            refine lv_iconst (v := (1 : Int32)) hx hb dd_Mo_mend_42 (by decide) ?_
            refine lv_goto (tgt := 47) hx hb dd_Mo_mend_43 (by decide) ?_
            refine lv_iadd hx hb dd_Mo_mend_47 ?_
            refine lv_istore_n (lv' := [(2, .int (v2 + (1 : Int32))), (4, .int (nI j)), (3, .int v3), (0, .ref mh), (1, .int (nI sg))]) hx hb dd_Mo_mend_48 rfl hl (by decide) rfl (fun ls hl => ?_)
            refine lv_aload_n hx hb dd_Mo_mend_49 rfl (lv_at hl 3 rfl) ?_
            refine lv_iload_n hx hb dd_Mo_mend_50 rfl (lv_at hl 4 rfl) ?_
            obtain ⟨⟨r_51, xs_51, xg_51, xp_51, xq_51, xv_51, xo_51⟩, hq51⟩ : ∃ z, z = mm_Mo_next sg n xk xs_36 xg_36 xr xt_36 xw xp_36 xq_36 xv_36 xo_36 := ⟨_, rfl⟩
            try rw [← hq51] at hM
            try dsimp only at hM
            refine ly_cV_i (n := 1) (z := (r_51, xs_51, xg_51, xp_51, xq_51, xv_51, xo_51)) (rest := []) (wn := (ws_Mo K mh m1 m2 m3 m4 m5 m6 m7 m8 m9 n xk xa_36 xb_36 xc_36 xe_36 xl xs_51 xg_51 xr xd xt_36 xf_36 xw xp_51 xq_51 xv_51 xo_51)) C (cc_Mo_next D K mh m1 m2 m3 m4 m5 m6 m7 m8 m9 sg n xk xa_36 xb_36 xc_36 xe_36 xl xs_36 xg_36 xr xd xt_36 xf_36 xw xp_36 xq_36 xv_36 xo_36 (by omega) (by omega) (by omega)) hq51 wa_356 wa_358 wa_265 wa_359 wa_360 (by decide) (Nat.le_trans (by decide) hRf) (Nat.le_trans (by decide) hRl) rfl hl.1 rfl (Nat.le_of_ble_eq_true rfl) dd_Mo_mend_51 hcs [0, 1, 2, 3, 4, 5, 6, 7, 8, 9] [] [0, 1, 2, 3, 4, 5, 6, 7, 8, 9] hP hD hS rfl rfl (by decide) rfl rfl rfl (fun H locs hP hD hS => ?_)
            refine W.eq (g2 := F0 m 54 ls [.int r_51]) rfl ?_
            refine lv_istore_n (lv' := [(3, .int r_51), (2, .int (v2 + (1 : Int32))), (4, .int (nI j)), (0, .ref mh), (1, .int (nI sg))]) hx hb dd_Mo_mend_54 rfl hl (by decide) rfl (fun ls hl => ?_)
            refine lv_iinc (k := 2) (v := (nI (j + 1))) (lv' := [(4, .int (nI (j + 1))), (3, .int r_51), (2, .int (v2 + (1 : Int32))), (0, .ref mh), (1, .int (nI sg))]) hx hb dd_Mo_mend_55 hl rfl (ly_incN _) (by decide) rfl (fun ls hl => ?_)
            refine lv_goto (tgt := 21) hx hb dd_Mo_mend_58 (by decide) ?_
            exact ih21 (j + 1) (v2 + (1 : Int32)) r_51 xa_36 xb_36 xc_36 xe_36 xs_51 xg_51 xt_36 xf_36 xp_51 xq_51 xv_51 xo_51 ls H locs (by omega) hM (lv_sub hl [0, 1, 2, 3, 4] rfl) hP hD hS
    exact lp21 50 0 (0 : Int32) r_14 xa xb xc xe xs_14 xg_14 xt xf xp_14 xq_14 xv_14 xo_14 ls H locs (by omega) hM (lv_sub hl [0, 1, 2, 3, 4] rfl) hP hD hS
  · rw [if_neg h5] at hM
    refine lv_iconst (v := (-1 : Int32)) hx hb dd_Mo_mend_8 (by decide) ?_
    exact ret ((-1 : Int32), xa, xb, xc, xe, xs, xg, xt, xf, xp, xq, xv, xo) H locs 9 ls hM rfl hS hP hD dd_Mo_mend_9

def mm_Mo_scrub_L14 (sg : Nat) : Nat → Nat → (Int32) → (Int32) → (Nat → Int32) → (Nat → Int64) → Int32 × (Int32) × (Nat → Int32) × (Nat → Int64)
  | 0, j, v2, xa, xt, xf => (v2, xa, xt, xf)
  | k + 1, j, v2, xa, xt, xf => (if (xt (11 * sg + j)) = (0 : Int32) then (mm_Mo_scrub_L14 sg k (j + 1) (v2 + (0 : Int32)) xa xt xf) else (match mm_Mo_rejected sg j xa xt xf with | (r_40, xa_40, xt_40, xf_40) => (if r_40 = (0 : Int32) then (mm_Mo_scrub_L14 sg k (j + 1) (v2 + (0 : Int32)) xa_40 xt_40 xf_40) else (mm_Mo_scrub_L14 sg k (j + 1) (v2 + (1 : Int32)) xa_40 xt_40 xf_40))))
def mm_Mo_scrub (x : Int32) (n : Nat) (xa : Int32) (xt : Nat → Int32) (xf : Nat → Int64) : Int32 × (Int32) × (Nat → Int32) × (Nat → Int64) := (if (mm_Mo_noStripe x) = (0 : Int32) then (mm_Mo_scrub_L14 (x.toNatClampNeg) n 0 (0 : Int32) xa xt xf) else ((-1 : Int32), xa, xt, xf))
set_option maxHeartbeats 4000000 in
set_option maxRecDepth 100000 in
theorem cc_Mo_scrub {l : Launch} (D : va_G) (K : Nat → ClassId) (mh m1 m2 m3 m4 m5 m6 m7 m8 m9 : Nat) (x : Int32) (n : Nat) (xk : Int32) (xa : Int32) (xb : Int32) (xc : Int32) (xe : Int32) (xl : Int64) (xs : Nat) (xg : Nat) (xr : Nat → Int32) (xd : Nat → Int64) (xt : Nat → Int32) (xf : Nat → Int64) (xw : Nat → Int32) (xp : Nat → Nat) (xq : Nat → Int32) (xv : Nat → Nat) (xo : Nat → Int32) (hn : n ≤ 11) (hn6 : 6 ≤ n) : ly_i l yy_Mo_scrub bb_Mo_scrub 4 (some .int) 2 45 D K [.ref mh, .int x] (ws_Mo K mh m1 m2 m3 m4 m5 m6 m7 m8 m9 n xk xa xb xc xe xl xs xg xr xd xt xf xw xp xq xv xo) (fun z => z.1) (fun z => (ws_Mo K mh m1 m2 m3 m4 m5 m6 m7 m8 m9 n xk (z.2.1) xb xc xe xl xs xg xr xd (z.2.2.1) (z.2.2.2) xw xp xq xv xo)) (mm_Mo_scrub x n xa xt xf) := by
  refine ly_entI (by decide) (Nat.le_of_ble_eq_true rfl) ?_
  intro p e s m av below meth c A ls R Q H locs res hM C hRf hRl hS hP hD hl ret
  obtain ⟨hx, hb, -⟩ := id C
  have hcs : 0 ≤ R.cells ∧ 0 ≤ R.slots := ⟨Nat.zero_le _, Nat.zero_le _⟩
  have hl : lv_has ls 4 [(0, .ref mh), (1, .int x)] := hl
  rw [mm_Mo_scrub] at hM
  refine lv_aload_n hx hb dd_Mo_scrub_0 rfl (lv_at hl 0 rfl) ?_
  refine lv_iload_n hx hb dd_Mo_scrub_1 rfl (lv_at hl 1 rfl) ?_
  obtain ⟨r_2, hq2⟩ : ∃ z, z = mm_Mo_noStripe x := ⟨_, rfl⟩
  try rw [← hq2] at hM
  refine ly_cV_i (n := 1) (z := r_2) (rest := []) (wn := (ws_Mo K mh m1 m2 m3 m4 m5 m6 m7 m8 m9 n xk xa xb xc xe xl xs xg xr xd xt xf xw xp xq xv xo)) C (cc_Mo_noStripe D K mh m1 m2 m3 m4 m5 m6 m7 m8 m9 x n xk xa xb xc xe xl xs xg xr xd xt xf xw xp xq xv xo (by omega) (by omega)) hq2 wa_283 wa_285 wa_265 wa_286 wa_287 (by decide) (Nat.le_trans (by decide) hRf) (Nat.le_trans (by decide) hRl) rfl hl.1 rfl (Nat.le_of_ble_eq_true rfl) dd_Mo_scrub_2 hcs [0, 1, 2, 3, 4, 5, 6, 7, 8, 9] [] [0, 1, 2, 3, 4, 5, 6, 7, 8, 9] hP hD hS rfl rfl (by decide) rfl rfl rfl (fun H locs hP hD hS => ?_)
  refine W.eq (g2 := F0 m 5 ls [.int r_2]) rfl ?_
  refine lv_if_eq (tgt := 10) hx hb dd_Mo_scrub_5 (by decide) (fun h5 => ?_) (fun h5 => ?_)
  · rw [if_pos h5] at hM
    obtain ⟨sg, hs, rfl⟩ := in_noStripe hq2 h5
    try rw [nI_clamp (n := sg) (by omega)] at hM
    refine lv_iconst (v := (0 : Int32)) hx hb dd_Mo_scrub_10 (by decide) ?_
    refine lv_istore_n (lv' := [(2, .int (0 : Int32)), (0, .ref mh), (1, .int (nI sg))]) hx hb dd_Mo_scrub_11 rfl hl (by decide) rfl (fun ls hl => ?_)
    refine lv_iconst (v := (0 : Int32)) hx hb dd_Mo_scrub_12 (by decide) ?_
    refine lv_istore_n (lv' := [(3, .int (0 : Int32)), (2, .int (0 : Int32)), (0, .ref mh), (1, .int (nI sg))]) hx hb dd_Mo_scrub_13 rfl hl (by decide) rfl (fun ls hl => ?_)
    have lp14 : ∀ (k : Nat) (j : Nat) (v2 : Int32) (xa : Int32) (xt : Nat → Int32) (xf : Nat → Int64) (ls : Array Slot) (H : Heap) (locs : List Loc), j + k = n → mm_Mo_scrub_L14 sg k j v2 xa xt xf = res → lv_has ls 4 [(3, .int (nI j)), (2, .int v2), (0, .ref mh), (1, .int (nI sg))] → va_P D cl_all (ws_Mo K mh m1 m2 m3 m4 m5 m6 m7 m8 m9 n xk xa xb xc xe xl xs xg xr xd xt xf xw xp xq xv xo) H → va_D A (ws_Mo K mh m1 m2 m3 m4 m5 m6 m7 m8 m9 n xk xa xb xc xe xl xs xg xr xd xt xf xw xp xq xv xo) → va_S A s.heap H locs → W p l e R s m av below meth c H locs 0 0 Q (F0 m 14 ls []) := by
      intro k
      induction k with
      | zero =>
        intro j v2 xa xt xf ls H locs hjk14 hM hl hP hD hS
        have hj0 : j = n := by omega
        subst j
        rw [mm_Mo_scrub_L14] at hM
        refine lv_iload_n hx hb dd_Mo_scrub_14 rfl (lv_at hl 0 rfl) ?_
        refine lv_aload_n hx hb dd_Mo_scrub_15 rfl (lv_at hl 2 rfl) ?_
        refine ly_get (v := .int (nI n)) C hP 0 rfl uw_Mo rfl 1 (by decide) wa_263 rfl dd_Mo_scrub_16 ?_
        refine lv_icmp_ge (tgt := 59) hx hb dd_Mo_scrub_19 (by decide) (fun _ => ?_) (fun h => absurd (nI_le (a := n) (b := n) (by omega) (by omega)) h)
        refine lv_iload_n hx hb dd_Mo_scrub_59 rfl (lv_at hl 1 rfl) ?_
        exact ret (v2, xa, xt, xf) H locs 60 ls hM rfl hS hP hD dd_Mo_scrub_60
      | succ k ih14 =>
        intro j v2 xa xt xf ls H locs hjk14 hM hl hP hD hS
        rw [mm_Mo_scrub_L14] at hM
        refine lv_iload_n hx hb dd_Mo_scrub_14 rfl (lv_at hl 0 rfl) ?_
        refine lv_aload_n hx hb dd_Mo_scrub_15 rfl (lv_at hl 2 rfl) ?_
        refine ly_get (v := .int (nI n)) C hP 0 rfl uw_Mo rfl 1 (by decide) wa_263 rfl dd_Mo_scrub_16 ?_
        refine lv_icmp_ge (tgt := 59) hx hb dd_Mo_scrub_19 (by decide) (fun h => absurd h (nI_ge (a := j) (b := n) (by omega) (by omega))) (fun _ => ?_)
        refine lv_iload_n hx hb dd_Mo_scrub_22 rfl (lv_at hl 1 rfl) ?_
        refine lv_aload_n hx hb dd_Mo_scrub_23 rfl (lv_at hl 2 rfl) ?_
        refine ly_get (v := .ref m3) C hP 0 rfl uw_Mo rfl 4 (by decide) wa_255 rfl dd_Mo_scrub_24 ?_
        refine lv_aload_n hx hb dd_Mo_scrub_27 rfl (lv_at hl 2 rfl) ?_
        refine lv_iload_n hx hb dd_Mo_scrub_28 rfl (lv_at hl 3 rfl) ?_
        refine lv_iload_n hx hb dd_Mo_scrub_29 rfl (lv_at hl 0 rfl) ?_
        refine ly_cV_i (n := 2) (z := (nI (11 * sg + j))) (rest := [.ref m3, .int v2]) (wn := (ws_Mo K mh m1 m2 m3 m4 m5 m6 m7 m8 m9 n xk xa xb xc xe xl xs xg xr xd xt xf xw xp xq xv xo)) C (cc_Mo_cell D K mh m1 m2 m3 m4 m5 m6 m7 m8 m9 sg j n xk xa xb xc xe xl xs xg xr xd xt xf xw xp xq xv xo (by omega) (by omega) (by omega) (by omega)) rfl wa_289 wa_292 wa_265 wa_293 wa_294 (by decide) (Nat.le_trans (by decide) hRf) (Nat.le_trans (by decide) hRl) rfl hl.1 rfl (Nat.le_of_ble_eq_true rfl) dd_Mo_scrub_30 hcs [0, 1, 2, 3, 4, 5, 6, 7, 8, 9] [] [0, 1, 2, 3, 4, 5, 6, 7, 8, 9] hP hD hS rfl rfl (by decide) rfl rfl rfl (fun H locs hP hD hS => ?_)
        refine W.eq (g2 := F0 m 33 ls [.int (nI (11 * sg + j)), .ref m3, .int v2]) rfl ?_
        refine ly_zald C hP 3 rfl (11 * sg + j) rfl (by omega) (by omega) dd_Mo_scrub_33 ?_
        refine lv_if_eq (tgt := 50) hx hb dd_Mo_scrub_34 (by decide) (fun h34 => ?_) (fun h34 => ?_)
        · rw [if_pos h34] at hM
          refine lv_iconst (v := (0 : Int32)) hx hb dd_Mo_scrub_50 (by decide) ?_
          refine lv_iadd hx hb dd_Mo_scrub_51 ?_
          refine lv_istore_n (lv' := [(2, .int (v2 + (0 : Int32))), (3, .int (nI j)), (0, .ref mh), (1, .int (nI sg))]) hx hb dd_Mo_scrub_52 rfl hl (by decide) rfl (fun ls hl => ?_)
          refine lv_iinc (k := 1) (v := (nI (j + 1))) (lv' := [(3, .int (nI (j + 1))), (2, .int (v2 + (0 : Int32))), (0, .ref mh), (1, .int (nI sg))]) hx hb dd_Mo_scrub_53 hl rfl (ly_incN _) (by decide) rfl (fun ls hl => ?_)
          refine lv_goto (tgt := 14) hx hb dd_Mo_scrub_56 (by decide) ?_
          exact ih14 (j + 1) (v2 + (0 : Int32)) xa xt xf ls H locs (by omega) hM (lv_sub hl [0, 1, 2, 3] rfl) hP hD hS
        · rw [if_neg h34] at hM
          refine lv_aload_n hx hb dd_Mo_scrub_37 rfl (lv_at hl 2 rfl) ?_
          refine lv_iload_n hx hb dd_Mo_scrub_38 rfl (lv_at hl 3 rfl) ?_
          refine lv_iload_n hx hb dd_Mo_scrub_39 rfl (lv_at hl 0 rfl) ?_
          obtain ⟨⟨r_40, xa_40, xt_40, xf_40⟩, hq40⟩ : ∃ z, z = mm_Mo_rejected sg j xa xt xf := ⟨_, rfl⟩
          try rw [← hq40] at hM
          try dsimp only at hM
          refine ly_cV_i (n := 2) (z := (r_40, xa_40, xt_40, xf_40)) (rest := [.int v2]) (wn := (ws_Mo K mh m1 m2 m3 m4 m5 m6 m7 m8 m9 n xk xa_40 xb xc xe xl xs xg xr xd xt_40 xf_40 xw xp xq xv xo)) C (cc_Mo_rejected D K mh m1 m2 m3 m4 m5 m6 m7 m8 m9 sg j n xk xa xb xc xe xl xs xg xr xd xt xf xw xp xq xv xo (by omega) (by omega) (by omega) (by omega)) hq40 wa_290 wa_300 wa_265 wa_301 wa_302 (by decide) (Nat.le_trans (by decide) hRf) (Nat.le_trans (by decide) hRl) rfl hl.1 rfl (Nat.le_of_ble_eq_true rfl) dd_Mo_scrub_40 hcs [0, 1, 2, 3, 4, 5, 6, 7, 8, 9] [] [0, 1, 2, 3, 4, 5, 6, 7, 8, 9] hP hD hS rfl rfl (by decide) rfl rfl rfl (fun H locs hP hD hS => ?_)
          refine W.eq (g2 := F0 m 43 ls [.int r_40, .int v2]) rfl ?_
          refine lv_if_eq (tgt := 50) hx hb dd_Mo_scrub_43 (by decide) (fun h43 => ?_) (fun h43 => ?_)
          · rw [if_pos h43] at hM
            refine lv_iconst (v := (0 : Int32)) hx hb dd_Mo_scrub_50 (by decide) ?_
            refine lv_iadd hx hb dd_Mo_scrub_51 ?_
            refine lv_istore_n (lv' := [(2, .int (v2 + (0 : Int32))), (3, .int (nI j)), (0, .ref mh), (1, .int (nI sg))]) hx hb dd_Mo_scrub_52 rfl hl (by decide) rfl (fun ls hl => ?_)
            refine lv_iinc (k := 1) (v := (nI (j + 1))) (lv' := [(3, .int (nI (j + 1))), (2, .int (v2 + (0 : Int32))), (0, .ref mh), (1, .int (nI sg))]) hx hb dd_Mo_scrub_53 hl rfl (ly_incN _) (by decide) rfl (fun ls hl => ?_)
            refine lv_goto (tgt := 14) hx hb dd_Mo_scrub_56 (by decide) ?_
            exact ih14 (j + 1) (v2 + (0 : Int32)) xa_40 xt_40 xf_40 ls H locs (by omega) hM (lv_sub hl [0, 1, 2, 3] rfl) hP hD hS
          · rw [if_neg h43] at hM
            refine lv_iconst (v := (1 : Int32)) hx hb dd_Mo_scrub_46 (by decide) ?_
            refine lv_goto (tgt := 51) hx hb dd_Mo_scrub_47 (by decide) ?_
            refine lv_iadd hx hb dd_Mo_scrub_51 ?_
            refine lv_istore_n (lv' := [(2, .int (v2 + (1 : Int32))), (3, .int (nI j)), (0, .ref mh), (1, .int (nI sg))]) hx hb dd_Mo_scrub_52 rfl hl (by decide) rfl (fun ls hl => ?_)
            refine lv_iinc (k := 1) (v := (nI (j + 1))) (lv' := [(3, .int (nI (j + 1))), (2, .int (v2 + (1 : Int32))), (0, .ref mh), (1, .int (nI sg))]) hx hb dd_Mo_scrub_53 hl rfl (ly_incN _) (by decide) rfl (fun ls hl => ?_)
            refine lv_goto (tgt := 14) hx hb dd_Mo_scrub_56 (by decide) ?_
            exact ih14 (j + 1) (v2 + (1 : Int32)) xa_40 xt_40 xf_40 ls H locs (by omega) hM (lv_sub hl [0, 1, 2, 3] rfl) hP hD hS
    exact lp14 n 0 (0 : Int32) xa xt xf ls H locs (by omega) hM (lv_sub hl [0, 1, 2, 3] rfl) hP hD hS
  · rw [if_neg h5] at hM
    refine lv_iconst (v := (-1 : Int32)) hx hb dd_Mo_scrub_8 (by decide) ?_
    exact ret ((-1 : Int32), xa, xt, xf) H locs 9 ls hM rfl hS hP hD dd_Mo_scrub_9

def mm_Mo_cost (x : Int32) (y : Int32) (n : Nat) (xk : Int32) (xs : Nat) (xg : Nat) (xr : Nat → Int32) (xt : Nat → Int32) (xp : Nat → Nat) (xq : Nat → Int32) (xv : Nat → Nat) (xo : Nat → Int32) : Int32 × (Nat) × (Nat) × (Nat → Nat) × (Nat → Int32) × (Nat → Nat) × (Nat → Int32) := (if (mm_Mo_noShard x y n) = (0 : Int32) then (if (xt (11 * (x.toNatClampNeg) + (y.toNatClampNeg))) = (0 : Int32) then (match mm_Mo_choose (x.toNatClampNeg) (y.toNatClampNeg) n xk xg xr xt xp xq xv xo with | (r_32, xs_32, xg_32, xp_32, xq_32, xv_32, xo_32) => (if r_32 = (0 : Int32) then ((-4 : Int32), xs_32, xg_32, xp_32, xq_32, xv_32, xo_32) else ((nI xs_32), xs_32, xg_32, xp_32, xq_32, xv_32, xo_32))) else ((0 : Int32), xs, xg, xp, xq, xv, xo)) else ((-1 : Int32), xs, xg, xp, xq, xv, xo))
set_option maxHeartbeats 4000000 in
set_option maxRecDepth 100000 in
theorem cc_Mo_cost {l : Launch} (D : va_G) (K : Nat → ClassId) (mh m1 m2 m3 m4 m5 m6 m7 m8 m9 : Nat) (x : Int32) (y : Int32) (n : Nat) (xk : Int32) (xa : Int32) (xb : Int32) (xc : Int32) (xe : Int32) (xl : Int64) (xs : Nat) (xg : Nat) (xr : Nat → Int32) (xd : Nat → Int64) (xt : Nat → Int32) (xf : Nat → Int64) (xw : Nat → Int32) (xp : Nat → Nat) (xq : Nat → Int32) (xv : Nat → Nat) (xo : Nat → Int32) (hn : n ≤ 11) (hn6 : 6 ≤ n) : ly_i l yy_Mo_cost bb_Mo_cost 3 (some .int) 5 116 D K [.ref mh, .int x, .int y] (ws_Mo K mh m1 m2 m3 m4 m5 m6 m7 m8 m9 n xk xa xb xc xe xl xs xg xr xd xt xf xw xp xq xv xo) (fun z => z.1) (fun z => (ws_Mo K mh m1 m2 m3 m4 m5 m6 m7 m8 m9 n xk xa xb xc xe xl (z.2.1) (z.2.2.1) xr xd xt xf xw (z.2.2.2.1) (z.2.2.2.2.1) (z.2.2.2.2.2.1) (z.2.2.2.2.2.2))) (mm_Mo_cost x y n xk xs xg xr xt xp xq xv xo) := by
  refine ly_entI (by decide) (Nat.le_of_ble_eq_true rfl) ?_
  intro p e s m av below meth c A ls R Q H locs res hM C hRf hRl hS hP hD hl ret
  obtain ⟨hx, hb, -⟩ := id C
  have hcs : 0 ≤ R.cells ∧ 0 ≤ R.slots := ⟨Nat.zero_le _, Nat.zero_le _⟩
  have hl : lv_has ls 3 [(0, .ref mh), (1, .int x), (2, .int y)] := hl
  rw [mm_Mo_cost] at hM
  refine lv_aload_n hx hb dd_Mo_cost_0 rfl (lv_at hl 0 rfl) ?_
  refine lv_iload_n hx hb dd_Mo_cost_1 rfl (lv_at hl 1 rfl) ?_
  refine lv_iload_n hx hb dd_Mo_cost_2 rfl (lv_at hl 2 rfl) ?_
  obtain ⟨r_3, hq3⟩ : ∃ z, z = mm_Mo_noShard x y n := ⟨_, rfl⟩
  try rw [← hq3] at hM
  refine ly_cV_i (n := 2) (z := r_3) (rest := []) (wn := (ws_Mo K mh m1 m2 m3 m4 m5 m6 m7 m8 m9 n xk xa xb xc xe xl xs xg xr xd xt xf xw xp xq xv xo)) C (cc_Mo_noShard D K mh m1 m2 m3 m4 m5 m6 m7 m8 m9 x y n xk xa xb xc xe xl xs xg xr xd xt xf xw xp xq xv xo (by omega) (by omega)) hq3 wa_284 wa_341 wa_265 wa_342 wa_343 (by decide) (Nat.le_trans (by decide) hRf) (Nat.le_trans (by decide) hRl) rfl hl.1 rfl (Nat.le_of_ble_eq_true rfl) dd_Mo_cost_3 hcs [0, 1, 2, 3, 4, 5, 6, 7, 8, 9] [] [0, 1, 2, 3, 4, 5, 6, 7, 8, 9] hP hD hS rfl rfl (by decide) rfl rfl rfl (fun H locs hP hD hS => ?_)
  refine W.eq (g2 := F0 m 6 ls [.int r_3]) rfl ?_
  refine lv_if_eq (tgt := 11) hx hb dd_Mo_cost_6 (by decide) (fun h6 => ?_) (fun h6 => ?_)
  · rw [if_pos h6] at hM
    obtain ⟨sg, hs, rfl, i, hi, rfl⟩ := in_noShard hn hq3 h6
    try rw [nI_clamp (n := sg) (by omega)] at hM
    try rw [nI_clamp (n := i) (by omega)] at hM
    refine lv_aload_n hx hb dd_Mo_cost_11 rfl (lv_at hl 0 rfl) ?_
    refine ly_get (v := .ref m3) C hP 0 rfl uw_Mo rfl 4 (by decide) wa_255 rfl dd_Mo_cost_12 ?_
    refine lv_aload_n hx hb dd_Mo_cost_15 rfl (lv_at hl 0 rfl) ?_
    refine lv_iload_n hx hb dd_Mo_cost_16 rfl (lv_at hl 1 rfl) ?_
    refine lv_iload_n hx hb dd_Mo_cost_17 rfl (lv_at hl 2 rfl) ?_
    refine ly_cV_i (n := 2) (z := (nI (11 * sg + i))) (rest := [.ref m3]) (wn := (ws_Mo K mh m1 m2 m3 m4 m5 m6 m7 m8 m9 n xk xa xb xc xe xl xs xg xr xd xt xf xw xp xq xv xo)) C (cc_Mo_cell D K mh m1 m2 m3 m4 m5 m6 m7 m8 m9 sg i n xk xa xb xc xe xl xs xg xr xd xt xf xw xp xq xv xo (by omega) (by omega) (by omega) (by omega)) rfl wa_289 wa_292 wa_265 wa_293 wa_294 (by decide) (Nat.le_trans (by decide) hRf) (Nat.le_trans (by decide) hRl) rfl hl.1 rfl (Nat.le_of_ble_eq_true rfl) dd_Mo_cost_18 hcs [0, 1, 2, 3, 4, 5, 6, 7, 8, 9] [] [0, 1, 2, 3, 4, 5, 6, 7, 8, 9] hP hD hS rfl rfl (by decide) rfl rfl rfl (fun H locs hP hD hS => ?_)
    refine W.eq (g2 := F0 m 21 ls [.int (nI (11 * sg + i)), .ref m3]) rfl ?_
    refine ly_zald C hP 3 rfl (11 * sg + i) rfl (by omega) (by omega) dd_Mo_cost_21 ?_
    refine lv_if_eq (tgt := 29) hx hb dd_Mo_cost_22 (by decide) (fun h22 => ?_) (fun h22 => ?_)
    · rw [if_pos h22] at hM
      refine lv_aload_n hx hb dd_Mo_cost_29 rfl (lv_at hl 0 rfl) ?_
      refine lv_iload_n hx hb dd_Mo_cost_30 rfl (lv_at hl 1 rfl) ?_
      refine lv_iload_n hx hb dd_Mo_cost_31 rfl (lv_at hl 2 rfl) ?_
      obtain ⟨⟨r_32, xs_32, xg_32, xp_32, xq_32, xv_32, xo_32⟩, hq32⟩ : ∃ z, z = mm_Mo_choose sg i n xk xg xr xt xp xq xv xo := ⟨_, rfl⟩
      try rw [← hq32] at hM
      try dsimp only at hM
      refine ly_cV_i (n := 2) (z := (r_32, xs_32, xg_32, xp_32, xq_32, xv_32, xo_32)) (rest := []) (wn := (ws_Mo K mh m1 m2 m3 m4 m5 m6 m7 m8 m9 n xk xa xb xc xe xl xs_32 xg_32 xr xd xt xf xw xp_32 xq_32 xv_32 xo_32)) C (cc_Mo_choose D K mh m1 m2 m3 m4 m5 m6 m7 m8 m9 sg i n xk xa xb xc xe xl xs xg xr xd xt xf xw xp xq xv xo (by omega) (by omega) (by omega) (by omega)) hq32 wa_321 wa_329 wa_265 wa_330 wa_331 (by decide) (Nat.le_trans (by decide) hRf) (Nat.le_trans (by decide) hRl) rfl hl.1 rfl (Nat.le_of_ble_eq_true rfl) dd_Mo_cost_32 hcs [0, 1, 2, 3, 4, 5, 6, 7, 8, 9] [] [0, 1, 2, 3, 4, 5, 6, 7, 8, 9] hP hD hS rfl rfl (by decide) rfl rfl rfl (fun H locs hP hD hS => ?_)
      refine W.eq (g2 := F0 m 35 ls [.int r_32]) rfl ?_
      have hpsc := ps_choose hn hq32
      refine lv_if_eq (tgt := 45) hx hb dd_Mo_cost_35 (by decide) (fun h35 => ?_) (fun h35 => ?_)
      · rw [if_pos h35] at hM
        refine lv_bipush (v := (-4 : Int32)) hx hb dd_Mo_cost_45 (by decide) ?_
        exact ret ((-4 : Int32), xs_32, xg_32, xp_32, xq_32, xv_32, xo_32) H locs 47 ls hM rfl hS hP hD dd_Mo_cost_47
      · rw [if_neg h35] at hM
        refine lv_aload_n hx hb dd_Mo_cost_38 rfl (lv_at hl 0 rfl) ?_
        refine ly_get (v := .int (nI xs_32)) C hP 0 rfl uw_Mo rfl 12 (by decide) wa_317 rfl dd_Mo_cost_39 ?_
        refine lv_goto (tgt := 47) hx hb dd_Mo_cost_42 (by decide) ?_
        exact ret ((nI xs_32), xs_32, xg_32, xp_32, xq_32, xv_32, xo_32) H locs 47 ls hM rfl hS hP hD dd_Mo_cost_47
    · rw [if_neg h22] at hM
      refine lv_iconst (v := (0 : Int32)) hx hb dd_Mo_cost_25 (by decide) ?_
      refine lv_goto (tgt := 47) hx hb dd_Mo_cost_26 (by decide) ?_
      exact ret ((0 : Int32), xs, xg, xp, xq, xv, xo) H locs 47 ls hM rfl hS hP hD dd_Mo_cost_47
  · rw [if_neg h6] at hM
    refine lv_iconst (v := (-1 : Int32)) hx hb dd_Mo_cost_9 (by decide) ?_
    exact ret ((-1 : Int32), xs, xg, xp, xq, xv, xo) H locs 10 ls hM rfl hS hP hD dd_Mo_cost_10

def mm_Mo_rank (x : Int32) (n : Nat) (xs : Nat) (xg : Nat) (xr : Nat → Int32) (xt : Nat → Int32) (xp : Nat → Nat) (xq : Nat → Int32) (xv : Nat → Nat) (xo : Nat → Int32) : Int32 × (Nat) × (Nat) × (Nat → Nat) × (Nat → Int32) × (Nat → Nat) × (Nat → Int32) := (if (mm_Mo_noStripe x) = (0 : Int32) then (match mm_Mo_goOver (x.toNatClampNeg) n xr xt xp xq xv xo with | (xs_12, xg_12, xp_12, xq_12, xv_12, xo_12) => ((nI xg_12), xs_12, xg_12, xp_12, xq_12, xv_12, xo_12)) else ((-1 : Int32), xs, xg, xp, xq, xv, xo))
set_option maxHeartbeats 4000000 in
set_option maxRecDepth 100000 in
theorem cc_Mo_rank {l : Launch} (D : va_G) (K : Nat → ClassId) (mh m1 m2 m3 m4 m5 m6 m7 m8 m9 : Nat) (x : Int32) (n : Nat) (xk : Int32) (xa : Int32) (xb : Int32) (xc : Int32) (xe : Int32) (xl : Int64) (xs : Nat) (xg : Nat) (xr : Nat → Int32) (xd : Nat → Int64) (xt : Nat → Int32) (xf : Nat → Int64) (xw : Nat → Int32) (xp : Nat → Nat) (xq : Nat → Int32) (xv : Nat → Nat) (xo : Nat → Int32) (hn : n ≤ 11) (hn6 : 6 ≤ n) : ly_i l yy_Mo_rank bb_Mo_rank 2 (some .int) 4 93 D K [.ref mh, .int x] (ws_Mo K mh m1 m2 m3 m4 m5 m6 m7 m8 m9 n xk xa xb xc xe xl xs xg xr xd xt xf xw xp xq xv xo) (fun z => z.1) (fun z => (ws_Mo K mh m1 m2 m3 m4 m5 m6 m7 m8 m9 n xk xa xb xc xe xl (z.2.1) (z.2.2.1) xr xd xt xf xw (z.2.2.2.1) (z.2.2.2.2.1) (z.2.2.2.2.2.1) (z.2.2.2.2.2.2))) (mm_Mo_rank x n xs xg xr xt xp xq xv xo) := by
  refine ly_entI (by decide) (Nat.le_of_ble_eq_true rfl) ?_
  intro p e s m av below meth c A ls R Q H locs res hM C hRf hRl hS hP hD hl ret
  obtain ⟨hx, hb, -⟩ := id C
  have hcs : 0 ≤ R.cells ∧ 0 ≤ R.slots := ⟨Nat.zero_le _, Nat.zero_le _⟩
  have hl : lv_has ls 2 [(0, .ref mh), (1, .int x)] := hl
  rw [mm_Mo_rank] at hM
  refine lv_aload_n hx hb dd_Mo_rank_0 rfl (lv_at hl 0 rfl) ?_
  refine lv_iload_n hx hb dd_Mo_rank_1 rfl (lv_at hl 1 rfl) ?_
  obtain ⟨r_2, hq2⟩ : ∃ z, z = mm_Mo_noStripe x := ⟨_, rfl⟩
  try rw [← hq2] at hM
  refine ly_cV_i (n := 1) (z := r_2) (rest := []) (wn := (ws_Mo K mh m1 m2 m3 m4 m5 m6 m7 m8 m9 n xk xa xb xc xe xl xs xg xr xd xt xf xw xp xq xv xo)) C (cc_Mo_noStripe D K mh m1 m2 m3 m4 m5 m6 m7 m8 m9 x n xk xa xb xc xe xl xs xg xr xd xt xf xw xp xq xv xo (by omega) (by omega)) hq2 wa_283 wa_285 wa_265 wa_286 wa_287 (by decide) (Nat.le_trans (by decide) hRf) (Nat.le_trans (by decide) hRl) rfl hl.1 rfl (Nat.le_of_ble_eq_true rfl) dd_Mo_rank_2 hcs [0, 1, 2, 3, 4, 5, 6, 7, 8, 9] [] [0, 1, 2, 3, 4, 5, 6, 7, 8, 9] hP hD hS rfl rfl (by decide) rfl rfl rfl (fun H locs hP hD hS => ?_)
  refine W.eq (g2 := F0 m 5 ls [.int r_2]) rfl ?_
  refine lv_if_eq (tgt := 10) hx hb dd_Mo_rank_5 (by decide) (fun h5 => ?_) (fun h5 => ?_)
  · rw [if_pos h5] at hM
    obtain ⟨sg, hs, rfl⟩ := in_noStripe hq2 h5
    try rw [nI_clamp (n := sg) (by omega)] at hM
    refine lv_aload_n hx hb dd_Mo_rank_10 rfl (lv_at hl 0 rfl) ?_
    refine lv_iload_n hx hb dd_Mo_rank_11 rfl (lv_at hl 1 rfl) ?_
    obtain ⟨⟨xs_12, xg_12, xp_12, xq_12, xv_12, xo_12⟩, hq12⟩ : ∃ z, z = mm_Mo_goOver sg n xr xt xp xq xv xo := ⟨_, rfl⟩
    try rw [← hq12] at hM
    try dsimp only at hM
    refine ly_cV_v (n := 1) (z := (xs_12, xg_12, xp_12, xq_12, xv_12, xo_12)) (rest := []) (wn := (ws_Mo K mh m1 m2 m3 m4 m5 m6 m7 m8 m9 n xk xa xb xc xe xl xs_12 xg_12 xr xd xt xf xw xp_12 xq_12 xv_12 xo_12)) C (cc_Mo_goOver D K mh m1 m2 m3 m4 m5 m6 m7 m8 m9 sg n xk xa xb xc xe xl xs xg xr xd xt xf xw xp xq xv xo (by omega) (by omega) (by omega)) hq12 wa_316 wa_325 wa_265 wa_326 wa_327 (by decide) (Nat.le_trans (by decide) hRf) (Nat.le_trans (by decide) hRl) rfl hl.1 rfl (Nat.le_of_ble_eq_true rfl) dd_Mo_rank_12 hcs [0, 1, 2, 3, 4, 5, 6, 7, 8, 9] [] [0, 1, 2, 3, 4, 5, 6, 7, 8, 9] hP hD hS rfl rfl (by decide) rfl rfl rfl (fun H locs hP hD hS => ?_)
    refine W.eq (g2 := F0 m 15 ls []) rfl ?_
    refine lv_aload_n hx hb dd_Mo_rank_15 rfl (lv_at hl 0 rfl) ?_
    refine ly_get (v := .int (nI xg_12)) C hP 0 rfl uw_Mo rfl 14 (by decide) wa_315 rfl dd_Mo_rank_16 ?_
    exact ret ((nI xg_12), xs_12, xg_12, xp_12, xq_12, xv_12, xo_12) H locs 19 ls hM rfl hS hP hD dd_Mo_rank_19
  · rw [if_neg h5] at hM
    refine lv_iconst (v := (-1 : Int32)) hx hb dd_Mo_rank_8 (by decide) ?_
    exact ret ((-1 : Int32), xs, xg, xp, xq, xv, xo) H locs 9 ls hM rfl hS hP hD dd_Mo_rank_9

def mm_Mo_lost_L14 (xt : Nat → Int32) (sg : Nat) : Nat → Nat → (Int32) → Int32
  | 0, j, v2 => v2
  | k + 1, j, v2 => (if (xt (11 * sg + j)) = (0 : Int32) then (mm_Mo_lost_L14 xt sg k (j + 1) (v2 ||| ((1 : Int32) <<< ((nI j) &&& 31)))) else (mm_Mo_lost_L14 xt sg k (j + 1) v2))
def mm_Mo_lost (x : Int32) (n : Nat) (xt : Nat → Int32) : Int32 := (if (mm_Mo_noStripe x) = (0 : Int32) then (mm_Mo_lost_L14 xt (x.toNatClampNeg) n 0 (0 : Int32)) else (-1 : Int32))
set_option maxHeartbeats 4000000 in
set_option maxRecDepth 100000 in
theorem cc_Mo_lost {l : Launch} (D : va_G) (K : Nat → ClassId) (mh m1 m2 m3 m4 m5 m6 m7 m8 m9 : Nat) (x : Int32) (n : Nat) (xk : Int32) (xa : Int32) (xb : Int32) (xc : Int32) (xe : Int32) (xl : Int64) (xs : Nat) (xg : Nat) (xr : Nat → Int32) (xd : Nat → Int64) (xt : Nat → Int32) (xf : Nat → Int64) (xw : Nat → Int32) (xp : Nat → Nat) (xq : Nat → Int32) (xv : Nat → Nat) (xo : Nat → Int32) (hn : n ≤ 11) (hn6 : 6 ≤ n) : ly_i l yy_Mo_lost bb_Mo_lost 4 (some .int) 1 22 D K [.ref mh, .int x] (ws_Mo K mh m1 m2 m3 m4 m5 m6 m7 m8 m9 n xk xa xb xc xe xl xs xg xr xd xt xf xw xp xq xv xo) (fun z => z) (fun _ => (ws_Mo K mh m1 m2 m3 m4 m5 m6 m7 m8 m9 n xk xa xb xc xe xl xs xg xr xd xt xf xw xp xq xv xo)) (mm_Mo_lost x n xt) := by
  refine ly_entI (by decide) (Nat.le_of_ble_eq_true rfl) ?_
  intro p e s m av below meth c A ls R Q H locs res hM C hRf hRl hS hP hD hl ret
  obtain ⟨hx, hb, -⟩ := id C
  have hcs : 0 ≤ R.cells ∧ 0 ≤ R.slots := ⟨Nat.zero_le _, Nat.zero_le _⟩
  have hl : lv_has ls 4 [(0, .ref mh), (1, .int x)] := hl
  rw [mm_Mo_lost] at hM
  refine lv_aload_n hx hb dd_Mo_lost_0 rfl (lv_at hl 0 rfl) ?_
  refine lv_iload_n hx hb dd_Mo_lost_1 rfl (lv_at hl 1 rfl) ?_
  obtain ⟨r_2, hq2⟩ : ∃ z, z = mm_Mo_noStripe x := ⟨_, rfl⟩
  try rw [← hq2] at hM
  refine ly_cV_i (n := 1) (z := r_2) (rest := []) (wn := (ws_Mo K mh m1 m2 m3 m4 m5 m6 m7 m8 m9 n xk xa xb xc xe xl xs xg xr xd xt xf xw xp xq xv xo)) C (cc_Mo_noStripe D K mh m1 m2 m3 m4 m5 m6 m7 m8 m9 x n xk xa xb xc xe xl xs xg xr xd xt xf xw xp xq xv xo (by omega) (by omega)) hq2 wa_283 wa_285 wa_265 wa_286 wa_287 (by decide) (Nat.le_trans (by decide) hRf) (Nat.le_trans (by decide) hRl) rfl hl.1 rfl (Nat.le_of_ble_eq_true rfl) dd_Mo_lost_2 hcs [0, 1, 2, 3, 4, 5, 6, 7, 8, 9] [] [0, 1, 2, 3, 4, 5, 6, 7, 8, 9] hP hD hS rfl rfl (by decide) rfl rfl rfl (fun H locs hP hD hS => ?_)
  refine W.eq (g2 := F0 m 5 ls [.int r_2]) rfl ?_
  refine lv_if_eq (tgt := 10) hx hb dd_Mo_lost_5 (by decide) (fun h5 => ?_) (fun h5 => ?_)
  · rw [if_pos h5] at hM
    obtain ⟨sg, hs, rfl⟩ := in_noStripe hq2 h5
    try rw [nI_clamp (n := sg) (by omega)] at hM
    refine lv_iconst (v := (0 : Int32)) hx hb dd_Mo_lost_10 (by decide) ?_
    refine lv_istore_n (lv' := [(2, .int (0 : Int32)), (0, .ref mh), (1, .int (nI sg))]) hx hb dd_Mo_lost_11 rfl hl (by decide) rfl (fun ls hl => ?_)
    refine lv_iconst (v := (0 : Int32)) hx hb dd_Mo_lost_12 (by decide) ?_
    refine lv_istore_n (lv' := [(3, .int (0 : Int32)), (2, .int (0 : Int32)), (0, .ref mh), (1, .int (nI sg))]) hx hb dd_Mo_lost_13 rfl hl (by decide) rfl (fun ls hl => ?_)
    have lp14 : ∀ (k : Nat) (j : Nat) (v2 : Int32) (ls : Array Slot) (H : Heap) (locs : List Loc), j + k = n → mm_Mo_lost_L14 xt sg k j v2 = res → lv_has ls 4 [(3, .int (nI j)), (2, .int v2), (0, .ref mh), (1, .int (nI sg))] → va_P D cl_all (ws_Mo K mh m1 m2 m3 m4 m5 m6 m7 m8 m9 n xk xa xb xc xe xl xs xg xr xd xt xf xw xp xq xv xo) H → va_D A (ws_Mo K mh m1 m2 m3 m4 m5 m6 m7 m8 m9 n xk xa xb xc xe xl xs xg xr xd xt xf xw xp xq xv xo) → va_S A s.heap H locs → W p l e R s m av below meth c H locs 0 0 Q (F0 m 14 ls []) := by
      intro k
      induction k with
      | zero =>
        intro j v2 ls H locs hjk14 hM hl hP hD hS
        have hj0 : j = n := by omega
        subst j
        rw [mm_Mo_lost_L14] at hM
        refine lv_iload_n hx hb dd_Mo_lost_14 rfl (lv_at hl 0 rfl) ?_
        refine lv_aload_n hx hb dd_Mo_lost_15 rfl (lv_at hl 2 rfl) ?_
        refine ly_get (v := .int (nI n)) C hP 0 rfl uw_Mo rfl 1 (by decide) wa_263 rfl dd_Mo_lost_16 ?_
        refine lv_icmp_ge (tgt := 52) hx hb dd_Mo_lost_19 (by decide) (fun _ => ?_) (fun h => absurd (nI_le (a := n) (b := n) (by omega) (by omega)) h)
        refine lv_iload_n hx hb dd_Mo_lost_52 rfl (lv_at hl 1 rfl) ?_
        exact ret v2 H locs 53 ls hM rfl hS hP hD dd_Mo_lost_53
      | succ k ih14 =>
        intro j v2 ls H locs hjk14 hM hl hP hD hS
        rw [mm_Mo_lost_L14] at hM
        refine lv_iload_n hx hb dd_Mo_lost_14 rfl (lv_at hl 0 rfl) ?_
        refine lv_aload_n hx hb dd_Mo_lost_15 rfl (lv_at hl 2 rfl) ?_
        refine ly_get (v := .int (nI n)) C hP 0 rfl uw_Mo rfl 1 (by decide) wa_263 rfl dd_Mo_lost_16 ?_
        refine lv_icmp_ge (tgt := 52) hx hb dd_Mo_lost_19 (by decide) (fun h => absurd h (nI_ge (a := j) (b := n) (by omega) (by omega))) (fun _ => ?_)
        refine lv_aload_n hx hb dd_Mo_lost_22 rfl (lv_at hl 2 rfl) ?_
        refine ly_get (v := .ref m3) C hP 0 rfl uw_Mo rfl 4 (by decide) wa_255 rfl dd_Mo_lost_23 ?_
        refine lv_aload_n hx hb dd_Mo_lost_26 rfl (lv_at hl 2 rfl) ?_
        refine lv_iload_n hx hb dd_Mo_lost_27 rfl (lv_at hl 3 rfl) ?_
        refine lv_iload_n hx hb dd_Mo_lost_28 rfl (lv_at hl 0 rfl) ?_
        refine ly_cV_i (n := 2) (z := (nI (11 * sg + j))) (rest := [.ref m3]) (wn := (ws_Mo K mh m1 m2 m3 m4 m5 m6 m7 m8 m9 n xk xa xb xc xe xl xs xg xr xd xt xf xw xp xq xv xo)) C (cc_Mo_cell D K mh m1 m2 m3 m4 m5 m6 m7 m8 m9 sg j n xk xa xb xc xe xl xs xg xr xd xt xf xw xp xq xv xo (by omega) (by omega) (by omega) (by omega)) rfl wa_289 wa_292 wa_265 wa_293 wa_294 (by decide) (Nat.le_trans (by decide) hRf) (Nat.le_trans (by decide) hRl) rfl hl.1 rfl (Nat.le_of_ble_eq_true rfl) dd_Mo_lost_29 hcs [0, 1, 2, 3, 4, 5, 6, 7, 8, 9] [] [0, 1, 2, 3, 4, 5, 6, 7, 8, 9] hP hD hS rfl rfl (by decide) rfl rfl rfl (fun H locs hP hD hS => ?_)
        refine W.eq (g2 := F0 m 32 ls [.int (nI (11 * sg + j)), .ref m3]) rfl ?_
        refine ly_zald C hP 3 rfl (11 * sg + j) rfl (by omega) (by omega) dd_Mo_lost_32 ?_
        refine lv_if_eq (tgt := 40) hx hb dd_Mo_lost_33 (by decide) (fun h33 => ?_) (fun h33 => ?_)
        · rw [if_pos h33] at hM
          refine lv_iload_n hx hb dd_Mo_lost_40 rfl (lv_at hl 1 rfl) ?_
          refine lv_iconst (v := (1 : Int32)) hx hb dd_Mo_lost_41 (by decide) ?_
          refine lv_iload_n hx hb dd_Mo_lost_42 rfl (lv_at hl 0 rfl) ?_
          refine lv_ishl hx hb dd_Mo_lost_43 ?_
          refine lv_ior hx hb dd_Mo_lost_44 ?_
          refine lv_istore_n (lv' := [(2, .int (v2 ||| ((1 : Int32) <<< ((nI j) &&& 31)))), (3, .int (nI j)), (0, .ref mh), (1, .int (nI sg))]) hx hb dd_Mo_lost_45 rfl hl (by decide) rfl (fun ls hl => ?_)
          refine lv_iinc (k := 1) (v := (nI (j + 1))) (lv' := [(3, .int (nI (j + 1))), (2, .int (v2 ||| ((1 : Int32) <<< ((nI j) &&& 31)))), (0, .ref mh), (1, .int (nI sg))]) hx hb dd_Mo_lost_46 hl rfl (ly_incN _) (by decide) rfl (fun ls hl => ?_)
          refine lv_goto (tgt := 14) hx hb dd_Mo_lost_49 (by decide) ?_
          exact ih14 (j + 1) (v2 ||| ((1 : Int32) <<< ((nI j) &&& 31))) ls H locs (by omega) hM (lv_sub hl [0, 1, 2, 3] rfl) hP hD hS
        · rw [if_neg h33] at hM
          refine lv_iload_n hx hb dd_Mo_lost_36 rfl (lv_at hl 1 rfl) ?_
          refine lv_goto (tgt := 45) hx hb dd_Mo_lost_37 (by decide) ?_
          refine lv_istore_n (lv' := [(2, .int v2), (3, .int (nI j)), (0, .ref mh), (1, .int (nI sg))]) hx hb dd_Mo_lost_45 rfl hl (by decide) rfl (fun ls hl => ?_)
          refine lv_iinc (k := 1) (v := (nI (j + 1))) (lv' := [(3, .int (nI (j + 1))), (2, .int v2), (0, .ref mh), (1, .int (nI sg))]) hx hb dd_Mo_lost_46 hl rfl (ly_incN _) (by decide) rfl (fun ls hl => ?_)
          refine lv_goto (tgt := 14) hx hb dd_Mo_lost_49 (by decide) ?_
          exact ih14 (j + 1) v2 ls H locs (by omega) hM (lv_sub hl [0, 1, 2, 3] rfl) hP hD hS
    exact lp14 n 0 (0 : Int32) ls H locs (by omega) hM (lv_sub hl [0, 1, 2, 3] rfl) hP hD hS
  · rw [if_neg h5] at hM
    refine lv_iconst (v := (-1 : Int32)) hx hb dd_Mo_lost_8 (by decide) ?_
    exact ret (-1 : Int32) H locs 9 ls hM rfl hS hP hD dd_Mo_lost_9

def mm_Mo_content (x : Int32) (y : Int32) (n : Nat) (xr : Nat → Int32) (xd : Nat → Int64) (xt : Nat → Int32) (xf : Nat → Int64) : Int64 := (if (mm_Mo_noShard x y n) = (0 : Int32) then (if (xt (11 * (x.toNatClampNeg) + (y.toNatClampNeg))) = (0 : Int32) then (0 : Int64) else ((mm_Mo_value (x.toNatClampNeg) (y.toNatClampNeg) xr xd) ^^^ (xf (11 * (x.toNatClampNeg) + (y.toNatClampNeg))))) else (0 : Int64))
set_option maxHeartbeats 4000000 in
set_option maxRecDepth 100000 in
theorem cc_Mo_content {l : Launch} (D : va_G) (K : Nat → ClassId) (mh m1 m2 m3 m4 m5 m6 m7 m8 m9 : Nat) (x : Int32) (y : Int32) (n : Nat) (xk : Int32) (xa : Int32) (xb : Int32) (xc : Int32) (xe : Int32) (xl : Int64) (xs : Nat) (xg : Nat) (xr : Nat → Int32) (xd : Nat → Int64) (xt : Nat → Int32) (xf : Nat → Int64) (xw : Nat → Int32) (xp : Nat → Nat) (xq : Nat → Int32) (xv : Nat → Nat) (xo : Nat → Int32) (hn : n ≤ 11) (hn6 : 6 ≤ n) : ly_l l yy_Mo_content bb_Mo_content 3 (some .long) 2 52 D K [.ref mh, .int x, .int y] (ws_Mo K mh m1 m2 m3 m4 m5 m6 m7 m8 m9 n xk xa xb xc xe xl xs xg xr xd xt xf xw xp xq xv xo) (fun z => z) (fun _ => (ws_Mo K mh m1 m2 m3 m4 m5 m6 m7 m8 m9 n xk xa xb xc xe xl xs xg xr xd xt xf xw xp xq xv xo)) (mm_Mo_content x y n xr xd xt xf) := by
  refine ly_entL (by decide) (Nat.le_of_ble_eq_true rfl) ?_
  intro p e s m av below meth c A ls R Q H locs res hM C hRf hRl hS hP hD hl ret
  obtain ⟨hx, hb, -⟩ := id C
  have hcs : 0 ≤ R.cells ∧ 0 ≤ R.slots := ⟨Nat.zero_le _, Nat.zero_le _⟩
  have hl : lv_has ls 3 [(0, .ref mh), (1, .int x), (2, .int y)] := hl
  rw [mm_Mo_content] at hM
  refine lv_aload_n hx hb dd_Mo_content_0 rfl (lv_at hl 0 rfl) ?_
  refine lv_iload_n hx hb dd_Mo_content_1 rfl (lv_at hl 1 rfl) ?_
  refine lv_iload_n hx hb dd_Mo_content_2 rfl (lv_at hl 2 rfl) ?_
  obtain ⟨r_3, hq3⟩ : ∃ z, z = mm_Mo_noShard x y n := ⟨_, rfl⟩
  try rw [← hq3] at hM
  refine ly_cV_i (n := 2) (z := r_3) (rest := []) (wn := (ws_Mo K mh m1 m2 m3 m4 m5 m6 m7 m8 m9 n xk xa xb xc xe xl xs xg xr xd xt xf xw xp xq xv xo)) C (cc_Mo_noShard D K mh m1 m2 m3 m4 m5 m6 m7 m8 m9 x y n xk xa xb xc xe xl xs xg xr xd xt xf xw xp xq xv xo (by omega) (by omega)) hq3 wa_284 wa_341 wa_265 wa_342 wa_343 (by decide) (Nat.le_trans (by decide) hRf) (Nat.le_trans (by decide) hRl) rfl hl.1 rfl (Nat.le_of_ble_eq_true rfl) dd_Mo_content_3 hcs [0, 1, 2, 3, 4, 5, 6, 7, 8, 9] [] [0, 1, 2, 3, 4, 5, 6, 7, 8, 9] hP hD hS rfl rfl (by decide) rfl rfl rfl (fun H locs hP hD hS => ?_)
  refine W.eq (g2 := F0 m 6 ls [.int r_3]) rfl ?_
  refine lv_if_ne (tgt := 23) hx hb dd_Mo_content_6 (by decide) (fun h6 => ?_) (fun h6 => ?_)
  · rw [if_neg h6] at hM
    refine lv_lconst (v := (0 : Int64)) hx hb dd_Mo_content_23 (by decide) ?_
    refine lv_goto (tgt := 45) hx hb dd_Mo_content_24 (by decide) ?_
    exact ret (0 : Int64) H locs 45 ls hM hS hP hD dd_Mo_content_45
  · rw [if_pos h6] at hM
    obtain ⟨sg, hs, rfl, i, hi, rfl⟩ := in_noShard hn hq3 h6
    try rw [nI_clamp (n := sg) (by omega)] at hM
    try rw [nI_clamp (n := i) (by omega)] at hM
    refine lv_aload_n hx hb dd_Mo_content_9 rfl (lv_at hl 0 rfl) ?_
    refine ly_get (v := .ref m3) C hP 0 rfl uw_Mo rfl 4 (by decide) wa_255 rfl dd_Mo_content_10 ?_
    refine lv_aload_n hx hb dd_Mo_content_13 rfl (lv_at hl 0 rfl) ?_
    refine lv_iload_n hx hb dd_Mo_content_14 rfl (lv_at hl 1 rfl) ?_
    refine lv_iload_n hx hb dd_Mo_content_15 rfl (lv_at hl 2 rfl) ?_
    refine ly_cV_i (n := 2) (z := (nI (11 * sg + i))) (rest := [.ref m3]) (wn := (ws_Mo K mh m1 m2 m3 m4 m5 m6 m7 m8 m9 n xk xa xb xc xe xl xs xg xr xd xt xf xw xp xq xv xo)) C (cc_Mo_cell D K mh m1 m2 m3 m4 m5 m6 m7 m8 m9 sg i n xk xa xb xc xe xl xs xg xr xd xt xf xw xp xq xv xo (by omega) (by omega) (by omega) (by omega)) rfl wa_289 wa_292 wa_265 wa_293 wa_294 (by decide) (Nat.le_trans (by decide) hRf) (Nat.le_trans (by decide) hRl) rfl hl.1 rfl (Nat.le_of_ble_eq_true rfl) dd_Mo_content_16 hcs [0, 1, 2, 3, 4, 5, 6, 7, 8, 9] [] [0, 1, 2, 3, 4, 5, 6, 7, 8, 9] hP hD hS rfl rfl (by decide) rfl rfl rfl (fun H locs hP hD hS => ?_)
    refine W.eq (g2 := F0 m 19 ls [.int (nI (11 * sg + i)), .ref m3]) rfl ?_
    refine ly_zald C hP 3 rfl (11 * sg + i) rfl (by omega) (by omega) dd_Mo_content_19 ?_
    refine lv_if_ne (tgt := 27) hx hb dd_Mo_content_20 (by decide) (fun h20 => ?_) (fun h20 => ?_)
    · rw [if_neg h20] at hM
      refine lv_aload_n hx hb dd_Mo_content_27 rfl (lv_at hl 0 rfl) ?_
      refine lv_iload_n hx hb dd_Mo_content_28 rfl (lv_at hl 1 rfl) ?_
      refine lv_iload_n hx hb dd_Mo_content_29 rfl (lv_at hl 2 rfl) ?_
      obtain ⟨r_30, hq30⟩ : ∃ z, z = mm_Mo_value sg i xr xd := ⟨_, rfl⟩
      try rw [← hq30] at hM
      refine ly_cV_l (n := 2) (z := r_30) (rest := []) (wn := (ws_Mo K mh m1 m2 m3 m4 m5 m6 m7 m8 m9 n xk xa xb xc xe xl xs xg xr xd xt xf xw xp xq xv xo)) C (cc_Mo_value D K mh m1 m2 m3 m4 m5 m6 m7 m8 m9 sg i n xk xa xb xc xe xl xs xg xr xd xt xf xw xp xq xv xo (by omega) (by omega) (by omega) (by omega)) hq30 wa_279 wa_347 wa_265 wa_348 wa_349 (by decide) (Nat.le_trans (by decide) hRf) (Nat.le_trans (by decide) hRl) rfl hl.1 rfl (Nat.le_of_ble_eq_true rfl) dd_Mo_content_30 hcs [0, 1, 2, 3, 4, 5, 6, 7, 8, 9] [] [0, 1, 2, 3, 4, 5, 6, 7, 8, 9] hP hD hS rfl rfl (by decide) rfl rfl rfl (fun H locs hP hD hS => ?_)
      refine W.eq (g2 := F0 m 33 ls [.long r_30]) rfl ?_
      refine lv_aload_n hx hb dd_Mo_content_33 rfl (lv_at hl 0 rfl) ?_
      refine ly_get (v := .ref m4) C hP 0 rfl uw_Mo rfl 5 (by decide) wa_256 rfl dd_Mo_content_34 ?_
      refine lv_aload_n hx hb dd_Mo_content_37 rfl (lv_at hl 0 rfl) ?_
      refine lv_iload_n hx hb dd_Mo_content_38 rfl (lv_at hl 1 rfl) ?_
      refine lv_iload_n hx hb dd_Mo_content_39 rfl (lv_at hl 2 rfl) ?_
      refine ly_cV_i (n := 2) (z := (nI (11 * sg + i))) (rest := [.ref m4, .long r_30]) (wn := (ws_Mo K mh m1 m2 m3 m4 m5 m6 m7 m8 m9 n xk xa xb xc xe xl xs xg xr xd xt xf xw xp xq xv xo)) C (cc_Mo_cell D K mh m1 m2 m3 m4 m5 m6 m7 m8 m9 sg i n xk xa xb xc xe xl xs xg xr xd xt xf xw xp xq xv xo (by omega) (by omega) (by omega) (by omega)) rfl wa_289 wa_292 wa_265 wa_293 wa_294 (by decide) (Nat.le_trans (by decide) hRf) (Nat.le_trans (by decide) hRl) rfl hl.1 rfl (Nat.le_of_ble_eq_true rfl) dd_Mo_content_40 hcs [0, 1, 2, 3, 4, 5, 6, 7, 8, 9] [] [0, 1, 2, 3, 4, 5, 6, 7, 8, 9] hP hD hS rfl rfl (by decide) rfl rfl rfl (fun H locs hP hD hS => ?_)
      refine W.eq (g2 := F0 m 43 ls [.int (nI (11 * sg + i)), .ref m4, .long r_30]) rfl ?_
      refine ly_lald C hP 4 rfl (11 * sg + i) rfl (by omega) (by omega) dd_Mo_content_43 ?_
      refine lv_lxor hx hb dd_Mo_content_44 ?_
      exact ret (r_30 ^^^ (xf (11 * sg + i))) H locs 45 ls hM hS hP hD dd_Mo_content_45
    · rw [if_pos h20] at hM
      refine lv_lconst (v := (0 : Int64)) hx hb dd_Mo_content_23 (by decide) ?_
      refine lv_goto (tgt := 45) hx hb dd_Mo_content_24 (by decide) ?_
      exact ret (0 : Int64) H locs 45 ls hM hS hP hD dd_Mo_content_45

def mm_Mo_node (x : Int32) (y : Int32) (n : Nat) : Int32 := (if (mm_Mo_noShard x y n) = (0 : Int32) then (nI ((5 * (x.toNatClampNeg) + (y.toNatClampNeg)) % 12)) else (-1 : Int32))
set_option maxHeartbeats 4000000 in
set_option maxRecDepth 100000 in
theorem cc_Mo_node {l : Launch} (D : va_G) (K : Nat → ClassId) (mh m1 m2 m3 m4 m5 m6 m7 m8 m9 : Nat) (x : Int32) (y : Int32) (n : Nat) (xk : Int32) (xa : Int32) (xb : Int32) (xc : Int32) (xe : Int32) (xl : Int64) (xs : Nat) (xg : Nat) (xr : Nat → Int32) (xd : Nat → Int64) (xt : Nat → Int32) (xf : Nat → Int64) (xw : Nat → Int32) (xp : Nat → Nat) (xq : Nat → Int32) (xv : Nat → Nat) (xo : Nat → Int32) (hn : n ≤ 11) (hn6 : 6 ≤ n) : ly_i l yy_Mo_node bb_Mo_node 3 (some .int) 2 43 D K [.ref mh, .int x, .int y] (ws_Mo K mh m1 m2 m3 m4 m5 m6 m7 m8 m9 n xk xa xb xc xe xl xs xg xr xd xt xf xw xp xq xv xo) (fun z => z) (fun _ => (ws_Mo K mh m1 m2 m3 m4 m5 m6 m7 m8 m9 n xk xa xb xc xe xl xs xg xr xd xt xf xw xp xq xv xo)) (mm_Mo_node x y n) := by
  refine ly_entI (by decide) (Nat.le_of_ble_eq_true rfl) ?_
  intro p e s m av below meth c A ls R Q H locs res hM C hRf hRl hS hP hD hl ret
  obtain ⟨hx, hb, -⟩ := id C
  have hcs : 0 ≤ R.cells ∧ 0 ≤ R.slots := ⟨Nat.zero_le _, Nat.zero_le _⟩
  have hl : lv_has ls 3 [(0, .ref mh), (1, .int x), (2, .int y)] := hl
  rw [mm_Mo_node] at hM
  refine lv_aload_n hx hb dd_Mo_node_0 rfl (lv_at hl 0 rfl) ?_
  refine lv_iload_n hx hb dd_Mo_node_1 rfl (lv_at hl 1 rfl) ?_
  refine lv_iload_n hx hb dd_Mo_node_2 rfl (lv_at hl 2 rfl) ?_
  obtain ⟨r_3, hq3⟩ : ∃ z, z = mm_Mo_noShard x y n := ⟨_, rfl⟩
  try rw [← hq3] at hM
  refine ly_cV_i (n := 2) (z := r_3) (rest := []) (wn := (ws_Mo K mh m1 m2 m3 m4 m5 m6 m7 m8 m9 n xk xa xb xc xe xl xs xg xr xd xt xf xw xp xq xv xo)) C (cc_Mo_noShard D K mh m1 m2 m3 m4 m5 m6 m7 m8 m9 x y n xk xa xb xc xe xl xs xg xr xd xt xf xw xp xq xv xo (by omega) (by omega)) hq3 wa_284 wa_341 wa_265 wa_342 wa_343 (by decide) (Nat.le_trans (by decide) hRf) (Nat.le_trans (by decide) hRl) rfl hl.1 rfl (Nat.le_of_ble_eq_true rfl) dd_Mo_node_3 hcs [0, 1, 2, 3, 4, 5, 6, 7, 8, 9] [] [0, 1, 2, 3, 4, 5, 6, 7, 8, 9] hP hD hS rfl rfl (by decide) rfl rfl rfl (fun H locs hP hD hS => ?_)
  refine W.eq (g2 := F0 m 6 ls [.int r_3]) rfl ?_
  refine lv_if_eq (tgt := 13) hx hb dd_Mo_node_6 (by decide) (fun h6 => ?_) (fun h6 => ?_)
  · rw [if_pos h6] at hM
    obtain ⟨sg, hs, rfl, i, hi, rfl⟩ := in_noShard hn hq3 h6
    try rw [nI_clamp (n := sg) (by omega)] at hM
    try rw [nI_clamp (n := i) (by omega)] at hM
    refine lv_aload_n hx hb dd_Mo_node_13 rfl (lv_at hl 0 rfl) ?_
    refine lv_iload_n hx hb dd_Mo_node_14 rfl (lv_at hl 1 rfl) ?_
    refine lv_iload_n hx hb dd_Mo_node_15 rfl (lv_at hl 2 rfl) ?_
    refine ly_cV_i (n := 2) (z := (nI ((5 * sg + i) % 12))) (rest := []) (wn := (ws_Mo K mh m1 m2 m3 m4 m5 m6 m7 m8 m9 n xk xa xb xc xe xl xs xg xr xd xt xf xw xp xq xv xo)) C (cc_Mo_place D K mh m1 m2 m3 m4 m5 m6 m7 m8 m9 sg i n xk xa xb xc xe xl xs xg xr xd xt xf xw xp xq xv xo (by omega) (by omega) (by omega) (by omega)) rfl wa_288 wa_297 wa_265 wa_298 wa_299 (by decide) (Nat.le_trans (by decide) hRf) (Nat.le_trans (by decide) hRl) rfl hl.1 rfl (Nat.le_of_ble_eq_true rfl) dd_Mo_node_16 hcs [0, 1, 2, 3, 4, 5, 6, 7, 8, 9] [] [0, 1, 2, 3, 4, 5, 6, 7, 8, 9] hP hD hS rfl rfl (by decide) rfl rfl rfl (fun H locs hP hD hS => ?_)
    refine W.eq (g2 := F0 m 19 ls [.int (nI ((5 * sg + i) % 12))]) rfl ?_
    exact ret (nI ((5 * sg + i) % 12)) H locs 19 ls hM rfl hS hP hD dd_Mo_node_19
  · rw [if_neg h6] at hM
    refine lv_iconst (v := (-1 : Int32)) hx hb dd_Mo_node_9 (by decide) ?_
    refine lv_goto (tgt := 19) hx hb dd_Mo_node_10 (by decide) ?_
    exact ret (-1 : Int32) H locs 19 ls hM rfl hS hP hD dd_Mo_node_19

def mm_Mo_up (x : Int32) (xw : Nat → Int32) : Int32 := (if x < (0 : Int32) then (0 : Int32) else (if (12 : Int32) ≤ x then (0 : Int32) else (if (xw (x.toNatClampNeg)) = (0 : Int32) then (1 : Int32) else (0 : Int32))))
set_option maxHeartbeats 4000000 in
set_option maxRecDepth 100000 in
theorem cc_Mo_up {l : Launch} (D : va_G) (K : Nat → ClassId) (mh m1 m2 m3 m4 m5 m6 m7 m8 m9 : Nat) (x : Int32) (n : Nat) (xk : Int32) (xa : Int32) (xb : Int32) (xc : Int32) (xe : Int32) (xl : Int64) (xs : Nat) (xg : Nat) (xr : Nat → Int32) (xd : Nat → Int64) (xt : Nat → Int32) (xf : Nat → Int64) (xw : Nat → Int32) (xp : Nat → Nat) (xq : Nat → Int32) (xv : Nat → Nat) (xo : Nat → Int32) (hn : n ≤ 11) (hn6 : 6 ≤ n) : ly_i l yy_Mo_up bb_Mo_up 2 (some .boolean) 0 0 D K [.ref mh, .int x] (ws_Mo K mh m1 m2 m3 m4 m5 m6 m7 m8 m9 n xk xa xb xc xe xl xs xg xr xd xt xf xw xp xq xv xo) (fun z => z) (fun _ => (ws_Mo K mh m1 m2 m3 m4 m5 m6 m7 m8 m9 n xk xa xb xc xe xl xs xg xr xd xt xf xw xp xq xv xo)) (mm_Mo_up x xw) := by
  refine ly_entI (by decide) (Nat.le_of_ble_eq_true rfl) ?_
  intro p e s m av below meth c A ls R Q H locs res hM C hRf hRl hS hP hD hl ret
  obtain ⟨hx, hb, -⟩ := id C
  have hcs : 0 ≤ R.cells ∧ 0 ≤ R.slots := ⟨Nat.zero_le _, Nat.zero_le _⟩
  have hl : lv_has ls 2 [(0, .ref mh), (1, .int x)] := hl
  rw [mm_Mo_up] at hM
  refine lv_iload_n hx hb dd_Mo_up_0 rfl (lv_at hl 1 rfl) ?_
  refine lv_if_lt (tgt := 23) hx hb dd_Mo_up_1 (by decide) (fun h1 => ?_) (fun h1 => ?_)
  · rw [if_pos h1] at hM
    refine lv_iconst (v := (0 : Int32)) hx hb dd_Mo_up_23 (by decide) ?_
    exact ret (0 : Int32) H locs 24 ls hM ly_z0 hS hP hD dd_Mo_up_24
  · rw [if_neg h1] at hM
    refine lv_iload_n hx hb dd_Mo_up_4 rfl (lv_at hl 1 rfl) ?_
    refine lv_bipush (v := (12 : Int32)) hx hb dd_Mo_up_5 (by decide) ?_
    refine lv_icmp_ge (tgt := 23) hx hb dd_Mo_up_7 (by decide) (fun h7 => ?_) (fun h7 => ?_)
    · rw [if_pos h7] at hM
      refine lv_iconst (v := (0 : Int32)) hx hb dd_Mo_up_23 (by decide) ?_
      exact ret (0 : Int32) H locs 24 ls hM ly_z0 hS hP hD dd_Mo_up_24
    · rw [if_neg h7] at hM
      obtain ⟨q, hq0, rfl⟩ := ly_rng2 (N := 12) h1 h7 (by decide)
      try rw [nI_clamp (n := q) (by omega)] at hM
      refine lv_aload_n hx hb dd_Mo_up_10 rfl (lv_at hl 0 rfl) ?_
      refine ly_get (v := .ref m5) C hP 0 rfl uw_Mo rfl 6 (by decide) wa_257 rfl dd_Mo_up_11 ?_
      refine lv_iload_n hx hb dd_Mo_up_14 rfl (lv_at hl 1 rfl) ?_
      refine ly_zald C hP 5 rfl q rfl (by omega) (by omega) dd_Mo_up_15 ?_
      refine lv_if_ne (tgt := 23) hx hb dd_Mo_up_16 (by decide) (fun h16 => ?_) (fun h16 => ?_)
      · rw [if_neg h16] at hM
        refine lv_iconst (v := (0 : Int32)) hx hb dd_Mo_up_23 (by decide) ?_
        exact ret (0 : Int32) H locs 24 ls hM ly_z0 hS hP hD dd_Mo_up_24
      · rw [if_pos h16] at hM
        refine lv_iconst (v := (1 : Int32)) hx hb dd_Mo_up_19 (by decide) ?_
        refine lv_goto (tgt := 24) hx hb dd_Mo_up_20 (by decide) ?_
        exact ret (1 : Int32) H locs 24 ls hM ly_z1 hS hP hD dd_Mo_up_24

def mm_Mo_count (x : Int32) (xa : Int32) (xb : Int32) (xc : Int32) (xe : Int32) : Int32 := (if x = (0 : Int32) then xa else (if x = (1 : Int32) then xb else (if x = (2 : Int32) then xc else (if x = (3 : Int32) then xe else (-1 : Int32)))))
set_option maxHeartbeats 4000000 in
set_option maxRecDepth 100000 in
theorem cc_Mo_count {l : Launch} (D : va_G) (K : Nat → ClassId) (mh m1 m2 m3 m4 m5 m6 m7 m8 m9 : Nat) (x : Int32) (n : Nat) (xk : Int32) (xa : Int32) (xb : Int32) (xc : Int32) (xe : Int32) (xl : Int64) (xs : Nat) (xg : Nat) (xr : Nat → Int32) (xd : Nat → Int64) (xt : Nat → Int32) (xf : Nat → Int64) (xw : Nat → Int32) (xp : Nat → Nat) (xq : Nat → Int32) (xv : Nat → Nat) (xo : Nat → Int32) (hn : n ≤ 11) (hn6 : 6 ≤ n) : ly_i l yy_Mo_count bb_Mo_count 2 (some .int) 0 0 D K [.ref mh, .int x] (ws_Mo K mh m1 m2 m3 m4 m5 m6 m7 m8 m9 n xk xa xb xc xe xl xs xg xr xd xt xf xw xp xq xv xo) (fun z => z) (fun _ => (ws_Mo K mh m1 m2 m3 m4 m5 m6 m7 m8 m9 n xk xa xb xc xe xl xs xg xr xd xt xf xw xp xq xv xo)) (mm_Mo_count x xa xb xc xe) := by
  refine ly_entI (by decide) (Nat.le_of_ble_eq_true rfl) ?_
  intro p e s m av below meth c A ls R Q H locs res hM C hRf hRl hS hP hD hl ret
  obtain ⟨hx, hb, -⟩ := id C
  have hcs : 0 ≤ R.cells ∧ 0 ≤ R.slots := ⟨Nat.zero_le _, Nat.zero_le _⟩
  have hl : lv_has ls 2 [(0, .ref mh), (1, .int x)] := hl
  rw [mm_Mo_count] at hM
  refine lv_iload_n hx hb dd_Mo_count_0 rfl (lv_at hl 1 rfl) ?_
  by_cases hs1_0 : x = (0 : Int32)
  · rw [if_pos hs1_0] at hM
    refine lv_tableIn (tgt := 32) hx hb dd_Mo_count_1 (by rw [hs1_0]; decide) (by rw [hs1_0]; decide) (by rw [hs1_0]; rfl) (by decide) ?_
    refine lv_aload_n hx hb dd_Mo_count_32 rfl (lv_at hl 0 rfl) ?_
    refine ly_get (v := .int xa) C hP 0 rfl uw_Mo rfl 7 (by decide) wa_291 rfl dd_Mo_count_33 ?_
    exact ret xa H locs 36 ls hM rfl hS hP hD dd_Mo_count_36
  · rw [if_neg hs1_0] at hM
    by_cases hs1_1 : x = (1 : Int32)
    · rw [if_pos hs1_1] at hM
      refine lv_tableIn (tgt := 37) hx hb dd_Mo_count_1 (by rw [hs1_1]; decide) (by rw [hs1_1]; decide) (by rw [hs1_1]; rfl) (by decide) ?_
      refine lv_aload_n hx hb dd_Mo_count_37 rfl (lv_at hl 0 rfl) ?_
      refine ly_get (v := .int xb) C hP 0 rfl uw_Mo rfl 8 (by decide) wa_304 rfl dd_Mo_count_38 ?_
      exact ret xb H locs 41 ls hM rfl hS hP hD dd_Mo_count_41
    · rw [if_neg hs1_1] at hM
      by_cases hs1_2 : x = (2 : Int32)
      · rw [if_pos hs1_2] at hM
        refine lv_tableIn (tgt := 42) hx hb dd_Mo_count_1 (by rw [hs1_2]; decide) (by rw [hs1_2]; decide) (by rw [hs1_2]; rfl) (by decide) ?_
        refine lv_aload_n hx hb dd_Mo_count_42 rfl (lv_at hl 0 rfl) ?_
        refine ly_get (v := .int xc) C hP 0 rfl uw_Mo rfl 9 (by decide) wa_296 rfl dd_Mo_count_43 ?_
        exact ret xc H locs 46 ls hM rfl hS hP hD dd_Mo_count_46
      · rw [if_neg hs1_2] at hM
        by_cases hs1_3 : x = (3 : Int32)
        · rw [if_pos hs1_3] at hM
          refine lv_tableIn (tgt := 47) hx hb dd_Mo_count_1 (by rw [hs1_3]; decide) (by rw [hs1_3]; decide) (by rw [hs1_3]; rfl) (by decide) ?_
          refine lv_aload_n hx hb dd_Mo_count_47 rfl (lv_at hl 0 rfl) ?_
          refine ly_get (v := .int xe) C hP 0 rfl uw_Mo rfl 10 (by decide) wa_332 rfl dd_Mo_count_48 ?_
          exact ret xe H locs 51 ls hM rfl hS hP hD dd_Mo_count_51
        · rw [if_neg hs1_3] at hM
          refine lv_tableOut (tgt := 52) hx hb dd_Mo_count_1 (sw_out4 hs1_0 hs1_1 hs1_2 hs1_3) (by decide) ?_
          refine lv_iconst (v := (-1 : Int32)) hx hb dd_Mo_count_52 (by decide) ?_
          exact ret (-1 : Int32) H locs 53 ls hM rfl hS hP hD dd_Mo_count_53

def mm_Mo_size (n : Nat) : Int32 := (nI n)
set_option maxHeartbeats 4000000 in
set_option maxRecDepth 100000 in
theorem cc_Mo_size {l : Launch} (D : va_G) (K : Nat → ClassId) (mh m1 m2 m3 m4 m5 m6 m7 m8 m9 : Nat) (n : Nat) (xk : Int32) (xa : Int32) (xb : Int32) (xc : Int32) (xe : Int32) (xl : Int64) (xs : Nat) (xg : Nat) (xr : Nat → Int32) (xd : Nat → Int64) (xt : Nat → Int32) (xf : Nat → Int64) (xw : Nat → Int32) (xp : Nat → Nat) (xq : Nat → Int32) (xv : Nat → Nat) (xo : Nat → Int32) (hn : n ≤ 11) (hn6 : 6 ≤ n) : ly_i l yy_Mo_size bb_Mo_size 1 (some .int) 0 0 D K [.ref mh] (ws_Mo K mh m1 m2 m3 m4 m5 m6 m7 m8 m9 n xk xa xb xc xe xl xs xg xr xd xt xf xw xp xq xv xo) (fun z => z) (fun _ => (ws_Mo K mh m1 m2 m3 m4 m5 m6 m7 m8 m9 n xk xa xb xc xe xl xs xg xr xd xt xf xw xp xq xv xo)) (mm_Mo_size n) := by
  refine ly_entI (by decide) (Nat.le_of_ble_eq_true rfl) ?_
  intro p e s m av below meth c A ls R Q H locs res hM C hRf hRl hS hP hD hl ret
  obtain ⟨hx, hb, -⟩ := id C
  have hcs : 0 ≤ R.cells ∧ 0 ≤ R.slots := ⟨Nat.zero_le _, Nat.zero_le _⟩
  have hl : lv_has ls 1 [(0, .ref mh)] := hl
  rw [mm_Mo_size] at hM
  refine lv_aload_n hx hb dd_Mo_size_0 rfl (lv_at hl 0 rfl) ?_
  refine ly_get (v := .int (nI n)) C hP 0 rfl uw_Mo rfl 1 (by decide) wa_263 rfl dd_Mo_size_1 ?_
  exact ret (nI n) H locs 4 ls hM rfl hS hP hD dd_Mo_size_4
