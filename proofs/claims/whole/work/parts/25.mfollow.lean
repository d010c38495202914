def mm_Mo_follow_L43 (sg : Nat) (i : Nat) (n : Nat) (xp_15 : Nat → Nat) : Nat → Nat → (Int32) → (Int32) → (Int32) → (Nat → Int32) → (Nat → Int64) → (Int32) × (Int32) × (Int32) × (Nat → Int32) × (Nat → Int64)
  | 0, j43, v5L43, xaL43, xcL43, xtL43, xfL43 => (v5L43, xaL43, xcL43, xtL43, xfL43)
  | k43 + 1, j43, v5L43, xaL43, xcL43, xtL43, xfL43 => (if v5L43 = (0 : Int32) then (v5L43, xaL43, xcL43, xtL43, xfL43) else (match mm_Mo_rejectedFor sg (xp_15 j43 % n) i xaL43 xcL43 xtL43 xfL43 with | (r_67, xa_67, xc_67, xt_67, xf_67) => (if r_67 = (0 : Int32) then (mm_Mo_follow_L43 sg i n xp_15 k43 (j43 + 1) (1 : Int32) xa_67 xc_67 xt_67 xf_67) else (mm_Mo_follow_L43 sg i n xp_15 k43 (j43 + 1) (0 : Int32) xa_67 xc_67 xt_67 xf_67))))
def mm_Mo_follow_L5 (sg : Nat) (i : Nat) (n : Nat) (xk : Int32) (xr : Nat → Int32) : Nat → Nat → (Int32) → (Int32) → (Int32) → (Int32) → (Nat) → (Nat) → (Nat → Int32) → (Nat → Int64) → (Nat → Nat) → (Nat → Int32) → (Nat → Nat) → (Nat → Int32) → Int32 × (Int32) × (Int32) × (Int32) × (Nat) × (Nat) × (Nat → Int32) × (Nat → Int64) × (Nat → Nat) × (Nat → Int32) × (Nat → Nat) × (Nat → Int32)
  | 0, j, v3, xa, xc, xe, xs, xg, xt, xf, xp, xq, xv, xo => ((-4 : Int32), xa, xc, xe, xs, xg, xt, xf, xp, xq, xv, xo)
  | k + 1, j, v3, xa, xc, xe, xs, xg, xt, xf, xp, xq, xv, xo => (match mm_Mo_choose sg i n xk xg xr xt xp xq xv xo with | (r_15, xs_15, xg_15, xp_15, xq_15, xv_15, xo_15) => (if r_15 = (0 : Int32) then ((-4 : Int32), xa, xc, xe, xs_15, xg_15, xt, xf, xp_15, xq_15, xv_15, xo_15) else (match mm_Mo_follow_L43 sg i n xp_15 xs_15 0 (1 : Int32) xa xc xt xf with | (v5_43, xa_43, xc_43, xt_43, xf_43) => (if v5_43 = (0 : Int32) then (mm_Mo_follow_L5 sg i n xk xr k (j + 1) (v3 + 1) xa_43 xc_43 (xe + (1 : Int32)) xs_15 xg_15 xt_43 xf_43 xp_15 xq_15 xv_15 xo_15) else ((v3 + 1), xa_43, xc_43, (xe + (1 : Int32)), xs_15, xg_15, xt_43, xf_43, xp_15, xq_15, xv_15, xo_15)))))
def mm_Mo_follow (sg : Nat) (i : Nat) (n : Nat) (xk : Int32) (xa : Int32) (xc : Int32) (xe : Int32) (xs : Nat) (xg : Nat) (xr : Nat → Int32) (xt : Nat → Int32) (xf : Nat → Int64) (xp : Nat → Nat) (xq : Nat → Int32) (xv : Nat → Nat) (xo : Nat → Int32) : Int32 × (Int32) × (Int32) × (Int32) × (Nat) × (Nat) × (Nat → Int32) × (Nat → Int64) × (Nat → Nat) × (Nat → Int32) × (Nat → Nat) × (Nat → Int32) := (mm_Mo_follow_L5 sg i n xk xr 12 0 (0 : Int32) xa xc xe xs xg xt xf xp xq xv xo)
set_option maxHeartbeats 4000000 in
set_option maxRecDepth 100000 in
theorem cc_Mo_follow {l : Launch} (D : va_G) (K : Nat → ClassId) (mh m1 m2 m3 m4 m5 m6 m7 m8 m9 : Nat) (sg : Nat) (i : Nat) (n : Nat) (xk : Int32) (xa : Int32) (xb : Int32) (xc : Int32) (xe : Int32) (xl : Int64) (xs : Nat) (xg : Nat) (xr : Nat → Int32) (xd : Nat → Int64) (xt : Nat → Int32) (xf : Nat → Int64) (xw : Nat → Int32) (xp : Nat → Nat) (xq : Nat → Int32) (xv : Nat → Nat) (xo : Nat → Int32) (hsg : sg < 3) (hi : i < n) (hn : n ≤ 11) (hn6 : 6 ≤ n) : ly_i l yy_Mo_follow bb_Mo_follow 7 (some .int) 5 116 D K [.ref mh, .int (nI sg), .int (nI i)] (ws_Mo K mh m1 m2 m3 m4 m5 m6 m7 m8 m9 n xk xa xb xc xe xl xs xg xr xd xt xf xw xp xq xv xo) (fun z => z.1) (fun z => (ws_Mo K mh m1 m2 m3 m4 m5 m6 m7 m8 m9 n xk (z.2.1) xb (z.2.2.1) (z.2.2.2.1) xl (z.2.2.2.2.1) (z.2.2.2.2.2.1) xr xd (z.2.2.2.2.2.2.1) (z.2.2.2.2.2.2.2.1) xw (z.2.2.2.2.2.2.2.2.1) (z.2.2.2.2.2.2.2.2.2.1) (z.2.2.2.2.2.2.2.2.2.2.1) (z.2.2.2.2.2.2.2.2.2.2.2))) (mm_Mo_follow sg i n xk xa xc xe xs xg xr xt xf xp xq xv xo) := by
  refine ly_entI (by decide) (Nat.le_of_ble_eq_true rfl) ?_
  intro p e s m av below meth c A ls R Q H locs res hM C hRf hRl hS hP hD hl ret
  obtain ⟨hx, hb, -⟩ := id C
  have hcs : 0 ≤ R.cells ∧ 0 ≤ R.slots := ⟨Nat.zero_le _, Nat.zero_le _⟩
  have hl : lv_has ls 7 [(0, .ref mh), (1, .int (nI sg)), (2, .int (nI i))] := hl
  rw [mm_Mo_follow] at hM
  refine lv_iconst (v := (0 : Int32)) hx hb dd_Mo_follow_0 (by decide) ?_
  refine lv_istore_n (lv' := [(3, .int (0 : Int32)), (0, .ref mh), (1, .int (nI sg)), (2, .int (nI i))]) hx hb dd_Mo_follow_1 rfl hl (by decide) rfl (fun ls hl => ?_)
  refine lv_iconst (v := (0 : Int32)) hx hb dd_Mo_follow_2 (by decide) ?_
  refine lv_istore (lv' := [(4, .int (0 : Int32)), (3, .int (0 : Int32)), (0, .ref mh), (1, .int (nI sg)), (2, .int (nI i))]) hx hb dd_Mo_follow_3 hl (by decide) rfl (fun ls hl => ?_)
  have lp5 : ∀ (k : Nat) (j : Nat) (v3 : Int32) (xa : Int32) (xc : Int32) (xe : Int32) (xs : Nat) (xg : Nat) (xt : Nat → Int32) (xf : Nat → Int64) (xp : Nat → Nat) (xq : Nat → Int32) (xv : Nat → Nat) (xo : Nat → Int32) (ls : Array Slot) (H : Heap) (locs : List Loc), j + k = 12 → mm_Mo_follow_L5 sg i n xk xr k j v3 xa xc xe xs xg xt xf xp xq xv xo = res → lv_has ls 7 [(4, .int (nI j)), (3, .int v3), (0, .ref mh), (1, .int (nI sg)), (2, .int (nI i))] → va_P D cl_all (ws_Mo K mh m1 m2 m3 m4 m5 m6 m7 m8 m9 n xk xa xb xc xe xl xs xg xr xd xt xf xw xp xq xv xo) H → va_D A (ws_Mo K mh m1 m2 m3 m4 m5 m6 m7 m8 m9 n xk xa xb xc xe xl xs xg xr xd xt xf xw xp xq xv xo) → va_S A s.heap H locs → W p l e R s m av below meth c H locs 0 0 Q (F0 m 5 ls []) := by
    intro k
    induction k with
    | zero =>
      intro j v3 xa xc xe xs xg xt xf xp xq xv xo ls H locs hjk5 hM hl hP hD hS
      have hj0 : j = 12 := by omega
      subst j
      rw [mm_Mo_follow_L5] at hM
      refine lv_iload hx hb dd_Mo_follow_5 (lv_at hl 0 rfl) ?_
      refine lv_bipush (v := (12 : Int32)) hx hb dd_Mo_follow_7 (by decide) ?_
      refine lv_icmp_ge (tgt := 99) hx hb dd_Mo_follow_9 (by decide) (fun _ => ?_) (fun h => absurd (nI_le (a := 12) (b := 12) (by omega) (by omega)) h)
      refine lv_bipush (v := (-4 : Int32)) hx hb dd_Mo_follow_99 (by decide) ?_
      exact ret ((-4 : Int32), xa, xc, xe, xs, xg, xt, xf, xp, xq, xv, xo) H locs 101 ls hM rfl hS hP hD dd_Mo_follow_101
    | succ k ih5 =>
      intro j v3 xa xc xe xs xg xt xf xp xq xv xo ls H locs hjk5 hM hl hP hD hS
      rw [mm_Mo_follow_L5] at hM
      refine lv_iload hx hb dd_Mo_follow_5 (lv_at hl 0 rfl) ?_
      refine lv_bipush (v := (12 : Int32)) hx hb dd_Mo_follow_7 (by decide) ?_
      refine lv_icmp_ge (tgt := 99) hx hb dd_Mo_follow_9 (by decide) (fun h => absurd h (nI_ge (a := j) (b := 12) (by omega) (by omega))) (fun _ => ?_)
      refine lv_aload_n hx hb dd_Mo_follow_12 rfl (lv_at hl 2 rfl) ?_
      refine lv_iload_n hx hb dd_Mo_follow_13 rfl (lv_at hl 3 rfl) ?_
      refine lv_iload_n hx hb dd_Mo_follow_14 rfl (lv_at hl 4 rfl) ?_
      obtain ⟨⟨r_15, xs_15, xg_15, xp_15, xq_15, xv_15, xo_15⟩, hq15⟩ : ∃ z, z = mm_Mo_choose sg i n xk xg xr xt xp xq xv xo := ⟨_, rfl⟩
      try rw [← hq15] at hM
      try dsimp only at hM
      refine ly_cV_i (n := 2) (z := (r_15, xs_15, xg_15, xp_15, xq_15, xv_15, xo_15)) (rest := []) (wn := (ws_Mo K mh m1 m2 m3 m4 m5 m6 m7 m8 m9 n xk xa xb xc xe xl xs_15 xg_15 xr xd xt xf xw xp_15 xq_15 xv_15 xo_15)) C (cc_Mo_choose D K mh m1 m2 m3 m4 m5 m6 m7 m8 m9 sg i n xk xa xb xc xe xl xs xg xr xd xt xf xw xp xq xv xo (by omega) (by omega) (by omega) (by omega)) hq15 wa_321 wa_329 wa_265 wa_330 wa_331 (by decide) (Nat.le_trans (by decide) hRf) (Nat.le_trans (by decide) hRl) rfl hl.1 rfl (Nat.le_of_ble_eq_true rfl) dd_Mo_follow_15 hcs [0, 1, 2, 3, 4, 5, 6, 7, 8, 9] [] [0, 1, 2, 3, 4, 5, 6, 7, 8, 9] hP hD hS rfl rfl (by decide) rfl rfl rfl (fun H locs hP hD hS => ?_)
      refine W.eq (g2 := F0 m 18 ls [.int r_15]) rfl ?_
      have hpsc := ps_choose hn hq15
      refine lv_if_ne (tgt := 24) hx hb dd_Mo_follow_18 (by decide) (fun h18 => ?_) (fun h18 => ?_)
      · rw [if_neg h18] at hM
        refine lv_iinc (k := 1) (v := (v3 + 1)) (lv' := [(3, .int (v3 + 1)), (4, .int (nI j)), (0, .ref mh), (1, .int (nI sg)), (2, .int (nI i))]) hx hb dd_Mo_follow_24 hl rfl (ly_inc _) (by decide) rfl (fun ls hl => ?_)
        refine lv_aload_n hx hb dd_Mo_follow_27 rfl (lv_at hl 2 rfl) ?_
        refine lv_dup hx hb dd_Mo_follow_28 rfl ?_
        refine ly_get (v := .int xe) C hP 0 rfl uw_Mo rfl 10 (by decide) wa_332 rfl dd_Mo_follow_29 ?_
        refine lv_iconst (v := (1 : Int32)) hx hb dd_Mo_follow_32 (by decide) ?_
        refine lv_iadd hx hb dd_Mo_follow_33 ?_
        refine ly_put (ws' := (ws_Mo K mh m1 m2 m3 m4 m5 m6 m7 m8 m9 n xk xa xb xc (xe + (1 : Int32)) xl xs_15 xg_15 xr xd xt xf xw xp_15 xq_15 xv_15 xo_15)) C hP hD hS 0 rfl uw_Mo tt_Mo nn_Mo rfl 10 (by decide) wa_332 rfl rfl rfl (Nat.le_of_ble_eq_true rfl) dd_Mo_follow_34 rfl (fun H locs hP hD hS => ?_)
        refine lv_iconst (v := (1 : Int32)) hx hb dd_Mo_follow_37 (by decide) ?_
        refine lv_istore (lv' := [(5, .int (1 : Int32)), (3, .int (v3 + 1)), (4, .int (nI j)), (0, .ref mh), (1, .int (nI sg)), (2, .int (nI i))]) hx hb dd_Mo_follow_38 hl (by decide) rfl (fun ls hl => ?_)
        refine lv_iconst (v := (0 : Int32)) hx hb dd_Mo_follow_40 (by decide) ?_
        refine lv_istore (lv' := [(6, .int (0 : Int32)), (5, .int (1 : Int32)), (3, .int (v3 + 1)), (4, .int (nI j)), (0, .ref mh), (1, .int (nI sg)), (2, .int (nI i))]) hx hb dd_Mo_follow_41 hl (by decide) rfl (fun ls hl => ?_)
        have lp43 : ∀ (k43 : Nat) (j43 : Nat) (v5L43 : Int32) (xaL43 : Int32) (xcL43 : Int32) (xtL43 : Nat → Int32) (xfL43 : Nat → Int64) (ls : Array Slot) (H : Heap) (locs : List Loc) (rs43 : (Int32) × (Int32) × (Int32) × (Nat → Int32) × (Nat → Int64)), j43 + k43 = xs_15 → mm_Mo_follow_L43 sg i n xp_15 k43 j43 v5L43 xaL43 xcL43 xtL43 xfL43 = rs43 → lv_has ls 7 [(6, .int (nI j43)), (5, .int v5L43), (3, .int (v3 + 1)), (4, .int (nI j)), (0, .ref mh), (1, .int (nI sg)), (2, .int (nI i))] → va_P D cl_all (ws_Mo K mh m1 m2 m3 m4 m5 m6 m7 m8 m9 n xk xaL43 xb xcL43 (xe + (1 : Int32)) xl xs_15 xg_15 xr xd xtL43 xfL43 xw xp_15 xq_15 xv_15 xo_15) H → va_D A (ws_Mo K mh m1 m2 m3 m4 m5 m6 m7 m8 m9 n xk xaL43 xb xcL43 (xe + (1 : Int32)) xl xs_15 xg_15 xr xd xtL43 xfL43 xw xp_15 xq_15 xv_15 xo_15) → va_S A s.heap H locs → (∀ (v5L43 : Int32) (xaL43 : Int32) (xcL43 : Int32) (xtL43 : Nat → Int32) (xfL43 : Nat → Int64) (ls : Array Slot) (H : Heap) (locs : List Loc), (v5L43, xaL43, xcL43, xtL43, xfL43) = rs43 → lv_has ls 7 [(5, .int v5L43), (3, .int (v3 + 1)), (4, .int (nI j)), (0, .ref mh), (1, .int (nI sg)), (2, .int (nI i))] → va_P D cl_all (ws_Mo K mh m1 m2 m3 m4 m5 m6 m7 m8 m9 n xk xaL43 xb xcL43 (xe + (1 : Int32)) xl xs_15 xg_15 xr xd xtL43 xfL43 xw xp_15 xq_15 xv_15 xo_15) H → va_D A (ws_Mo K mh m1 m2 m3 m4 m5 m6 m7 m8 m9 n xk xaL43 xb xcL43 (xe + (1 : Int32)) xl xs_15 xg_15 xr xd xtL43 xfL43 xw xp_15 xq_15 xv_15 xo_15) → va_S A s.heap H locs → W p l e R s m av below meth c H locs 0 0 Q (F0 m 86 ls [])) → W p l e R s m av below meth c H locs 0 0 Q (F0 m 43 ls []) := by
          intro k43
          induction k43 with
          | zero =>
            intro j43 v5L43 xaL43 xcL43 xtL43 xfL43 ls H locs rs43 hjk43 hM hl hP hD hS kap43
            have hj0 : j43 = xs_15 := by omega
            subst j43
            rw [mm_Mo_follow_L43] at hM
            refine lv_iload hx hb dd_Mo_follow_43 (lv_at hl 0 rfl) ?_
            refine lv_aload_n hx hb dd_Mo_follow_45 rfl (lv_at hl 4 rfl) ?_
            refine ly_get (v := .int (nI xs_15)) C hP 0 rfl uw_Mo rfl 12 (by decide) wa_317 rfl dd_Mo_follow_46 ?_
            refine lv_icmp_ge (tgt := 86) hx hb dd_Mo_follow_49 (by decide) (fun _ => ?_) (fun h => absurd (nI_le (a := xs_15) (b := xs_15) (by omega) (by omega)) h)
            exact kap43 v5L43 xaL43 xcL43 xtL43 xfL43 ls H locs hM (lv_sub hl [1, 2, 3, 4, 5, 6] rfl) hP hD hS
          | succ k43 ih43 =>
            intro j43 v5L43 xaL43 xcL43 xtL43 xfL43 ls H locs rs43 hjk43 hM hl hP hD hS kap43
            rw [mm_Mo_follow_L43] at hM
            refine lv_iload hx hb dd_Mo_follow_43 (lv_at hl 0 rfl) ?_
            refine lv_aload_n hx hb dd_Mo_follow_45 rfl (lv_at hl 4 rfl) ?_
            refine ly_get (v := .int (nI xs_15)) C hP 0 rfl uw_Mo rfl 12 (by decide) wa_317 rfl dd_Mo_follow_46 ?_
            refine lv_icmp_ge (tgt := 86) hx hb dd_Mo_follow_49 (by decide) (fun h => absurd h (nI_ge (a := j43) (b := xs_15) (by omega) (by omega))) (fun _ => ?_)
            refine lv_iload hx hb dd_Mo_follow_52 (lv_at hl 1 rfl) ?_
            refine lv_if_eq (tgt := 86) hx hb dd_Mo_follow_54 (by decide) (fun h54 => ?_) (fun h54 => ?_)
            · rw [if_pos h54] at hM
              exact kap43 v5L43 xaL43 xcL43 xtL43 xfL43 ls H locs hM (lv_sub hl [1, 2, 3, 4, 5, 6] rfl) hP hD hS
            · rw [if_neg h54] at hM
              refine lv_aload_n hx hb dd_Mo_follow_57 rfl (lv_at hl 4 rfl) ?_
              refine lv_iload_n hx hb dd_Mo_follow_58 rfl (lv_at hl 5 rfl) ?_
              refine lv_aload_n hx hb dd_Mo_follow_59 rfl (lv_at hl 4 rfl) ?_
              refine ly_get (v := .ref m6) C hP 0 rfl uw_Mo rfl 13 (by decide) wa_258 rfl dd_Mo_follow_60 ?_
              refine lv_iload hx hb dd_Mo_follow_63 (lv_at hl 0 rfl) ?_
              refine ly_nald C hP 6 rfl j43 rfl (by omega) (by omega) dd_Mo_follow_65 ?_
              refine lv_iload_n hx hb dd_Mo_follow_66 rfl (lv_at hl 6 rfl) ?_
              have hpq : (xp_15 j43 % n) < n := Nat.mod_lt _ (by omega)
              obtain ⟨⟨r_67, xa_67, xc_67, xt_67, xf_67⟩, hq67⟩ : ∃ z, z = mm_Mo_rejectedFor sg (xp_15 j43 % n) i xaL43 xcL43 xtL43 xfL43 := ⟨_, rfl⟩
              try rw [← hq67] at hM
              try dsimp only at hM
              refine ly_cV_i (n := 3) (z := (r_67, xa_67, xc_67, xt_67, xf_67)) (rest := []) (wn := (ws_Mo K mh m1 m2 m3 m4 m5 m6 m7 m8 m9 n xk xa_67 xb xc_67 (xe + (1 : Int32)) xl xs_15 xg_15 xr xd xt_67 xf_67 xw xp_15 xq_15 xv_15 xo_15)) C (cc_Mo_rejectedFor D K mh m1 m2 m3 m4 m5 m6 m7 m8 m9 sg (xp_15 j43 % n) i n xk xaL43 xb xcL43 (xe + (1 : Int32)) xl xs_15 xg_15 xr xd xtL43 xfL43 xw xp_15 xq_15 xv_15 xo_15 (by omega) (by omega) (by omega) (by omega) (by omega)) hq67 wa_295 wa_333 wa_265 wa_334 wa_335 (by decide) (Nat.le_trans (by decide) hRf) (Nat.le_trans (by decide) hRl) rfl hl.1 rfl (Nat.le_of_ble_eq_true rfl) dd_Mo_follow_67 hcs [0, 1, 2, 3, 4, 5, 6, 7, 8, 9] [] [0, 1, 2, 3, 4, 5, 6, 7, 8, 9] hP hD hS rfl rfl (by decide) rfl rfl rfl (fun H locs hP hD hS => ?_)
              refine W.eq (g2 := F0 m 70 ls [.int r_67]) rfl ?_
              refine lv_if_ne (tgt := 77) hx hb dd_Mo_follow_70 (by decide) (fun h70 => ?_) (fun h70 => ?_)
              · rw [if_neg h70] at hM
                refine lv_iconst (v := (0 : Int32)) hx hb dd_Mo_follow_77 (by decide) ?_
                refine lv_istore (lv' := [(5, .int (0 : Int32)), (6, .int (nI j43)), (3, .int (v3 + 1)), (4, .int (nI j)), (0, .ref mh), (1, .int (nI sg)), (2, .int (nI i))]) hx hb dd_Mo_follow_78 hl (by decide) rfl (fun ls hl => ?_)
                refine lv_iinc (k := 1) (v := (nI (j43 + 1))) (lv' := [(6, .int (nI (j43 + 1))), (5, .int (0 : Int32)), (3, .int (v3 + 1)), (4, .int (nI j)), (0, .ref mh), (1, .int (nI sg)), (2, .int (nI i))]) hx hb dd_Mo_follow_80 hl rfl (ly_incN _) (by decide) rfl (fun ls hl => ?_)
                refine lv_goto (tgt := 43) hx hb dd_Mo_follow_83 (by decide) ?_
                exact ih43 (j43 + 1) (0 : Int32) xa_67 xc_67 xt_67 xf_67 ls H locs rs43 (by omega) hM (lv_sub hl [0, 1, 2, 3, 4, 5, 6] rfl) hP hD hS kap43
              · rw [if_pos h70] at hM
                refine lv_iconst (v := (1 : Int32)) hx hb dd_Mo_follow_73 (by decide) ?_
                refine lv_goto (tgt := 78) hx hb dd_Mo_follow_74 (by decide) ?_
                refine lv_istore (lv' := [(5, .int (1 : Int32)), (6, .int (nI j43)), (3, .int (v3 + 1)), (4, .int (nI j)), (0, .ref mh), (1, .int (nI sg)), (2, .int (nI i))]) hx hb dd_Mo_follow_78 hl (by decide) rfl (fun ls hl => ?_)
                refine lv_iinc (k := 1) (v := (nI (j43 + 1))) (lv' := [(6, .int (nI (j43 + 1))), (5, .int (1 : Int32)), (3, .int (v3 + 1)), (4, .int (nI j)), (0, .ref mh), (1, .int (nI sg)), (2, .int (nI i))]) hx hb dd_Mo_follow_80 hl rfl (ly_incN _) (by decide) rfl (fun ls hl => ?_)
                refine lv_goto (tgt := 43) hx hb dd_Mo_follow_83 (by decide) ?_
                exact ih43 (j43 + 1) (1 : Int32) xa_67 xc_67 xt_67 xf_67 ls H locs rs43 (by omega) hM (lv_sub hl [0, 1, 2, 3, 4, 5, 6] rfl) hP hD hS kap43
        refine lp43 xs_15 0 (1 : Int32) xa xc xt xf ls H locs _ (by omega) rfl (lv_sub hl [0, 1, 2, 3, 4, 5, 6] rfl) hP hD hS (fun v5_43 xa_43 xc_43 xt_43 xf_43 ls H locs hqL43 hl hP hD hS => ?_)
        try rw [← hqL43] at hM
        try dsimp only at hM
        refine lv_iload hx hb dd_Mo_follow_86 (lv_at hl 0 rfl) ?_
        refine lv_if_eq (tgt := 93) hx hb dd_Mo_follow_88 (by decide) (fun h88 => ?_) (fun h88 => ?_)
        · rw [if_pos h88] at hM
          refine lv_iinc (k := 2) (v := (nI (j + 1))) (lv' := [(4, .int (nI (j + 1))), (5, .int v5_43), (3, .int (v3 + 1)), (0, .ref mh), (1, .int (nI sg)), (2, .int (nI i))]) hx hb dd_Mo_follow_93 hl rfl (ly_incN _) (by decide) rfl (fun ls hl => ?_)
          refine lv_goto (tgt := 5) hx hb dd_Mo_follow_96 (by decide) ?_
          exact ih5 (j + 1) (v3 + 1) xa_43 xc_43 (xe + (1 : Int32)) xs_15 xg_15 xt_43 xf_43 xp_15 xq_15 xv_15 xo_15 ls H locs (by omega) hM (lv_sub hl [0, 2, 3, 4, 5] rfl) hP hD hS
        · rw [if_neg h88] at hM
          refine lv_iload_n hx hb dd_Mo_follow_91 rfl (lv_at hl 1 rfl) ?_
          exact ret ((v3 + 1), xa_43, xc_43, (xe + (1 : Int32)), xs_15, xg_15, xt_43, xf_43, xp_15, xq_15, xv_15, xo_15) H locs 92 ls hM rfl hS hP hD dd_Mo_follow_92
      · rw [if_pos h18] at hM
        refine lv_bipush (v := (-4 : Int32)) hx hb dd_Mo_follow_21 (by decide) ?_
        exact ret ((-4 : Int32), xa, xc, xe, xs_15, xg_15, xt, xf, xp_15, xq_15, xv_15, xo_15) H locs 23 ls hM rfl hS hP hD dd_Mo_follow_23
  exact lp5 12 0 (0 : Int32) xa xc xe xs xg xt xf xp xq xv xo ls H locs (by omega) hM (lv_sub hl [0, 1, 2, 3, 4] rfl) hP hD hS

def mm_Mo_put_L55 (w : Int64) (xr : Nat → Int32) (xd : Nat → Int64) (sg : Nat) (i : Nat) : Nat → Nat → (Int32) → (Int32) → (Int32) → (Int32) → (Nat → Int32) → (Nat → Int64) → Int32 × (Int32) × (Int32) × (Int32) × (Nat → Int64) × (Nat → Int32) × (Nat → Int64)
  | 0, j, v5, xa, xb, xc, xt, xf => (match mm_Mo_written sg i xb xt xf with | (xb_136, xt_136, xf_136) => (v5, xa, xb_136, xc, (vp_updL xd ((6 * sg) + i) w), xt_136, xf_136))
  | k + 1, j, v5, xa, xb, xc, xt, xf => (if (xt (11 * sg + j)) = (0 : Int32) then (mm_Mo_put_L55 w xr xd sg i k (j + 1) v5 xa xb xc xt xf) else (if (xr ((6 * j) + i)) = (0 : Int32) then (mm_Mo_put_L55 w xr xd sg i k (j + 1) v5 xa xb xc xt xf) else (match mm_Mo_rejectedFor sg j i xa xc xt xf with | (r_99, xa_99, xc_99, xt_99, xf_99) => (if r_99 = (0 : Int32) then (match mm_Mo_written sg j xb xt_99 xf_99 with | (xb_109, xt_109, xf_109) => (mm_Mo_put_L55 w xr xd sg i k (j + 1) (v5 + 1) xa_99 xb_109 xc_99 xt_109 xf_109)) else (mm_Mo_put_L55 w xr xd sg i k (j + 1) v5 xa_99 xb xc_99 xt_99 xf_99)))))
def mm_Mo_put (x : Int32) (y : Int32) (w : Int64) (n : Nat) (xa : Int32) (xb : Int32) (xc : Int32) (xr : Nat → Int32) (xd : Nat → Int64) (xt : Nat → Int32) (xf : Nat → Int64) : Int32 × (Int32) × (Int32) × (Int32) × (Nat → Int64) × (Nat → Int32) × (Nat → Int64) := (if (mm_Mo_noStripe x) = (0 : Int32) then (if y < (0 : Int32) then ((-1 : Int32), xa, xb, xc, xd, xt, xf) else (if y ≤ (5 : Int32) then (if (xt (11 * (x.toNatClampNeg) + (y.toNatClampNeg))) = (0 : Int32) then ((-2 : Int32), xa, xb, xc, xd, xt, xf) else (match mm_Mo_rejected (x.toNatClampNeg) (y.toNatClampNeg) xa xt xf with | (r_39, xa_39, xt_39, xf_39) => (if r_39 = (0 : Int32) then (mm_Mo_put_L55 w xr xd (x.toNatClampNeg) (y.toNatClampNeg) (n - 6) 6 (0 : Int32) xa_39 xb xc xt_39 xf_39) else ((-3 : Int32), xa_39, xb, xc, xd, xt_39, xf_39)))) else ((-1 : Int32), xa, xb, xc, xd, xt, xf))) else ((-1 : Int32), xa, xb, xc, xd, xt, xf))
set_option maxHeartbeats 4000000 in
set_option maxRecDepth 100000 in
theorem cc_Mo_put {l : Launch} (D : va_G) (K : Nat → ClassId) (mh m1 m2 m3 m4 m5 m6 m7 m8 m9 : Nat) (x : Int32) (y : Int32) (w : Int64) (n : Nat) (xk : Int32) (xa : Int32) (xb : Int32) (xc : Int32) (xe : Int32) (xl : Int64) (xs : Nat) (xg : Nat) (xr : Nat → Int32) (xd : Nat → Int64) (xt : Nat → Int32) (xf : Nat → Int64) (xw : Nat → Int32) (xp : Nat → Nat) (xq : Nat → Int32) (xv : Nat → Nat) (xo : Nat → Int32) (hn : n ≤ 11) (hn6 : 6 ≤ n) : ly_i l yy_Mo_put bb_Mo_put 7 (some .int) 3 68 D K [.ref mh, .int x, .int y, .long w] (ws_Mo K mh m1 m2 m3 m4 m5 m6 m7 m8 m9 n xk xa xb xc xe xl xs xg xr xd xt xf xw xp xq xv xo) (fun z => z.1) (fun z => (ws_Mo K mh m1 m2 m3 m4 m5 m6 m7 m8 m9 n xk (z.2.1) (z.2.2.1) (z.2.2.2.1) xe xl xs xg xr (z.2.2.2.2.1) (z.2.2.2.2.2.1) (z.2.2.2.2.2.2) xw xp xq xv xo)) (mm_Mo_put x y w n xa xb xc xr xd xt xf) := by
  refine ly_entI (by decide) (Nat.le_of_ble_eq_true rfl) ?_
  intro p e s m av below meth c A ls R Q H locs res hM C hRf hRl hS hP hD hl ret
  obtain ⟨hx, hb, -⟩ := id C
  have hcs : 0 ≤ R.cells ∧ 0 ≤ R.slots := ⟨Nat.zero_le _, Nat.zero_le _⟩
  have hl : lv_has ls 7 [(0, .ref mh), (1, .int x), (2, .int y), (3, .long w)] := hl
  rw [mm_Mo_put] at hM
  refine lv_aload_n hx hb dd_Mo_put_0 rfl (lv_at hl 0 rfl) ?_
  refine lv_iload_n hx hb dd_Mo_put_1 rfl (lv_at hl 1 rfl) ?_
  obtain ⟨r_2, hq2⟩ : ∃ z, z = mm_Mo_noStripe x := ⟨_, rfl⟩
  try rw [← hq2] at hM
  refine ly_cV_i (n := 1) (z := r_2) (rest := []) (wn := (ws_Mo K mh m1 m2 m3 m4 m5 m6 m7 m8 m9 n xk xa xb xc xe xl xs xg xr xd xt xf xw xp xq xv xo)) C (cc_Mo_noStripe D K mh m1 m2 m3 m4 m5 m6 m7 m8 m9 x n xk xa xb xc xe xl xs xg xr xd xt xf xw xp xq xv xo (by omega) (by omega)) hq2 wa_283 wa_285 wa_265 wa_286 wa_287 (by decide) (Nat.le_trans (by decide) hRf) (Nat.le_trans (by decide) hRl) rfl hl.1 rfl (Nat.le_of_ble_eq_true rfl) dd_Mo_put_2 hcs [0, 1, 2, 3, 4, 5, 6, 7, 8, 9] [] [0, 1, 2, 3, 4, 5, 6, 7, 8, 9] hP hD hS rfl rfl (by decide) rfl rfl rfl (fun H locs hP hD hS => ?_)
  refine W.eq (g2 := F0 m 5 ls [.int r_2]) rfl ?_
  refine lv_if_ne (tgt := 17) hx hb dd_Mo_put_5 (by decide) (fun h5 => ?_) (fun h5 => ?_)
  · rw [if_neg h5] at hM
    refine lv_iconst (v := (-1 : Int32)) hx hb dd_Mo_put_17 (by decide) ?_
    exact ret ((-1 : Int32), xa, xb, xc, xd, xt, xf) H locs 18 ls hM rfl hS hP hD dd_Mo_put_18
  · rw [if_pos h5] at hM
    refine lv_iload_n hx hb dd_Mo_put_8 rfl (lv_at hl 2 rfl) ?_
    refine lv_if_lt (tgt := 17) hx hb dd_Mo_put_9 (by decide) (fun h9 => ?_) (fun h9 => ?_)
    · rw [if_pos h9] at hM
      refine lv_iconst (v := (-1 : Int32)) hx hb dd_Mo_put_17 (by decide) ?_
      exact ret ((-1 : Int32), xa, xb, xc, xd, xt, xf) H locs 18 ls hM rfl hS hP hD dd_Mo_put_18
    · rw [if_neg h9] at hM
      refine lv_iload_n hx hb dd_Mo_put_12 rfl (lv_at hl 2 rfl) ?_
      refine lv_iconst (v := (5 : Int32)) hx hb dd_Mo_put_13 (by decide) ?_
      refine lv_icmp_le (tgt := 19) hx hb dd_Mo_put_14 (by decide) (fun h14 => ?_) (fun h14 => ?_)
      · rw [if_pos h14] at hM
        obtain ⟨sg, hs, rfl⟩ := in_noStripe hq2 h5
        obtain ⟨i, hi, rfl⟩ := ly_rng3 (N := 6) (M := 5) h9 h14 (by decide)
        try rw [nI_clamp (n := sg) (by omega)] at hM
        try rw [nI_clamp (n := i) (by omega)] at hM
        refine lv_aload_n hx hb dd_Mo_put_19 rfl (lv_at hl 0 rfl) ?_
        refine ly_get (v := .ref m3) C hP 0 rfl uw_Mo rfl 4 (by decide) wa_255 rfl dd_Mo_put_20 ?_
        refine lv_aload_n hx hb dd_Mo_put_23 rfl (lv_at hl 0 rfl) ?_
        refine lv_iload_n hx hb dd_Mo_put_24 rfl (lv_at hl 1 rfl) ?_
        refine lv_iload_n hx hb dd_Mo_put_25 rfl (lv_at hl 2 rfl) ?_
        refine ly_cV_i (n := 2) (z := (nI (11 * sg + i))) (rest := [.ref m3]) (wn := (ws_Mo K mh m1 m2 m3 m4 m5 m6 m7 m8 m9 n xk xa xb xc xe xl xs xg xr xd xt xf xw xp xq xv xo)) C (cc_Mo_cell D K mh m1 m2 m3 m4 m5 m6 m7 m8 m9 sg i n xk xa xb xc xe xl xs xg xr xd xt xf xw xp xq xv xo (by omega) (by omega) (by omega) (by omega)) rfl wa_289 wa_292 wa_265 wa_293 wa_294 (by decide) (Nat.le_trans (by decide) hRf) (Nat.le_trans (by decide) hRl) rfl hl.1 rfl (Nat.le_of_ble_eq_true rfl) dd_Mo_put_26 hcs [0, 1, 2, 3, 4, 5, 6, 7, 8, 9] [] [0, 1, 2, 3, 4, 5, 6, 7, 8, 9] hP hD hS rfl rfl (by decide) rfl rfl rfl (fun H locs hP hD hS => ?_)
        refine W.eq (g2 := F0 m 29 ls [.int (nI (11 * sg + i)), .ref m3]) rfl ?_
        refine ly_zald C hP 3 rfl (11 * sg + i) rfl (by omega) (by omega) dd_Mo_put_29 ?_
        refine lv_if_ne (tgt := 36) hx hb dd_Mo_put_30 (by decide) (fun h30 => ?_) (fun h30 => ?_)
        · rw [if_neg h30] at hM
          refine lv_aload_n hx hb dd_Mo_put_36 rfl (lv_at hl 0 rfl) ?_
          refine lv_iload_n hx hb dd_Mo_put_37 rfl (lv_at hl 1 rfl) ?_
          refine lv_iload_n hx hb dd_Mo_put_38 rfl (lv_at hl 2 rfl) ?_
          obtain ⟨⟨r_39, xa_39, xt_39, xf_39⟩, hq39⟩ : ∃ z, z = mm_Mo_rejected sg i xa xt xf := ⟨_, rfl⟩
          try rw [← hq39] at hM
          try dsimp only at hM
          refine ly_cV_i (n := 2) (z := (r_39, xa_39, xt_39, xf_39)) (rest := []) (wn := (ws_Mo K mh m1 m2 m3 m4 m5 m6 m7 m8 m9 n xk xa_39 xb xc xe xl xs xg xr xd xt_39 xf_39 xw xp xq xv xo)) C (cc_Mo_rejected D K mh m1 m2 m3 m4 m5 m6 m7 m8 m9 sg i n xk xa xb xc xe xl xs xg xr xd xt xf xw xp xq xv xo (by omega) (by omega) (by omega) (by omega)) hq39 wa_290 wa_300 wa_265 wa_301 wa_302 (by decide) (Nat.le_trans (by decide) hRf) (Nat.le_trans (by decide) hRl) rfl hl.1 rfl (Nat.le_of_ble_eq_true rfl) dd_Mo_put_39 hcs [0, 1, 2, 3, 4, 5, 6, 7, 8, 9] [] [0, 1, 2, 3, 4, 5, 6, 7, 8, 9] hP hD hS rfl rfl (by decide) rfl rfl rfl (fun H locs hP hD hS => ?_)
          refine W.eq (g2 := F0 m 42 ls [.int r_39]) rfl ?_
          refine lv_if_eq (tgt := 48) hx hb dd_Mo_put_42 (by decide) (fun h42 => ?_) (fun h42 => ?_)
          · rw [if_pos h42] at hM
            refine lv_iconst (v := (0 : Int32)) hx hb dd_Mo_put_48 (by decide) ?_
            refine lv_istore (lv' := [(5, .int (0 : Int32)), (0, .ref mh), (1, .int (nI sg)), (2, .int (nI i)), (3, .long w)]) hx hb dd_Mo_put_49 hl (by decide) rfl (fun ls hl => ?_)
            refine lv_bipush (v := (6 : Int32)) hx hb dd_Mo_put_51 (by decide) ?_
            refine lv_istore (lv' := [(6, .int (6 : Int32)), (5, .int (0 : Int32)), (0, .ref mh), (1, .int (nI sg)), (2, .int (nI i)), (3, .long w)]) hx hb dd_Mo_put_53 hl (by decide) rfl (fun ls hl => ?_)
            have lp55 : ∀ (k : Nat) (j : Nat) (v5 : Int32) (xa : Int32) (xb : Int32) (xc : Int32) (xt : Nat → Int32) (xf : Nat → Int64) (ls : Array Slot) (H : Heap) (locs : List Loc), j + k = n → mm_Mo_put_L55 w xr xd sg i k j v5 xa xb xc xt xf = res → lv_has ls 7 [(6, .int (nI j)), (5, .int v5), (0, .ref mh), (1, .int (nI sg)), (2, .int (nI i)), (3, .long w)] → va_P D cl_all (ws_Mo K mh m1 m2 m3 m4 m5 m6 m7 m8 m9 n xk xa xb xc xe xl xs xg xr xd xt xf xw xp xq xv xo) H → va_D A (ws_Mo K mh m1 m2 m3 m4 m5 m6 m7 m8 m9 n xk xa xb xc xe xl xs xg xr xd xt xf xw xp xq xv xo) → va_S A s.heap H locs → W p l e R s m av below meth c H locs 0 0 Q (F0 m 55 ls []) := by
              intro k
              induction k with
              | zero =>
                intro j v5 xa xb xc xt xf ls H locs hjk55 hM hl hP hD hS
                have hj0 : j = n := by omega
                subst j
                rw [mm_Mo_put_L55] at hM
                refine lv_iload hx hb dd_Mo_put_55 (lv_at hl 0 rfl) ?_
                refine lv_aload_n hx hb dd_Mo_put_57 rfl (lv_at hl 2 rfl) ?_
                refine ly_get (v := .int (nI n)) C hP 0 rfl uw_Mo rfl 1 (by decide) wa_263 rfl dd_Mo_put_58 ?_
                refine lv_icmp_ge (tgt := 121) hx hb dd_Mo_put_61 (by decide) (fun _ => ?_) (fun h => absurd (nI_le (a := n) (b := n) (by omega) (by omega)) h)
                refine lv_aload_n hx hb dd_Mo_put_121 rfl (lv_at hl 2 rfl) ?_
                refine ly_get (v := .ref m2) C hP 0 rfl uw_Mo rfl 3 (by decide) wa_254 rfl dd_Mo_put_122 ?_
                refine lv_bipush (v := (6 : Int32)) hx hb dd_Mo_put_125 (by decide) ?_
                refine lv_iload_n hx hb dd_Mo_put_127 rfl (lv_at hl 3 rfl) ?_
                refine ly_imulN C 6 sg rfl rfl dd_Mo_put_128 ?_
                refine lv_iload_n hx hb dd_Mo_put_129 rfl (lv_at hl 4 rfl) ?_
                refine ly_iaddN C (6 * sg) i rfl rfl dd_Mo_put_130 ?_
                refine lv_lload_n hx hb dd_Mo_put_131 rfl (lv_at hl 5 rfl) ?_
                refine ly_last (ws' := (ws_Mo K mh m1 m2 m3 m4 m5 m6 m7 m8 m9 n xk xa xb xc xe xl xs xg xr (vp_updL xd ((6 * sg) + i) w) xt xf xw xp xq xv xo)) C hP hD hS 2 rfl ((6 * sg) + i) rfl (by omega) (by omega) dd_Mo_put_132 rfl (fun H locs hP hD hS => ?_)
                refine lv_aload_n hx hb dd_Mo_put_133 rfl (lv_at hl 2 rfl) ?_
                refine lv_iload_n hx hb dd_Mo_put_134 rfl (lv_at hl 3 rfl) ?_
                refine lv_iload_n hx hb dd_Mo_put_135 rfl (lv_at hl 4 rfl) ?_
                obtain ⟨⟨xb_136, xt_136, xf_136⟩, hq136⟩ : ∃ z, z = mm_Mo_written sg i xb xt xf := ⟨_, rfl⟩
                try rw [← hq136] at hM
                try dsimp only at hM
                refine ly_cV_v (n := 2) (z := (xb_136, xt_136, xf_136)) (rest := []) (wn := (ws_Mo K mh m1 m2 m3 m4 m5 m6 m7 m8 m9 n xk xa xb_136 xc xe xl xs xg xr (vp_updL xd ((6 * sg) + i) w) xt_136 xf_136 xw xp xq xv xo)) C (cc_Mo_written D K mh m1 m2 m3 m4 m5 m6 m7 m8 m9 sg i n xk xa xb xc xe xl xs xg xr (vp_updL xd ((6 * sg) + i) w) xt xf xw xp xq xv xo (by omega) (by omega) (by omega) (by omega)) hq136 wa_303 wa_337 wa_265 wa_338 wa_339 (by decide) (Nat.le_trans (by decide) hRf) (Nat.le_trans (by decide) hRl) rfl hl.1 rfl (Nat.le_of_ble_eq_true rfl) dd_Mo_put_136 hcs [0, 1, 2, 3, 4, 5, 6, 7, 8, 9] [] [0, 1, 2, 3, 4, 5, 6, 7, 8, 9] hP hD hS rfl rfl (by decide) rfl rfl rfl (fun H locs hP hD hS => ?_)
                refine W.eq (g2 := F0 m 139 ls []) rfl ?_
                refine lv_iload hx hb dd_Mo_put_139 (lv_at hl 1 rfl) ?_
                exact ret (v5, xa, xb_136, xc, (vp_updL xd ((6 * sg) + i) w), xt_136, xf_136) H locs 141 ls hM rfl hS hP hD dd_Mo_put_141
              | succ k ih55 =>
                intro j v5 xa xb xc xt xf ls H locs hjk55 hM hl hP hD hS
                rw [mm_Mo_put_L55] at hM
                refine lv_iload hx hb dd_Mo_put_55 (lv_at hl 0 rfl) ?_
                refine lv_aload_n hx hb dd_Mo_put_57 rfl (lv_at hl 2 rfl) ?_
                refine ly_get (v := .int (nI n)) C hP 0 rfl uw_Mo rfl 1 (by decide) wa_263 rfl dd_Mo_put_58 ?_
                refine lv_icmp_ge (tgt := 121) hx hb dd_Mo_put_61 (by decide) (fun h => absurd h (nI_ge (a := j) (b := n) (by omega) (by omega))) (fun _ => ?_)
                refine lv_aload_n hx hb dd_Mo_put_64 rfl (lv_at hl 2 rfl) ?_
                refine ly_get (v := .ref m3) C hP 0 rfl uw_Mo rfl 4 (by decide) wa_255 rfl dd_Mo_put_65 ?_
                refine lv_aload_n hx hb dd_Mo_put_68 rfl (lv_at hl 2 rfl) ?_
                refine lv_iload_n hx hb dd_Mo_put_69 rfl (lv_at hl 3 rfl) ?_
                refine lv_iload hx hb dd_Mo_put_70 (lv_at hl 0 rfl) ?_
                refine ly_cV_i (n := 2) (z := (nI (11 * sg + j))) (rest := [.ref m3]) (wn := (ws_Mo K mh m1 m2 m3 m4 m5 m6 m7 m8 m9 n xk xa xb xc xe xl xs xg xr xd xt xf xw xp xq xv xo)) C (cc_Mo_cell D K mh m1 m2 m3 m4 m5 m6 m7 m8 m9 sg j n xk xa xb xc xe xl xs xg xr xd xt xf xw xp xq xv xo (by omega) (by omega) (by omega) (by omega)) rfl wa_289 wa_292 wa_265 wa_293 wa_294 (by decide) (Nat.le_trans (by decide) hRf) (Nat.le_trans (by decide) hRl) rfl hl.1 rfl (Nat.le_of_ble_eq_true rfl) dd_Mo_put_72 hcs [0, 1, 2, 3, 4, 5, 6, 7, 8, 9] [] [0, 1, 2, 3, 4, 5, 6, 7, 8, 9] hP hD hS rfl rfl (by decide) rfl rfl rfl (fun H locs hP hD hS => ?_)
                refine W.eq (g2 := F0 m 75 ls [.int (nI (11 * sg + j)), .ref m3]) rfl ?_
                refine ly_zald C hP 3 rfl (11 * sg + j) rfl (by omega) (by omega) dd_Mo_put_75 ?_
                refine lv_if_eq (tgt := 115) hx hb dd_Mo_put_76 (by decide) (fun h76 => ?_) (fun h76 => ?_)
                · rw [if_pos h76] at hM
                  refine lv_iinc (k := 0) (v := (nI (j + 1))) (lv' := [(6, .int (nI (j + 1))), (5, .int v5), (0, .ref mh), (1, .int (nI sg)), (2, .int (nI i)), (3, .long w)]) hx hb dd_Mo_put_115 hl rfl (ly_incN _) (by decide) rfl (fun ls hl => ?_)
                  refine lv_goto (tgt := 55) hx hb dd_Mo_put_118 (by decide) ?_
                  exact ih55 (j + 1) v5 xa xb xc xt xf ls H locs (by omega) hM (lv_sub hl [0, 1, 2, 3, 4, 5] rfl) hP hD hS
                · rw [if_neg h76] at hM
                  refine lv_aload_n hx hb dd_Mo_put_79 rfl (lv_at hl 2 rfl) ?_
                  refine ly_get (v := .ref m1) C hP 0 rfl uw_Mo rfl 2 (by decide) wa_253 rfl dd_Mo_put_80 ?_
                  refine lv_bipush (v := (6 : Int32)) hx hb dd_Mo_put_83 (by decide) ?_
                  refine lv_iload hx hb dd_Mo_put_85 (lv_at hl 0 rfl) ?_
                  refine ly_imulN C 6 j rfl rfl dd_Mo_put_87 ?_
                  refine lv_iload_n hx hb dd_Mo_put_88 rfl (lv_at hl 4 rfl) ?_
                  refine ly_iaddN C (6 * j) i rfl rfl dd_Mo_put_89 ?_
                  refine ly_iald C hP 1 rfl ((6 * j) + i) rfl (by omega) (by omega) dd_Mo_put_90 ?_
                  refine lv_if_eq (tgt := 115) hx hb dd_Mo_put_91 (by decide) (fun h91 => ?_) (fun h91 => ?_)
                  · rw [if_pos h91] at hM
                    refine lv_iinc (k := 0) (v := (nI (j + 1))) (lv' := [(6, .int (nI (j + 1))), (5, .int v5), (0, .ref mh), (1, .int (nI sg)), (2, .int (nI i)), (3, .long w)]) hx hb dd_Mo_put_115 hl rfl (ly_incN _) (by decide) rfl (fun ls hl => ?_)
                    refine lv_goto (tgt := 55) hx hb dd_Mo_put_118 (by decide) ?_
                    exact ih55 (j + 1) v5 xa xb xc xt xf ls H locs (by omega) hM (lv_sub hl [0, 1, 2, 3, 4, 5] rfl) hP hD hS
                  · rw [if_neg h91] at hM
                    refine lv_aload_n hx hb dd_Mo_put_94 rfl (lv_at hl 2 rfl) ?_
                    refine lv_iload_n hx hb dd_Mo_put_95 rfl (lv_at hl 3 rfl) ?_
                    refine lv_iload hx hb dd_Mo_put_96 (lv_at hl 0 rfl) ?_
                    refine lv_iload_n hx hb dd_Mo_put_98 rfl (lv_at hl 4 rfl) ?_
                    obtain ⟨⟨r_99, xa_99, xc_99, xt_99, xf_99⟩, hq99⟩ : ∃ z, z = mm_Mo_rejectedFor sg j i xa xc xt xf := ⟨_, rfl⟩
                    try rw [← hq99] at hM
                    try dsimp only at hM
                    refine ly_cV_i (n := 3) (z := (r_99, xa_99, xc_99, xt_99, xf_99)) (rest := []) (wn := (ws_Mo K mh m1 m2 m3 m4 m5 m6 m7 m8 m9 n xk xa_99 xb xc_99 xe xl xs xg xr xd xt_99 xf_99 xw xp xq xv xo)) C (cc_Mo_rejectedFor D K mh m1 m2 m3 m4 m5 m6 m7 m8 m9 sg j i n xk xa xb xc xe xl xs xg xr xd xt xf xw xp xq xv xo (by omega) (by omega) (by omega) (by omega) (by omega)) hq99 wa_295 wa_333 wa_265 wa_334 wa_335 (by decide) (Nat.le_trans (by decide) hRf) (Nat.le_trans (by decide) hRl) rfl hl.1 rfl (Nat.le_of_ble_eq_true rfl) dd_Mo_put_99 hcs [0, 1, 2, 3, 4, 5, 6, 7, 8, 9] [] [0, 1, 2, 3, 4, 5, 6, 7, 8, 9] hP hD hS rfl rfl (by decide) rfl rfl rfl (fun H locs hP hD hS => ?_)
                    refine W.eq (g2 := F0 m 102 ls [.int r_99]) rfl ?_
                    refine lv_if_ne (tgt := 115) hx hb dd_Mo_put_102 (by decide) (fun h102 => ?_) (fun h102 => ?_)
                    · rw [if_neg h102] at hM
                      refine lv_iinc (k := 0) (v := (nI (j + 1))) (lv' := [(6, .int (nI (j + 1))), (5, .int v5), (0, .ref mh), (1, .int (nI sg)), (2, .int (nI i)), (3, .long w)]) hx hb dd_Mo_put_115 hl rfl (ly_incN _) (by decide) rfl (fun ls hl => ?_)
                      refine lv_goto (tgt := 55) hx hb dd_Mo_put_118 (by decide) ?_
                      exact ih55 (j + 1) v5 xa_99 xb xc_99 xt_99 xf_99 ls H locs (by omega) hM (lv_sub hl [0, 1, 2, 3, 4, 5] rfl) hP hD hS
                    · rw [if_pos h102] at hM
                      refine lv_aload_n hx hb dd_Mo_put_105 rfl (lv_at hl 2 rfl) ?_
                      refine lv_iload_n hx hb dd_Mo_put_106 rfl (lv_at hl 3 rfl) ?_
                      refine lv_iload hx hb dd_Mo_put_107 (lv_at hl 0 rfl) ?_
                      obtain ⟨⟨xb_109, xt_109, xf_109⟩, hq109⟩ : ∃ z, z = mm_Mo_written sg j xb xt_99 xf_99 := ⟨_, rfl⟩
                      try rw [← hq109] at hM
                      try dsimp only at hM
                      refine ly_cV_v (n := 2) (z := (xb_109, xt_109, xf_109)) (rest := []) (wn := (ws_Mo K mh m1 m2 m3 m4 m5 m6 m7 m8 m9 n xk xa_99 xb_109 xc_99 xe xl xs xg xr xd xt_109 xf_109 xw xp xq xv xo)) C (cc_Mo_written D K mh m1 m2 m3 m4 m5 m6 m7 m8 m9 sg j n xk xa_99 xb xc_99 xe xl xs xg xr xd xt_99 xf_99 xw xp xq xv xo (by omega) (by omega) (by omega) (by omega)) hq109 wa_303 wa_337 wa_265 wa_338 wa_339 (by decide) (Nat.le_trans (by decide) hRf) (Nat.le_trans (by decide) hRl) rfl hl.1 rfl (Nat.le_of_ble_eq_true rfl) dd_Mo_put_109 hcs [0, 1, 2, 3, 4, 5, 6, 7, 8, 9] [] [0, 1, 2, 3, 4, 5, 6, 7, 8, 9] hP hD hS rfl rfl (by decide) rfl rfl rfl (fun H locs hP hD hS => ?_)
                      refine W.eq (g2 := F0 m 112 ls []) rfl ?_
                      refine lv_iinc (k := 1) (v := (v5 + 1)) (lv' := [(5, .int (v5 + 1)), (6, .int (nI j)), (0, .ref mh), (1, .int (nI sg)), (2, .int (nI i)), (3, .long w)]) hx hb dd_Mo_put_112 hl rfl (ly_inc _) (by decide) rfl (fun ls hl => ?_)
                      refine lv_iinc (k := 1) (v := (nI (j + 1))) (lv' := [(6, .int (nI (j + 1))), (5, .int (v5 + 1)), (0, .ref mh), (1, .int (nI sg)), (2, .int (nI i)), (3, .long w)]) hx hb dd_Mo_put_115 hl rfl (ly_incN _) (by decide) rfl (fun ls hl => ?_)
                      refine lv_goto (tgt := 55) hx hb dd_Mo_put_118 (by decide) ?_
                      exact ih55 (j + 1) (v5 + 1) xa_99 xb_109 xc_99 xt_109 xf_109 ls H locs (by omega) hM (lv_sub hl [0, 1, 2, 3, 4, 5] rfl) hP hD hS
            exact lp55 (n - 6) 6 (0 : Int32) xa_39 xb xc xt_39 xf_39 ls H locs (by omega) hM (lv_sub hl [0, 1, 2, 3, 4, 5] rfl) hP hD hS
          · rw [if_neg h42] at hM
            refine lv_bipush (v := (-3 : Int32)) hx hb dd_Mo_put_45 (by decide) ?_
            exact ret ((-3 : Int32), xa_39, xb, xc, xd, xt_39, xf_39) H locs 47 ls hM rfl hS hP hD dd_Mo_put_47
        · rw [if_pos h30] at hM
          refine lv_bipush (v := (-2 : Int32)) hx hb dd_Mo_put_33 (by decide) ?_
          exact ret ((-2 : Int32), xa, xb, xc, xd, xt, xf) H locs 35 ls hM rfl hS hP hD dd_Mo_put_35
      · rw [if_neg h14] at hM
        refine lv_iconst (v := (-1 : Int32)) hx hb dd_Mo_put_17 (by decide) ?_
        exact ret ((-1 : Int32), xa, xb, xc, xd, xt, xf) H locs 18 ls hM rfl hS hP hD dd_Mo_put_18

def mm_Mo_fetch (x : Int32) (y : Int32) (n : Nat) (xk : Int32) (xa : Int32) (xc : Int32) (xe : Int32) (xl : Int64) (xs : Nat) (xg : Nat) (xr : Nat → Int32) (xd : Nat → Int64) (xt : Nat → Int32) (xf : Nat → Int64) (xp : Nat → Nat) (xq : Nat → Int32) (xv : Nat → Nat) (xo : Nat → Int32) : Int32 × (Int32) × (Int32) × (Int32) × (Int64) × (Nat) × (Nat) × (Nat → Int32) × (Nat → Int64) × (Nat → Nat) × (Nat → Int32) × (Nat → Nat) × (Nat → Int32) := (if (mm_Mo_noShard x y n) = (0 : Int32) then (if (xt (11 * (x.toNatClampNeg) + (y.toNatClampNeg))) = (0 : Int32) then (match mm_Mo_follow (x.toNatClampNeg) (y.toNatClampNeg) n xk xa xc xe xs xg xr xt xf xp xq xv xo with | (r_47, xa_47, xc_47, xe_47, xs_47, xg_47, xt_47, xf_47, xp_47, xq_47, xv_47, xo_47) => (if r_47 < (0 : Int32) then (r_47, xa_47, xc_47, xe_47, xl, xs_47, xg_47, xt_47, xf_47, xp_47, xq_47, xv_47, xo_47) else (r_47, xa_47, xc_47, xe_47, (mm_Mo_value (x.toNatClampNeg) (y.toNatClampNeg) xr xd), xs_47, xg_47, xt_47, xf_47, xp_47, xq_47, xv_47, xo_47))) else (match mm_Mo_rejected (x.toNatClampNeg) (y.toNatClampNeg) xa xt xf with | (r_28, xa_28, xt_28, xf_28) => (if r_28 = (0 : Int32) then ((0 : Int32), xa_28, xc, xe, (mm_Mo_value (x.toNatClampNeg) (y.toNatClampNeg) xr xd), xs, xg, xt_28, xf_28, xp, xq, xv, xo) else (match mm_Mo_follow (x.toNatClampNeg) (y.toNatClampNeg) n xk xa_28 xc xe xs xg xr xt_28 xf_28 xp xq xv xo with | (r_47, xa_47, xc_47, xe_47, xs_47, xg_47, xt_47, xf_47, xp_47, xq_47, xv_47, xo_47) => (if r_47 < (0 : Int32) then (r_47, xa_47, xc_47, xe_47, xl, xs_47, xg_47, xt_47, xf_47, xp_47, xq_47, xv_47, xo_47) else (r_47, xa_47, xc_47, xe_47, (mm_Mo_value (x.toNatClampNeg) (y.toNatClampNeg) xr xd), xs_47, xg_47, xt_47, xf_47, xp_47, xq_47, xv_47, xo_47)))))) else ((-1 : Int32), xa, xc, xe, xl, xs, xg, xt, xf, xp, xq, xv, xo))
set_option maxHeartbeats 4000000 in
set_option maxRecDepth 100000 in
theorem cc_Mo_fetch {l : Launch} (D : va_G) (K : Nat → ClassId) (mh m1 m2 m3 m4 m5 m6 m7 m8 m9 : Nat) (x : Int32) (y : Int32) (n : Nat) (xk : Int32) (xa : Int32) (xb : Int32) (xc : Int32) (xe : Int32) (xl : Int64) (xs : Nat) (xg : Nat) (xr : Nat → Int32) (xd : Nat → Int64) (xt : Nat → Int32) (xf : Nat → Int64) (xw : Nat → Int32) (xp : Nat → Nat) (xq : Nat → Int32) (xv : Nat → Nat) (xo : Nat → Int32) (hn : n ≤ 11) (hn6 : 6 ≤ n) : ly_i l yy_Mo_fetch bb_Mo_fetch 5 (some .int) 6 142 D K [.ref mh, .int x, .int y] (ws_Mo K mh m1 m2 m3 m4 m5 m6 m7 m8 m9 n xk xa xb xc xe xl xs xg xr xd xt xf xw xp xq xv xo) (fun z => z.1) (fun z => (ws_Mo K mh m1 m2 m3 m4 m5 m6 m7 m8 m9 n xk (z.2.1) xb (z.2.2.1) (z.2.2.2.1) (z.2.2.2.2.1) (z.2.2.2.2.2.1) (z.2.2.2.2.2.2.1) xr xd (z.2.2.2.2.2.2.2.1) (z.2.2.2.2.2.2.2.2.1) xw (z.2.2.2.2.2.2.2.2.2.1) (z.2.2.2.2.2.2.2.2.2.2.1) (z.2.2.2.2.2.2.2.2.2.2.2.1) (z.2.2.2.2.2.2.2.2.2.2.2.2))) (mm_Mo_fetch x y n xk xa xc xe xl xs xg xr xd xt xf xp xq xv xo) := by
  refine ly_entI (by decide) (Nat.le_of_ble_eq_true rfl) ?_
  intro p e s m av below meth c A ls R Q H locs res hM C hRf hRl hS hP hD hl ret
  obtain ⟨hx, hb, -⟩ := id C
  have hcs : 0 ≤ R.cells ∧ 0 ≤ R.slots := ⟨Nat.zero_le _, Nat.zero_le _⟩
  have hl : lv_has ls 5 [(0, .ref mh), (1, .int x), (2, .int y)] := hl
  rw [mm_Mo_fetch] at hM
  refine lv_aload_n hx hb dd_Mo_fetch_0 rfl (lv_at hl 0 rfl) ?_
  refine lv_iload_n hx hb dd_Mo_fetch_1 rfl (lv_at hl 1 rfl) ?_
  refine lv_iload_n hx hb dd_Mo_fetch_2 rfl (lv_at hl 2 rfl) ?_
  obtain ⟨r_3, hq3⟩ : ∃ z, z = mm_Mo_noShard x y n := ⟨_, rfl⟩
  try rw [← hq3] at hM
  refine ly_cV_i (n := 2) (z := r_3) (rest := []) (wn := (ws_Mo K mh m1 m2 m3 m4 m5 m6 m7 m8 m9 n xk xa xb xc xe xl xs xg xr xd xt xf xw xp xq xv xo)) C (cc_Mo_noShard D K mh m1 m2 m3 m4 m5 m6 m7 m8 m9 x y n xk xa xb xc xe xl xs xg xr xd xt xf xw xp xq xv xo (by omega) (by omega)) hq3 wa_284 wa_341 wa_265 wa_342 wa_343 (by decide) (Nat.le_trans (by decide) hRf) (Nat.le_trans (by decide) hRl) rfl hl.1 rfl (Nat.le_of_ble_eq_true rfl) dd_Mo_fetch_3 hcs [0, 1, 2, 3, 4, 5, 6, 7, 8, 9] [] [0, 1, 2, 3, 4, 5, 6, 7, 8, 9] hP hD hS rfl rfl (by decide) rfl rfl rfl (fun H locs hP hD hS => ?_)
  refine W.eq (g2 := F0 m 6 ls [.int r_3]) rfl ?_
  refine lv_if_eq (tgt := 11) hx hb dd_Mo_fetch_6 (by decide) (fun h6 => ?_) (fun h6 => ?_)
  · rw [if_pos h6] at hM
    obtain ⟨sg, hs, rfl, i, hi, rfl⟩ := in_noShard hn hq3 h6
    try rw [nI_clamp (n := sg) (by omega)] at hM
    try rw [nI_clamp (n := i) (by omega)] at hM
    refine lv_aload_n hx hb dd_Mo_fetch_11 rfl (lv_at hl 0 rfl) ?_
    refine ly_get (v := .ref m3) C hP 0 rfl uw_Mo rfl 4 (by decide) wa_255 rfl dd_Mo_fetch_12 ?_
    refine lv_aload_n hx hb dd_Mo_fetch_15 rfl (lv_at hl 0 rfl) ?_
    refine lv_iload_n hx hb dd_Mo_fetch_16 rfl (lv_at hl 1 rfl) ?_
    refine lv_iload_n hx hb dd_Mo_fetch_17 rfl (lv_at hl 2 rfl) ?_
    refine ly_cV_i (n := 2) (z := (nI (11 * sg + i))) (rest := [.ref m3]) (wn := (ws_Mo K mh m1 m2 m3 m4 m5 m6 m7 m8 m9 n xk xa xb xc xe xl xs xg xr xd xt xf xw xp xq xv xo)) C (cc_Mo_cell D K mh m1 m2 m3 m4 m5 m6 m7 m8 m9 sg i n xk xa xb xc xe xl xs xg xr xd xt xf xw xp xq xv xo (by omega) (by omega) (by omega) (by omega)) rfl wa_289 wa_292 wa_265 wa_293 wa_294 (by decide) (Nat.le_trans (by decide) hRf) (Nat.le_trans (by decide) hRl) rfl hl.1 rfl (Nat.le_of_ble_eq_true rfl) dd_Mo_fetch_18 hcs [0, 1, 2, 3, 4, 5, 6, 7, 8, 9] [] [0, 1, 2, 3, 4, 5, 6, 7, 8, 9] hP hD hS rfl rfl (by decide) rfl rfl rfl (fun H locs hP hD hS => ?_)
    refine W.eq (g2 := F0 m 21 ls [.int (nI (11 * sg + i)), .ref m3]) rfl ?_
    refine ly_zald C hP 3 rfl (11 * sg + i) rfl (by omega) (by omega) dd_Mo_fetch_21 ?_
    refine lv_if_eq (tgt := 34) hx hb dd_Mo_fetch_22 (by decide) (fun h22 => ?_) (fun h22 => ?_)
    · rw [if_pos h22] at hM
      refine lv_iconst (v := (1 : Int32)) hx hb dd_Mo_fetch_34 (by decide) ?_
      refine lv_goto (tgt := 39) hx hb dd_Mo_fetch_35 (by decide) ?_
      refine lv_istore_n (lv' := [(3, .int (1 : Int32)), (0, .ref mh), (1, .int (nI sg)), (2, .int (nI i))]) hx hb dd_Mo_fetch_39 rfl hl (by decide) rfl (fun ls hl => ?_)
      refine lv_iload_n hx hb dd_Mo_fetch_40 rfl (lv_at hl 0 rfl) ?_
      refine lv_if_eq (tgt := 53) hx hb dd_Mo_fetch_41 (by decide) (fun h => absurd h (by decide)) (fun _ => ?_)
      refine lv_aload_n hx hb dd_Mo_fetch_44 rfl (lv_at hl 1 rfl) ?_
      refine lv_iload_n hx hb dd_Mo_fetch_45 rfl (lv_at hl 2 rfl) ?_
      refine lv_iload_n hx hb dd_Mo_fetch_46 rfl (lv_at hl 3 rfl) ?_
      obtain ⟨⟨r_47, xa_47, xc_47, xe_47, xs_47, xg_47, xt_47, xf_47, xp_47, xq_47, xv_47, xo_47⟩, hq47⟩ : ∃ z, z = mm_Mo_follow sg i n xk xa xc xe xs xg xr xt xf xp xq xv xo := ⟨_, rfl⟩
      try rw [← hq47] at hM
      try dsimp only at hM
      refine ly_cV_i (n := 2) (z := (r_47, xa_47, xc_47, xe_47, xs_47, xg_47, xt_47, xf_47, xp_47, xq_47, xv_47, xo_47)) (rest := []) (wn := (ws_Mo K mh m1 m2 m3 m4 m5 m6 m7 m8 m9 n xk xa_47 xb xc_47 xe_47 xl xs_47 xg_47 xr xd xt_47 xf_47 xw xp_47 xq_47 xv_47 xo_47)) C (cc_Mo_follow D K mh m1 m2 m3 m4 m5 m6 m7 m8 m9 sg i n xk xa xb xc xe xl xs xg xr xd xt xf xw xp xq xv xo (by omega) (by omega) (by omega) (by omega)) hq47 wa_328 wa_344 wa_265 wa_345 wa_346 (by decide) (Nat.le_trans (by decide) hRf) (Nat.le_trans (by decide) hRl) rfl hl.1 rfl (Nat.le_of_ble_eq_true rfl) dd_Mo_fetch_47 hcs [0, 1, 2, 3, 4, 5, 6, 7, 8, 9] [] [0, 1, 2, 3, 4, 5, 6, 7, 8, 9] hP hD hS rfl rfl (by decide) rfl rfl rfl (fun H locs hP hD hS => ?_)
      refine W.eq (g2 := F0 m 50 ls [.int r_47]) rfl ?_
      refine lv_goto (tgt := 54) hx hb dd_Mo_fetch_50 (by decide) ?_
      refine lv_istore (lv' := [(4, .int r_47), (3, .int (1 : Int32)), (0, .ref mh), (1, .int (nI sg)), (2, .int (nI i))]) hx hb dd_Mo_fetch_54 hl (by decide) rfl (fun ls hl => ?_)
      refine lv_aload_n hx hb dd_Mo_fetch_56 rfl (lv_at hl 2 rfl) ?_
      refine lv_iload hx hb dd_Mo_fetch_57 (lv_at hl 0 rfl) ?_
      refine lv_if_lt (tgt := 71) hx hb dd_Mo_fetch_59 (by decide) (fun h59 => ?_) (fun h59 => ?_)
      · rw [if_pos h59] at hM
        refine lv_aload_n hx hb dd_Mo_fetch_71 rfl (lv_at hl 2 rfl) ?_
        refine ly_get (v := .long xl) C hP 0 rfl uw_Mo rfl 11 (by decide) wa_350 rfl dd_Mo_fetch_72 ?_
        refine ly_put (ws' := (ws_Mo K mh m1 m2 m3 m4 m5 m6 m7 m8 m9 n xk xa_47 xb xc_47 xe_47 xl xs_47 xg_47 xr xd xt_47 xf_47 xw xp_47 xq_47 xv_47 xo_47)) C hP hD hS 0 rfl uw_Mo tt_Mo nn_Mo rfl 11 (by decide) wa_350 rfl rfl rfl (Nat.le_of_ble_eq_true rfl) dd_Mo_fetch_75 rfl (fun H locs hP hD hS => ?_)
        refine lv_iload hx hb dd_Mo_fetch_78 (lv_at hl 0 rfl) ?_
        exact ret (r_47, xa_47, xc_47, xe_47, xl, xs_47, xg_47, xt_47, xf_47, xp_47, xq_47, xv_47, xo_47) H locs 80 ls hM rfl hS hP hD dd_Mo_fetch_80
      · rw [if_neg h59] at hM
        refine lv_aload_n hx hb dd_Mo_fetch_62 rfl (lv_at hl 2 rfl) ?_
        refine lv_iload_n hx hb dd_Mo_fetch_63 rfl (lv_at hl 3 rfl) ?_
        refine lv_iload_n hx hb dd_Mo_fetch_64 rfl (lv_at hl 4 rfl) ?_
        obtain ⟨r_65, hq65⟩ : ∃ z, z = mm_Mo_value sg i xr xd := ⟨_, rfl⟩
        try rw [← hq65] at hM
        refine ly_cV_l (n := 2) (z := r_65) (rest := [.ref mh]) (wn := (ws_Mo K mh m1 m2 m3 m4 m5 m6 m7 m8 m9 n xk xa_47 xb xc_47 xe_47 xl xs_47 xg_47 xr xd xt_47 xf_47 xw xp_47 xq_47 xv_47 xo_47)) C (cc_Mo_value D K mh m1 m2 m3 m4 m5 m6 m7 m8 m9 sg i n xk xa_47 xb xc_47 xe_47 xl xs_47 xg_47 xr xd xt_47 xf_47 xw xp_47 xq_47 xv_47 xo_47 (by omega) (by omega) (by omega) (by omega)) hq65 wa_279 wa_347 wa_265 wa_348 wa_349 (by decide) (Nat.le_trans (by decide) hRf) (Nat.le_trans (by decide) hRl) rfl hl.1 rfl (Nat.le_of_ble_eq_true rfl) dd_Mo_fetch_65 hcs [0, 1, 2, 3, 4, 5, 6, 7, 8, 9] [] [0, 1, 2, 3, 4, 5, 6, 7, 8, 9] hP hD hS rfl rfl (by decide) rfl rfl rfl (fun H locs hP hD hS => ?_)
        refine W.eq (g2 := F0 m 68 ls [.long r_65, .ref mh]) rfl ?_
        refine lv_goto (tgt := 75) hx hb dd_Mo_fetch_68 (by decide) ?_
        refine ly_put (ws' := (ws_Mo K mh m1 m2 m3 m4 m5 m6 m7 m8 m9 n xk xa_47 xb xc_47 xe_47 r_65 xs_47 xg_47 xr xd xt_47 xf_47 xw xp_47 xq_47 xv_47 xo_47)) C hP hD hS 0 rfl uw_Mo tt_Mo nn_Mo rfl 11 (by decide) wa_350 rfl rfl rfl (Nat.le_of_ble_eq_true rfl) dd_Mo_fetch_75 rfl (fun H locs hP hD hS => ?_)
        refine lv_iload hx hb dd_Mo_fetch_78 (lv_at hl 0 rfl) ?_
        exact ret (r_47, xa_47, xc_47, xe_47, r_65, xs_47, xg_47, xt_47, xf_47, xp_47, xq_47, xv_47, xo_47) H locs 80 ls hM rfl hS hP hD dd_Mo_fetch_80
    · rw [if_neg h22] at hM
      refine lv_aload_n hx hb dd_Mo_fetch_25 rfl (lv_at hl 0 rfl) ?_
      refine lv_iload_n hx hb dd_Mo_fetch_26 rfl (lv_at hl 1 rfl) ?_
      refine lv_iload_n hx hb dd_Mo_fetch_27 rfl (lv_at hl 2 rfl) ?_
      obtain ⟨⟨r_28, xa_28, xt_28, xf_28⟩, hq28⟩ : ∃ z, z = mm_Mo_rejected sg i xa xt xf := ⟨_, rfl⟩
      try rw [← hq28] at hM
      try dsimp only at hM
      refine ly_cV_i (n := 2) (z := (r_28, xa_28, xt_28, xf_28)) (rest := []) (wn := (ws_Mo K mh m1 m2 m3 m4 m5 m6 m7 m8 m9 n xk xa_28 xb xc xe xl xs xg xr xd xt_28 xf_28 xw xp xq xv xo)) C (cc_Mo_rejected D K mh m1 m2 m3 m4 m5 m6 m7 m8 m9 sg i n xk xa xb xc xe xl xs xg xr xd xt xf xw xp xq xv xo (by omega) (by omega) (by omega) (by omega)) hq28 wa_290 wa_300 wa_265 wa_301 wa_302 (by decide) (Nat.le_trans (by decide) hRf) (Nat.le_trans (by decide) hRl) rfl hl.1 rfl (Nat.le_of_ble_eq_true rfl) dd_Mo_fetch_28 hcs [0, 1, 2, 3, 4, 5, 6, 7, 8, 9] [] [0, 1, 2, 3, 4, 5, 6, 7, 8, 9] hP hD hS rfl rfl (by decide) rfl rfl rfl (fun H locs hP hD hS => ?_)
      refine W.eq (g2 := F0 m 31 ls [.int r_28]) rfl ?_
      refine lv_if_eq (tgt := 38) hx hb dd_Mo_fetch_31 (by decide) (fun h31 => ?_) (fun h31 => ?_)
      · rw [if_pos h31] at hM
        refine lv_iconst (v := (0 : Int32)) hx hb dd_Mo_fetch_38 (by decide) ?_
        refine lv_istore_n (lv' := [(3, .int (0 : Int32)), (0, .ref mh), (1, .int (nI sg)), (2, .int (nI i))]) hx hb dd_Mo_fetch_39 rfl hl (by decide) rfl (fun ls hl => ?_)
        refine lv_iload_n hx hb dd_Mo_fetch_40 rfl (lv_at hl 0 rfl) ?_
        refine lv_if_eq (tgt := 53) hx hb dd_Mo_fetch_41 (by decide) (fun _ => ?_) (fun h => absurd (by decide) h)
        refine lv_iconst (v := (0 : Int32)) hx hb dd_Mo_fetch_53 (by decide) ?_
        refine lv_istore (lv' := [(4, .int (0 : Int32)), (3, .int (0 : Int32)), (0, .ref mh), (1, .int (nI sg)), (2, .int (nI i))]) hx hb dd_Mo_fetch_54 hl (by decide) rfl (fun ls hl => ?_)
        refine lv_aload_n hx hb dd_Mo_fetch_56 rfl (lv_at hl 2 rfl) ?_
        refine lv_iload hx hb dd_Mo_fetch_57 (lv_at hl 0 rfl) ?_
        refine lv_if_lt (tgt := 71) hx hb dd_Mo_fetch_59 (by decide) (fun h => absurd h (by decide)) (fun _ => ?_)
        refine lv_aload_n hx hb dd_Mo_fetch_62 rfl (lv_at hl 2 rfl) ?_
        refine lv_iload_n hx hb dd_Mo_fetch_63 rfl (lv_at hl 3 rfl) ?_
        refine lv_iload_n hx hb dd_Mo_fetch_64 rfl (lv_at hl 4 rfl) ?_
        obtain ⟨r_65, hq65⟩ : ∃ z, z = mm_Mo_value sg i xr xd := ⟨_, rfl⟩
        try rw [← hq65] at hM
        refine ly_cV_l (n := 2) (z := r_65) (rest := [.ref mh]) (wn := (ws_Mo K mh m1 m2 m3 m4 m5 m6 m7 m8 m9 n xk xa_28 xb xc xe xl xs xg xr xd xt_28 xf_28 xw xp xq xv xo)) C (cc_Mo_value D K mh m1 m2 m3 m4 m5 m6 m7 m8 m9 sg i n xk xa_28 xb xc xe xl xs xg xr xd xt_28 xf_28 xw xp xq xv xo (by omega) (by omega) (by omega) (by omega)) hq65 wa_279 wa_347 wa_265 wa_348 wa_349 (by decide) (Nat.le_trans (by decide) hRf) (Nat.le_trans (by decide) hRl) rfl hl.1 rfl (Nat.le_of_ble_eq_true rfl) dd_Mo_fetch_65 hcs [0, 1, 2, 3, 4, 5, 6, 7, 8, 9] [] [0, 1, 2, 3, 4, 5, 6, 7, 8, 9] hP hD hS rfl rfl (by decide) rfl rfl rfl (fun H locs hP hD hS => ?_)
        refine W.eq (g2 := F0 m 68 ls [.long r_65, .ref mh]) rfl ?_
        refine lv_goto (tgt := 75) hx hb dd_Mo_fetch_68 (by decide) ?_
        refine ly_put (ws' := (ws_Mo K mh m1 m2 m3 m4 m5 m6 m7 m8 m9 n xk xa_28 xb xc xe r_65 xs xg xr xd xt_28 xf_28 xw xp xq xv xo)) C hP hD hS 0 rfl uw_Mo tt_Mo nn_Mo rfl 11 (by decide) wa_350 rfl rfl rfl (Nat.le_of_ble_eq_true rfl) dd_Mo_fetch_75 rfl (fun H locs hP hD hS => ?_)
        refine lv_iload hx hb dd_Mo_fetch_78 (lv_at hl 0 rfl) ?_
        exact ret ((0 : Int32), xa_28, xc, xe, r_65, xs, xg, xt_28, xf_28, xp, xq, xv, xo) H locs 80 ls hM rfl hS hP hD dd_Mo_fetch_80
      · rw [if_neg h31] at hM
        refine lv_iconst (v := (1 : Int32)) hx hb dd_Mo_fetch_34 (by decide) ?_
        refine lv_goto (tgt := 39) hx hb dd_Mo_fetch_35 (by decide) ?_
        refine lv_istore_n (lv' := [(3, .int (1 : Int32)), (0, .ref mh), (1, .int (nI sg)), (2, .int (nI i))]) hx hb dd_Mo_fetch_39 rfl hl (by decide) rfl (fun ls hl => ?_)
        refine lv_iload_n hx hb dd_Mo_fetch_40 rfl (lv_at hl 0 rfl) ?_
        refine lv_if_eq (tgt := 53) hx hb dd_Mo_fetch_41 (by decide) (fun h => absurd h (by decide)) (fun _ => ?_)
        refine lv_aload_n hx hb dd_Mo_fetch_44 rfl (lv_at hl 1 rfl) ?_
        refine lv_iload_n hx hb dd_Mo_fetch_45 rfl (lv_at hl 2 rfl) ?_
        refine lv_iload_n hx hb dd_Mo_fetch_46 rfl (lv_at hl 3 rfl) ?_
        obtain ⟨⟨r_47, xa_47, xc_47, xe_47, xs_47, xg_47, xt_47, xf_47, xp_47, xq_47, xv_47, xo_47⟩, hq47⟩ : ∃ z, z = mm_Mo_follow sg i n xk xa_28 xc xe xs xg xr xt_28 xf_28 xp xq xv xo := ⟨_, rfl⟩
        try rw [← hq47] at hM
        try dsimp only at hM
        refine ly_cV_i (n := 2) (z := (r_47, xa_47, xc_47, xe_47, xs_47, xg_47, xt_47, xf_47, xp_47, xq_47, xv_47, xo_47)) (rest := []) (wn := (ws_Mo K mh m1 m2 m3 m4 m5 m6 m7 m8 m9 n xk xa_47 xb xc_47 xe_47 xl xs_47 xg_47 xr xd xt_47 xf_47 xw xp_47 xq_47 xv_47 xo_47)) C (cc_Mo_follow D K mh m1 m2 m3 m4 m5 m6 m7 m8 m9 sg i n xk xa_28 xb xc xe xl xs xg xr xd xt_28 xf_28 xw xp xq xv xo (by omega) (by omega) (by omega) (by omega)) hq47 wa_328 wa_344 wa_265 wa_345 wa_346 (by decide) (Nat.le_trans (by decide) hRf) (Nat.le_trans (by decide) hRl) rfl hl.1 rfl (Nat.le_of_ble_eq_true rfl) dd_Mo_fetch_47 hcs [0, 1, 2, 3, 4, 5, 6, 7, 8, 9] [] [0, 1, 2, 3, 4, 5, 6, 7, 8, 9] hP hD hS rfl rfl (by decide) rfl rfl rfl (fun H locs hP hD hS => ?_)
        refine W.eq (g2 := F0 m 50 ls [.int r_47]) rfl ?_
        refine lv_goto (tgt := 54) hx hb dd_Mo_fetch_50 (by decide) ?_
        refine lv_istore (lv' := [(4, .int r_47), (3, .int (1 : Int32)), (0, .ref mh), (1, .int (nI sg)), (2, .int (nI i))]) hx hb dd_Mo_fetch_54 hl (by decide) rfl (fun ls hl => ?_)
        refine lv_aload_n hx hb dd_Mo_fetch_56 rfl (lv_at hl 2 rfl) ?_
        refine lv_iload hx hb dd_Mo_fetch_57 (lv_at hl 0 rfl) ?_
        refine lv_if_lt (tgt := 71) hx hb dd_Mo_fetch_59 (by decide) (fun h59 => ?_) (fun h59 => ?_)
        · rw [if_pos h59] at hM
          refine lv_aload_n hx hb dd_Mo_fetch_71 rfl (lv_at hl 2 rfl) ?_
          refine ly_get (v := .long xl) C hP 0 rfl uw_Mo rfl 11 (by decide) wa_350 rfl dd_Mo_fetch_72 ?_
          refine ly_put (ws' := (ws_Mo K mh m1 m2 m3 m4 m5 m6 m7 m8 m9 n xk xa_47 xb xc_47 xe_47 xl xs_47 xg_47 xr xd xt_47 xf_47 xw xp_47 xq_47 xv_47 xo_47)) C hP hD hS 0 rfl uw_Mo tt_Mo nn_Mo rfl 11 (by decide) wa_350 rfl rfl rfl (Nat.le_of_ble_eq_true rfl) dd_Mo_fetch_75 rfl (fun H locs hP hD hS => ?_)
          refine lv_iload hx hb dd_Mo_fetch_78 (lv_at hl 0 rfl) ?_
          exact ret (r_47, xa_47, xc_47, xe_47, xl, xs_47, xg_47, xt_47, xf_47, xp_47, xq_47, xv_47, xo_47) H locs 80 ls hM rfl hS hP hD dd_Mo_fetch_80
        · rw [if_neg h59] at hM
          refine lv_aload_n hx hb dd_Mo_fetch_62 rfl (lv_at hl 2 rfl) ?_
          refine lv_iload_n hx hb dd_Mo_fetch_63 rfl (lv_at hl 3 rfl) ?_
          refine lv_iload_n hx hb dd_Mo_fetch_64 rfl (lv_at hl 4 rfl) ?_
          obtain ⟨r_65, hq65⟩ : ∃ z, z = mm_Mo_value sg i xr xd := ⟨_, rfl⟩
          try rw [← hq65] at hM
          refine ly_cV_l (n := 2) (z := r_65) (rest := [.ref mh]) (wn := (ws_Mo K mh m1 m2 m3 m4 m5 m6 m7 m8 m9 n xk xa_47 xb xc_47 xe_47 xl xs_47 xg_47 xr xd xt_47 xf_47 xw xp_47 xq_47 xv_47 xo_47)) C (cc_Mo_value D K mh m1 m2 m3 m4 m5 m6 m7 m8 m9 sg i n xk xa_47 xb xc_47 xe_47 xl xs_47 xg_47 xr xd xt_47 xf_47 xw xp_47 xq_47 xv_47 xo_47 (by omega) (by omega) (by omega) (by omega)) hq65 wa_279 wa_347 wa_265 wa_348 wa_349 (by decide) (Nat.le_trans (by decide) hRf) (Nat.le_trans (by decide) hRl) rfl hl.1 rfl (Nat.le_of_ble_eq_true rfl) dd_Mo_fetch_65 hcs [0, 1, 2, 3, 4, 5, 6, 7, 8, 9] [] [0, 1, 2, 3, 4, 5, 6, 7, 8, 9] hP hD hS rfl rfl (by decide) rfl rfl rfl (fun H locs hP hD hS => ?_)
          refine W.eq (g2 := F0 m 68 ls [.long r_65, .ref mh]) rfl ?_
          refine lv_goto (tgt := 75) hx hb dd_Mo_fetch_68 (by decide) ?_
          refine ly_put (ws' := (ws_Mo K mh m1 m2 m3 m4 m5 m6 m7 m8 m9 n xk xa_47 xb xc_47 xe_47 r_65 xs_47 xg_47 xr xd xt_47 xf_47 xw xp_47 xq_47 xv_47 xo_47)) C hP hD hS 0 rfl uw_Mo tt_Mo nn_Mo rfl 11 (by decide) wa_350 rfl rfl rfl (Nat.le_of_ble_eq_true rfl) dd_Mo_fetch_75 rfl (fun H locs hP hD hS => ?_)
          refine lv_iload hx hb dd_Mo_fetch_78 (lv_at hl 0 rfl) ?_
          exact ret (r_47, xa_47, xc_47, xe_47, r_65, xs_47, xg_47, xt_47, xf_47, xp_47, xq_47, xv_47, xo_47) H locs 80 ls hM rfl hS hP hD dd_Mo_fetch_80
  · rw [if_neg h6] at hM
    refine lv_iconst (v := (-1 : Int32)) hx hb dd_Mo_fetch_9 (by decide) ?_
    exact ret ((-1 : Int32), xa, xc, xe, xl, xs, xg, xt, xf, xp, xq, xv, xo) H locs 10 ls hM rfl hS hP hD dd_Mo_fetch_10

def mm_Mo_fetched (xl : Int64) : Int64 := xl
set_option maxHeartbeats 4000000 in
set_option maxRecDepth 100000 in
theorem cc_Mo_fetched {l : Launch} (D : va_G) (K : Nat → ClassId) (mh m1 m2 m3 m4 m5 m6 m7 m8 m9 : Nat) (n : Nat) (xk : Int32) (xa : Int32) (xb : Int32) (xc : Int32) (xe : Int32) (xl : Int64) (xs : Nat) (xg : Nat) (xr : Nat → Int32) (xd : Nat → Int64) (xt : Nat → Int32) (xf : Nat → Int64) (xw : Nat → Int32) (xp : Nat → Nat) (xq : Nat → Int32) (xv : Nat → Nat) (xo : Nat → Int32) (hn : n ≤ 11) (hn6 : 6 ≤ n) : ly_l l yy_Mo_fetched bb_Mo_fetched 1 (some .long) 0 0 D K [.ref mh] (ws_Mo K mh m1 m2 m3 m4 m5 m6 m7 m8 m9 n xk xa xb xc xe xl xs xg xr xd xt xf xw xp xq xv xo) (fun z => z) (fun _ => (ws_Mo K mh m1 m2 m3 m4 m5 m6 m7 m8 m9 n xk xa xb xc xe xl xs xg xr xd xt xf xw xp xq xv xo)) (mm_Mo_fetched xl) := by
  refine ly_entL (by decide) (Nat.le_of_ble_eq_true rfl) ?_
  intro p e s m av below meth c A ls R Q H locs res hM C hRf hRl hS hP hD hl ret
  obtain ⟨hx, hb, -⟩ := id C
  have hcs : 0 ≤ R.cells ∧ 0 ≤ R.slots := ⟨Nat.zero_le _, Nat.zero_le _⟩
  have hl : lv_has ls 1 [(0, .ref mh)] := hl
  rw [mm_Mo_fetched] at hM
  refine lv_aload_n hx hb dd_Mo_fetched_0 rfl (lv_at hl 0 rfl) ?_
  refine ly_get (v := .long xl) C hP 0 rfl uw_Mo rfl 11 (by decide) wa_350 rfl dd_Mo_fetched_1 ?_
  exact ret xl H locs 4 ls hM hS hP hD dd_Mo_fetched_4

def mm_Mo_fail_L43 (q : Nat) (j : Nat) : Nat → Nat → (Int32) → (Nat → Int32) → (Nat → Int64) → (Int32) × (Nat → Int32) × (Nat → Int64)
  | 0, j43, v2L43, xtL43, xfL43 => (v2L43, xtL43, xfL43)
  | k43 + 1, j43, v2L43, xtL43, xfL43 => (if (nI ((5 * j + j43) % 12)) = (nI q) then (if (xtL43 (11 * j + j43)) = (0 : Int32) then (mm_Mo_fail_L43 q j k43 (j43 + 1) v2L43 xtL43 xfL43) else (mm_Mo_fail_L43 q j k43 (j43 + 1) (v2L43 + 1) (upd xtL43 (11 * j + j43) (0 : Int32)) (vp_updL xfL43 (11 * j + j43) (0 : Int64)))) else (mm_Mo_fail_L43 q j k43 (j43 + 1) v2L43 xtL43 xfL43))
def mm_Mo_fail_L35 (n : Nat) (xw : Nat → Int32) (q : Nat) : Nat → Nat → (Int32) → (Nat → Int32) → (Nat → Int64) → Int32 × (Nat → Int32) × (Nat → Int64) × (Nat → Int32)
  | 0, j, v2, xt, xf => (v2, xt, xf, (upd xw q (1 : Int32)))
  | k + 1, j, v2, xt, xf => (match mm_Mo_fail_L43 q j n 0 v2 xt xf with | (v2_43, xt_43, xf_43) => (mm_Mo_fail_L35 n xw q k (j + 1) v2_43 xt_43 xf_43))
def mm_Mo_fail (x : Int32) (n : Nat) (xt : Nat → Int32) (xf : Nat → Int64) (xw : Nat → Int32) : Int32 × (Nat → Int32) × (Nat → Int64) × (Nat → Int32) := (if x < (0 : Int32) then ((-1 : Int32), xt, xf, xw) else (if x ≤ (11 : Int32) then (if (xw (x.toNatClampNeg)) = (0 : Int32) then (mm_Mo_fail_L35 n xw (x.toNatClampNeg) 3 0 (0 : Int32) xt xf) else ((-2 : Int32), xt, xf, xw)) else ((-1 : Int32), xt, xf, xw)))
set_option maxHeartbeats 4000000 in
set_option maxRecDepth 100000 in
theorem cc_Mo_fail {l : Launch} (D : va_G) (K : Nat → ClassId) (mh m1 m2 m3 m4 m5 m6 m7 m8 m9 : Nat) (x : Int32) (n : Nat) (xk : Int32) (xa : Int32) (xb : Int32) (xc : Int32) (xe : Int32) (xl : Int64) (xs : Nat) (xg : Nat) (xr : Nat → Int32) (xd : Nat → Int64) (xt : Nat → Int32) (xf : Nat → Int64) (xw : Nat → Int32) (xp : Nat → Nat) (xq : Nat → Int32) (xv : Nat → Nat) (xo : Nat → Int32) (hn : n ≤ 11) (hn6 : 6 ≤ n) : ly_i l yy_Mo_fail bb_Mo_fail 5 (some .int) 1 22 D K [.ref mh, .int x] (ws_Mo K mh m1 m2 m3 m4 m5 m6 m7 m8 m9 n xk xa xb xc xe xl xs xg xr xd xt xf xw xp xq xv xo) (fun z => z.1) (fun z => (ws_Mo K mh m1 m2 m3 m4 m5 m6 m7 m8 m9 n xk xa xb xc xe xl xs xg xr xd (z.2.1) (z.2.2.1) (z.2.2.2) xp xq xv xo)) (mm_Mo_fail x n xt xf xw) := by
  refine ly_entI (by decide) (Nat.le_of_ble_eq_true rfl) ?_
  intro p e s m av below meth c A ls R Q H locs res hM C hRf hRl hS hP hD hl ret
  obtain ⟨hx, hb, -⟩ := id C
  have hcs : 0 ≤ R.cells ∧ 0 ≤ R.slots := ⟨Nat.zero_le _, Nat.zero_le _⟩
  have hl : lv_has ls 5 [(0, .ref mh), (1, .int x)] := hl
  rw [mm_Mo_fail] at hM
  refine lv_iload_n hx hb dd_Mo_fail_0 rfl (lv_at hl 1 rfl) ?_
  refine lv_if_lt (tgt := 10) hx hb dd_Mo_fail_1 (by decide) (fun h1 => ?_) (fun h1 => ?_)
  · rw [if_pos h1] at hM
    refine lv_iconst (v := (-1 : Int32)) hx hb dd_Mo_fail_10 (by decide) ?_
    exact ret ((-1 : Int32), xt, xf, xw) H locs 11 ls hM rfl hS hP hD dd_Mo_fail_11
  · rw [if_neg h1] at hM
    refine lv_iload_n hx hb dd_Mo_fail_4 rfl (lv_at hl 1 rfl) ?_
    refine lv_bipush (v := (11 : Int32)) hx hb dd_Mo_fail_5 (by decide) ?_
    refine lv_icmp_le (tgt := 12) hx hb dd_Mo_fail_7 (by decide) (fun h7 => ?_) (fun h7 => ?_)
    · rw [if_pos h7] at hM
      obtain ⟨q, hq0, rfl⟩ := ly_rng3 (N := 12) (M := 11) h1 h7 (by decide)
      try rw [nI_clamp (n := q) (by omega)] at hM
      refine lv_aload_n hx hb dd_Mo_fail_12 rfl (lv_at hl 0 rfl) ?_
      refine ly_get (v := .ref m5) C hP 0 rfl uw_Mo rfl 6 (by decide) wa_257 rfl dd_Mo_fail_13 ?_
      refine lv_iload_n hx hb dd_Mo_fail_16 rfl (lv_at hl 1 rfl) ?_
      refine ly_zald C hP 5 rfl q rfl (by omega) (by omega) dd_Mo_fail_17 ?_
      refine lv_if_eq (tgt := 24) hx hb dd_Mo_fail_18 (by decide) (fun h18 => ?_) (fun h18 => ?_)
      · rw [if_pos h18] at hM
        refine lv_aload_n hx hb dd_Mo_fail_24 rfl (lv_at hl 0 rfl) ?_
        refine ly_get (v := .ref m5) C hP 0 rfl uw_Mo rfl 6 (by decide) wa_257 rfl dd_Mo_fail_25 ?_
        refine lv_iload_n hx hb dd_Mo_fail_28 rfl (lv_at hl 1 rfl) ?_
        refine lv_iconst (v := (1 : Int32)) hx hb dd_Mo_fail_29 (by decide) ?_
        refine ly_zast (ws' := (ws_Mo K mh m1 m2 m3 m4 m5 m6 m7 m8 m9 n xk xa xb xc xe xl xs xg xr xd xt xf (upd xw q (1 : Int32)) xp xq xv xo)) C hP hD hS 5 rfl (by decide) q rfl (by omega) (by omega) dd_Mo_fail_30 rfl (fun H locs hP hD hS => ?_)
        refine lv_iconst (v := (0 : Int32)) hx hb dd_Mo_fail_31 (by decide) ?_
        refine lv_istore_n (lv' := [(2, .int (0 : Int32)), (0, .ref mh), (1, .int (nI q))]) hx hb dd_Mo_fail_32 rfl hl (by decide) rfl (fun ls hl => ?_)
        refine lv_iconst (v := (0 : Int32)) hx hb dd_Mo_fail_33 (by decide) ?_
        refine lv_istore_n (lv' := [(3, .int (0 : Int32)), (2, .int (0 : Int32)), (0, .ref mh), (1, .int (nI q))]) hx hb dd_Mo_fail_34 rfl hl (by decide) rfl (fun ls hl => ?_)
        have lp35 : ∀ (k : Nat) (j : Nat) (v2 : Int32) (xt : Nat → Int32) (xf : Nat → Int64) (ls : Array Slot) (H : Heap) (locs : List Loc), j + k = 3 → mm_Mo_fail_L35 n xw q k j v2 xt xf = res → lv_has ls 5 [(3, .int (nI j)), (2, .int v2), (0, .ref mh), (1, .int (nI q))] → va_P D cl_all (ws_Mo K mh m1 m2 m3 m4 m5 m6 m7 m8 m9 n xk xa xb xc xe xl xs xg xr xd xt xf (upd xw q (1 : Int32)) xp xq xv xo) H → va_D A (ws_Mo K mh m1 m2 m3 m4 m5 m6 m7 m8 m9 n xk xa xb xc xe xl xs xg xr xd xt xf (upd xw q (1 : Int32)) xp xq xv xo) → va_S A s.heap H locs → W p l e R s m av below meth c H locs 0 0 Q (F0 m 35 ls []) := by
          intro k
          induction k with
          | zero =>
            intro j v2 xt xf ls H locs hjk35 hM hl hP hD hS
            have hj0 : j = 3 := by omega
            subst j
            rw [mm_Mo_fail_L35] at hM
            refine lv_iload_n hx hb dd_Mo_fail_35 rfl (lv_at hl 0 rfl) ?_
            refine lv_iconst (v := (3 : Int32)) hx hb dd_Mo_fail_36 (by decide) ?_
            refine lv_icmp_ge (tgt := 119) hx hb dd_Mo_fail_37 (by decide) (fun _ => ?_) (fun h => absurd (nI_le (a := 3) (b := 3) (by omega) (by omega)) h)
            refine lv_iload_n hx hb dd_Mo_fail_119 rfl (lv_at hl 1 rfl) ?_
            exact ret (v2, xt, xf, (upd xw q (1 : Int32))) H locs 120 ls hM rfl hS hP hD dd_Mo_fail_120
          | succ k ih35 =>
            intro j v2 xt xf ls H locs hjk35 hM hl hP hD hS
            rw [mm_Mo_fail_L35] at hM
            refine lv_iload_n hx hb dd_Mo_fail_35 rfl (lv_at hl 0 rfl) ?_
            refine lv_iconst (v := (3 : Int32)) hx hb dd_Mo_fail_36 (by decide) ?_
            refine lv_icmp_ge (tgt := 119) hx hb dd_Mo_fail_37 (by decide) (fun h => absurd h (nI_ge (a := j) (b := 3) (by omega) (by omega))) (fun _ => ?_)
            refine lv_iconst (v := (0 : Int32)) hx hb dd_Mo_fail_40 (by decide) ?_
            refine lv_istore (lv' := [(4, .int (0 : Int32)), (3, .int (nI j)), (2, .int v2), (0, .ref mh), (1, .int (nI q))]) hx hb dd_Mo_fail_41 hl (by decide) rfl (fun ls hl => ?_)
            have lp43 : ∀ (k43 : Nat) (j43 : Nat) (v2L43 : Int32) (xtL43 : Nat → Int32) (xfL43 : Nat → Int64) (ls : Array Slot) (H : Heap) (locs : List Loc) (rs43 : (Int32) × (Nat → Int32) × (Nat → Int64)), j43 + k43 = n → mm_Mo_fail_L43 q j k43 j43 v2L43 xtL43 xfL43 = rs43 → lv_has ls 5 [(4, .int (nI j43)), (3, .int (nI j)), (2, .int v2L43), (0, .ref mh), (1, .int (nI q))] → va_P D cl_all (ws_Mo K mh m1 m2 m3 m4 m5 m6 m7 m8 m9 n xk xa xb xc xe xl xs xg xr xd xtL43 xfL43 (upd xw q (1 : Int32)) xp xq xv xo) H → va_D A (ws_Mo K mh m1 m2 m3 m4 m5 m6 m7 m8 m9 n xk xa xb xc xe xl xs xg xr xd xtL43 xfL43 (upd xw q (1 : Int32)) xp xq xv xo) → va_S A s.heap H locs → (∀ (v2L43 : Int32) (xtL43 : Nat → Int32) (xfL43 : Nat → Int64) (ls : Array Slot) (H : Heap) (locs : List Loc), (v2L43, xtL43, xfL43) = rs43 → lv_has ls 5 [(3, .int (nI j)), (2, .int v2L43), (0, .ref mh), (1, .int (nI q))] → va_P D cl_all (ws_Mo K mh m1 m2 m3 m4 m5 m6 m7 m8 m9 n xk xa xb xc xe xl xs xg xr xd xtL43 xfL43 (upd xw q (1 : Int32)) xp xq xv xo) H → va_D A (ws_Mo K mh m1 m2 m3 m4 m5 m6 m7 m8 m9 n xk xa xb xc xe xl xs xg xr xd xtL43 xfL43 (upd xw q (1 : Int32)) xp xq xv xo) → va_S A s.heap H locs → W p l e R s m av below meth c H locs 0 0 Q (F0 m 113 ls [])) → W p l e R s m av below meth c H locs 0 0 Q (F0 m 43 ls []) := by
              intro k43
              induction k43 with
              | zero =>
                intro j43 v2L43 xtL43 xfL43 ls H locs rs43 hjk43 hM hl hP hD hS kap43
                have hj0 : j43 = n := by omega
                subst j43
                rw [mm_Mo_fail_L43] at hM
                refine lv_iload hx hb dd_Mo_fail_43 (lv_at hl 0 rfl) ?_
                refine lv_aload_n hx hb dd_Mo_fail_45 rfl (lv_at hl 3 rfl) ?_
                refine ly_get (v := .int (nI n)) C hP 0 rfl uw_Mo rfl 1 (by decide) wa_263 rfl dd_Mo_fail_46 ?_
                refine lv_icmp_ge (tgt := 113) hx hb dd_Mo_fail_49 (by decide) (fun _ => ?_) (fun h => absurd (nI_le (a := n) (b := n) (by omega) (by omega)) h)
                exact kap43 v2L43 xtL43 xfL43 ls H locs hM (lv_sub hl [1, 2, 3, 4] rfl) hP hD hS
              | succ k43 ih43 =>
                intro j43 v2L43 xtL43 xfL43 ls H locs rs43 hjk43 hM hl hP hD hS kap43
                rw [mm_Mo_fail_L43] at hM
                refine lv_iload hx hb dd_Mo_fail_43 (lv_at hl 0 rfl) ?_
                refine lv_aload_n hx hb dd_Mo_fail_45 rfl (lv_at hl 3 rfl) ?_
                refine ly_get (v := .int (nI n)) C hP 0 rfl uw_Mo rfl 1 (by decide) wa_263 rfl dd_Mo_fail_46 ?_
                refine lv_icmp_ge (tgt := 113) hx hb dd_Mo_fail_49 (by decide) (fun h => absurd h (nI_ge (a := j43) (b := n) (by omega) (by omega))) (fun _ => ?_)
                refine lv_aload_n hx hb dd_Mo_fail_52 rfl (lv_at hl 3 rfl) ?_
                refine lv_iload_n hx hb dd_Mo_fail_53 rfl (lv_at hl 1 rfl) ?_
                refine lv_iload hx hb dd_Mo_fail_54 (lv_at hl 0 rfl) ?_
                refine ly_cV_i (n := 2) (z := (nI ((5 * j + j43) % 12))) (rest := []) (wn := (ws_Mo K mh m1 m2 m3 m4 m5 m6 m7 m8 m9 n xk xa xb xc xe xl xs xg xr xd xtL43 xfL43 (upd xw q (1 : Int32)) xp xq xv xo)) C (cc_Mo_place D K mh m1 m2 m3 m4 m5 m6 m7 m8 m9 j j43 n xk xa xb xc xe xl xs xg xr xd xtL43 xfL43 (upd xw q (1 : Int32)) xp xq xv xo (by omega) (by omega) (by omega) (by omega)) rfl wa_288 wa_297 wa_265 wa_298 wa_299 (by decide) (Nat.le_trans (by decide) hRf) (Nat.le_trans (by decide) hRl) rfl hl.1 rfl (Nat.le_of_ble_eq_true rfl) dd_Mo_fail_56 hcs [0, 1, 2, 3, 4, 5, 6, 7, 8, 9] [] [0, 1, 2, 3, 4, 5, 6, 7, 8, 9] hP hD hS rfl rfl (by decide) rfl rfl rfl (fun H locs hP hD hS => ?_)
                refine W.eq (g2 := F0 m 59 ls [.int (nI ((5 * j + j43) % 12))]) rfl ?_
                refine lv_iload_n hx hb dd_Mo_fail_59 rfl (lv_at hl 4 rfl) ?_
                refine lv_icmp_ne (tgt := 107) hx hb dd_Mo_fail_60 (by decide) (fun h60 => ?_) (fun h60 => ?_)
                · rw [if_neg h60] at hM
                  refine lv_iinc (k := 0) (v := (nI (j43 + 1))) (lv' := [(4, .int (nI (j43 + 1))), (3, .int (nI j)), (2, .int v2L43), (0, .ref mh), (1, .int (nI q))]) hx hb dd_Mo_fail_107 hl rfl (ly_incN _) (by decide) rfl (fun ls hl => ?_)
                  refine lv_goto (tgt := 43) hx hb dd_Mo_fail_110 (by decide) ?_
                  exact ih43 (j43 + 1) v2L43 xtL43 xfL43 ls H locs rs43 (by omega) hM (lv_sub hl [0, 1, 2, 3, 4] rfl) hP hD hS kap43
                · rw [if_pos h60] at hM
                  refine lv_aload_n hx hb dd_Mo_fail_63 rfl (lv_at hl 3 rfl) ?_
                  refine ly_get (v := .ref m3) C hP 0 rfl uw_Mo rfl 4 (by decide) wa_255 rfl dd_Mo_fail_64 ?_
                  refine lv_aload_n hx hb dd_Mo_fail_67 rfl (lv_at hl 3 rfl) ?_
                  refine lv_iload_n hx hb dd_Mo_fail_68 rfl (lv_at hl 1 rfl) ?_
                  refine lv_iload hx hb dd_Mo_fail_69 (lv_at hl 0 rfl) ?_
                  refine ly_cV_i (n := 2) (z := (nI (11 * j + j43))) (rest := [.ref m3]) (wn := (ws_Mo K mh m1 m2 m3 m4 m5 m6 m7 m8 m9 n xk xa xb xc xe xl xs xg xr xd xtL43 xfL43 (upd xw q (1 : Int32)) xp xq xv xo)) C (cc_Mo_cell D K mh m1 m2 m3 m4 m5 m6 m7 m8 m9 j j43 n xk xa xb xc xe xl xs xg xr xd xtL43 xfL43 (upd xw q (1 : Int32)) xp xq xv xo (by omega) (by omega) (by omega) (by omega)) rfl wa_289 wa_292 wa_265 wa_293 wa_294 (by decide) (Nat.le_trans (by decide) hRf) (Nat.le_trans (by decide) hRl) rfl hl.1 rfl (Nat.le_of_ble_eq_true rfl) dd_Mo_fail_71 hcs [0, 1, 2, 3, 4, 5, 6, 7, 8, 9] [] [0, 1, 2, 3, 4, 5, 6, 7, 8, 9] hP hD hS rfl rfl (by decide) rfl rfl rfl (fun H locs hP hD hS => ?_)
                  refine W.eq (g2 := F0 m 74 ls [.int (nI (11 * j + j43)), .ref m3]) rfl ?_
                  refine ly_zald C hP 3 rfl (11 * j + j43) rfl (by omega) (by omega) dd_Mo_fail_74 ?_
                  refine lv_if_eq (tgt := 107) hx hb dd_Mo_fail_75 (by decide) (fun h75 => ?_) (fun h75 => ?_)
                  · rw [if_pos h75] at hM
                    refine lv_iinc (k := 0) (v := (nI (j43 + 1))) (lv' := [(4, .int (nI (j43 + 1))), (3, .int (nI j)), (2, .int v2L43), (0, .ref mh), (1, .int (nI q))]) hx hb dd_Mo_fail_107 hl rfl (ly_incN _) (by decide) rfl (fun ls hl => ?_)
                    refine lv_goto (tgt := 43) hx hb dd_Mo_fail_110 (by decide) ?_
                    exact ih43 (j43 + 1) v2L43 xtL43 xfL43 ls H locs rs43 (by omega) hM (lv_sub hl [0, 1, 2, 3, 4] rfl) hP hD hS kap43
                  · rw [if_neg h75] at hM
                    refine lv_aload_n hx hb dd_Mo_fail_78 rfl (lv_at hl 3 rfl) ?_
                    refine ly_get (v := .ref m3) C hP 0 rfl uw_Mo rfl 4 (by decide) wa_255 rfl dd_Mo_fail_79 ?_
                    refine lv_aload_n hx hb dd_Mo_fail_82 rfl (lv_at hl 3 rfl) ?_
                    refine lv_iload_n hx hb dd_Mo_fail_83 rfl (lv_at hl 1 rfl) ?_
                    refine lv_iload hx hb dd_Mo_fail_84 (lv_at hl 0 rfl) ?_
                    refine ly_cV_i (n := 2) (z := (nI (11 * j + j43))) (rest := [.ref m3]) (wn := (ws_Mo K mh m1 m2 m3 m4 m5 m6 m7 m8 m9 n xk xa xb xc xe xl xs xg xr xd xtL43 xfL43 (upd xw q (1 : Int32)) xp xq xv xo)) C (cc_Mo_cell D K mh m1 m2 m3 m4 m5 m6 m7 m8 m9 j j43 n xk xa xb xc xe xl xs xg xr xd xtL43 xfL43 (upd xw q (1 : Int32)) xp xq xv xo (by omega) (by omega) (by omega) (by omega)) rfl wa_289 wa_292 wa_265 wa_293 wa_294 (by decide) (Nat.le_trans (by decide) hRf) (Nat.le_trans (by decide) hRl) rfl hl.1 rfl (Nat.le_of_ble_eq_true rfl) dd_Mo_fail_86 hcs [0, 1, 2, 3, 4, 5, 6, 7, 8, 9] [] [0, 1, 2, 3, 4, 5, 6, 7, 8, 9] hP hD hS rfl rfl (by decide) rfl rfl rfl (fun H locs hP hD hS => ?_)
                    refine W.eq (g2 := F0 m 89 ls [.int (nI (11 * j + j43)), .ref m3]) rfl ?_
                    refine lv_iconst (v := (0 : Int32)) hx hb dd_Mo_fail_89 (by decide) ?_
                    refine ly_zast (ws' := (ws_Mo K mh m1 m2 m3 m4 m5 m6 m7 m8 m9 n xk xa xb xc xe xl xs xg xr xd (upd xtL43 (11 * j + j43) (0 : Int32)) xfL43 (upd xw q (1 : Int32)) xp xq xv xo)) C hP hD hS 3 rfl (by decide) (11 * j + j43) rfl (by omega) (by omega) dd_Mo_fail_90 rfl (fun H locs hP hD hS => ?_)
                    refine lv_aload_n hx hb dd_Mo_fail_91 rfl (lv_at hl 3 rfl) ?_
                    refine ly_get (v := .ref m4) C hP 0 rfl uw_Mo rfl 5 (by decide) wa_256 rfl dd_Mo_fail_92 ?_
                    refine lv_aload_n hx hb dd_Mo_fail_95 rfl (lv_at hl 3 rfl) ?_
                    refine lv_iload_n hx hb dd_Mo_fail_96 rfl (lv_at hl 1 rfl) ?_
                    refine lv_iload hx hb dd_Mo_fail_97 (lv_at hl 0 rfl) ?_
                    refine ly_cV_i (n := 2) (z := (nI (11 * j + j43))) (rest := [.ref m4]) (wn := (ws_Mo K mh m1 m2 m3 m4 m5 m6 m7 m8 m9 n xk xa xb xc xe xl xs xg xr xd (upd xtL43 (11 * j + j43) (0 : Int32)) xfL43 (upd xw q (1 : Int32)) xp xq xv xo)) C (cc_Mo_cell D K mh m1 m2 m3 m4 m5 m6 m7 m8 m9 j j43 n xk xa xb xc xe xl xs xg xr xd (upd xtL43 (11 * j + j43) (0 : Int32)) xfL43 (upd xw q (1 : Int32)) xp xq xv xo (by omega) (by omega) (by omega) (by omega)) rfl wa_289 wa_292 wa_265 wa_293 wa_294 (by decide) (Nat.le_trans (by decide) hRf) (Nat.le_trans (by decide) hRl) rfl hl.1 rfl (Nat.le_of_ble_eq_true rfl) dd_Mo_fail_99 hcs [0, 1, 2, 3, 4, 5, 6, 7, 8, 9] [] [0, 1, 2, 3, 4, 5, 6, 7, 8, 9] hP hD hS rfl rfl (by decide) rfl rfl rfl (fun H locs hP hD hS => ?_)
                    refine W.eq (g2 := F0 m 102 ls [.int (nI (11 * j + j43)), .ref m4]) rfl ?_
                    refine lv_lconst (v := (0 : Int64)) hx hb dd_Mo_fail_102 (by decide) ?_
                    refine ly_last (ws' := (ws_Mo K mh m1 m2 m3 m4 m5 m6 m7 m8 m9 n xk xa xb xc xe xl xs xg xr xd (upd xtL43 (11 * j + j43) (0 : Int32)) (vp_updL xfL43 (11 * j + j43) (0 : Int64)) (upd xw q (1 : Int32)) xp xq xv xo)) C hP hD hS 4 rfl (11 * j + j43) rfl (by omega) (by omega) dd_Mo_fail_103 rfl (fun H locs hP hD hS => ?_)
                    refine lv_iinc (k := 2) (v := (v2L43 + 1)) (lv' := [(2, .int (v2L43 + 1)), (4, .int (nI j43)), (3, .int (nI j)), (0, .ref mh), (1, .int (nI q))]) hx hb dd_Mo_fail_104 hl rfl (ly_inc _) (by decide) rfl (fun ls hl => ?_)
                    refine lv_iinc (k := 1) (v := (nI (j43 + 1))) (lv' := [(4, .int (nI (j43 + 1))), (2, .int (v2L43 + 1)), (3, .int (nI j)), (0, .ref mh), (1, .int (nI q))]) hx hb dd_Mo_fail_107 hl rfl (ly_incN _) (by decide) rfl (fun ls hl => ?_)
                    refine lv_goto (tgt := 43) hx hb dd_Mo_fail_110 (by decide) ?_
                    exact ih43 (j43 + 1) (v2L43 + 1) (upd xtL43 (11 * j + j43) (0 : Int32)) (vp_updL xfL43 (11 * j + j43) (0 : Int64)) ls H locs rs43 (by omega) hM (lv_sub hl [0, 2, 1, 3, 4] rfl) hP hD hS kap43
            refine lp43 n 0 v2 xt xf ls H locs _ (by omega) rfl (lv_sub hl [0, 1, 2, 3, 4] rfl) hP hD hS (fun v2_43 xt_43 xf_43 ls H locs hqL43 hl hP hD hS => ?_)
            try rw [← hqL43] at hM
            try dsimp only at hM
            refine lv_iinc (k := 0) (v := (nI (j + 1))) (lv' := [(3, .int (nI (j + 1))), (2, .int v2_43), (0, .ref mh), (1, .int (nI q))]) hx hb dd_Mo_fail_113 hl rfl (ly_incN _) (by decide) rfl (fun ls hl => ?_)
            refine lv_goto (tgt := 35) hx hb dd_Mo_fail_116 (by decide) ?_
            exact ih35 (j + 1) v2_43 xt_43 xf_43 ls H locs (by omega) hM (lv_sub hl [0, 1, 2, 3] rfl) hP hD hS
        exact lp35 3 0 (0 : Int32) xt xf ls H locs (by omega) hM (lv_sub hl [0, 1, 2, 3] rfl) hP hD hS
      · rw [if_neg h18] at hM
        refine lv_bipush (v := (-2 : Int32)) hx hb dd_Mo_fail_21 (by decide) ?_
        exact ret ((-2 : Int32), xt, xf, xw) H locs 23 ls hM rfl hS hP hD dd_Mo_fail_23
    · rw [if_neg h7] at hM
      refine lv_iconst (v := (-1 : Int32)) hx hb dd_Mo_fail_10 (by decide) ?_
      exact ret ((-1 : Int32), xt, xf, xw) H locs 11 ls hM rfl hS hP hD dd_Mo_fail_11

def mm_Mo_revive (x : Int32) (xw : Nat → Int32) : Int32 × (Nat → Int32) := (if x < (0 : Int32) then ((0 : Int32), xw) else (if (11 : Int32) < x then ((0 : Int32), xw) else (if (xw (x.toNatClampNeg)) = (0 : Int32) then ((0 : Int32), xw) else ((1 : Int32), (upd xw (x.toNatClampNeg) (0 : Int32))))))
set_option maxHeartbeats 4000000 in
set_option maxRecDepth 100000 in
theorem cc_Mo_revive {l : Launch} (D : va_G) (K : Nat → ClassId) (mh m1 m2 m3 m4 m5 m6 m7 m8 m9 : Nat) (x : Int32) (n : Nat) (xk : Int32) (xa : Int32) (xb : Int32) (xc : Int32) (xe : Int32) (xl : Int64) (xs : Nat) (xg : Nat) (xr : Nat → Int32) (xd : Nat → Int64) (xt : Nat → Int32) (xf : Nat → Int64) (xw : Nat → Int32) (xp : Nat → Nat) (xq : Nat → Int32) (xv : Nat → Nat) (xo : Nat → Int32) (hn : n ≤ 11) (hn6 : 6 ≤ n) : ly_i l yy_Mo_revive bb_Mo_revive 2 (some .boolean) 0 0 D K [.ref mh, .int x] (ws_Mo K mh m1 m2 m3 m4 m5 m6 m7 m8 m9 n xk xa xb xc xe xl xs xg xr xd xt xf xw xp xq xv xo) (fun z => z.1) (fun z => (ws_Mo K mh m1 m2 m3 m4 m5 m6 m7 m8 m9 n xk xa xb xc xe xl xs xg xr xd xt xf (z.2) xp xq xv xo)) (mm_Mo_revive x xw) := by
  refine ly_entI (by decide) (Nat.le_of_ble_eq_true rfl) ?_
  intro p e s m av below meth c A ls R Q H locs res hM C hRf hRl hS hP hD hl ret
  obtain ⟨hx, hb, -⟩ := id C
  have hcs : 0 ≤ R.cells ∧ 0 ≤ R.slots := ⟨Nat.zero_le _, Nat.zero_le _⟩
  have hl : lv_has ls 2 [(0, .ref mh), (1, .int x)] := hl
  rw [mm_Mo_revive] at hM
  refine lv_iload_n hx hb dd_Mo_revive_0 rfl (lv_at hl 1 rfl) ?_
  refine lv_if_lt (tgt := 19) hx hb dd_Mo_revive_1 (by decide) (fun h1 => ?_) (fun h1 => ?_)
  · rw [if_pos h1] at hM
    refine lv_iconst (v := (0 : Int32)) hx hb dd_Mo_revive_19 (by decide) ?_
    exact ret ((0 : Int32), xw) H locs 20 ls hM ly_z0 hS hP hD dd_Mo_revive_20
  · rw [if_neg h1] at hM
    refine lv_iload_n hx hb dd_Mo_revive_4 rfl (lv_at hl 1 rfl) ?_
    refine lv_bipush (v := (11 : Int32)) hx hb dd_Mo_revive_5 (by decide) ?_
    refine lv_icmp_gt (tgt := 19) hx hb dd_Mo_revive_7 (by decide) (fun h7 => ?_) (fun h7 => ?_)
    · rw [if_pos h7] at hM
      refine lv_iconst (v := (0 : Int32)) hx hb dd_Mo_revive_19 (by decide) ?_
      exact ret ((0 : Int32), xw) H locs 20 ls hM ly_z0 hS hP hD dd_Mo_revive_20
    · rw [if_neg h7] at hM
      obtain ⟨q, hq0, rfl⟩ := ly_rng4 (N := 12) (M := 11) h1 h7 (by decide)
      try rw [nI_clamp (n := q) (by omega)] at hM
      refine lv_aload_n hx hb dd_Mo_revive_10 rfl (lv_at hl 0 rfl) ?_
      refine ly_get (v := .ref m5) C hP 0 rfl uw_Mo rfl 6 (by decide) wa_257 rfl dd_Mo_revive_11 ?_
      refine lv_iload_n hx hb dd_Mo_revive_14 rfl (lv_at hl 1 rfl) ?_
      refine ly_zald C hP 5 rfl q rfl (by omega) (by omega) dd_Mo_revive_15 ?_
      refine lv_if_ne (tgt := 21) hx hb dd_Mo_revive_16 (by decide) (fun h16 => ?_) (fun h16 => ?_)
      · rw [if_neg h16] at hM
        refine lv_aload_n hx hb dd_Mo_revive_21 rfl (lv_at hl 0 rfl) ?_
        refine ly_get (v := .ref m5) C hP 0 rfl uw_Mo rfl 6 (by decide) wa_257 rfl dd_Mo_revive_22 ?_
        refine lv_iload_n hx hb dd_Mo_revive_25 rfl (lv_at hl 1 rfl) ?_
        refine lv_iconst (v := (0 : Int32)) hx hb dd_Mo_revive_26 (by decide) ?_
        refine ly_zast (ws' := (ws_Mo K mh m1 m2 m3 m4 m5 m6 m7 m8 m9 n xk xa xb xc xe xl xs xg xr xd xt xf (upd xw q (0 : Int32)) xp xq xv xo)) C hP hD hS 5 rfl (by decide) q rfl (by omega) (by omega) dd_Mo_revive_27 rfl (fun H locs hP hD hS => ?_)
        refine lv_iconst (v := (1 : Int32)) hx hb dd_Mo_revive_28 (by decide) ?_
        exact ret ((1 : Int32), (upd xw q (0 : Int32))) H locs 29 ls hM ly_z1 hS hP hD dd_Mo_revive_29
      · rw [if_pos h16] at hM
        refine lv_iconst (v := (0 : Int32)) hx hb dd_Mo_revive_19 (by decide) ?_
        exact ret ((0 : Int32), xw) H locs 20 ls hM ly_z0 hS hP hD dd_Mo_revive_20

def mm_Mo_damage (x : Int32) (y : Int32) (w : Int32) (n : Nat) (xt : Nat → Int32) (xf : Nat → Int64) : Int32 × (Nat → Int64) := (if (mm_Mo_noShard x y n) = (0 : Int32) then (if (xt (11 * (x.toNatClampNeg) + (y.toNatClampNeg))) = (0 : Int32) then ((0 : Int32), xf) else (if w < (0 : Int32) then ((0 : Int32), xf) else (if w ≤ (63 : Int32) then ((1 : Int32), (vp_updL xf (11 * (x.toNatClampNeg) + (y.toNatClampNeg)) ((xf (11 * (x.toNatClampNeg) + (y.toNatClampNeg))) ^^^ ((1 : Int64) <<< (w.toInt64 &&& 63))))) else ((0 : Int32), xf)))) else ((0 : Int32), xf))
set_option maxHeartbeats 4000000 in
set_option maxRecDepth 100000 in
theorem cc_Mo_damage {l : Launch} (D : va_G) (K : Nat → ClassId) (mh m1 m2 m3 m4 m5 m6 m7 m8 m9 : Nat) (x : Int32) (y : Int32) (w : Int32) (n : Nat) (xk : Int32) (xa : Int32) (xb : Int32) (xc : Int32) (xe : Int32) (xl : Int64) (xs : Nat) (xg : Nat) (xr : Nat → Int32) (xd : Nat → Int64) (xt : Nat → Int32) (xf : Nat → Int64) (xw : Nat → Int32) (xp : Nat → Nat) (xq : Nat → Int32) (xv : Nat → Nat) (xo : Nat → Int32) (hn : n ≤ 11) (hn6 : 6 ≤ n) : ly_i l yy_Mo_damage bb_Mo_damage 4 (some .boolean) 2 43 D K [.ref mh, .int x, .int y, .int w] (ws_Mo K mh m1 m2 m3 m4 m5 m6 m7 m8 m9 n xk xa xb xc xe xl xs xg xr xd xt xf xw xp xq xv xo) (fun z => z.1) (fun z => (ws_Mo K mh m1 m2 m3 m4 m5 m6 m7 m8 m9 n xk xa xb xc xe xl xs xg xr xd xt (z.2) xw xp xq xv xo)) (mm_Mo_damage x y w n xt xf) := by
  refine ly_entI (by decide) (Nat.le_of_ble_eq_true rfl) ?_
  intro p e s m av below meth c A ls R Q H locs res hM C hRf hRl hS hP hD hl ret
  obtain ⟨hx, hb, -⟩ := id C
  have hcs : 0 ≤ R.cells ∧ 0 ≤ R.slots := ⟨Nat.zero_le _, Nat.zero_le _⟩
  have hl : lv_has ls 4 [(0, .ref mh), (1, .int x), (2, .int y), (3, .int w)] := hl
  rw [mm_Mo_damage] at hM
  refine lv_aload_n hx hb dd_Mo_damage_0 rfl (lv_at hl 0 rfl) ?_
  refine lv_iload_n hx hb dd_Mo_damage_1 rfl (lv_at hl 1 rfl) ?_
  refine lv_iload_n hx hb dd_Mo_damage_2 rfl (lv_at hl 2 rfl) ?_
  obtain ⟨r_3, hq3⟩ : ∃ z, z = mm_Mo_noShard x y n := ⟨_, rfl⟩
  try rw [← hq3] at hM
  refine ly_cV_i (n := 2) (z := r_3) (rest := []) (wn := (ws_Mo K mh m1 m2 m3 m4 m5 m6 m7 m8 m9 n xk xa xb xc xe xl xs xg xr xd xt xf xw xp xq xv xo)) C (cc_Mo_noShard D K mh m1 m2 m3 m4 m5 m6 m7 m8 m9 x y n xk xa xb xc xe xl xs xg xr xd xt xf xw xp xq xv xo (by omega) (by omega)) hq3 wa_284 wa_341 wa_265 wa_342 wa_343 (by decide) (Nat.le_trans (by decide) hRf) (Nat.le_trans (by decide) hRl) rfl hl.1 rfl (Nat.le_of_ble_eq_true rfl) dd_Mo_damage_3 hcs [0, 1, 2, 3, 4, 5, 6, 7, 8, 9] [] [0, 1, 2, 3, 4, 5, 6, 7, 8, 9] hP hD hS rfl rfl (by decide) rfl rfl rfl (fun H locs hP hD hS => ?_)
  refine W.eq (g2 := F0 m 6 ls [.int r_3]) rfl ?_
  refine lv_if_ne (tgt := 33) hx hb dd_Mo_damage_6 (by decide) (fun h6 => ?_) (fun h6 => ?_)
  · rw [if_neg h6] at hM
    refine lv_iconst (v := (0 : Int32)) hx hb dd_Mo_damage_33 (by decide) ?_
    exact ret ((0 : Int32), xf) H locs 34 ls hM ly_z0 hS hP hD dd_Mo_damage_34
  · rw [if_pos h6] at hM
    obtain ⟨sg, hs, rfl, i, hi, rfl⟩ := in_noShard hn hq3 h6
    try rw [nI_clamp (n := sg) (by omega)] at hM
    try rw [nI_clamp (n := i) (by omega)] at hM
    refine lv_aload_n hx hb dd_Mo_damage_9 rfl (lv_at hl 0 rfl) ?_
    refine ly_get (v := .ref m3) C hP 0 rfl uw_Mo rfl 4 (by decide) wa_255 rfl dd_Mo_damage_10 ?_
    refine lv_aload_n hx hb dd_Mo_damage_13 rfl (lv_at hl 0 rfl) ?_
    refine lv_iload_n hx hb dd_Mo_damage_14 rfl (lv_at hl 1 rfl) ?_
    refine lv_iload_n hx hb dd_Mo_damage_15 rfl (lv_at hl 2 rfl) ?_
    refine ly_cV_i (n := 2) (z := (nI (11 * sg + i))) (rest := [.ref m3]) (wn := (ws_Mo K mh m1 m2 m3 m4 m5 m6 m7 m8 m9 n xk xa xb xc xe xl xs xg xr xd xt xf xw xp xq xv xo)) C (cc_Mo_cell D K mh m1 m2 m3 m4 m5 m6 m7 m8 m9 sg i n xk xa xb xc xe xl xs xg xr xd xt xf xw xp xq xv xo (by omega) (by omega) (by omega) (by omega)) rfl wa_289 wa_292 wa_265 wa_293 wa_294 (by decide) (Nat.le_trans (by decide) hRf) (Nat.le_trans (by decide) hRl) rfl hl.1 rfl (Nat.le_of_ble_eq_true rfl) dd_Mo_damage_16 hcs [0, 1, 2, 3, 4, 5, 6, 7, 8, 9] [] [0, 1, 2, 3, 4, 5, 6, 7, 8, 9] hP hD hS rfl rfl (by decide) rfl rfl rfl (fun H locs hP hD hS => ?_)
    refine W.eq (g2 := F0 m 19 ls [.int (nI (11 * sg + i)), .ref m3]) rfl ?_
    refine ly_zald C hP 3 rfl (11 * sg + i) rfl (by omega) (by omega) dd_Mo_damage_19 ?_
    refine lv_if_eq (tgt := 33) hx hb dd_Mo_damage_20 (by decide) (fun h20 => ?_) (fun h20 => ?_)
    · rw [if_pos h20] at hM
      refine lv_iconst (v := (0 : Int32)) hx hb dd_Mo_damage_33 (by decide) ?_
      exact ret ((0 : Int32), xf) H locs 34 ls hM ly_z0 hS hP hD dd_Mo_damage_34
    · rw [if_neg h20] at hM
      refine lv_iload_n hx hb dd_Mo_damage_23 rfl (lv_at hl 3 rfl) ?_
      refine lv_if_lt (tgt := 33) hx hb dd_Mo_damage_24 (by decide) (fun h24 => ?_) (fun h24 => ?_)
      · rw [if_pos h24] at hM
        refine lv_iconst (v := (0 : Int32)) hx hb dd_Mo_damage_33 (by decide) ?_
        exact ret ((0 : Int32), xf) H locs 34 ls hM ly_z0 hS hP hD dd_Mo_damage_34
      · rw [if_neg h24] at hM
        refine lv_iload_n hx hb dd_Mo_damage_27 rfl (lv_at hl 3 rfl) ?_
        refine lv_bipush (v := (63 : Int32)) hx hb dd_Mo_damage_28 (by decide) ?_
        refine lv_icmp_le (tgt := 35) hx hb dd_Mo_damage_30 (by decide) (fun h30 => ?_) (fun h30 => ?_)
        · rw [if_pos h30] at hM
          refine lv_aload_n hx hb dd_Mo_damage_35 rfl (lv_at hl 0 rfl) ?_
          refine ly_get (v := .ref m4) C hP 0 rfl uw_Mo rfl 5 (by decide) wa_256 rfl dd_Mo_damage_36 ?_
          refine lv_aload_n hx hb dd_Mo_damage_39 rfl (lv_at hl 0 rfl) ?_
          refine lv_iload_n hx hb dd_Mo_damage_40 rfl (lv_at hl 1 rfl) ?_
          refine lv_iload_n hx hb dd_Mo_damage_41 rfl (lv_at hl 2 rfl) ?_
          refine ly_cV_i (n := 2) (z := (nI (11 * sg + i))) (rest := [.ref m4]) (wn := (ws_Mo K mh m1 m2 m3 m4 m5 m6 m7 m8 m9 n xk xa xb xc xe xl xs xg xr xd xt xf xw xp xq xv xo)) C (cc_Mo_cell D K mh m1 m2 m3 m4 m5 m6 m7 m8 m9 sg i n xk xa xb xc xe xl xs xg xr xd xt xf xw xp xq xv xo (by omega) (by omega) (by omega) (by omega)) rfl wa_289 wa_292 wa_265 wa_293 wa_294 (by decide) (Nat.le_trans (by decide) hRf) (Nat.le_trans (by decide) hRl) rfl hl.1 rfl (Nat.le_of_ble_eq_true rfl) dd_Mo_damage_42 hcs [0, 1, 2, 3, 4, 5, 6, 7, 8, 9] [] [0, 1, 2, 3, 4, 5, 6, 7, 8, 9] hP hD hS rfl rfl (by decide) rfl rfl rfl (fun H locs hP hD hS => ?_)
          refine W.eq (g2 := F0 m 45 ls [.int (nI (11 * sg + i)), .ref m4]) rfl ?_
          refine lv_aload_n hx hb dd_Mo_damage_45 rfl (lv_at hl 0 rfl) ?_
          refine ly_get (v := .ref m4) C hP 0 rfl uw_Mo rfl 5 (by decide) wa_256 rfl dd_Mo_damage_46 ?_
          refine lv_aload_n hx hb dd_Mo_damage_49 rfl (lv_at hl 0 rfl) ?_
          refine lv_iload_n hx hb dd_Mo_damage_50 rfl (lv_at hl 1 rfl) ?_
          refine lv_iload_n hx hb dd_Mo_damage_51 rfl (lv_at hl 2 rfl) ?_
          refine ly_cV_i (n := 2) (z := (nI (11 * sg + i))) (rest := [.ref m4, .int (nI (11 * sg + i)), .ref m4]) (wn := (ws_Mo K mh m1 m2 m3 m4 m5 m6 m7 m8 m9 n xk xa xb xc xe xl xs xg xr xd xt xf xw xp xq xv xo)) C (cc_Mo_cell D K mh m1 m2 m3 m4 m5 m6 m7 m8 m9 sg i n xk xa xb xc xe xl xs xg xr xd xt xf xw xp xq xv xo (by omega) (by omega) (by omega) (by omega)) rfl wa_289 wa_292 wa_265 wa_293 wa_294 (by decide) (Nat.le_trans (by decide) hRf) (Nat.le_trans (by decide) hRl) rfl hl.1 rfl (Nat.le_of_ble_eq_true rfl) dd_Mo_damage_52 hcs [0, 1, 2, 3, 4, 5, 6, 7, 8, 9] [] [0, 1, 2, 3, 4, 5, 6, 7, 8, 9] hP hD hS rfl rfl (by decide) rfl rfl rfl (fun H locs hP hD hS => ?_)
          refine W.eq (g2 := F0 m 55 ls [.int (nI (11 * sg + i)), .ref m4, .int (nI (11 * sg + i)), .ref m4]) rfl ?_
          refine ly_lald C hP 4 rfl (11 * sg + i) rfl (by omega) (by omega) dd_Mo_damage_55 ?_
          refine lv_lconst (v := (1 : Int64)) hx hb dd_Mo_damage_56 (by decide) ?_
          refine lv_iload_n hx hb dd_Mo_damage_57 rfl (lv_at hl 3 rfl) ?_
          refine lv_lshl (v := ((1 : Int64) <<< (w.toInt64 &&& 63))) hx hb dd_Mo_damage_58 rfl ?_
          refine lv_lxor hx hb dd_Mo_damage_59 ?_
          refine ly_last (ws' := (ws_Mo K mh m1 m2 m3 m4 m5 m6 m7 m8 m9 n xk xa xb xc xe xl xs xg xr xd xt (vp_updL xf (11 * sg + i) ((xf (11 * sg + i)) ^^^ ((1 : Int64) <<< (w.toInt64 &&& 63)))) xw xp xq xv xo)) C hP hD hS 4 rfl (11 * sg + i) rfl (by omega) (by omega) dd_Mo_damage_60 rfl (fun H locs hP hD hS => ?_)
          refine lv_iconst (v := (1 : Int32)) hx hb dd_Mo_damage_61 (by decide) ?_
          exact ret ((1 : Int32), (vp_updL xf (11 * sg + i) ((xf (11 * sg + i)) ^^^ ((1 : Int64) <<< (w.toInt64 &&& 63))))) H locs 62 ls hM ly_z1 hS hP hD dd_Mo_damage_62
        · rw [if_neg h30] at hM
          refine lv_iconst (v := (0 : Int32)) hx hb dd_Mo_damage_33 (by decide) ?_
          exact ret ((0 : Int32), xf) H locs 34 ls hM ly_z0 hS hP hD dd_Mo_damage_34

def mm_Mo_repair (x : Int32) (y : Int32) (n : Nat) (xk : Int32) (xa : Int32) (xb : Int32) (xc : Int32) (xe : Int32) (xs : Nat) (xg : Nat) (xr : Nat → Int32) (xt : Nat → Int32) (xf : Nat → Int64) (xw : Nat → Int32) (xp : Nat → Nat) (xq : Nat → Int32) (xv : Nat → Nat) (xo : Nat → Int32) : Int32 × (Int32) × (Int32) × (Int32) × (Int32) × (Nat) × (Nat) × (Nat → Int32) × (Nat → Int64) × (Nat → Nat) × (Nat → Int32) × (Nat → Nat) × (Nat → Int32) := (if (mm_Mo_noShard x y n) = (0 : Int32) then (if (xt (11 * (x.toNatClampNeg) + (y.toNatClampNeg))) = (0 : Int32) then (if (xw ((5 * (x.toNatClampNeg) + (y.toNatClampNeg)) % 12)) = (0 : Int32) then (match mm_Mo_follow (x.toNatClampNeg) (y.toNatClampNeg) n xk xa xc xe xs xg xr xt xf xp xq xv xo with | (r_48, xa_48, xc_48, xe_48, xs_48, xg_48, xt_48, xf_48, xp_48, xq_48, xv_48, xo_48) => (if r_48 < (0 : Int32) then (r_48, xa_48, xb, xc_48, xe_48, xs_48, xg_48, xt_48, xf_48, xp_48, xq_48, xv_48, xo_48) else (match mm_Mo_written (x.toNatClampNeg) (y.toNatClampNeg) xb xt_48 xf_48 with | (xb_59, xt_59, xf_59) => (r_48, xa_48, xb_59, xc_48, xe_48, xs_48, xg_48, xt_59, xf_59, xp_48, xq_48, xv_48, xo_48)))) else ((-3 : Int32), xa, xb, xc, xe, xs, xg, xt, xf, xp, xq, xv, xo)) else ((-2 : Int32), xa, xb, xc, xe, xs, xg, xt, xf, xp, xq, xv, xo)) else ((-1 : Int32), xa, xb, xc, xe, xs, xg, xt, xf, xp, xq, xv, xo))
set_option maxHeartbeats 4000000 in
set_option maxRecDepth 100000 in
theorem cc_Mo_repair {l : Launch} (D : va_G) (K : Nat → ClassId) (mh m1 m2 m3 m4 m5 m6 m7 m8 m9 : Nat) (x : Int32) (y : Int32) (n : Nat) (xk : Int32) (xa : Int32) (xb : Int32) (xc : Int32) (xe : Int32) (xl : Int64) (xs : Nat) (xg : Nat) (xr : Nat → Int32) (xd : Nat → Int64) (xt : Nat → Int32) (xf : Nat → Int64) (xw : Nat → Int32) (xp : Nat → Nat) (xq : Nat → Int32) (xv : Nat → Nat) (xo : Nat → Int32) (hn : n ≤ 11) (hn6 : 6 ≤ n) : ly_i l yy_Mo_repair bb_Mo_repair 4 (some .int) 6 142 D K [.ref mh, .int x, .int y] (ws_Mo K mh m1 m2 m3 m4 m5 m6 m7 m8 m9 n xk xa xb xc xe xl xs xg xr xd xt xf xw xp xq xv xo) (fun z => z.1) (fun z => (ws_Mo K mh m1 m2 m3 m4 m5 m6 m7 m8 m9 n xk (z.2.1) (z.2.2.1) (z.2.2.2.1) (z.2.2.2.2.1) xl (z.2.2.2.2.2.1) (z.2.2.2.2.2.2.1) xr xd (z.2.2.2.2.2.2.2.1) (z.2.2.2.2.2.2.2.2.1) xw (z.2.2.2.2.2.2.2.2.2.1) (z.2.2.2.2.2.2.2.2.2.2.1) (z.2.2.2.2.2.2.2.2.2.2.2.1) (z.2.2.2.2.2.2.2.2.2.2.2.2))) (mm_Mo_repair x y n xk xa xb xc xe xs xg xr xt xf xw xp xq xv xo) := by
  refine ly_entI (by decide) (Nat.le_of_ble_eq_true rfl) ?_
  intro p e s m av below meth c A ls R Q H locs res hM C hRf hRl hS hP hD hl ret
  obtain ⟨hx, hb, -⟩ := id C
  have hcs : 0 ≤ R.cells ∧ 0 ≤ R.slots := ⟨Nat.zero_le _, Nat.zero_le _⟩
  have hl : lv_has ls 4 [(0, .ref mh), (1, .int x), (2, .int y)] := hl
  rw [mm_Mo_repair] at hM
  refine lv_aload_n hx hb dd_Mo_repair_0 rfl (lv_at hl 0 rfl) ?_
  refine lv_iload_n hx hb dd_Mo_repair_1 rfl (lv_at hl 1 rfl) ?_
  refine lv_iload_n hx hb dd_Mo_repair_2 rfl (lv_at hl 2 rfl) ?_
  obtain ⟨r_3, hq3⟩ : ∃ z, z = mm_Mo_noShard x y n := ⟨_, rfl⟩
  try rw [← hq3] at hM
  refine ly_cV_i (n := 2) (z := r_3) (rest := []) (wn := (ws_Mo K mh m1 m2 m3 m4 m5 m6 m7 m8 m9 n xk xa xb xc xe xl xs xg xr xd xt xf xw xp xq xv xo)) C (cc_Mo_noShard D K mh m1 m2 m3 m4 m5 m6 m7 m8 m9 x y n xk xa xb xc xe xl xs xg xr xd xt xf xw xp xq xv xo (by omega) (by omega)) hq3 wa_284 wa_341 wa_265 wa_342 wa_343 (by decide) (Nat.le_trans (by decide) hRf) (Nat.le_trans (by decide) hRl) rfl hl.1 rfl (Nat.le_of_ble_eq_true rfl) dd_Mo_repair_3 hcs [0, 1, 2, 3, 4, 5, 6, 7, 8, 9] [] [0, 1, 2, 3, 4, 5, 6, 7, 8, 9] hP hD hS rfl rfl (by decide) rfl rfl rfl (fun H locs hP hD hS => ?_)
  refine W.eq (g2 := F0 m 6 ls [.int r_3]) rfl ?_
  refine lv_if_eq (tgt := 11) hx hb dd_Mo_repair_6 (by decide) (fun h6 => ?_) (fun h6 => ?_)
  · rw [if_pos h6] at hM
    obtain ⟨sg, hs, rfl, i, hi, rfl⟩ := in_noShard hn hq3 h6
    try rw [nI_clamp (n := sg) (by omega)] at hM
    try rw [nI_clamp (n := i) (by omega)] at hM
    refine lv_aload_n hx hb dd_Mo_repair_11 rfl (lv_at hl 0 rfl) ?_
    refine ly_get (v := .ref m3) C hP 0 rfl uw_Mo rfl 4 (by decide) wa_255 rfl dd_Mo_repair_12 ?_
    refine lv_aload_n hx hb dd_Mo_repair_15 rfl (lv_at hl 0 rfl) ?_
    refine lv_iload_n hx hb dd_Mo_repair_16 rfl (lv_at hl 1 rfl) ?_
    refine lv_iload_n hx hb dd_Mo_repair_17 rfl (lv_at hl 2 rfl) ?_
    refine ly_cV_i (n := 2) (z := (nI (11 * sg + i))) (rest := [.ref m3]) (wn := (ws_Mo K mh m1 m2 m3 m4 m5 m6 m7 m8 m9 n xk xa xb xc xe xl xs xg xr xd xt xf xw xp xq xv xo)) C (cc_Mo_cell D K mh m1 m2 m3 m4 m5 m6 m7 m8 m9 sg i n xk xa xb xc xe xl xs xg xr xd xt xf xw xp xq xv xo (by omega) (by omega) (by omega) (by omega)) rfl wa_289 wa_292 wa_265 wa_293 wa_294 (by decide) (Nat.le_trans (by decide) hRf) (Nat.le_trans (by decide) hRl) rfl hl.1 rfl (Nat.le_of_ble_eq_true rfl) dd_Mo_repair_18 hcs [0, 1, 2, 3, 4, 5, 6, 7, 8, 9] [] [0, 1, 2, 3, 4, 5, 6, 7, 8, 9] hP hD hS rfl rfl (by decide) rfl rfl rfl (fun H locs hP hD hS => ?_)
    refine W.eq (g2 := F0 m 21 ls [.int (nI (11 * sg + i)), .ref m3]) rfl ?_
    refine ly_zald C hP 3 rfl (11 * sg + i) rfl (by omega) (by omega) dd_Mo_repair_21 ?_
    refine lv_if_eq (tgt := 28) hx hb dd_Mo_repair_22 (by decide) (fun h22 => ?_) (fun h22 => ?_)
    · rw [if_pos h22] at hM
      refine lv_aload_n hx hb dd_Mo_repair_28 rfl (lv_at hl 0 rfl) ?_
      refine ly_get (v := .ref m5) C hP 0 rfl uw_Mo rfl 6 (by decide) wa_257 rfl dd_Mo_repair_29 ?_
      refine lv_aload_n hx hb dd_Mo_repair_32 rfl (lv_at hl 0 rfl) ?_
      refine lv_iload_n hx hb dd_Mo_repair_33 rfl (lv_at hl 1 rfl) ?_
      refine lv_iload_n hx hb dd_Mo_repair_34 rfl (lv_at hl 2 rfl) ?_
      refine ly_cV_i (n := 2) (z := (nI ((5 * sg + i) % 12))) (rest := [.ref m5]) (wn := (ws_Mo K mh m1 m2 m3 m4 m5 m6 m7 m8 m9 n xk xa xb xc xe xl xs xg xr xd xt xf xw xp xq xv xo)) C (cc_Mo_place D K mh m1 m2 m3 m4 m5 m6 m7 m8 m9 sg i n xk xa xb xc xe xl xs xg xr xd xt xf xw xp xq xv xo (by omega) (by omega) (by omega) (by omega)) rfl wa_288 wa_297 wa_265 wa_298 wa_299 (by decide) (Nat.le_trans (by decide) hRf) (Nat.le_trans (by decide) hRl) rfl hl.1 rfl (Nat.le_of_ble_eq_true rfl) dd_Mo_repair_35 hcs [0, 1, 2, 3, 4, 5, 6, 7, 8, 9] [] [0, 1, 2, 3, 4, 5, 6, 7, 8, 9] hP hD hS rfl rfl (by decide) rfl rfl rfl (fun H locs hP hD hS => ?_)
      refine W.eq (g2 := F0 m 38 ls [.int (nI ((5 * sg + i) % 12)), .ref m5]) rfl ?_
      refine ly_zald C hP 5 rfl ((5 * sg + i) % 12) rfl (by omega) (by omega) dd_Mo_repair_38 ?_
      refine lv_if_eq (tgt := 45) hx hb dd_Mo_repair_39 (by decide) (fun h39 => ?_) (fun h39 => ?_)
      · rw [if_pos h39] at hM
        refine lv_aload_n hx hb dd_Mo_repair_45 rfl (lv_at hl 0 rfl) ?_
        refine lv_iload_n hx hb dd_Mo_repair_46 rfl (lv_at hl 1 rfl) ?_
        refine lv_iload_n hx hb dd_Mo_repair_47 rfl (lv_at hl 2 rfl) ?_
        obtain ⟨⟨r_48, xa_48, xc_48, xe_48, xs_48, xg_48, xt_48, xf_48, xp_48, xq_48, xv_48, xo_48⟩, hq48⟩ : ∃ z, z = mm_Mo_follow sg i n xk xa xc xe xs xg xr xt xf xp xq xv xo := ⟨_, rfl⟩
        try rw [← hq48] at hM
        try dsimp only at hM
        refine ly_cV_i (n := 2) (z := (r_48, xa_48, xc_48, xe_48, xs_48, xg_48, xt_48, xf_48, xp_48, xq_48, xv_48, xo_48)) (rest := []) (wn := (ws_Mo K mh m1 m2 m3 m4 m5 m6 m7 m8 m9 n xk xa_48 xb xc_48 xe_48 xl xs_48 xg_48 xr xd xt_48 xf_48 xw xp_48 xq_48 xv_48 xo_48)) C (cc_Mo_follow D K mh m1 m2 m3 m4 m5 m6 m7 m8 m9 sg i n xk xa xb xc xe xl xs xg xr xd xt xf xw xp xq xv xo (by omega) (by omega) (by omega) (by omega)) hq48 wa_328 wa_344 wa_265 wa_345 wa_346 (by decide) (Nat.le_trans (by decide) hRf) (Nat.le_trans (by decide) hRl) rfl hl.1 rfl (Nat.le_of_ble_eq_true rfl) dd_Mo_repair_48 hcs [0, 1, 2, 3, 4, 5, 6, 7, 8, 9] [] [0, 1, 2, 3, 4, 5, 6, 7, 8, 9] hP hD hS rfl rfl (by decide) rfl rfl rfl (fun H locs hP hD hS => ?_)
        refine W.eq (g2 := F0 m 51 ls [.int r_48]) rfl ?_
        refine lv_istore_n (lv' := [(3, .int r_48), (0, .ref mh), (1, .int (nI sg)), (2, .int (nI i))]) hx hb dd_Mo_repair_51 rfl hl (by decide) rfl (fun ls hl => ?_)
        refine lv_iload_n hx hb dd_Mo_repair_52 rfl (lv_at hl 0 rfl) ?_
        refine lv_if_lt (tgt := 62) hx hb dd_Mo_repair_53 (by decide) (fun h53 => ?_) (fun h53 => ?_)
        · rw [if_pos h53] at hM
          refine lv_iload_n hx hb dd_Mo_repair_62 rfl (lv_at hl 0 rfl) ?_
          exact ret (r_48, xa_48, xb, xc_48, xe_48, xs_48, xg_48, xt_48, xf_48, xp_48, xq_48, xv_48, xo_48) H locs 63 ls hM rfl hS hP hD dd_Mo_repair_63
        · rw [if_neg h53] at hM
          refine lv_aload_n hx hb dd_Mo_repair_56 rfl (lv_at hl 1 rfl) ?_
          refine lv_iload_n hx hb dd_Mo_repair_57 rfl (lv_at hl 2 rfl) ?_
          refine lv_iload_n hx hb dd_Mo_repair_58 rfl (lv_at hl 3 rfl) ?_
          obtain ⟨⟨xb_59, xt_59, xf_59⟩, hq59⟩ : ∃ z, z = mm_Mo_written sg i xb xt_48 xf_48 := ⟨_, rfl⟩
          try rw [← hq59] at hM
          try dsimp only at hM
          refine ly_cV_v (n := 2) (z := (xb_59, xt_59, xf_59)) (rest := []) (wn := (ws_Mo K mh m1 m2 m3 m4 m5 m6 m7 m8 m9 n xk xa_48 xb_59 xc_48 xe_48 xl xs_48 xg_48 xr xd xt_59 xf_59 xw xp_48 xq_48 xv_48 xo_48)) C (cc_Mo_written D K mh m1 m2 m3 m4 m5 m6 m7 m8 m9 sg i n xk xa_48 xb xc_48 xe_48 xl xs_48 xg_48 xr xd xt_48 xf_48 xw xp_48 xq_48 xv_48 xo_48 (by omega) (by omega) (by omega) (by omega)) hq59 wa_303 wa_337 wa_265 wa_338 wa_339 (by decide) (Nat.le_trans (by decide) hRf) (Nat.le_trans (by decide) hRl) rfl hl.1 rfl (Nat.le_of_ble_eq_true rfl) dd_Mo_repair_59 hcs [0, 1, 2, 3, 4, 5, 6, 7, 8, 9] [] [0, 1, 2, 3, 4, 5, 6, 7, 8, 9] hP hD hS rfl rfl (by decide) rfl rfl rfl (fun H locs hP hD hS => ?_)
          refine W.eq (g2 := F0 m 62 ls []) rfl ?_
          refine lv_iload_n hx hb dd_Mo_repair_62 rfl (lv_at hl 0 rfl) ?_
          exact ret (r_48, xa_48, xb_59, xc_48, xe_48, xs_48, xg_48, xt_59, xf_59, xp_48, xq_48, xv_48, xo_48) H locs 63 ls hM rfl hS hP hD dd_Mo_repair_63
      · rw [if_neg h39] at hM
        refine lv_bipush (v := (-3 : Int32)) hx hb dd_Mo_repair_42 (by decide) ?_
        exact ret ((-3 : Int32), xa, xb, xc, xe, xs, xg, xt, xf, xp, xq, xv, xo) H locs 44 ls hM rfl hS hP hD dd_Mo_repair_44
    · rw [if_neg h22] at hM
      refine lv_bipush (v := (-2 : Int32)) hx hb dd_Mo_repair_25 (by decide) ?_
      exact ret ((-2 : Int32), xa, xb, xc, xe, xs, xg, xt, xf, xp, xq, xv, xo) H locs 27 ls hM rfl hS hP hD dd_Mo_repair_27
  · rw [if_neg h6] at hM
    refine lv_iconst (v := (-1 : Int32)) hx hb dd_Mo_repair_9 (by decide) ?_
    exact ret ((-1 : Int32), xa, xb, xc, xe, xs, xg, xt, xf, xp, xq, xv, xo) H locs 10 ls hM rfl hS hP hD dd_Mo_repair_10
