def ws_Mo (K : Nat → ClassId) (mh m1 m2 m3 m4 m5 m6 m7 m8 m9 : Nat) (n : Nat) (xk : Int32) (xa : Int32) (xb : Int32) (xc : Int32) (xe : Int32) (xl : Int64) (xs : Nat) (xg : Nat) (xr : Nat → Int32) (xd : Nat → Int64) (xt : Nat → Int32) (xf : Nat → Int64) (xw : Nat → Int32) (xp : Nat → Nat) (xq : Nat → Int32) (xv : Nat → Nat) (xo : Nat → Int32) : va_W := [(mh, .inr (4, [.int xk, .int (nI n), .ref m1, .ref m2, .ref m3, .ref m4, .ref m5, .int xa, .int xb, .int xc, .int xe, .long xl, .int (nI xs), .ref m6, .int (nI xg), .ref m7, .ref m8, .ref m9])), (m1, .inl (K 1, 66, .inl xr)), (m2, .inl (K 0, 18, .inr (.inl xd))), (m3, .inl (K 2, 33, .inl xt)), (m4, .inl (K 0, 33, .inr (.inl xf))), (m5, .inl (K 2, 12, .inl xw)), (m6, .inl (K 1, 11, .inl (fun j => nI (xp j % n)))), (m7, .inl (K 1, 36, .inl xq)), (m8, .inl (K 1, 6, .inl (fun j => nI (xv j % 6)))), (m9, .inl (K 1, 6, .inl xo))]
def mm_Mo_product_L6 (x : Int32) (y : Int32) : Nat → (Int32) → Int32
  | 0, v3 => v3
  | k + 1, v3 => (if (v3 <<< ((1 : Int32) &&& 31)) ≤ (255 : Int32) then (if ((y >>> ((nI k) &&& 31)) &&& (1 : Int32)) = (1 : Int32) then (mm_Mo_product_L6 x y k ((v3 <<< ((1 : Int32) &&& 31)) ^^^ x)) else (mm_Mo_product_L6 x y k (v3 <<< ((1 : Int32) &&& 31)))) else (if ((y >>> ((nI k) &&& 31)) &&& (1 : Int32)) = (1 : Int32) then (mm_Mo_product_L6 x y k (((v3 <<< ((1 : Int32) &&& 31)) ^^^ (285 : Int32)) ^^^ x)) else (mm_Mo_product_L6 x y k ((v3 <<< ((1 : Int32) &&& 31)) ^^^ (285 : Int32)))))
def mm_Mo_product (x : Int32) (y : Int32) : Int32 := (mm_Mo_product_L6 x y 8 (0 : Int32))
set_option maxHeartbeats 4000000 in
set_option maxRecDepth 100000 in
theorem cc_Mo_product {l : Launch} (D : va_G) (K : Nat → ClassId) (mh m1 m2 m3 m4 m5 m6 m7 m8 m9 : Nat) (x : Int32) (y : Int32) (n : Nat) (xk : Int32) (xa : Int32) (xb : Int32) (xc : Int32) (xe : Int32) (xl : Int64) (xs : Nat) (xg : Nat) (xr : Nat → Int32) (xd : Nat → Int64) (xt : Nat → Int32) (xf : Nat → Int64) (xw : Nat → Int32) (xp : Nat → Nat) (xq : Nat → Int32) (xv : Nat → Nat) (xo : Nat → Int32) (hn : n ≤ 11) (hn6 : 6 ≤ n) : ly_i l yy_Mo_product bb_Mo_product 5 (some .int) 0 0 D K [.ref mh, .int x, .int y] (ws_Mo K mh m1 m2 m3 m4 m5 m6 m7 m8 m9 n xk xa xb xc xe xl xs xg xr xd xt xf xw xp xq xv xo) (fun z => z) (fun _ => (ws_Mo K mh m1 m2 m3 m4 m5 m6 m7 m8 m9 n xk xa xb xc xe xl xs xg xr xd xt xf xw xp xq xv xo)) (mm_Mo_product x y) := by
  refine ly_entI (by decide) (Nat.le_of_ble_eq_true rfl) ?_
  intro p e s m av below meth c A ls R Q H locs res hM C hRf hRl hS hP hD hl ret
  obtain ⟨hx, hb, -⟩ := id C
  have hcs : 0 ≤ R.cells ∧ 0 ≤ R.slots := ⟨Nat.zero_le _, Nat.zero_le _⟩
  have hl : lv_has ls 5 [(0, .ref mh), (1, .int x), (2, .int y)] := hl
  rw [mm_Mo_product] at hM
  refine lv_iconst (v := (0 : Int32)) hx hb dd_Mo_product_0 (by decide) ?_
  refine lv_istore_n (lv' := [(3, .int (0 : Int32)), (0, .ref mh), (1, .int x), (2, .int y)]) hx hb dd_Mo_product_1 rfl hl (by decide) rfl (fun ls hl => ?_)
  refine lv_bipush (v := (7 : Int32)) hx hb dd_Mo_product_2 (by decide) ?_
  refine lv_istore (lv' := [(4, .int (7 : Int32)), (3, .int (0 : Int32)), (0, .ref mh), (1, .int x), (2, .int y)]) hx hb dd_Mo_product_4 hl (by decide) rfl (fun ls hl => ?_)
  rw [show (7 : Int32) = nI 8 - 1 by decide] at hl
  have lp6 : ∀ (k : Nat) (v3 : Int32) (ls : Array Slot) (H : Heap) (locs : List Loc), k ≤ 8 → mm_Mo_product_L6 x y k v3 = res → lv_has ls 5 [(4, .int (nI k - 1)), (3, .int v3), (0, .ref mh), (1, .int x), (2, .int y)] → va_P D cl_all (ws_Mo K mh m1 m2 m3 m4 m5 m6 m7 m8 m9 n xk xa xb xc xe xl xs xg xr xd xt xf xw xp xq xv xo) H → va_D A (ws_Mo K mh m1 m2 m3 m4 m5 m6 m7 m8 m9 n xk xa xb xc xe xl xs xg xr xd xt xf xw xp xq xv xo) → va_S A s.heap H locs → W p l e R s m av below meth c H locs 0 0 Q (F0 m 6 ls []) := by
    intro k
    induction k with
    | zero =>
      intro v3 ls H locs hkn6 hM hl hP hD hS
      rw [mm_Mo_product_L6] at hM
      refine lv_iload hx hb dd_Mo_product_6 (lv_at hl 0 rfl) ?_
      refine lv_if_lt (tgt := 56) hx hb dd_Mo_product_8 (by decide) (fun _ => ?_) (fun h => absurd (by decide) h)
      refine lv_iload_n hx hb dd_Mo_product_56 rfl (lv_at hl 1 rfl) ?_
      exact ret v3 H locs 57 ls hM rfl hS hP hD dd_Mo_product_57
    | succ k ih6 =>
      intro v3 ls H locs hkn6 hM hl hP hD hS
      rw [nI_pred] at hl
      rw [mm_Mo_product_L6] at hM
      refine lv_iload hx hb dd_Mo_product_6 (lv_at hl 0 rfl) ?_
      refine lv_if_lt (tgt := 56) hx hb dd_Mo_product_8 (by decide) (fun h => absurd h (nI_pos (by omega))) (fun _ => ?_)
      refine lv_iload_n hx hb dd_Mo_product_11 rfl (lv_at hl 1 rfl) ?_
      refine lv_iconst (v := (1 : Int32)) hx hb dd_Mo_product_12 (by decide) ?_
      refine lv_ishl hx hb dd_Mo_product_13 ?_
      refine lv_istore_n (lv' := [(3, .int (v3 <<< ((1 : Int32) &&& 31))), (4, .int (nI k)), (0, .ref mh), (1, .int x), (2, .int y)]) hx hb dd_Mo_product_14 rfl hl (by decide) rfl (fun ls hl => ?_)
      refine lv_iload_n hx hb dd_Mo_product_15 rfl (lv_at hl 0 rfl) ?_
      refine lv_sipush (v := (255 : Int32)) hx hb dd_Mo_product_16 (by decide) ?_
      refine lv_icmp_le (tgt := 30) hx hb dd_Mo_product_19 (by decide) (fun h19 => ?_) (fun h19 => ?_)
      · rw [if_pos h19] at hM
        refine lv_iload_n hx hb dd_Mo_product_30 rfl (lv_at hl 0 rfl) ?_
        refine lv_istore_n (lv' := [(3, .int (v3 <<< ((1 : Int32) &&& 31))), (4, .int (nI k)), (0, .ref mh), (1, .int x), (2, .int y)]) hx hb dd_Mo_product_31 rfl hl (by decide) rfl (fun ls hl => ?_)
        refine lv_iload_n hx hb dd_Mo_product_32 rfl (lv_at hl 4 rfl) ?_
        refine lv_iload hx hb dd_Mo_product_33 (lv_at hl 1 rfl) ?_
        refine lv_ishr hx hb dd_Mo_product_35 ?_
        refine lv_iconst (v := (1 : Int32)) hx hb dd_Mo_product_36 (by decide) ?_
        refine lv_iand hx hb dd_Mo_product_37 ?_
        refine lv_iconst (v := (1 : Int32)) hx hb dd_Mo_product_38 (by decide) ?_
        refine lv_icmp_ne (tgt := 48) hx hb dd_Mo_product_39 (by decide) (fun h39 => ?_) (fun h39 => ?_)
        · rw [if_neg h39] at hM
          refine lv_iload_n hx hb dd_Mo_product_48 rfl (lv_at hl 0 rfl) ?_
          refine lv_istore_n (lv' := [(3, .int (v3 <<< ((1 : Int32) &&& 31))), (4, .int (nI k)), (0, .ref mh), (1, .int x), (2, .int y)]) hx hb dd_Mo_product_49 rfl hl (by decide) rfl (fun ls hl => ?_)
          refine lv_iinc (k := 1) (v := (nI k - 1)) (lv' := [(4, .int (nI k - 1)), (3, .int (v3 <<< ((1 : Int32) &&& 31))), (0, .ref mh), (1, .int x), (2, .int y)]) hx hb dd_Mo_product_50 hl rfl (ly_decN _) (by decide) rfl (fun ls hl => ?_)
          refine lv_goto (tgt := 6) hx hb dd_Mo_product_53 (by decide) ?_
          exact ih6 (v3 <<< ((1 : Int32) &&& 31)) ls H locs (by omega) hM (lv_sub hl [0, 1, 2, 3, 4] rfl) hP hD hS
        · rw [if_pos h39] at hM
          refine lv_iload_n hx hb dd_Mo_product_42 rfl (lv_at hl 0 rfl) ?_
          refine lv_iload_n hx hb dd_Mo_product_43 rfl (lv_at hl 3 rfl) ?_
          refine lv_ixor hx hb dd_Mo_product_44 ?_
          refine lv_goto (tgt := 49) hx hb dd_Mo_product_45 (by decide) ?_
          refine lv_istore_n (lv' := [(3, .int ((v3 <<< ((1 : Int32) &&& 31)) ^^^ x)), (4, .int (nI k)), (0, .ref mh), (1, .int x), (2, .int y)]) hx hb dd_Mo_product_49 rfl hl (by decide) rfl (fun ls hl => ?_)
          refine lv_iinc (k := 1) (v := (nI k - 1)) (lv' := [(4, .int (nI k - 1)), (3, .int ((v3 <<< ((1 : Int32) &&& 31)) ^^^ x)), (0, .ref mh), (1, .int x), (2, .int y)]) hx hb dd_Mo_product_50 hl rfl (ly_decN _) (by decide) rfl (fun ls hl => ?_)
          refine lv_goto (tgt := 6) hx hb dd_Mo_product_53 (by decide) ?_
          exact ih6 ((v3 <<< ((1 : Int32) &&& 31)) ^^^ x) ls H locs (by omega) hM (lv_sub hl [0, 1, 2, 3, 4] rfl) hP hD hS
      · rw [if_neg h19] at hM
        refine lv_iload_n hx hb dd_Mo_product_22 rfl (lv_at hl 0 rfl) ?_
        refine lv_sipush (v := (285 : Int32)) hx hb dd_Mo_product_23 (by decide) ?_
        refine lv_ixor hx hb dd_Mo_product_26 ?_
        refine lv_goto (tgt := 31) hx hb dd_Mo_product_27 (by decide) ?_
        refine lv_istore_n (lv' := [(3, .int ((v3 <<< ((1 : Int32) &&& 31)) ^^^ (285 : Int32))), (4, .int (nI k)), (0, .ref mh), (1, .int x), (2, .int y)]) hx hb dd_Mo_product_31 rfl hl (by decide) rfl (fun ls hl => ?_)
        refine lv_iload_n hx hb dd_Mo_product_32 rfl (lv_at hl 4 rfl) ?_
        refine lv_iload hx hb dd_Mo_product_33 (lv_at hl 1 rfl) ?_
        refine lv_ishr hx hb dd_Mo_product_35 ?_
        refine lv_iconst (v := (1 : Int32)) hx hb dd_Mo_product_36 (by decide) ?_
        refine lv_iand hx hb dd_Mo_product_37 ?_
        refine lv_iconst (v := (1 : Int32)) hx hb dd_Mo_product_38 (by decide) ?_
        refine lv_icmp_ne (tgt := 48) hx hb dd_Mo_product_39 (by decide) (fun h39 => ?_) (fun h39 => ?_)
        · rw [if_neg h39] at hM
          refine lv_iload_n hx hb dd_Mo_product_48 rfl (lv_at hl 0 rfl) ?_
          refine lv_istore_n (lv' := [(3, .int ((v3 <<< ((1 : Int32) &&& 31)) ^^^ (285 : Int32))), (4, .int (nI k)), (0, .ref mh), (1, .int x), (2, .int y)]) hx hb dd_Mo_product_49 rfl hl (by decide) rfl (fun ls hl => ?_)
          refine lv_iinc (k := 1) (v := (nI k - 1)) (lv' := [(4, .int (nI k - 1)), (3, .int ((v3 <<< ((1 : Int32) &&& 31)) ^^^ (285 : Int32))), (0, .ref mh), (1, .int x), (2, .int y)]) hx hb dd_Mo_product_50 hl rfl (ly_decN _) (by decide) rfl (fun ls hl => ?_)
          refine lv_goto (tgt := 6) hx hb dd_Mo_product_53 (by decide) ?_
          exact ih6 ((v3 <<< ((1 : Int32) &&& 31)) ^^^ (285 : Int32)) ls H locs (by omega) hM (lv_sub hl [0, 1, 2, 3, 4] rfl) hP hD hS
        · rw [if_pos h39] at hM
          refine lv_iload_n hx hb dd_Mo_product_42 rfl (lv_at hl 0 rfl) ?_
          refine lv_iload_n hx hb dd_Mo_product_43 rfl (lv_at hl 3 rfl) ?_
          refine lv_ixor hx hb dd_Mo_product_44 ?_
          refine lv_goto (tgt := 49) hx hb dd_Mo_product_45 (by decide) ?_
          refine lv_istore_n (lv' := [(3, .int (((v3 <<< ((1 : Int32) &&& 31)) ^^^ (285 : Int32)) ^^^ x)), (4, .int (nI k)), (0, .ref mh), (1, .int x), (2, .int y)]) hx hb dd_Mo_product_49 rfl hl (by decide) rfl (fun ls hl => ?_)
          refine lv_iinc (k := 1) (v := (nI k - 1)) (lv' := [(4, .int (nI k - 1)), (3, .int (((v3 <<< ((1 : Int32) &&& 31)) ^^^ (285 : Int32)) ^^^ x)), (0, .ref mh), (1, .int x), (2, .int y)]) hx hb dd_Mo_product_50 hl rfl (ly_decN _) (by decide) rfl (fun ls hl => ?_)
          refine lv_goto (tgt := 6) hx hb dd_Mo_product_53 (by decide) ?_
          exact ih6 (((v3 <<< ((1 : Int32) &&& 31)) ^^^ (285 : Int32)) ^^^ x) ls H locs (by omega) hM (lv_sub hl [0, 1, 2, 3, 4] rfl) hP hD hS
  exact lp6 8 (0 : Int32) ls H locs (Nat.le_refl _) hM (lv_sub hl [0, 1, 2, 3, 4] rfl) hP hD hS

def mm_Mo_inverse_L4 (x : Int32) : Nat → Nat → (Int32) → Int32
  | 0, j, v2 => v2
  | k + 1, j, v2 => (if (mm_Mo_product x (nI j)) = (1 : Int32) then (mm_Mo_inverse_L4 x k (j + 1) (nI j)) else (mm_Mo_inverse_L4 x k (j + 1) v2))
def mm_Mo_inverse (x : Int32) : Int32 := (mm_Mo_inverse_L4 x 255 1 (0 : Int32))
set_option maxHeartbeats 4000000 in
set_option maxRecDepth 100000 in
theorem cc_Mo_inverse {l : Launch} (D : va_G) (K : Nat → ClassId) (mh m1 m2 m3 m4 m5 m6 m7 m8 m9 : Nat) (x : Int32) (n : Nat) (xk : Int32) (xa : Int32) (xb : Int32) (xc : Int32) (xe : Int32) (xl : Int64) (xs : Nat) (xg : Nat) (xr : Nat → Int32) (xd : Nat → Int64) (xt : Nat → Int32) (xf : Nat → Int64) (xw : Nat → Int32) (xp : Nat → Nat) (xq : Nat → Int32) (xv : Nat → Nat) (xo : Nat → Int32) (hn : n ≤ 11) (hn6 : 6 ≤ n) : ly_i l yy_Mo_inverse bb_Mo_inverse 4 (some .int) 1 24 D K [.ref mh, .int x] (ws_Mo K mh m1 m2 m3 m4 m5 m6 m7 m8 m9 n xk xa xb xc xe xl xs xg xr xd xt xf xw xp xq xv xo) (fun z => z) (fun _ => (ws_Mo K mh m1 m2 m3 m4 m5 m6 m7 m8 m9 n xk xa xb xc xe xl xs xg xr xd xt xf xw xp xq xv xo)) (mm_Mo_inverse x) := by
  refine ly_entI (by decide) (Nat.le_of_ble_eq_true rfl) ?_
  intro p e s m av below meth c A ls R Q H locs res hM C hRf hRl hS hP hD hl ret
  obtain ⟨hx, hb, -⟩ := id C
  have hcs : 0 ≤ R.cells ∧ 0 ≤ R.slots := ⟨Nat.zero_le _, Nat.zero_le _⟩
  have hl : lv_has ls 4 [(0, .ref mh), (1, .int x)] := hl
  rw [mm_Mo_inverse] at hM
  refine lv_iconst (v := (0 : Int32)) hx hb dd_Mo_inverse_0 (by decide) ?_
  refine lv_istore_n (lv' := [(2, .int (0 : Int32)), (0, .ref mh), (1, .int x)]) hx hb dd_Mo_inverse_1 rfl hl (by decide) rfl (fun ls hl => ?_)
  refine lv_iconst (v := (1 : Int32)) hx hb dd_Mo_inverse_2 (by decide) ?_
  refine lv_istore_n (lv' := [(3, .int (1 : Int32)), (2, .int (0 : Int32)), (0, .ref mh), (1, .int x)]) hx hb dd_Mo_inverse_3 rfl hl (by decide) rfl (fun ls hl => ?_)
  have lp4 : ∀ (k : Nat) (j : Nat) (v2 : Int32) (ls : Array Slot) (H : Heap) (locs : List Loc), j + k = 256 → mm_Mo_inverse_L4 x k j v2 = res → lv_has ls 4 [(3, .int (nI j)), (2, .int v2), (0, .ref mh), (1, .int x)] → va_P D cl_all (ws_Mo K mh m1 m2 m3 m4 m5 m6 m7 m8 m9 n xk xa xb xc xe xl xs xg xr xd xt xf xw xp xq xv xo) H → va_D A (ws_Mo K mh m1 m2 m3 m4 m5 m6 m7 m8 m9 n xk xa xb xc xe xl xs xg xr xd xt xf xw xp xq xv xo) → va_S A s.heap H locs → W p l e R s m av below meth c H locs 0 0 Q (F0 m 4 ls []) := by
    intro k
    induction k with
    | zero =>
      intro j v2 ls H locs hjk4 hM hl hP hD hS
      have hj0 : j = 256 := by omega
      subst j
      rw [mm_Mo_inverse_L4] at hM
      refine lv_iload_n hx hb dd_Mo_inverse_4 rfl (lv_at hl 0 rfl) ?_
      refine lv_sipush (v := (256 : Int32)) hx hb dd_Mo_inverse_5 (by decide) ?_
      refine lv_icmp_ge (tgt := 33) hx hb dd_Mo_inverse_8 (by decide) (fun _ => ?_) (fun h => absurd (nI_le (a := 256) (b := 256) (by omega) (by omega)) h)
      refine lv_iload_n hx hb dd_Mo_inverse_33 rfl (lv_at hl 1 rfl) ?_
      exact ret v2 H locs 34 ls hM rfl hS hP hD dd_Mo_inverse_34
    | succ k ih4 =>
      intro j v2 ls H locs hjk4 hM hl hP hD hS
      rw [mm_Mo_inverse_L4] at hM
      refine lv_iload_n hx hb dd_Mo_inverse_4 rfl (lv_at hl 0 rfl) ?_
      refine lv_sipush (v := (256 : Int32)) hx hb dd_Mo_inverse_5 (by decide) ?_
      refine lv_icmp_ge (tgt := 33) hx hb dd_Mo_inverse_8 (by decide) (fun h => absurd h (nI_ge (a := j) (b := 256) (by omega) (by omega))) (fun _ => ?_)
      refine lv_aload_n hx hb dd_Mo_inverse_11 rfl (lv_at hl 2 rfl) ?_
      refine lv_iload_n hx hb dd_Mo_inverse_12 rfl (lv_at hl 3 rfl) ?_
      refine lv_iload_n hx hb dd_Mo_inverse_13 rfl (lv_at hl 0 rfl) ?_
      obtain ⟨r_14, hq14⟩ : ∃ z, z = mm_Mo_product x (nI j) := ⟨_, rfl⟩
      try rw [← hq14] at hM
      refine ly_cV_i (n := 2) (z := r_14) (rest := []) (wn := (ws_Mo K mh m1 m2 m3 m4 m5 m6 m7 m8 m9 n xk xa xb xc xe xl xs xg xr xd xt xf xw xp xq xv xo)) C (cc_Mo_product D K mh m1 m2 m3 m4 m5 m6 m7 m8 m9 x (nI j) n xk xa xb xc xe xl xs xg xr xd xt xf xw xp xq xv xo (by omega) (by omega)) hq14 wa_268 wa_270 wa_265 wa_271 wa_272 (by decide) (Nat.le_trans (by decide) hRf) (Nat.le_trans (by decide) hRl) rfl hl.1 rfl (Nat.le_of_ble_eq_true rfl) dd_Mo_inverse_14 hcs [0, 1, 2, 3, 4, 5, 6, 7, 8, 9] [] [0, 1, 2, 3, 4, 5, 6, 7, 8, 9] hP hD hS rfl rfl (by decide) rfl rfl rfl (fun H locs hP hD hS => ?_)
      refine W.eq (g2 := F0 m 17 ls [.int r_14]) rfl ?_
      refine lv_iconst (v := (1 : Int32)) hx hb dd_Mo_inverse_17 (by decide) ?_
      refine lv_icmp_ne (tgt := 25) hx hb dd_Mo_inverse_18 (by decide) (fun h18 => ?_) (fun h18 => ?_)
      · rw [if_neg h18] at hM
        refine lv_iload_n hx hb dd_Mo_inverse_25 rfl (lv_at hl 1 rfl) ?_
        refine lv_istore_n (lv' := [(2, .int v2), (3, .int (nI j)), (0, .ref mh), (1, .int x)]) hx hb dd_Mo_inverse_26 rfl hl (by decide) rfl (fun ls hl => ?_)
        refine lv_iinc (k := 1) (v := (nI (j + 1))) (lv' := [(3, .int (nI (j + 1))), (2, .int v2), (0, .ref mh), (1, .int x)]) hx hb dd_Mo_inverse_27 hl rfl (ly_incN _) (by decide) rfl (fun ls hl => ?_)
        refine lv_goto (tgt := 4) hx hb dd_Mo_inverse_30 (by decide) ?_
        exact ih4 (j + 1) v2 ls H locs (by omega) hM (lv_sub hl [0, 1, 2, 3] rfl) hP hD hS
      · rw [if_pos h18] at hM
        refine lv_iload_n hx hb dd_Mo_inverse_21 rfl (lv_at hl 0 rfl) ?_
        refine lv_goto (tgt := 26) hx hb dd_Mo_inverse_22 (by decide) ?_
        refine lv_istore_n (lv' := [(2, .int (nI j)), (3, .int (nI j)), (0, .ref mh), (1, .int x)]) hx hb dd_Mo_inverse_26 rfl hl (by decide) rfl (fun ls hl => ?_)
        refine lv_iinc (k := 1) (v := (nI (j + 1))) (lv' := [(3, .int (nI (j + 1))), (2, .int (nI j)), (0, .ref mh), (1, .int x)]) hx hb dd_Mo_inverse_27 hl rfl (ly_incN _) (by decide) rfl (fun ls hl => ?_)
        refine lv_goto (tgt := 4) hx hb dd_Mo_inverse_30 (by decide) ?_
        exact ih4 (j + 1) (nI j) ls H locs (by omega) hM (lv_sub hl [0, 1, 2, 3] rfl) hP hD hS
  exact lp4 255 1 (0 : Int32) ls H locs (by omega) hM (lv_sub hl [0, 1, 2, 3] rfl) hP hD hS

def mm_Mo_coefficient (i : Nat) (p_ : Nat) (xk : Int32) : Int32 := (if xk = (0 : Int32) then (mm_Mo_inverse ((nI (i + 2)) ^^^ (nI p_))) else (if (8 : Int32) ≤ (nI i) then (if (nI i) = (10 : Int32) then ((mm_Mo_inverse ((8 : Int32) ^^^ (nI p_))) ^^^ (mm_Mo_inverse ((9 : Int32) ^^^ (nI p_)))) else (mm_Mo_inverse ((nI i) ^^^ (nI p_)))) else (if (nI (p_ / 3)) = ((nI i) - (6 : Int32)) then (1 : Int32) else (0 : Int32))))
set_option maxHeartbeats 4000000 in
set_option maxRecDepth 100000 in
theorem cc_Mo_coefficient {l : Launch} (D : va_G) (K : Nat → ClassId) (mh m1 m2 m3 m4 m5 m6 m7 m8 m9 : Nat) (i : Nat) (p_ : Nat) (n : Nat) (xk : Int32) (xa : Int32) (xb : Int32) (xc : Int32) (xe : Int32) (xl : Int64) (xs : Nat) (xg : Nat) (xr : Nat → Int32) (xd : Nat → Int64) (xt : Nat → Int32) (xf : Nat → Int64) (xw : Nat → Int32) (xp : Nat → Nat) (xq : Nat → Int32) (xv : Nat → Nat) (xo : Nat → Int32) (hi : i < n) (hp_ : p_ < 6) (hn : n ≤ 11) (hn6 : 6 ≤ n) : ly_i l yy_Mo_coefficient bb_Mo_coefficient 3 (some .int) 2 47 D K [.ref mh, .int (nI i), .int (nI p_)] (ws_Mo K mh m1 m2 m3 m4 m5 m6 m7 m8 m9 n xk xa xb xc xe xl xs xg xr xd xt xf xw xp xq xv xo) (fun z => z) (fun _ => (ws_Mo K mh m1 m2 m3 m4 m5 m6 m7 m8 m9 n xk xa xb xc xe xl xs xg xr xd xt xf xw xp xq xv xo)) (mm_Mo_coefficient i p_ xk) := by
  refine ly_entI (by decide) (Nat.le_of_ble_eq_true rfl) ?_
  intro p e s m av below meth c A ls R Q H locs res hM C hRf hRl hS hP hD hl ret
  obtain ⟨hx, hb, -⟩ := id C
  have hcs : 0 ≤ R.cells ∧ 0 ≤ R.slots := ⟨Nat.zero_le _, Nat.zero_le _⟩
  have hl : lv_has ls 3 [(0, .ref mh), (1, .int (nI i)), (2, .int (nI p_))] := hl
  rw [mm_Mo_coefficient] at hM
  refine lv_aload_n hx hb dd_Mo_coefficient_0 rfl (lv_at hl 0 rfl) ?_
  refine ly_get (v := .int xk) C hP 0 rfl uw_Mo rfl 0 (by decide) wa_262 rfl dd_Mo_coefficient_1 ?_
  refine lv_if_ne (tgt := 17) hx hb dd_Mo_coefficient_4 (by decide) (fun h4 => ?_) (fun h4 => ?_)
  · rw [if_neg h4] at hM
    refine lv_iload_n hx hb dd_Mo_coefficient_17 rfl (lv_at hl 1 rfl) ?_
    refine lv_bipush (v := (8 : Int32)) hx hb dd_Mo_coefficient_18 (by decide) ?_
    refine lv_icmp_ge (tgt := 39) hx hb dd_Mo_coefficient_20 (by decide) (fun h20 => ?_) (fun h20 => ?_)
    · rw [if_pos h20] at hM
      refine lv_iload_n hx hb dd_Mo_coefficient_39 rfl (lv_at hl 1 rfl) ?_
      refine lv_bipush (v := (10 : Int32)) hx hb dd_Mo_coefficient_40 (by decide) ?_
      refine lv_icmp_ne (tgt := 63) hx hb dd_Mo_coefficient_42 (by decide) (fun h42 => ?_) (fun h42 => ?_)
      · rw [if_neg h42] at hM
        refine lv_aload_n hx hb dd_Mo_coefficient_63 rfl (lv_at hl 0 rfl) ?_
        refine lv_iload_n hx hb dd_Mo_coefficient_64 rfl (lv_at hl 1 rfl) ?_
        refine lv_iload_n hx hb dd_Mo_coefficient_65 rfl (lv_at hl 2 rfl) ?_
        refine lv_ixor hx hb dd_Mo_coefficient_66 ?_
        obtain ⟨r_67, hq67⟩ : ∃ z, z = mm_Mo_inverse ((nI i) ^^^ (nI p_)) := ⟨_, rfl⟩
        try rw [← hq67] at hM
        refine ly_cV_i (n := 1) (z := r_67) (rest := []) (wn := (ws_Mo K mh m1 m2 m3 m4 m5 m6 m7 m8 m9 n xk xa xb xc xe xl xs xg xr xd xt xf xw xp xq xv xo)) C (cc_Mo_inverse D K mh m1 m2 m3 m4 m5 m6 m7 m8 m9 ((nI i) ^^^ (nI p_)) n xk xa xb xc xe xl xs xg xr xd xt xf xw xp xq xv xo (by omega) (by omega)) hq67 wa_269 wa_274 wa_265 wa_275 wa_276 (by decide) (Nat.le_trans (by decide) hRf) (Nat.le_trans (by decide) hRl) rfl hl.1 rfl (Nat.le_of_ble_eq_true rfl) dd_Mo_coefficient_67 hcs [0, 1, 2, 3, 4, 5, 6, 7, 8, 9] [] [0, 1, 2, 3, 4, 5, 6, 7, 8, 9] hP hD hS rfl rfl (by decide) rfl rfl rfl (fun H locs hP hD hS => ?_)
        refine W.eq (g2 := F0 m 70 ls [.int r_67]) rfl ?_
        exact ret r_67 H locs 70 ls hM rfl hS hP hD dd_Mo_coefficient_70
      · rw [if_pos h42] at hM
        refine lv_aload_n hx hb dd_Mo_coefficient_45 rfl (lv_at hl 0 rfl) ?_
        refine lv_bipush (v := (8 : Int32)) hx hb dd_Mo_coefficient_46 (by decide) ?_
        refine lv_iload_n hx hb dd_Mo_coefficient_48 rfl (lv_at hl 2 rfl) ?_
        refine lv_ixor hx hb dd_Mo_coefficient_49 ?_
        obtain ⟨r_50, hq50⟩ : ∃ z, z = mm_Mo_inverse ((8 : Int32) ^^^ (nI p_)) := ⟨_, rfl⟩
        try rw [← hq50] at hM
        refine ly_cV_i (n := 1) (z := r_50) (rest := []) (wn := (ws_Mo K mh m1 m2 m3 m4 m5 m6 m7 m8 m9 n xk xa xb xc xe xl xs xg xr xd xt xf xw xp xq xv xo)) C (cc_Mo_inverse D K mh m1 m2 m3 m4 m5 m6 m7 m8 m9 ((8 : Int32) ^^^ (nI p_)) n xk xa xb xc xe xl xs xg xr xd xt xf xw xp xq xv xo (by omega) (by omega)) hq50 wa_269 wa_274 wa_265 wa_275 wa_276 (by decide) (Nat.le_trans (by decide) hRf) (Nat.le_trans (by decide) hRl) rfl hl.1 rfl (Nat.le_of_ble_eq_true rfl) dd_Mo_coefficient_50 hcs [0, 1, 2, 3, 4, 5, 6, 7, 8, 9] [] [0, 1, 2, 3, 4, 5, 6, 7, 8, 9] hP hD hS rfl rfl (by decide) rfl rfl rfl (fun H locs hP hD hS => ?_)
        refine W.eq (g2 := F0 m 53 ls [.int r_50]) rfl ?_
        refine lv_aload_n hx hb dd_Mo_coefficient_53 rfl (lv_at hl 0 rfl) ?_
        refine lv_bipush (v := (9 : Int32)) hx hb dd_Mo_coefficient_54 (by decide) ?_
        refine lv_iload_n hx hb dd_Mo_coefficient_56 rfl (lv_at hl 2 rfl) ?_
        refine lv_ixor hx hb dd_Mo_coefficient_57 ?_
        obtain ⟨r_58, hq58⟩ : ∃ z, z = mm_Mo_inverse ((9 : Int32) ^^^ (nI p_)) := ⟨_, rfl⟩
        try rw [← hq58] at hM
        refine ly_cV_i (n := 1) (z := r_58) (rest := [.int r_50]) (wn := (ws_Mo K mh m1 m2 m3 m4 m5 m6 m7 m8 m9 n xk xa xb xc xe xl xs xg xr xd xt xf xw xp xq xv xo)) C (cc_Mo_inverse D K mh m1 m2 m3 m4 m5 m6 m7 m8 m9 ((9 : Int32) ^^^ (nI p_)) n xk xa xb xc xe xl xs xg xr xd xt xf xw xp xq xv xo (by omega) (by omega)) hq58 wa_269 wa_274 wa_265 wa_275 wa_276 (by decide) (Nat.le_trans (by decide) hRf) (Nat.le_trans (by decide) hRl) rfl hl.1 rfl (Nat.le_of_ble_eq_true rfl) dd_Mo_coefficient_58 hcs [0, 1, 2, 3, 4, 5, 6, 7, 8, 9] [] [0, 1, 2, 3, 4, 5, 6, 7, 8, 9] hP hD hS rfl rfl (by decide) rfl rfl rfl (fun H locs hP hD hS => ?_)
        refine W.eq (g2 := F0 m 61 ls [.int r_58, .int r_50]) rfl ?_
        refine lv_ixor hx hb dd_Mo_coefficient_61 ?_
        exact ret (r_50 ^^^ r_58) H locs 62 ls hM rfl hS hP hD dd_Mo_coefficient_62
    · rw [if_neg h20] at hM
      refine lv_iload_n hx hb dd_Mo_coefficient_23 rfl (lv_at hl 2 rfl) ?_
      refine lv_iconst (v := (3 : Int32)) hx hb dd_Mo_coefficient_24 (by decide) ?_
      refine ly_idivN C p_ 3 rfl rfl (by omega) (by decide) (by decide) dd_Mo_coefficient_25 ?_
      refine lv_iload_n hx hb dd_Mo_coefficient_26 rfl (lv_at hl 1 rfl) ?_
      refine lv_bipush (v := (6 : Int32)) hx hb dd_Mo_coefficient_27 (by decide) ?_
      refine lv_isub hx hb dd_Mo_coefficient_29 ?_
      refine lv_icmp_ne (tgt := 37) hx hb dd_Mo_coefficient_30 (by decide) (fun h30 => ?_) (fun h30 => ?_)
      · rw [if_neg h30] at hM
        refine lv_iconst (v := (0 : Int32)) hx hb dd_Mo_coefficient_37 (by decide) ?_
        exact ret (0 : Int32) H locs 38 ls hM rfl hS hP hD dd_Mo_coefficient_38
      · rw [if_pos h30] at hM
        refine lv_iconst (v := (1 : Int32)) hx hb dd_Mo_coefficient_33 (by decide) ?_
        refine lv_goto (tgt := 38) hx hb dd_Mo_coefficient_34 (by decide) ?_
        exact ret (1 : Int32) H locs 38 ls hM rfl hS hP hD dd_Mo_coefficient_38
  · rw [if_pos h4] at hM
    refine lv_aload_n hx hb dd_Mo_coefficient_7 rfl (lv_at hl 0 rfl) ?_
    refine lv_iload_n hx hb dd_Mo_coefficient_8 rfl (lv_at hl 1 rfl) ?_
    refine lv_iconst (v := (2 : Int32)) hx hb dd_Mo_coefficient_9 (by decide) ?_
    refine ly_iaddN C i 2 rfl rfl dd_Mo_coefficient_10 ?_
    refine lv_iload_n hx hb dd_Mo_coefficient_11 rfl (lv_at hl 2 rfl) ?_
    refine lv_ixor hx hb dd_Mo_coefficient_12 ?_
    obtain ⟨r_13, hq13⟩ : ∃ z, z = mm_Mo_inverse ((nI (i + 2)) ^^^ (nI p_)) := ⟨_, rfl⟩
    try rw [← hq13] at hM
    refine ly_cV_i (n := 1) (z := r_13) (rest := []) (wn := (ws_Mo K mh m1 m2 m3 m4 m5 m6 m7 m8 m9 n xk xa xb xc xe xl xs xg xr xd xt xf xw xp xq xv xo)) C (cc_Mo_inverse D K mh m1 m2 m3 m4 m5 m6 m7 m8 m9 ((nI (i + 2)) ^^^ (nI p_)) n xk xa xb xc xe xl xs xg xr xd xt xf xw xp xq xv xo (by omega) (by omega)) hq13 wa_269 wa_274 wa_265 wa_275 wa_276 (by decide) (Nat.le_trans (by decide) hRf) (Nat.le_trans (by decide) hRl) rfl hl.1 rfl (Nat.le_of_ble_eq_true rfl) dd_Mo_coefficient_13 hcs [0, 1, 2, 3, 4, 5, 6, 7, 8, 9] [] [0, 1, 2, 3, 4, 5, 6, 7, 8, 9] hP hD hS rfl rfl (by decide) rfl rfl rfl (fun H locs hP hD hS => ?_)
    refine W.eq (g2 := F0 m 16 ls [.int r_13]) rfl ?_
    exact ret r_13 H locs 16 ls hM rfl hS hP hD dd_Mo_coefficient_16

def mm_Mo_byteOf (x : Int64) (i : Nat) : Int32 := ((x.toUInt64 >>> ((nI (8 * i)).toInt64.toUInt64 &&& Int64.toUInt64 63)).toInt64 &&& (255 : Int64)).toInt32
set_option maxHeartbeats 4000000 in
set_option maxRecDepth 100000 in
theorem cc_Mo_byteOf {l : Launch} (D : va_G) (K : Nat → ClassId) (mh m1 m2 m3 m4 m5 m6 m7 m8 m9 : Nat) (x : Int64) (i : Nat) (n : Nat) (xk : Int32) (xa : Int32) (xb : Int32) (xc : Int32) (xe : Int32) (xl : Int64) (xs : Nat) (xg : Nat) (xr : Nat → Int32) (xd : Nat → Int64) (xt : Nat → Int32) (xf : Nat → Int64) (xw : Nat → Int32) (xp : Nat → Nat) (xq : Nat → Int32) (xv : Nat → Nat) (xo : Nat → Int32) (hi : i < 8) (hn : n ≤ 11) (hn6 : 6 ≤ n) : ly_i l yy_Mo_byteOf bb_Mo_byteOf 4 (some .int) 0 0 D K [.ref mh, .long x, .int (nI i)] (ws_Mo K mh m1 m2 m3 m4 m5 m6 m7 m8 m9 n xk xa xb xc xe xl xs xg xr xd xt xf xw xp xq xv xo) (fun z => z) (fun _ => (ws_Mo K mh m1 m2 m3 m4 m5 m6 m7 m8 m9 n xk xa xb xc xe xl xs xg xr xd xt xf xw xp xq xv xo)) (mm_Mo_byteOf x i) := by
  refine ly_entI (by decide) (Nat.le_of_ble_eq_true rfl) ?_
  intro p e s m av below meth c A ls R Q H locs res hM C hRf hRl hS hP hD hl ret
  obtain ⟨hx, hb, -⟩ := id C
  have hcs : 0 ≤ R.cells ∧ 0 ≤ R.slots := ⟨Nat.zero_le _, Nat.zero_le _⟩
  have hl : lv_has ls 4 [(0, .ref mh), (1, .long x), (3, .int (nI i))] := hl
  rw [mm_Mo_byteOf] at hM
  refine lv_lload_n hx hb dd_Mo_byteOf_0 rfl (lv_at hl 1 rfl) ?_
  refine lv_bipush (v := (8 : Int32)) hx hb dd_Mo_byteOf_1 (by decide) ?_
  refine lv_iload_n hx hb dd_Mo_byteOf_3 rfl (lv_at hl 2 rfl) ?_
  refine ly_imulN C 8 i rfl rfl dd_Mo_byteOf_4 ?_
  refine lv_lushr (v := (x.toUInt64 >>> ((nI (8 * i)).toInt64.toUInt64 &&& Int64.toUInt64 63)).toInt64) hx hb dd_Mo_byteOf_5 rfl ?_
  refine ly_ldc2 (x := (255 : Int64)) C wa_278 dd_Mo_byteOf_6 ?_
  refine lv_land hx hb dd_Mo_byteOf_9 ?_
  refine lv_l2i (v := ((x.toUInt64 >>> ((nI (8 * i)).toInt64.toUInt64 &&& Int64.toUInt64 63)).toInt64 &&& (255 : Int64)).toInt32) hx hb dd_Mo_byteOf_10 rfl ?_
  exact ret ((x.toUInt64 >>> ((nI (8 * i)).toInt64.toUInt64 &&& Int64.toUInt64 63)).toInt64 &&& (255 : Int64)).toInt32 H locs 11 ls hM rfl hS hP hD dd_Mo_byteOf_11

def mm_Mo_value_L18 (sg : Nat) (i : Nat) (xr : Nat → Int32) (xd : Nat → Int64) (j : Nat) : Nat → Nat → (Int32) → (Int32)
  | 0, j18, v6L18 => v6L18
  | k18 + 1, j18, v6L18 => (mm_Mo_value_L18 sg i xr xd j k18 (j18 + 1) (v6L18 ^^^ (mm_Mo_product (xr ((6 * i) + j18)) (mm_Mo_byteOf (xd ((6 * sg) + j18)) j))))
def mm_Mo_value_L5 (sg : Nat) (i : Nat) (xr : Nat → Int32) (xd : Nat → Int64) : Nat → Nat → (Int64) → Int64
  | 0, j, v3 => v3
  | k + 1, j, v3 => (mm_Mo_value_L5 sg i xr xd k (j + 1) (v3 ||| ((mm_Mo_value_L18 sg i xr xd j 6 0 (0 : Int32)).toInt64 <<< ((nI (8 * j)).toInt64 &&& 63))))
def mm_Mo_value (sg : Nat) (i : Nat) (xr : Nat → Int32) (xd : Nat → Int64) : Int64 := (mm_Mo_value_L5 sg i xr xd 8 0 (0 : Int64))
set_option maxHeartbeats 4000000 in
set_option maxRecDepth 100000 in
theorem cc_Mo_value {l : Launch} (D : va_G) (K : Nat → ClassId) (mh m1 m2 m3 m4 m5 m6 m7 m8 m9 : Nat) (sg : Nat) (i : Nat) (n : Nat) (xk : Int32) (xa : Int32) (xb : Int32) (xc : Int32) (xe : Int32) (xl : Int64) (xs : Nat) (xg : Nat) (xr : Nat → Int32) (xd : Nat → Int64) (xt : Nat → Int32) (xf : Nat → Int64) (xw : Nat → Int32) (xp : Nat → Nat) (xq : Nat → Int32) (xv : Nat → Nat) (xo : Nat → Int32) (hsg : sg < 3) (hi : i < n) (hn : n ≤ 11) (hn6 : 6 ≤ n) : ly_l l yy_Mo_value bb_Mo_value 9 (some .long) 1 24 D K [.ref mh, .int (nI sg), .int (nI i)] (ws_Mo K mh m1 m2 m3 m4 m5 m6 m7 m8 m9 n xk xa xb xc xe xl xs xg xr xd xt xf xw xp xq xv xo) (fun z => z) (fun _ => (ws_Mo K mh m1 m2 m3 m4 m5 m6 m7 m8 m9 n xk xa xb xc xe xl xs xg xr xd xt xf xw xp xq xv xo)) (mm_Mo_value sg i xr xd) := by
  refine ly_entL (by decide) (Nat.le_of_ble_eq_true rfl) ?_
  intro p e s m av below meth c A ls R Q H locs res hM C hRf hRl hS hP hD hl ret
  obtain ⟨hx, hb, -⟩ := id C
  have hcs : 0 ≤ R.cells ∧ 0 ≤ R.slots := ⟨Nat.zero_le _, Nat.zero_le _⟩
  have hl : lv_has ls 9 [(0, .ref mh), (1, .int (nI sg)), (2, .int (nI i))] := hl
  rw [mm_Mo_value] at hM
  refine lv_lconst (v := (0 : Int64)) hx hb dd_Mo_value_0 (by decide) ?_
  refine lv_lstore_n (lv' := [(3, .long (0 : Int64)), (0, .ref mh), (1, .int (nI sg)), (2, .int (nI i))]) hx hb dd_Mo_value_1 rfl hl (by decide) rfl (fun ls hl => ?_)
  refine lv_iconst (v := (0 : Int32)) hx hb dd_Mo_value_2 (by decide) ?_
  refine lv_istore (lv' := [(5, .int (0 : Int32)), (3, .long (0 : Int64)), (0, .ref mh), (1, .int (nI sg)), (2, .int (nI i))]) hx hb dd_Mo_value_3 hl (by decide) rfl (fun ls hl => ?_)
  have lp5 : ∀ (k : Nat) (j : Nat) (v3 : Int64) (ls : Array Slot) (H : Heap) (locs : List Loc), j + k = 8 → mm_Mo_value_L5 sg i xr xd k j v3 = res → lv_has ls 9 [(5, .int (nI j)), (3, .long v3), (0, .ref mh), (1, .int (nI sg)), (2, .int (nI i))] → va_P D cl_all (ws_Mo K mh m1 m2 m3 m4 m5 m6 m7 m8 m9 n xk xa xb xc xe xl xs xg xr xd xt xf xw xp xq xv xo) H → va_D A (ws_Mo K mh m1 m2 m3 m4 m5 m6 m7 m8 m9 n xk xa xb xc xe xl xs xg xr xd xt xf xw xp xq xv xo) → va_S A s.heap H locs → W p l e R s m av below meth c H locs 0 0 Q (F0 m 5 ls []) := by
    intro k
    induction k with
    | zero =>
      intro j v3 ls H locs hjk5 hM hl hP hD hS
      have hj0 : j = 8 := by omega
      subst j
      rw [mm_Mo_value_L5] at hM
      refine lv_iload hx hb dd_Mo_value_5 (lv_at hl 0 rfl) ?_
      refine lv_bipush (v := (8 : Int32)) hx hb dd_Mo_value_7 (by decide) ?_
      refine lv_icmp_ge (tgt := 92) hx hb dd_Mo_value_9 (by decide) (fun _ => ?_) (fun h => absurd (nI_le (a := 8) (b := 8) (by omega) (by omega)) h)
      refine lv_lload_n hx hb dd_Mo_value_92 rfl (lv_at hl 1 rfl) ?_
      exact ret v3 H locs 93 ls hM hS hP hD dd_Mo_value_93
    | succ k ih5 =>
      intro j v3 ls H locs hjk5 hM hl hP hD hS
      rw [mm_Mo_value_L5] at hM
      refine lv_iload hx hb dd_Mo_value_5 (lv_at hl 0 rfl) ?_
      refine lv_bipush (v := (8 : Int32)) hx hb dd_Mo_value_7 (by decide) ?_
      refine lv_icmp_ge (tgt := 92) hx hb dd_Mo_value_9 (by decide) (fun h => absurd h (nI_ge (a := j) (b := 8) (by omega) (by omega))) (fun _ => ?_)
      refine lv_iconst (v := (0 : Int32)) hx hb dd_Mo_value_12 (by decide) ?_
      refine lv_istore (lv' := [(6, .int (0 : Int32)), (5, .int (nI j)), (3, .long v3), (0, .ref mh), (1, .int (nI sg)), (2, .int (nI i))]) hx hb dd_Mo_value_13 hl (by decide) rfl (fun ls hl => ?_)
      refine lv_iconst (v := (0 : Int32)) hx hb dd_Mo_value_15 (by decide) ?_
      refine lv_istore (lv' := [(7, .int (0 : Int32)), (6, .int (0 : Int32)), (5, .int (nI j)), (3, .long v3), (0, .ref mh), (1, .int (nI sg)), (2, .int (nI i))]) hx hb dd_Mo_value_16 hl (by decide) rfl (fun ls hl => ?_)
      have lp18 : ∀ (k18 : Nat) (j18 : Nat) (v6L18 : Int32) (ls : Array Slot) (H : Heap) (locs : List Loc) (rs18 : (Int32)), j18 + k18 = 6 → mm_Mo_value_L18 sg i xr xd j k18 j18 v6L18 = rs18 → lv_has ls 9 [(7, .int (nI j18)), (6, .int v6L18), (5, .int (nI j)), (3, .long v3), (0, .ref mh), (1, .int (nI sg)), (2, .int (nI i))] → va_P D cl_all (ws_Mo K mh m1 m2 m3 m4 m5 m6 m7 m8 m9 n xk xa xb xc xe xl xs xg xr xd xt xf xw xp xq xv xo) H → va_D A (ws_Mo K mh m1 m2 m3 m4 m5 m6 m7 m8 m9 n xk xa xb xc xe xl xs xg xr xd xt xf xw xp xq xv xo) → va_S A s.heap H locs → (∀ (v6L18 : Int32) (ls : Array Slot) (H : Heap) (locs : List Loc), v6L18 = rs18 → lv_has ls 9 [(6, .int v6L18), (5, .int (nI j)), (3, .long v3), (0, .ref mh), (1, .int (nI sg)), (2, .int (nI i))] → va_P D cl_all (ws_Mo K mh m1 m2 m3 m4 m5 m6 m7 m8 m9 n xk xa xb xc xe xl xs xg xr xd xt xf xw xp xq xv xo) H → va_D A (ws_Mo K mh m1 m2 m3 m4 m5 m6 m7 m8 m9 n xk xa xb xc xe xl xs xg xr xd xt xf xw xp xq xv xo) → va_S A s.heap H locs → W p l e R s m av below meth c H locs 0 0 Q (F0 m 74 ls [])) → W p l e R s m av below meth c H locs 0 0 Q (F0 m 18 ls []) := by
        intro k18
        induction k18 with
        | zero =>
          intro j18 v6L18 ls H locs rs18 hjk18 hM hl hP hD hS kap18
          have hj0 : j18 = 6 := by omega
          subst j18
          rw [mm_Mo_value_L18] at hM
          refine lv_iload hx hb dd_Mo_value_18 (lv_at hl 0 rfl) ?_
          refine lv_bipush (v := (6 : Int32)) hx hb dd_Mo_value_20 (by decide) ?_
          refine lv_icmp_ge (tgt := 74) hx hb dd_Mo_value_22 (by decide) (fun _ => ?_) (fun h => absurd (nI_le (a := 6) (b := 6) (by omega) (by omega)) h)
          exact kap18 v6L18 ls H locs hM (lv_sub hl [1, 2, 3, 4, 5, 6] rfl) hP hD hS
        | succ k18 ih18 =>
          intro j18 v6L18 ls H locs rs18 hjk18 hM hl hP hD hS kap18
          rw [mm_Mo_value_L18] at hM
          refine lv_iload hx hb dd_Mo_value_18 (lv_at hl 0 rfl) ?_
          refine lv_bipush (v := (6 : Int32)) hx hb dd_Mo_value_20 (by decide) ?_
          refine lv_icmp_ge (tgt := 74) hx hb dd_Mo_value_22 (by decide) (fun h => absurd h (nI_ge (a := j18) (b := 6) (by omega) (by omega))) (fun _ => ?_)
          refine lv_aload_n hx hb dd_Mo_value_25 rfl (lv_at hl 4 rfl) ?_
          refine lv_aload_n hx hb dd_Mo_value_26 rfl (lv_at hl 4 rfl) ?_
          refine ly_get (v := .ref m2) C hP 0 rfl uw_Mo rfl 3 (by decide) wa_254 rfl dd_Mo_value_27 ?_
          refine lv_bipush (v := (6 : Int32)) hx hb dd_Mo_value_30 (by decide) ?_
          refine lv_iload_n hx hb dd_Mo_value_32 rfl (lv_at hl 5 rfl) ?_
          refine ly_imulN C 6 sg rfl rfl dd_Mo_value_33 ?_
          refine lv_iload hx hb dd_Mo_value_34 (lv_at hl 0 rfl) ?_
          refine ly_iaddN C (6 * sg) j18 rfl rfl dd_Mo_value_36 ?_
          refine ly_lald C hP 2 rfl ((6 * sg) + j18) rfl (by omega) (by omega) dd_Mo_value_37 ?_
          refine lv_iload hx hb dd_Mo_value_38 (lv_at hl 2 rfl) ?_
          obtain ⟨r_40, hq40⟩ : ∃ z, z = mm_Mo_byteOf (xd ((6 * sg) + j18)) j := ⟨_, rfl⟩
          try rw [← hq40] at hM
          refine ly_cV_i (n := 2) (z := r_40) (rest := []) (wn := (ws_Mo K mh m1 m2 m3 m4 m5 m6 m7 m8 m9 n xk xa xb xc xe xl xs xg xr xd xt xf xw xp xq xv xo)) C (cc_Mo_byteOf D K mh m1 m2 m3 m4 m5 m6 m7 m8 m9 (xd ((6 * sg) + j18)) j n xk xa xb xc xe xl xs xg xr xd xt xf xw xp xq xv xo (by omega) (by omega) (by omega)) hq40 wa_277 wa_280 wa_265 wa_281 wa_282 (by decide) (Nat.le_trans (by decide) hRf) (Nat.le_trans (by decide) hRl) rfl hl.1 rfl (Nat.le_of_ble_eq_true rfl) dd_Mo_value_40 hcs [0, 1, 2, 3, 4, 5, 6, 7, 8, 9] [] [0, 1, 2, 3, 4, 5, 6, 7, 8, 9] hP hD hS rfl rfl (by decide) rfl rfl rfl (fun H locs hP hD hS => ?_)
          refine W.eq (g2 := F0 m 43 ls [.int r_40]) rfl ?_
          refine lv_istore (lv' := [(8, .int r_40), (7, .int (nI j18)), (6, .int v6L18), (5, .int (nI j)), (3, .long v3), (0, .ref mh), (1, .int (nI sg)), (2, .int (nI i))]) hx hb dd_Mo_value_43 hl (by decide) rfl (fun ls hl => ?_)
          refine lv_iload hx hb dd_Mo_value_45 (lv_at hl 2 rfl) ?_
          refine lv_aload_n hx hb dd_Mo_value_47 rfl (lv_at hl 5 rfl) ?_
          refine lv_aload_n hx hb dd_Mo_value_48 rfl (lv_at hl 5 rfl) ?_
          refine ly_get (v := .ref m1) C hP 0 rfl uw_Mo rfl 2 (by decide) wa_253 rfl dd_Mo_value_49 ?_
          refine lv_bipush (v := (6 : Int32)) hx hb dd_Mo_value_52 (by decide) ?_
          refine lv_iload_n hx hb dd_Mo_value_54 rfl (lv_at hl 7 rfl) ?_
          refine ly_imulN C 6 i rfl rfl dd_Mo_value_55 ?_
          refine lv_iload hx hb dd_Mo_value_56 (lv_at hl 1 rfl) ?_
          refine ly_iaddN C (6 * i) j18 rfl rfl dd_Mo_value_58 ?_
          refine ly_iald C hP 1 rfl ((6 * i) + j18) rfl (by omega) (by omega) dd_Mo_value_59 ?_
          refine lv_iload hx hb dd_Mo_value_60 (lv_at hl 0 rfl) ?_
          obtain ⟨r_62, hq62⟩ : ∃ z, z = mm_Mo_product (xr ((6 * i) + j18)) r_40 := ⟨_, rfl⟩
          try rw [← hq62] at hM
          refine ly_cV_i (n := 2) (z := r_62) (rest := [.int v6L18]) (wn := (ws_Mo K mh m1 m2 m3 m4 m5 m6 m7 m8 m9 n xk xa xb xc xe xl xs xg xr xd xt xf xw xp xq xv xo)) C (cc_Mo_product D K mh m1 m2 m3 m4 m5 m6 m7 m8 m9 (xr ((6 * i) + j18)) r_40 n xk xa xb xc xe xl xs xg xr xd xt xf xw xp xq xv xo (by omega) (by omega)) hq62 wa_268 wa_270 wa_265 wa_271 wa_272 (by decide) (Nat.le_trans (by decide) hRf) (Nat.le_trans (by decide) hRl) rfl hl.1 rfl (Nat.le_of_ble_eq_true rfl) dd_Mo_value_62 hcs [0, 1, 2, 3, 4, 5, 6, 7, 8, 9] [] [0, 1, 2, 3, 4, 5, 6, 7, 8, 9] hP hD hS rfl rfl (by decide) rfl rfl rfl (fun H locs hP hD hS => ?_)
          refine W.eq (g2 := F0 m 65 ls [.int r_62, .int v6L18]) rfl ?_
          refine lv_ixor hx hb dd_Mo_value_65 ?_
          refine lv_istore (lv' := [(6, .int (v6L18 ^^^ r_62)), (8, .int r_40), (7, .int (nI j18)), (5, .int (nI j)), (3, .long v3), (0, .ref mh), (1, .int (nI sg)), (2, .int (nI i))]) hx hb dd_Mo_value_66 hl (by decide) rfl (fun ls hl => ?_)
          refine lv_iinc (k := 2) (v := (nI (j18 + 1))) (lv' := [(7, .int (nI (j18 + 1))), (6, .int (v6L18 ^^^ r_62)), (8, .int r_40), (5, .int (nI j)), (3, .long v3), (0, .ref mh), (1, .int (nI sg)), (2, .int (nI i))]) hx hb dd_Mo_value_68 hl rfl (ly_incN _) (by decide) rfl (fun ls hl => ?_)
          refine lv_goto (tgt := 18) hx hb dd_Mo_value_71 (by decide) ?_
          exact ih18 (j18 + 1) (v6L18 ^^^ r_62) ls H locs rs18 (by omega) hM (lv_sub hl [0, 1, 3, 4, 5, 6, 7] rfl) hP hD hS kap18
      refine lp18 6 0 (0 : Int32) ls H locs _ (by omega) rfl (lv_sub hl [0, 1, 2, 3, 4, 5, 6] rfl) hP hD hS (fun v6_18 ls H locs hqL18 hl hP hD hS => ?_)
      try rw [← hqL18] at hM
      refine lv_lload_n hx hb dd_Mo_value_74 rfl (lv_at hl 2 rfl) ?_
      refine lv_iload hx hb dd_Mo_value_75 (lv_at hl 0 rfl) ?_
      refine lv_i2l (v := v6_18.toInt64) hx hb dd_Mo_value_77 rfl ?_
      refine lv_bipush (v := (8 : Int32)) hx hb dd_Mo_value_78 (by decide) ?_
      refine lv_iload hx hb dd_Mo_value_80 (lv_at hl 1 rfl) ?_
      refine ly_imulN C 8 j rfl rfl dd_Mo_value_82 ?_
      refine lv_lshl (v := (v6_18.toInt64 <<< ((nI (8 * j)).toInt64 &&& 63))) hx hb dd_Mo_value_83 rfl ?_
      refine lv_lor hx hb dd_Mo_value_84 ?_
      refine lv_lstore_n (lv' := [(3, .long (v3 ||| (v6_18.toInt64 <<< ((nI (8 * j)).toInt64 &&& 63)))), (6, .int v6_18), (5, .int (nI j)), (0, .ref mh), (1, .int (nI sg)), (2, .int (nI i))]) hx hb dd_Mo_value_85 rfl hl (by decide) rfl (fun ls hl => ?_)
      refine lv_iinc (k := 2) (v := (nI (j + 1))) (lv' := [(5, .int (nI (j + 1))), (3, .long (v3 ||| (v6_18.toInt64 <<< ((nI (8 * j)).toInt64 &&& 63)))), (6, .int v6_18), (0, .ref mh), (1, .int (nI sg)), (2, .int (nI i))]) hx hb dd_Mo_value_86 hl rfl (ly_incN _) (by decide) rfl (fun ls hl => ?_)
      refine lv_goto (tgt := 5) hx hb dd_Mo_value_89 (by decide) ?_
      exact ih5 (j + 1) (v3 ||| (v6_18.toInt64 <<< ((nI (8 * j)).toInt64 &&& 63))) ls H locs (by omega) hM (lv_sub hl [0, 1, 3, 4, 5] rfl) hP hD hS
  exact lp5 8 0 (0 : Int64) ls H locs (by omega) hM (lv_sub hl [0, 1, 2, 3, 4] rfl) hP hD hS

def mm_Mo_noStripe (x : Int32) : Int32 := (if x < (0 : Int32) then (1 : Int32) else (if x ≤ (2 : Int32) then (0 : Int32) else (1 : Int32)))
set_option maxHeartbeats 4000000 in
set_option maxRecDepth 100000 in
theorem cc_Mo_noStripe {l : Launch} (D : va_G) (K : Nat → ClassId) (mh m1 m2 m3 m4 m5 m6 m7 m8 m9 : Nat) (x : Int32) (n : Nat) (xk : Int32) (xa : Int32) (xb : Int32) (xc : Int32) (xe : Int32) (xl : Int64) (xs : Nat) (xg : Nat) (xr : Nat → Int32) (xd : Nat → Int64) (xt : Nat → Int32) (xf : Nat → Int64) (xw : Nat → Int32) (xp : Nat → Nat) (xq : Nat → Int32) (xv : Nat → Nat) (xo : Nat → Int32) (hn : n ≤ 11) (hn6 : 6 ≤ n) : ly_i l yy_Mo_noStripe bb_Mo_noStripe 2 (some .boolean) 0 0 D K [.ref mh, .int x] (ws_Mo K mh m1 m2 m3 m4 m5 m6 m7 m8 m9 n xk xa xb xc xe xl xs xg xr xd xt xf xw xp xq xv xo) (fun z => z) (fun _ => (ws_Mo K mh m1 m2 m3 m4 m5 m6 m7 m8 m9 n xk xa xb xc xe xl xs xg xr xd xt xf xw xp xq xv xo)) (mm_Mo_noStripe x) := by
  refine ly_entI (by decide) (Nat.le_of_ble_eq_true rfl) ?_
  intro p e s m av below meth c A ls R Q H locs res hM C hRf hRl hS hP hD hl ret
  obtain ⟨hx, hb, -⟩ := id C
  have hcs : 0 ≤ R.cells ∧ 0 ≤ R.slots := ⟨Nat.zero_le _, Nat.zero_le _⟩
  have hl : lv_has ls 2 [(0, .ref mh), (1, .int x)] := hl
  rw [mm_Mo_noStripe] at hM
  refine lv_iload_n hx hb dd_Mo_noStripe_0 rfl (lv_at hl 1 rfl) ?_
  refine lv_if_lt (tgt := 9) hx hb dd_Mo_noStripe_1 (by decide) (fun h1 => ?_) (fun h1 => ?_)
  · rw [if_pos h1] at hM
    refine lv_iconst (v := (1 : Int32)) hx hb dd_Mo_noStripe_9 (by decide) ?_
    refine lv_goto (tgt := 14) hx hb dd_Mo_noStripe_10 (by decide) ?_
    exact ret (1 : Int32) H locs 14 ls hM ly_z1 hS hP hD dd_Mo_noStripe_14
  · rw [if_neg h1] at hM
    refine lv_iload_n hx hb dd_Mo_noStripe_4 rfl (lv_at hl 1 rfl) ?_
    refine lv_iconst (v := (2 : Int32)) hx hb dd_Mo_noStripe_5 (by decide) ?_
    refine lv_icmp_le (tgt := 13) hx hb dd_Mo_noStripe_6 (by decide) (fun h6 => ?_) (fun h6 => ?_)
    · rw [if_pos h6] at hM
      refine lv_iconst (v := (0 : Int32)) hx hb dd_Mo_noStripe_13 (by decide) ?_
      exact ret (0 : Int32) H locs 14 ls hM ly_z0 hS hP hD dd_Mo_noStripe_14
    · rw [if_neg h6] at hM
      refine lv_iconst (v := (1 : Int32)) hx hb dd_Mo_noStripe_9 (by decide) ?_
      refine lv_goto (tgt := 14) hx hb dd_Mo_noStripe_10 (by decide) ?_
      exact ret (1 : Int32) H locs 14 ls hM ly_z1 hS hP hD dd_Mo_noStripe_14

def mm_Mo_noShard (x : Int32) (y : Int32) (n : Nat) : Int32 := (if (mm_Mo_noStripe x) = (0 : Int32) then (if y < (0 : Int32) then (1 : Int32) else (if y < (nI n) then (0 : Int32) else (1 : Int32))) else (1 : Int32))
set_option maxHeartbeats 4000000 in
set_option maxRecDepth 100000 in
theorem cc_Mo_noShard {l : Launch} (D : va_G) (K : Nat → ClassId) (mh m1 m2 m3 m4 m5 m6 m7 m8 m9 : Nat) (x : Int32) (y : Int32) (n : Nat) (xk : Int32) (xa : Int32) (xb : Int32) (xc : Int32) (xe : Int32) (xl : Int64) (xs : Nat) (xg : Nat) (xr : Nat → Int32) (xd : Nat → Int64) (xt : Nat → Int32) (xf : Nat → Int64) (xw : Nat → Int32) (xp : Nat → Nat) (xq : Nat → Int32) (xv : Nat → Nat) (xo : Nat → Int32) (hn : n ≤ 11) (hn6 : 6 ≤ n) : ly_i l yy_Mo_noShard bb_Mo_noShard 3 (some .boolean) 1 21 D K [.ref mh, .int x, .int y] (ws_Mo K mh m1 m2 m3 m4 m5 m6 m7 m8 m9 n xk xa xb xc xe xl xs xg xr xd xt xf xw xp xq xv xo) (fun z => z) (fun _ => (ws_Mo K mh m1 m2 m3 m4 m5 m6 m7 m8 m9 n xk xa xb xc xe xl xs xg xr xd xt xf xw xp xq xv xo)) (mm_Mo_noShard x y n) := by
  refine ly_entI (by decide) (Nat.le_of_ble_eq_true rfl) ?_
  intro p e s m av below meth c A ls R Q H locs res hM C hRf hRl hS hP hD hl ret
  obtain ⟨hx, hb, -⟩ := id C
  have hcs : 0 ≤ R.cells ∧ 0 ≤ R.slots := ⟨Nat.zero_le _, Nat.zero_le _⟩
  have hl : lv_has ls 3 [(0, .ref mh), (1, .int x), (2, .int y)] := hl
  rw [mm_Mo_noShard] at hM
  refine lv_aload_n hx hb dd_Mo_noShard_0 rfl (lv_at hl 0 rfl) ?_
  refine lv_iload_n hx hb dd_Mo_noShard_1 rfl (lv_at hl 1 rfl) ?_
  obtain ⟨r_2, hq2⟩ : ∃ z, z = mm_Mo_noStripe x := ⟨_, rfl⟩
  try rw [← hq2] at hM
  refine ly_cV_i (n := 1) (z := r_2) (rest := []) (wn := (ws_Mo K mh m1 m2 m3 m4 m5 m6 m7 m8 m9 n xk xa xb xc xe xl xs xg xr xd xt xf xw xp xq xv xo)) C (cc_Mo_noStripe D K mh m1 m2 m3 m4 m5 m6 m7 m8 m9 x n xk xa xb xc xe xl xs xg xr xd xt xf xw xp xq xv xo (by omega) (by omega)) hq2 wa_283 wa_285 wa_265 wa_286 wa_287 (by decide) (Nat.le_trans (by decide) hRf) (Nat.le_trans (by decide) hRl) rfl hl.1 rfl (Nat.le_of_ble_eq_true rfl) dd_Mo_noShard_2 hcs [0, 1, 2, 3, 4, 5, 6, 7, 8, 9] [] [0, 1, 2, 3, 4, 5, 6, 7, 8, 9] hP hD hS rfl rfl (by decide) rfl rfl rfl (fun H locs hP hD hS => ?_)
  refine W.eq (g2 := F0 m 5 ls [.int r_2]) rfl ?_
  refine lv_if_ne (tgt := 20) hx hb dd_Mo_noShard_5 (by decide) (fun h5 => ?_) (fun h5 => ?_)
  · rw [if_neg h5] at hM
    refine lv_iconst (v := (1 : Int32)) hx hb dd_Mo_noShard_20 (by decide) ?_
    refine lv_goto (tgt := 25) hx hb dd_Mo_noShard_21 (by decide) ?_
    exact ret (1 : Int32) H locs 25 ls hM ly_z1 hS hP hD dd_Mo_noShard_25
  · rw [if_pos h5] at hM
    refine lv_iload_n hx hb dd_Mo_noShard_8 rfl (lv_at hl 2 rfl) ?_
    refine lv_if_lt (tgt := 20) hx hb dd_Mo_noShard_9 (by decide) (fun h9 => ?_) (fun h9 => ?_)
    · rw [if_pos h9] at hM
      refine lv_iconst (v := (1 : Int32)) hx hb dd_Mo_noShard_20 (by decide) ?_
      refine lv_goto (tgt := 25) hx hb dd_Mo_noShard_21 (by decide) ?_
      exact ret (1 : Int32) H locs 25 ls hM ly_z1 hS hP hD dd_Mo_noShard_25
    · rw [if_neg h9] at hM
      refine lv_iload_n hx hb dd_Mo_noShard_12 rfl (lv_at hl 2 rfl) ?_
      refine lv_aload_n hx hb dd_Mo_noShard_13 rfl (lv_at hl 0 rfl) ?_
      refine ly_get (v := .int (nI n)) C hP 0 rfl uw_Mo rfl 1 (by decide) wa_263 rfl dd_Mo_noShard_14 ?_
      refine lv_icmp_lt (tgt := 24) hx hb dd_Mo_noShard_17 (by decide) (fun h17 => ?_) (fun h17 => ?_)
      · rw [if_pos h17] at hM
        refine lv_iconst (v := (0 : Int32)) hx hb dd_Mo_noShard_24 (by decide) ?_
        exact ret (0 : Int32) H locs 25 ls hM ly_z0 hS hP hD dd_Mo_noShard_25
      · rw [if_neg h17] at hM
        refine lv_iconst (v := (1 : Int32)) hx hb dd_Mo_noShard_20 (by decide) ?_
        refine lv_goto (tgt := 25) hx hb dd_Mo_noShard_21 (by decide) ?_
        exact ret (1 : Int32) H locs 25 ls hM ly_z1 hS hP hD dd_Mo_noShard_25
theorem ly_rng3 {y : Int32} {N M : Nat} (h0 : ¬ y < 0) (h1 : y ≤ nI M) (hN : M + 1 = N ∧ N < 2 ^ 31) : ∃ i, i < N ∧ y = nI i := by
  obtain ⟨j, hj, rfl⟩ := nI_of h0
  have := (nI_leI hj (by omega)).mp h1
  exact ⟨j, by omega, rfl⟩
theorem ly_rng4 {y : Int32} {N M : Nat} (h0 : ¬ y < 0) (h1 : ¬ nI M < y) (hN : M + 1 = N ∧ N < 2 ^ 31) : ∃ i, i < N ∧ y = nI i := by
  obtain ⟨j, hj, rfl⟩ := nI_of h0
  have : ¬ M < j := fun h => h1 ((nI_ltI (by omega) hj).mpr h)
  exact ⟨j, by omega, rfl⟩
theorem in_noStripe {x r : Int32} (hq : r = mm_Mo_noStripe x) (h : r = 0) : ∃ j, j < 3 ∧ x = nI j := by
  subst hq
  unfold mm_Mo_noStripe at h
  by_cases h0 : x < 0
  · rw [if_pos h0] at h; exact absurd h (by decide)
  · rw [if_neg h0] at h
    by_cases h1 : x ≤ (2 : Int32)
    · exact ly_rng3 (N := 3) (M := 2) h0 h1 (by decide)
    · rw [if_neg h1] at h; exact absurd h (by decide)
theorem in_noShard {x y r : Int32} {n : Nat} (hn : n ≤ 11) (hq : r = mm_Mo_noShard x y n) (h : r = 0) : ∃ j, j < 3 ∧ x = nI j ∧ ∃ i, i < n ∧ y = nI i := by
  subst hq
  unfold mm_Mo_noShard at h
  by_cases h9 : mm_Mo_noStripe x = 0
  · rw [if_pos h9] at h
    obtain ⟨j, hj, hx⟩ := in_noStripe rfl h9
    refine ⟨j, hj, hx, ?_⟩
    by_cases h0 : y < 0
    · rw [if_pos h0] at h; exact absurd h (by decide)
    · rw [if_neg h0] at h
      by_cases h1 : y < nI n
      · exact ly_rng h0 h1 (by omega)
      · rw [if_neg h1] at h; exact absurd h (by decide)
  · rw [if_neg h9] at h; exact absurd h (by decide)
theorem sw_out4 {x : Int32} (h0 : ¬ x = 0) (h1 : ¬ x = 1) (h2 : ¬ x = 2) (h3 : ¬ x = 3) : x.toInt < 0 ∨ 3 < x.toInt := by
  rcases (by omega : (x.toInt < 0 ∨ 3 < x.toInt) ∨ x.toInt = 0 ∨ x.toInt = 1 ∨ x.toInt = 2 ∨ x.toInt = 3) with h | h | h | h | h
  · exact h
  · exact absurd (Int32.toInt_inj.mp (h.trans (by decide : (0 : Int) = (0 : Int32).toInt))) h0
  · exact absurd (Int32.toInt_inj.mp (h.trans (by decide : (1 : Int) = (1 : Int32).toInt))) h1
  · exact absurd (Int32.toInt_inj.mp (h.trans (by decide : (2 : Int) = (2 : Int32).toInt))) h2
  · exact absurd (Int32.toInt_inj.mp (h.trans (by decide : (3 : Int) = (3 : Int32).toInt))) h3
