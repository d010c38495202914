def mm_Mo_adds_L2 (i : Nat) (xr : Nat → Int32) : Nat → Nat → (Nat → Int32) → (Nat → Int32)
  | 0, j2, xoL2 => xoL2
  | k2 + 1, j2, xoL2 => (mm_Mo_adds_L2 i xr k2 (j2 + 1) (upd xoL2 j2 (xr ((6 * i) + j2))))
def mm_Mo_adds_L56 (xq : Nat → Int32) (xv : Nat → Nat) (xoL33 : Nat → Int32) (j33 : Nat) : Nat → Nat → (Nat → Int32) → (Nat → Int32)
  | 0, j56, xoL56 => xoL56
  | k56 + 1, j56, xoL56 => (mm_Mo_adds_L56 xq xv xoL33 j33 k56 (j56 + 1) (upd xoL56 j56 ((xoL56 j56) ^^^ (mm_Mo_product (xoL33 (xv j33 % 6)) (xq ((6 * j33) + j56))))))
def mm_Mo_adds_L33 (xq : Nat → Int32) (xv : Nat → Nat) : Nat → Nat → (Nat → Int32) → (Nat → Int32)
  | 0, j33, xoL33 => xoL33
  | k33 + 1, j33, xoL33 => (mm_Mo_adds_L33 xq xv k33 (j33 + 1) (mm_Mo_adds_L56 xq xv xoL33 j33 6 0 xoL33))
def mm_Mo_adds_L111 (xo_33 : Nat → Int32) : Nat → (Int32) → (Int32)
  | 0, v2L111 => v2L111
  | k111 + 1, v2L111 => (if (xo_33 k111) = (0 : Int32) then (mm_Mo_adds_L111 xo_33 k111 v2L111) else (mm_Mo_adds_L111 xo_33 k111 (nI k111)))
def mm_Mo_adds_L156 (xg : Nat) (xo_33 : Nat → Int32) (r_149 : Int32) : Nat → Nat → (Nat → Int32) → (Nat → Int32)
  | 0, j156, xqL156 => xqL156
  | k156 + 1, j156, xqL156 => (mm_Mo_adds_L156 xg xo_33 r_149 k156 (j156 + 1) (upd xqL156 ((6 * xg) + j156) (mm_Mo_product (xo_33 j156) r_149)))
def mm_Mo_adds (i : Nat) (xg : Nat) (xr : Nat → Int32) (xq : Nat → Int32) (xv : Nat → Nat) (xo : Nat → Int32) : Int32 × (Nat) × (Nat → Int32) × (Nat → Nat) × (Nat → Int32) := (if (0 : Int32) ≤ (mm_Mo_adds_L111 (mm_Mo_adds_L33 xq xv xg 0 (mm_Mo_adds_L2 i xr 6 0 xo)) 6 (-1 : Int32)) then ((1 : Int32), (xg + 1), (mm_Mo_adds_L156 xg (mm_Mo_adds_L33 xq xv xg 0 (mm_Mo_adds_L2 i xr 6 0 xo)) (mm_Mo_inverse ((mm_Mo_adds_L33 xq xv xg 0 (mm_Mo_adds_L2 i xr 6 0 xo)) ((mm_Mo_adds_L111 (mm_Mo_adds_L33 xq xv xg 0 (mm_Mo_adds_L2 i xr 6 0 xo)) 6 (-1 : Int32)).toNatClampNeg))) 6 0 xq), (va_up xv xg ((mm_Mo_adds_L111 (mm_Mo_adds_L33 xq xv xg 0 (mm_Mo_adds_L2 i xr 6 0 xo)) 6 (-1 : Int32)).toNatClampNeg)), (mm_Mo_adds_L33 xq xv xg 0 (mm_Mo_adds_L2 i xr 6 0 xo))) else ((0 : Int32), xg, xq, xv, (mm_Mo_adds_L33 xq xv xg 0 (mm_Mo_adds_L2 i xr 6 0 xo))))
theorem in_adds_L111 {xo : Nat → Int32} : ∀ (k : Nat) (v : Int32), k ≤ 6 → v = -1 ∨ (∃ a, a < 6 ∧ v = nI a) → mm_Mo_adds_L111 xo k v = -1 ∨ ∃ a, a < 6 ∧ mm_Mo_adds_L111 xo k v = nI a
  | 0, v, _, hv => by rw [mm_Mo_adds_L111]; exact hv
  | k + 1, v, hk, hv => by
    rw [mm_Mo_adds_L111]
    split
    · exact in_adds_L111 k v (by omega) hv
    · exact in_adds_L111 k (nI k) (by omega) (Or.inr ⟨k, by omega, rfl⟩)
theorem in_adds {xo : Nat → Int32} {r : Int32} (hq : r = mm_Mo_adds_L111 xo 6 (-1)) (h : 0 ≤ r) : ∃ a, a < 6 ∧ r = nI a := by
  rcases in_adds_L111 (xo := xo) 6 (-1) (Nat.le_refl _) (Or.inl rfl) with h1 | h1
  · rw [hq, h1] at h; exact absurd h (by decide)
  · rw [hq]; exact h1
set_option maxHeartbeats 4000000 in
set_option maxRecDepth 100000 in
theorem cc_Mo_adds {l : Launch} (D : va_G) (K : Nat → ClassId) (mh m1 m2 m3 m4 m5 m6 m7 m8 m9 : Nat) (i : Nat) (n : Nat) (xk : Int32) (xa : Int32) (xb : Int32) (xc : Int32) (xe : Int32) (xl : Int64) (xs : Nat) (xg : Nat) (xr : Nat → Int32) (xd : Nat → Int64) (xt : Nat → Int32) (xf : Nat → Int64) (xw : Nat → Int32) (xp : Nat → Nat) (xq : Nat → Int32) (xv : Nat → Nat) (xo : Nat → Int32) (hi : i < n) (hn : n ≤ 11) (hn6 : 6 ≤ n) (hg : xg < 6) : ly_i l yy_Mo_adds bb_Mo_adds 5 (some .boolean) 2 47 D K [.ref mh, .int (nI i)] (ws_Mo K mh m1 m2 m3 m4 m5 m6 m7 m8 m9 n xk xa xb xc xe xl xs xg xr xd xt xf xw xp xq xv xo) (fun z => z.1) (fun z => (ws_Mo K mh m1 m2 m3 m4 m5 m6 m7 m8 m9 n xk xa xb xc xe xl xs (z.2.1) xr xd xt xf xw xp (z.2.2.1) (z.2.2.2.1) (z.2.2.2.2))) (mm_Mo_adds i xg xr xq xv xo) := by
  refine ly_entI (by decide) (Nat.le_of_ble_eq_true rfl) ?_
  intro p e s m av below meth c A ls R Q H locs res hM C hRf hRl hS hP hD hl ret
  obtain ⟨hx, hb, -⟩ := id C
  have hcs : 0 ≤ R.cells ∧ 0 ≤ R.slots := ⟨Nat.zero_le _, Nat.zero_le _⟩
  have hl : lv_has ls 5 [(0, .ref mh), (1, .int (nI i))] := hl
  rw [mm_Mo_adds] at hM
  refine lv_iconst (v := (0 : Int32)) hx hb dd_Mo_adds_0 (by decide) ?_
  refine lv_istore_n (lv' := [(2, .int (0 : Int32)), (0, .ref mh), (1, .int (nI i))]) hx hb dd_Mo_adds_1 rfl hl (by decide) rfl (fun ls hl => ?_)
  have lp2 : ∀ (k2 : Nat) (j2 : Nat) (xoL2 : Nat → Int32) (ls : Array Slot) (H : Heap) (locs : List Loc) (rs2 : (Nat → Int32)), j2 + k2 = 6 → mm_Mo_adds_L2 i xr k2 j2 xoL2 = rs2 → lv_has ls 5 [(2, .int (nI j2)), (0, .ref mh), (1, .int (nI i))] → va_P D cl_all (ws_Mo K mh m1 m2 m3 m4 m5 m6 m7 m8 m9 n xk xa xb xc xe xl xs xg xr xd xt xf xw xp xq xv xoL2) H → va_D A (ws_Mo K mh m1 m2 m3 m4 m5 m6 m7 m8 m9 n xk xa xb xc xe xl xs xg xr xd xt xf xw xp xq xv xoL2) → va_S A s.heap H locs → (∀ (xoL2 : Nat → Int32) (ls : Array Slot) (H : Heap) (locs : List Loc), xoL2 = rs2 → lv_has ls 5 [(0, .ref mh), (1, .int (nI i))] → va_P D cl_all (ws_Mo K mh m1 m2 m3 m4 m5 m6 m7 m8 m9 n xk xa xb xc xe xl xs xg xr xd xt xf xw xp xq xv xoL2) H → va_D A (ws_Mo K mh m1 m2 m3 m4 m5 m6 m7 m8 m9 n xk xa xb xc xe xl xs xg xr xd xt xf xw xp xq xv xoL2) → va_S A s.heap H locs → W p l e R s m av below meth c H locs 0 0 Q (F0 m 31 ls [])) → W p l e R s m av below meth c H locs 0 0 Q (F0 m 2 ls []) := by
    intro k2
    induction k2 with
    | zero =>
      intro j2 xoL2 ls H locs rs2 hjk2 hM hl hP hD hS kap2
      have hj0 : j2 = 6 := by omega
      subst j2
      rw [mm_Mo_adds_L2] at hM
      refine lv_iload_n hx hb dd_Mo_adds_2 rfl (lv_at hl 0 rfl) ?_
      refine lv_bipush (v := (6 : Int32)) hx hb dd_Mo_adds_3 (by decide) ?_
      refine lv_icmp_ge (tgt := 31) hx hb dd_Mo_adds_5 (by decide) (fun _ => ?_) (fun h => absurd (nI_le (a := 6) (b := 6) (by omega) (by omega)) h)
      exact kap2 xoL2 ls H locs hM (lv_sub hl [1, 2] rfl) hP hD hS
    | succ k2 ih2 =>
      intro j2 xoL2 ls H locs rs2 hjk2 hM hl hP hD hS kap2
      rw [mm_Mo_adds_L2] at hM
      refine lv_iload_n hx hb dd_Mo_adds_2 rfl (lv_at hl 0 rfl) ?_
      refine lv_bipush (v := (6 : Int32)) hx hb dd_Mo_adds_3 (by decide) ?_
      refine lv_icmp_ge (tgt := 31) hx hb dd_Mo_adds_5 (by decide) (fun h => absurd h (nI_ge (a := j2) (b := 6) (by omega) (by omega))) (fun _ => ?_)
      refine lv_aload_n hx hb dd_Mo_adds_8 rfl (lv_at hl 1 rfl) ?_
      refine ly_get (v := .ref m9) C hP 0 rfl uw_Mo rfl 17 (by decide) wa_261 rfl dd_Mo_adds_9 ?_
      refine lv_iload_n hx hb dd_Mo_adds_12 rfl (lv_at hl 0 rfl) ?_
      refine lv_aload_n hx hb dd_Mo_adds_13 rfl (lv_at hl 1 rfl) ?_
      refine ly_get (v := .ref m1) C hP 0 rfl uw_Mo rfl 2 (by decide) wa_253 rfl dd_Mo_adds_14 ?_
      refine lv_bipush (v := (6 : Int32)) hx hb dd_Mo_adds_17 (by decide) ?_
      refine lv_iload_n hx hb dd_Mo_adds_19 rfl (lv_at hl 2 rfl) ?_
      refine ly_imulN C 6 i rfl rfl dd_Mo_adds_20 ?_
      refine lv_iload_n hx hb dd_Mo_adds_21 rfl (lv_at hl 0 rfl) ?_
      refine ly_iaddN C (6 * i) j2 rfl rfl dd_Mo_adds_22 ?_
      refine ly_iald C hP 1 rfl ((6 * i) + j2) rfl (by omega) (by omega) dd_Mo_adds_23 ?_
      refine ly_iast (ws' := (ws_Mo K mh m1 m2 m3 m4 m5 m6 m7 m8 m9 n xk xa xb xc xe xl xs xg xr xd xt xf xw xp xq xv (upd xoL2 j2 (xr ((6 * i) + j2))))) C hP hD hS 9 rfl j2 rfl (by omega) (by omega) dd_Mo_adds_24 rfl (fun H locs hP hD hS => ?_)
      refine lv_iinc (k := 0) (v := (nI (j2 + 1))) (lv' := [(2, .int (nI (j2 + 1))), (0, .ref mh), (1, .int (nI i))]) hx hb dd_Mo_adds_25 hl rfl (ly_incN _) (by decide) rfl (fun ls hl => ?_)
      refine lv_goto (tgt := 2) hx hb dd_Mo_adds_28 (by decide) ?_
      exact ih2 (j2 + 1) (upd xoL2 j2 (xr ((6 * i) + j2))) ls H locs rs2 (by omega) hM (lv_sub hl [0, 1, 2] rfl) hP hD hS kap2
  refine lp2 6 0 xo ls H locs _ (by omega) rfl (lv_sub hl [0, 1, 2] rfl) hP hD hS (fun xo_2 ls H locs hqL2 hl hP hD hS => ?_)
  try rw [← hqL2] at hM
  refine lv_iconst (v := (0 : Int32)) hx hb dd_Mo_adds_31 (by decide) ?_
  refine lv_istore_n (lv' := [(2, .int (0 : Int32)), (0, .ref mh), (1, .int (nI i))]) hx hb dd_Mo_adds_32 rfl hl (by decide) rfl (fun ls hl => ?_)
  have lp33 : ∀ (k33 : Nat) (j33 : Nat) (xoL33 : Nat → Int32) (ls : Array Slot) (H : Heap) (locs : List Loc) (rs33 : (Nat → Int32)), j33 + k33 = xg → mm_Mo_adds_L33 xq xv k33 j33 xoL33 = rs33 → lv_has ls 5 [(2, .int (nI j33)), (0, .ref mh), (1, .int (nI i))] → va_P D cl_all (ws_Mo K mh m1 m2 m3 m4 m5 m6 m7 m8 m9 n xk xa xb xc xe xl xs xg xr xd xt xf xw xp xq xv xoL33) H → va_D A (ws_Mo K mh m1 m2 m3 m4 m5 m6 m7 m8 m9 n xk xa xb xc xe xl xs xg xr xd xt xf xw xp xq xv xoL33) → va_S A s.heap H locs → (∀ (xoL33 : Nat → Int32) (ls : Array Slot) (H : Heap) (locs : List Loc), xoL33 = rs33 → lv_has ls 5 [(0, .ref mh), (1, .int (nI i))] → va_P D cl_all (ws_Mo K mh m1 m2 m3 m4 m5 m6 m7 m8 m9 n xk xa xb xc xe xl xs xg xr xd xt xf xw xp xq xv xoL33) H → va_D A (ws_Mo K mh m1 m2 m3 m4 m5 m6 m7 m8 m9 n xk xa xb xc xe xl xs xg xr xd xt xf xw xp xq xv xoL33) → va_S A s.heap H locs → W p l e R s m av below meth c H locs 0 0 Q (F0 m 107 ls [])) → W p l e R s m av below meth c H locs 0 0 Q (F0 m 33 ls []) := by
    intro k33
    induction k33 with
    | zero =>
      intro j33 xoL33 ls H locs rs33 hjk33 hM hl hP hD hS kap33
      have hj0 : j33 = xg := by omega
      subst j33
      rw [mm_Mo_adds_L33] at hM
      refine lv_iload_n hx hb dd_Mo_adds_33 rfl (lv_at hl 0 rfl) ?_
      refine lv_aload_n hx hb dd_Mo_adds_34 rfl (lv_at hl 1 rfl) ?_
      refine ly_get (v := .int (nI xg)) C hP 0 rfl uw_Mo rfl 14 (by decide) wa_315 rfl dd_Mo_adds_35 ?_
      refine lv_icmp_ge (tgt := 107) hx hb dd_Mo_adds_38 (by decide) (fun _ => ?_) (fun h => absurd (nI_le (a := xg) (b := xg) (by omega) (by omega)) h)
      exact kap33 xoL33 ls H locs hM (lv_sub hl [1, 2] rfl) hP hD hS
    | succ k33 ih33 =>
      intro j33 xoL33 ls H locs rs33 hjk33 hM hl hP hD hS kap33
      rw [mm_Mo_adds_L33] at hM
      refine lv_iload_n hx hb dd_Mo_adds_33 rfl (lv_at hl 0 rfl) ?_
      refine lv_aload_n hx hb dd_Mo_adds_34 rfl (lv_at hl 1 rfl) ?_
      refine ly_get (v := .int (nI xg)) C hP 0 rfl uw_Mo rfl 14 (by decide) wa_315 rfl dd_Mo_adds_35 ?_
      refine lv_icmp_ge (tgt := 107) hx hb dd_Mo_adds_38 (by decide) (fun h => absurd h (nI_ge (a := j33) (b := xg) (by omega) (by omega))) (fun _ => ?_)
      refine lv_aload_n hx hb dd_Mo_adds_41 rfl (lv_at hl 1 rfl) ?_
      refine ly_get (v := .ref m9) C hP 0 rfl uw_Mo rfl 17 (by decide) wa_261 rfl dd_Mo_adds_42 ?_
      refine lv_aload_n hx hb dd_Mo_adds_45 rfl (lv_at hl 1 rfl) ?_
      refine ly_get (v := .ref m8) C hP 0 rfl uw_Mo rfl 16 (by decide) wa_260 rfl dd_Mo_adds_46 ?_
      refine lv_iload_n hx hb dd_Mo_adds_49 rfl (lv_at hl 0 rfl) ?_
      refine ly_nald C hP 8 rfl j33 rfl (by omega) (by omega) dd_Mo_adds_50 ?_
      refine ly_iald C hP 9 rfl (xv j33 % 6) rfl (by omega) (by omega) dd_Mo_adds_51 ?_
      refine lv_istore_n (lv' := [(3, .int (xoL33 (xv j33 % 6))), (2, .int (nI j33)), (0, .ref mh), (1, .int (nI i))]) hx hb dd_Mo_adds_52 rfl hl (by decide) rfl (fun ls hl => ?_)
      refine lv_iconst (v := (0 : Int32)) hx hb dd_Mo_adds_53 (by decide) ?_
      refine lv_istore (lv' := [(4, .int (0 : Int32)), (3, .int (xoL33 (xv j33 % 6))), (2, .int (nI j33)), (0, .ref mh), (1, .int (nI i))]) hx hb dd_Mo_adds_54 hl (by decide) rfl (fun ls hl => ?_)
      have lp56 : ∀ (k56 : Nat) (j56 : Nat) (xoL56 : Nat → Int32) (ls : Array Slot) (H : Heap) (locs : List Loc) (rs56 : (Nat → Int32)), j56 + k56 = 6 → mm_Mo_adds_L56 xq xv xoL33 j33 k56 j56 xoL56 = rs56 → lv_has ls 5 [(4, .int (nI j56)), (3, .int (xoL33 (xv j33 % 6))), (2, .int (nI j33)), (0, .ref mh), (1, .int (nI i))] → va_P D cl_all (ws_Mo K mh m1 m2 m3 m4 m5 m6 m7 m8 m9 n xk xa xb xc xe xl xs xg xr xd xt xf xw xp xq xv xoL56) H → va_D A (ws_Mo K mh m1 m2 m3 m4 m5 m6 m7 m8 m9 n xk xa xb xc xe xl xs xg xr xd xt xf xw xp xq xv xoL56) → va_S A s.heap H locs → (∀ (xoL56 : Nat → Int32) (ls : Array Slot) (H : Heap) (locs : List Loc), xoL56 = rs56 → lv_has ls 5 [(3, .int (xoL33 (xv j33 % 6))), (2, .int (nI j33)), (0, .ref mh), (1, .int (nI i))] → va_P D cl_all (ws_Mo K mh m1 m2 m3 m4 m5 m6 m7 m8 m9 n xk xa xb xc xe xl xs xg xr xd xt xf xw xp xq xv xoL56) H → va_D A (ws_Mo K mh m1 m2 m3 m4 m5 m6 m7 m8 m9 n xk xa xb xc xe xl xs xg xr xd xt xf xw xp xq xv xoL56) → va_S A s.heap H locs → W p l e R s m av below meth c H locs 0 0 Q (F0 m 101 ls [])) → W p l e R s m av below meth c H locs 0 0 Q (F0 m 56 ls []) := by
        intro k56
        induction k56 with
        | zero =>
          intro j56 xoL56 ls H locs rs56 hjk56 hM hl hP hD hS kap56
          have hj0 : j56 = 6 := by omega
          subst j56
          rw [mm_Mo_adds_L56] at hM
          refine lv_iload hx hb dd_Mo_adds_56 (lv_at hl 0 rfl) ?_
          refine lv_bipush (v := (6 : Int32)) hx hb dd_Mo_adds_58 (by decide) ?_
          refine lv_icmp_ge (tgt := 101) hx hb dd_Mo_adds_60 (by decide) (fun _ => ?_) (fun h => absurd (nI_le (a := 6) (b := 6) (by omega) (by omega)) h)
          exact kap56 xoL56 ls H locs hM (lv_sub hl [1, 2, 3, 4] rfl) hP hD hS
        | succ k56 ih56 =>
          intro j56 xoL56 ls H locs rs56 hjk56 hM hl hP hD hS kap56
          rw [mm_Mo_adds_L56] at hM
          refine lv_iload hx hb dd_Mo_adds_56 (lv_at hl 0 rfl) ?_
          refine lv_bipush (v := (6 : Int32)) hx hb dd_Mo_adds_58 (by decide) ?_
          refine lv_icmp_ge (tgt := 101) hx hb dd_Mo_adds_60 (by decide) (fun h => absurd h (nI_ge (a := j56) (b := 6) (by omega) (by omega))) (fun _ => ?_)
          refine lv_aload_n hx hb dd_Mo_adds_63 rfl (lv_at hl 3 rfl) ?_
          refine ly_get (v := .ref m9) C hP 0 rfl uw_Mo rfl 17 (by decide) wa_261 rfl dd_Mo_adds_64 ?_
          refine lv_iload hx hb dd_Mo_adds_67 (lv_at hl 0 rfl) ?_
          refine lv_aload_n hx hb dd_Mo_adds_69 rfl (lv_at hl 3 rfl) ?_
          refine ly_get (v := .ref m9) C hP 0 rfl uw_Mo rfl 17 (by decide) wa_261 rfl dd_Mo_adds_70 ?_
          refine lv_iload hx hb dd_Mo_adds_73 (lv_at hl 0 rfl) ?_
          refine ly_iald C hP 9 rfl j56 rfl (by omega) (by omega) dd_Mo_adds_75 ?_
          refine lv_aload_n hx hb dd_Mo_adds_76 rfl (lv_at hl 3 rfl) ?_
          refine lv_iload_n hx hb dd_Mo_adds_77 rfl (lv_at hl 1 rfl) ?_
          refine lv_aload_n hx hb dd_Mo_adds_78 rfl (lv_at hl 3 rfl) ?_
          refine ly_get (v := .ref m7) C hP 0 rfl uw_Mo rfl 15 (by decide) wa_259 rfl dd_Mo_adds_79 ?_
          refine lv_bipush (v := (6 : Int32)) hx hb dd_Mo_adds_82 (by decide) ?_
          refine lv_iload_n hx hb dd_Mo_adds_84 rfl (lv_at hl 2 rfl) ?_
          refine ly_imulN C 6 j33 rfl rfl dd_Mo_adds_85 ?_
          refine lv_iload hx hb dd_Mo_adds_86 (lv_at hl 0 rfl) ?_
          refine ly_iaddN C (6 * j33) j56 rfl rfl dd_Mo_adds_88 ?_
          refine ly_iald C hP 7 rfl ((6 * j33) + j56) rfl (by omega) (by omega) dd_Mo_adds_89 ?_
          obtain ⟨r_90, hq90⟩ : ∃ z, z = mm_Mo_product (xoL33 (xv j33 % 6)) (xq ((6 * j33) + j56)) := ⟨_, rfl⟩
          try rw [← hq90] at hM
          refine ly_cV_i (n := 2) (z := r_90) (rest := [.int (xoL56 j56), .int (nI j56), .ref m9]) (wn := (ws_Mo K mh m1 m2 m3 m4 m5 m6 m7 m8 m9 n xk xa xb xc xe xl xs xg xr xd xt xf xw xp xq xv xoL56)) C (cc_Mo_product D K mh m1 m2 m3 m4 m5 m6 m7 m8 m9 (xoL33 (xv j33 % 6)) (xq ((6 * j33) + j56)) n xk xa xb xc xe xl xs xg xr xd xt xf xw xp xq xv xoL56 (by omega) (by omega)) hq90 wa_268 wa_270 wa_265 wa_271 wa_272 (by decide) (Nat.le_trans (by decide) hRf) (Nat.le_trans (by decide) hRl) rfl hl.1 rfl (Nat.le_of_ble_eq_true rfl) dd_Mo_adds_90 hcs [0, 1, 2, 3, 4, 5, 6, 7, 8, 9] [] [0, 1, 2, 3, 4, 5, 6, 7, 8, 9] hP hD hS rfl rfl (by decide) rfl rfl rfl (fun H locs hP hD hS => ?_)
          refine W.eq (g2 := F0 m 93 ls [.int r_90, .int (xoL56 j56), .int (nI j56), .ref m9]) rfl ?_
          refine lv_ixor hx hb dd_Mo_adds_93 ?_
          refine ly_iast (ws' := (ws_Mo K mh m1 m2 m3 m4 m5 m6 m7 m8 m9 n xk xa xb xc xe xl xs xg xr xd xt xf xw xp xq xv (upd xoL56 j56 ((xoL56 j56) ^^^ r_90)))) C hP hD hS 9 rfl j56 rfl (by omega) (by omega) dd_Mo_adds_94 rfl (fun H locs hP hD hS => ?_)
          refine lv_iinc (k := 0) (v := (nI (j56 + 1))) (lv' := [(4, .int (nI (j56 + 1))), (3, .int (xoL33 (xv j33 % 6))), (2, .int (nI j33)), (0, .ref mh), (1, .int (nI i))]) hx hb dd_Mo_adds_95 hl rfl (ly_incN _) (by decide) rfl (fun ls hl => ?_)
          refine lv_goto (tgt := 56) hx hb dd_Mo_adds_98 (by decide) ?_
          exact ih56 (j56 + 1) (upd xoL56 j56 ((xoL56 j56) ^^^ r_90)) ls H locs rs56 (by omega) hM (lv_sub hl [0, 1, 2, 3, 4] rfl) hP hD hS kap56
      refine lp56 6 0 xoL33 ls H locs _ (by omega) rfl (lv_sub hl [0, 1, 2, 3, 4] rfl) hP hD hS (fun xo_56 ls H locs hqL56 hl hP hD hS => ?_)
      try rw [← hqL56] at hM
      refine lv_iinc (k := 1) (v := (nI (j33 + 1))) (lv' := [(2, .int (nI (j33 + 1))), (3, .int (xoL33 (xv j33 % 6))), (0, .ref mh), (1, .int (nI i))]) hx hb dd_Mo_adds_101 hl rfl (ly_incN _) (by decide) rfl (fun ls hl => ?_)
      refine lv_goto (tgt := 33) hx hb dd_Mo_adds_104 (by decide) ?_
      exact ih33 (j33 + 1) xo_56 ls H locs rs33 (by omega) hM (lv_sub hl [0, 2, 3] rfl) hP hD hS kap33
  refine lp33 xg 0 xo_2 ls H locs _ (by omega) rfl (lv_sub hl [0, 1, 2] rfl) hP hD hS (fun xo_33 ls H locs hqL33 hl hP hD hS => ?_)
  try rw [← hqL33] at hM
  refine lv_iconst (v := (-1 : Int32)) hx hb dd_Mo_adds_107 (by decide) ?_
  refine lv_istore_n (lv' := [(2, .int (-1 : Int32)), (0, .ref mh), (1, .int (nI i))]) hx hb dd_Mo_adds_108 rfl hl (by decide) rfl (fun ls hl => ?_)
  refine lv_iconst (v := (5 : Int32)) hx hb dd_Mo_adds_109 (by decide) ?_
  refine lv_istore_n (lv' := [(3, .int (5 : Int32)), (2, .int (-1 : Int32)), (0, .ref mh), (1, .int (nI i))]) hx hb dd_Mo_adds_110 rfl hl (by decide) rfl (fun ls hl => ?_)
  rw [show (5 : Int32) = nI 6 - 1 by decide] at hl
  have lp111 : ∀ (k111 : Nat) (v2L111 : Int32) (ls : Array Slot) (H : Heap) (locs : List Loc) (rs111 : (Int32)), k111 ≤ 6 → mm_Mo_adds_L111 xo_33 k111 v2L111 = rs111 → lv_has ls 5 [(3, .int (nI k111 - 1)), (2, .int v2L111), (0, .ref mh), (1, .int (nI i))] → va_P D cl_all (ws_Mo K mh m1 m2 m3 m4 m5 m6 m7 m8 m9 n xk xa xb xc xe xl xs xg xr xd xt xf xw xp xq xv xo_33) H → va_D A (ws_Mo K mh m1 m2 m3 m4 m5 m6 m7 m8 m9 n xk xa xb xc xe xl xs xg xr xd xt xf xw xp xq xv xo_33) → va_S A s.heap H locs → (∀ (v2L111 : Int32) (ls : Array Slot) (H : Heap) (locs : List Loc), v2L111 = rs111 → lv_has ls 5 [(2, .int v2L111), (0, .ref mh), (1, .int (nI i))] → va_P D cl_all (ws_Mo K mh m1 m2 m3 m4 m5 m6 m7 m8 m9 n xk xa xb xc xe xl xs xg xr xd xt xf xw xp xq xv xo_33) H → va_D A (ws_Mo K mh m1 m2 m3 m4 m5 m6 m7 m8 m9 n xk xa xb xc xe xl xs xg xr xd xt xf xw xp xq xv xo_33) → va_S A s.heap H locs → W p l e R s m av below meth c H locs 0 0 Q (F0 m 136 ls [])) → W p l e R s m av below meth c H locs 0 0 Q (F0 m 111 ls []) := by
    intro k111
    induction k111 with
    | zero =>
      intro v2L111 ls H locs rs111 hkn111 hM hl hP hD hS kap111
      rw [mm_Mo_adds_L111] at hM
      refine lv_iload_n hx hb dd_Mo_adds_111 rfl (lv_at hl 0 rfl) ?_
      refine lv_if_lt (tgt := 136) hx hb dd_Mo_adds_112 (by decide) (fun _ => ?_) (fun h => absurd (by decide) h)
      exact kap111 v2L111 ls H locs hM (lv_sub hl [1, 2, 3] rfl) hP hD hS
    | succ k111 ih111 =>
      intro v2L111 ls H locs rs111 hkn111 hM hl hP hD hS kap111
      rw [nI_pred] at hl
      rw [mm_Mo_adds_L111] at hM
      refine lv_iload_n hx hb dd_Mo_adds_111 rfl (lv_at hl 0 rfl) ?_
      refine lv_if_lt (tgt := 136) hx hb dd_Mo_adds_112 (by decide) (fun h => absurd h (nI_pos (by omega))) (fun _ => ?_)
      refine lv_aload_n hx hb dd_Mo_adds_115 rfl (lv_at hl 2 rfl) ?_
      refine ly_get (v := .ref m9) C hP 0 rfl uw_Mo rfl 17 (by decide) wa_261 rfl dd_Mo_adds_116 ?_
      refine lv_iload_n hx hb dd_Mo_adds_119 rfl (lv_at hl 0 rfl) ?_
      refine ly_iald C hP 9 rfl k111 rfl (by omega) (by omega) dd_Mo_adds_120 ?_
      refine lv_if_eq (tgt := 128) hx hb dd_Mo_adds_121 (by decide) (fun h121 => ?_) (fun h121 => ?_)
      · rw [if_pos h121] at hM
        refine lv_iload_n hx hb dd_Mo_adds_128 rfl (lv_at hl 1 rfl) ?_
        refine lv_istore_n (lv' := [(2, .int v2L111), (3, .int (nI k111)), (0, .ref mh), (1, .int (nI i))]) hx hb dd_Mo_adds_129 rfl hl (by decide) rfl (fun ls hl => ?_)
        refine lv_iinc (k := 1) (v := (nI k111 - 1)) (lv' := [(3, .int (nI k111 - 1)), (2, .int v2L111), (0, .ref mh), (1, .int (nI i))]) hx hb dd_Mo_adds_130 hl rfl (ly_decN _) (by decide) rfl (fun ls hl => ?_)
        refine lv_goto (tgt := 111) hx hb dd_Mo_adds_133 (by decide) ?_
        exact ih111 v2L111 ls H locs rs111 (by omega) hM (lv_sub hl [0, 1, 2, 3] rfl) hP hD hS kap111
      · rw [if_neg h121] at hM
        refine lv_iload_n hx hb dd_Mo_adds_124 rfl (lv_at hl 0 rfl) ?_
        refine lv_goto (tgt := 129) hx hb dd_Mo_adds_125 (by decide) ?_
        refine lv_istore_n (lv' := [(2, .int (nI k111)), (3, .int (nI k111)), (0, .ref mh), (1, .int (nI i))]) hx hb dd_Mo_adds_129 rfl hl (by decide) rfl (fun ls hl => ?_)
        refine lv_iinc (k := 1) (v := (nI k111 - 1)) (lv' := [(3, .int (nI k111 - 1)), (2, .int (nI k111)), (0, .ref mh), (1, .int (nI i))]) hx hb dd_Mo_adds_130 hl rfl (ly_decN _) (by decide) rfl (fun ls hl => ?_)
        refine lv_goto (tgt := 111) hx hb dd_Mo_adds_133 (by decide) ?_
        exact ih111 (nI k111) ls H locs rs111 (by omega) hM (lv_sub hl [0, 1, 2, 3] rfl) hP hD hS kap111
  refine lp111 6 (-1 : Int32) ls H locs _ (Nat.le_refl _) rfl (lv_sub hl [0, 1, 2, 3] rfl) hP hD hS (fun v2_111 ls H locs hqL111 hl hP hD hS => ?_)
  try rw [← hqL111] at hM
  refine lv_iload_n hx hb dd_Mo_adds_136 rfl (lv_at hl 0 rfl) ?_
  refine lv_if_ge (tgt := 142) hx hb dd_Mo_adds_137 (by decide) (fun h137 => ?_) (fun h137 => ?_)
  · rw [if_pos h137] at hM
    obtain ⟨a, ha, rfl⟩ := in_adds hqL111 h137
    try rw [nI_clamp (n := a) (by omega)] at hM
    refine lv_aload_n hx hb dd_Mo_adds_142 rfl (lv_at hl 1 rfl) ?_
    refine lv_aload_n hx hb dd_Mo_adds_143 rfl (lv_at hl 1 rfl) ?_
    refine ly_get (v := .ref m9) C hP 0 rfl uw_Mo rfl 17 (by decide) wa_261 rfl dd_Mo_adds_144 ?_
    refine lv_iload_n hx hb dd_Mo_adds_147 rfl (lv_at hl 0 rfl) ?_
    refine ly_iald C hP 9 rfl a rfl (by omega) (by omega) dd_Mo_adds_148 ?_
    obtain ⟨r_149, hq149⟩ : ∃ z, z = mm_Mo_inverse (xo_33 a) := ⟨_, rfl⟩
    try rw [← hq149] at hM
    refine ly_cV_i (n := 1) (z := r_149) (rest := []) (wn := (ws_Mo K mh m1 m2 m3 m4 m5 m6 m7 m8 m9 n xk xa xb xc xe xl xs xg xr xd xt xf xw xp xq xv xo_33)) C (cc_Mo_inverse D K mh m1 m2 m3 m4 m5 m6 m7 m8 m9 (xo_33 a) n xk xa xb xc xe xl xs xg xr xd xt xf xw xp xq xv xo_33 (by omega) (by omega)) hq149 wa_269 wa_274 wa_265 wa_275 wa_276 (by decide) (Nat.le_trans (by decide) hRf) (Nat.le_trans (by decide) hRl) rfl hl.1 rfl (Nat.le_of_ble_eq_true rfl) dd_Mo_adds_149 hcs [0, 1, 2, 3, 4, 5, 6, 7, 8, 9] [] [0, 1, 2, 3, 4, 5, 6, 7, 8, 9] hP hD hS rfl rfl (by decide) rfl rfl rfl (fun H locs hP hD hS => ?_)
    refine W.eq (g2 := F0 m 152 ls [.int r_149]) rfl ?_
    refine lv_istore_n (lv' := [(3, .int r_149), (2, .int (nI a)), (0, .ref mh), (1, .int (nI i))]) hx hb dd_Mo_adds_152 rfl hl (by decide) rfl (fun ls hl => ?_)
    refine lv_iconst (v := (0 : Int32)) hx hb dd_Mo_adds_153 (by decide) ?_
    refine lv_istore (lv' := [(4, .int (0 : Int32)), (3, .int r_149), (2, .int (nI a)), (0, .ref mh), (1, .int (nI i))]) hx hb dd_Mo_adds_154 hl (by decide) rfl (fun ls hl => ?_)
    have lp156 : ∀ (k156 : Nat) (j156 : Nat) (xqL156 : Nat → Int32) (ls : Array Slot) (H : Heap) (locs : List Loc) (rs156 : (Nat → Int32)), j156 + k156 = 6 → mm_Mo_adds_L156 xg xo_33 r_149 k156 j156 xqL156 = rs156 → lv_has ls 5 [(4, .int (nI j156)), (3, .int r_149), (2, .int (nI a)), (0, .ref mh), (1, .int (nI i))] → va_P D cl_all (ws_Mo K mh m1 m2 m3 m4 m5 m6 m7 m8 m9 n xk xa xb xc xe xl xs xg xr xd xt xf xw xp xqL156 xv xo_33) H → va_D A (ws_Mo K mh m1 m2 m3 m4 m5 m6 m7 m8 m9 n xk xa xb xc xe xl xs xg xr xd xt xf xw xp xqL156 xv xo_33) → va_S A s.heap H locs → (∀ (xqL156 : Nat → Int32) (ls : Array Slot) (H : Heap) (locs : List Loc), xqL156 = rs156 → lv_has ls 5 [(3, .int r_149), (2, .int (nI a)), (0, .ref mh), (1, .int (nI i))] → va_P D cl_all (ws_Mo K mh m1 m2 m3 m4 m5 m6 m7 m8 m9 n xk xa xb xc xe xl xs xg xr xd xt xf xw xp xqL156 xv xo_33) H → va_D A (ws_Mo K mh m1 m2 m3 m4 m5 m6 m7 m8 m9 n xk xa xb xc xe xl xs xg xr xd xt xf xw xp xqL156 xv xo_33) → va_S A s.heap H locs → W p l e R s m av below meth c H locs 0 0 Q (F0 m 196 ls [])) → W p l e R s m av below meth c H locs 0 0 Q (F0 m 156 ls []) := by
      intro k156
      induction k156 with
      | zero =>
        intro j156 xqL156 ls H locs rs156 hjk156 hM hl hP hD hS kap156
        have hj0 : j156 = 6 := by omega
        subst j156
        rw [mm_Mo_adds_L156] at hM
        refine lv_iload hx hb dd_Mo_adds_156 (lv_at hl 0 rfl) ?_
        refine lv_bipush (v := (6 : Int32)) hx hb dd_Mo_adds_158 (by decide) ?_
        refine lv_icmp_ge (tgt := 196) hx hb dd_Mo_adds_160 (by decide) (fun _ => ?_) (fun h => absurd (nI_le (a := 6) (b := 6) (by omega) (by omega)) h)
        exact kap156 xqL156 ls H locs hM (lv_sub hl [1, 2, 3, 4] rfl) hP hD hS
      | succ k156 ih156 =>
        intro j156 xqL156 ls H locs rs156 hjk156 hM hl hP hD hS kap156
        rw [mm_Mo_adds_L156] at hM
        refine lv_iload hx hb dd_Mo_adds_156 (lv_at hl 0 rfl) ?_
        refine lv_bipush (v := (6 : Int32)) hx hb dd_Mo_adds_158 (by decide) ?_
        refine lv_icmp_ge (tgt := 196) hx hb dd_Mo_adds_160 (by decide) (fun h => absurd h (nI_ge (a := j156) (b := 6) (by omega) (by omega))) (fun _ => ?_)
        refine lv_aload_n hx hb dd_Mo_adds_163 rfl (lv_at hl 3 rfl) ?_
        refine ly_get (v := .ref m7) C hP 0 rfl uw_Mo rfl 15 (by decide) wa_259 rfl dd_Mo_adds_164 ?_
        refine lv_bipush (v := (6 : Int32)) hx hb dd_Mo_adds_167 (by decide) ?_
        refine lv_aload_n hx hb dd_Mo_adds_169 rfl (lv_at hl 3 rfl) ?_
        refine ly_get (v := .int (nI xg)) C hP 0 rfl uw_Mo rfl 14 (by decide) wa_315 rfl dd_Mo_adds_170 ?_
        refine ly_imulN C 6 xg rfl rfl dd_Mo_adds_173 ?_
        refine lv_iload hx hb dd_Mo_adds_174 (lv_at hl 0 rfl) ?_
        refine ly_iaddN C (6 * xg) j156 rfl rfl dd_Mo_adds_176 ?_
        refine lv_aload_n hx hb dd_Mo_adds_177 rfl (lv_at hl 3 rfl) ?_
        refine lv_aload_n hx hb dd_Mo_adds_178 rfl (lv_at hl 3 rfl) ?_
        refine ly_get (v := .ref m9) C hP 0 rfl uw_Mo rfl 17 (by decide) wa_261 rfl dd_Mo_adds_179 ?_
        refine lv_iload hx hb dd_Mo_adds_182 (lv_at hl 0 rfl) ?_
        refine ly_iald C hP 9 rfl j156 rfl (by omega) (by omega) dd_Mo_adds_184 ?_
        refine lv_iload_n hx hb dd_Mo_adds_185 rfl (lv_at hl 1 rfl) ?_
        obtain ⟨r_186, hq186⟩ : ∃ z, z = mm_Mo_product (xo_33 j156) r_149 := ⟨_, rfl⟩
        try rw [← hq186] at hM
        refine ly_cV_i (n := 2) (z := r_186) (rest := [.int (nI ((6 * xg) + j156)), .ref m7]) (wn := (ws_Mo K mh m1 m2 m3 m4 m5 m6 m7 m8 m9 n xk xa xb xc xe xl xs xg xr xd xt xf xw xp xqL156 xv xo_33)) C (cc_Mo_product D K mh m1 m2 m3 m4 m5 m6 m7 m8 m9 (xo_33 j156) r_149 n xk xa xb xc xe xl xs xg xr xd xt xf xw xp xqL156 xv xo_33 (by omega) (by omega)) hq186 wa_268 wa_270 wa_265 wa_271 wa_272 (by decide) (Nat.le_trans (by decide) hRf) (Nat.le_trans (by decide) hRl) rfl hl.1 rfl (Nat.le_of_ble_eq_true rfl) dd_Mo_adds_186 hcs [0, 1, 2, 3, 4, 5, 6, 7, 8, 9] [] [0, 1, 2, 3, 4, 5, 6, 7, 8, 9] hP hD hS rfl rfl (by decide) rfl rfl rfl (fun H locs hP hD hS => ?_)
        refine W.eq (g2 := F0 m 189 ls [.int r_186, .int (nI ((6 * xg) + j156)), .ref m7]) rfl ?_
        refine ly_iast (ws' := (ws_Mo K mh m1 m2 m3 m4 m5 m6 m7 m8 m9 n xk xa xb xc xe xl xs xg xr xd xt xf xw xp (upd xqL156 ((6 * xg) + j156) r_186) xv xo_33)) C hP hD hS 7 rfl ((6 * xg) + j156) rfl (by omega) (by omega) dd_Mo_adds_189 rfl (fun H locs hP hD hS => ?_)
        refine lv_iinc (k := 0) (v := (nI (j156 + 1))) (lv' := [(4, .int (nI (j156 + 1))), (3, .int r_149), (2, .int (nI a)), (0, .ref mh), (1, .int (nI i))]) hx hb dd_Mo_adds_190 hl rfl (ly_incN _) (by decide) rfl (fun ls hl => ?_)
        refine lv_goto (tgt := 156) hx hb dd_Mo_adds_193 (by decide) ?_
        exact ih156 (j156 + 1) (upd xqL156 ((6 * xg) + j156) r_186) ls H locs rs156 (by omega) hM (lv_sub hl [0, 1, 2, 3, 4] rfl) hP hD hS kap156
    refine lp156 6 0 xq ls H locs _ (by omega) rfl (lv_sub hl [0, 1, 2, 3, 4] rfl) hP hD hS (fun xq_156 ls H locs hqL156 hl hP hD hS => ?_)
    try rw [← hqL156] at hM
    refine lv_aload_n hx hb dd_Mo_adds_196 rfl (lv_at hl 2 rfl) ?_
    refine ly_get (v := .ref m8) C hP 0 rfl uw_Mo rfl 16 (by decide) wa_260 rfl dd_Mo_adds_197 ?_
    refine lv_aload_n hx hb dd_Mo_adds_200 rfl (lv_at hl 2 rfl) ?_
    refine ly_get (v := .int (nI xg)) C hP 0 rfl uw_Mo rfl 14 (by decide) wa_315 rfl dd_Mo_adds_201 ?_
    refine lv_iload_n hx hb dd_Mo_adds_204 rfl (lv_at hl 1 rfl) ?_
    refine ly_nast (ws' := (ws_Mo K mh m1 m2 m3 m4 m5 m6 m7 m8 m9 n xk xa xb xc xe xl xs xg xr xd xt xf xw xp xq_156 (va_up xv xg a) xo_33)) C hP hD hS 8 rfl a (by omega) xg rfl rfl (by omega) (by omega) dd_Mo_adds_205 rfl (fun H locs hP hD hS => ?_)
    refine lv_aload_n hx hb dd_Mo_adds_206 rfl (lv_at hl 2 rfl) ?_
    refine lv_dup hx hb dd_Mo_adds_207 rfl ?_
    refine ly_get (v := .int (nI xg)) C hP 0 rfl uw_Mo rfl 14 (by decide) wa_315 rfl dd_Mo_adds_208 ?_
    refine lv_iconst (v := (1 : Int32)) hx hb dd_Mo_adds_211 (by decide) ?_
    refine ly_iaddN C xg 1 rfl rfl dd_Mo_adds_212 ?_
    refine ly_put (ws' := (ws_Mo K mh m1 m2 m3 m4 m5 m6 m7 m8 m9 n xk xa xb xc xe xl xs (xg + 1) xr xd xt xf xw xp xq_156 (va_up xv xg a) xo_33)) C hP hD hS 0 rfl uw_Mo tt_Mo nn_Mo rfl 14 (by decide) wa_315 rfl rfl rfl (Nat.le_of_ble_eq_true rfl) dd_Mo_adds_213 rfl (fun H locs hP hD hS => ?_)
    refine lv_iconst (v := (1 : Int32)) hx hb dd_Mo_adds_216 (by decide) ?_
    exact ret ((1 : Int32), (xg + 1), xq_156, (va_up xv xg a), xo_33) H locs 217 ls hM ly_z1 hS hP hD dd_Mo_adds_217
  · rw [if_neg h137] at hM
    refine lv_iconst (v := (0 : Int32)) hx hb dd_Mo_adds_140 (by decide) ?_
    exact ret ((0 : Int32), xg, xq, xv, xo_33) H locs 141 ls hM ly_z0 hS hP hD dd_Mo_adds_141
theorem tk_adds {i xg xg' : Nat} {r : Int32} {xr xq xq' xo xo' : Nat → Int32} {xv xv' : Nat → Nat} (h : (r, xg', xq', xv', xo') = mm_Mo_adds i xg xr xq xv xo) : xg' ≤ xg + 1 := by
  unfold mm_Mo_adds at h
  split at h
  · cases h; omega
  · cases h; omega
def mm_Mo_goOver_L12 (sg : Nat) (xr : Nat → Int32) (xt : Nat → Int32) : Nat → Nat → (Nat) → (Nat) → (Nat → Nat) → (Nat → Int32) → (Nat → Nat) → (Nat → Int32) → (Nat) × (Nat) × (Nat → Nat) × (Nat → Int32) × (Nat → Nat) × (Nat → Int32)
  | 0, j, xs, xg, xp, xq, xv, xo => (xs, xg, xp, xq, xv, xo)
  | k + 1, j, xs, xg, xp, xq, xv, xo => (if (xt (11 * sg + j)) = (0 : Int32) then (mm_Mo_goOver_L12 sg xr xt k (j + 1) xs xg xp xq xv xo) else (if (6 : Int32) ≤ (nI xg) then (mm_Mo_goOver_L12 sg xr xt k (j + 1) xs xg xp xq xv xo) else (match mm_Mo_adds j xg xr xq xv xo with | (r_45, xg_45, xq_45, xv_45, xo_45) => (if r_45 = (0 : Int32) then (mm_Mo_goOver_L12 sg xr xt k (j + 1) xs xg_45 xp xq_45 xv_45 xo_45) else (mm_Mo_goOver_L12 sg xr xt k (j + 1) (xs + 1) xg_45 (va_up xp xs j) xq_45 xv_45 xo_45)))))
def mm_Mo_goOver (sg : Nat) (n : Nat) (xr : Nat → Int32) (xt : Nat → Int32) (xp : Nat → Nat) (xq : Nat → Int32) (xv : Nat → Nat) (xo : Nat → Int32) : (Nat) × (Nat) × (Nat → Nat) × (Nat → Int32) × (Nat → Nat) × (Nat → Int32) := (mm_Mo_goOver_L12 sg xr xt n 0 0 0 xp xq xv xo)
set_option maxHeartbeats 4000000 in
set_option maxRecDepth 100000 in
theorem cc_Mo_goOver {l : Launch} (D : va_G) (K : Nat → ClassId) (mh m1 m2 m3 m4 m5 m6 m7 m8 m9 : Nat) (sg : Nat) (n : Nat) (xk : Int32) (xa : Int32) (xb : Int32) (xc : Int32) (xe : Int32) (xl : Int64) (xs : Nat) (xg : Nat) (xr : Nat → Int32) (xd : Nat → Int64) (xt : Nat → Int32) (xf : Nat → Int64) (xw : Nat → Int32) (xp : Nat → Nat) (xq : Nat → Int32) (xv : Nat → Nat) (xo : Nat → Int32) (hsg : sg < 3) (hn : n ≤ 11) (hn6 : 6 ≤ n) : ly_v l yy_Mo_goOver bb_Mo_goOver 3 none 3 71 D K [.ref mh, .int (nI sg)] (ws_Mo K mh m1 m2 m3 m4 m5 m6 m7 m8 m9 n xk xa xb xc xe xl xs xg xr xd xt xf xw xp xq xv xo) (fun z => (ws_Mo K mh m1 m2 m3 m4 m5 m6 m7 m8 m9 n xk xa xb xc xe xl (z.1) (z.2.1) xr xd xt xf xw (z.2.2.1) (z.2.2.2.1) (z.2.2.2.2.1) (z.2.2.2.2.2))) (mm_Mo_goOver sg n xr xt xp xq xv xo) := by
  refine ly_entV (by decide) (Nat.le_of_ble_eq_true rfl) ?_
  intro p e s m av below meth c A ls R Q H locs res hM C hRf hRl hS hP hD hl ret
  obtain ⟨hx, hb, -⟩ := id C
  have hcs : 0 ≤ R.cells ∧ 0 ≤ R.slots := ⟨Nat.zero_le _, Nat.zero_le _⟩
  have hl : lv_has ls 3 [(0, .ref mh), (1, .int (nI sg))] := hl
  rw [mm_Mo_goOver] at hM
  refine lv_aload_n hx hb dd_Mo_goOver_0 rfl (lv_at hl 0 rfl) ?_
  refine lv_iconst (v := (0 : Int32)) hx hb dd_Mo_goOver_1 (by decide) ?_
  refine ly_put (ws' := (ws_Mo K mh m1 m2 m3 m4 m5 m6 m7 m8 m9 n xk xa xb xc xe xl xs 0 xr xd xt xf xw xp xq xv xo)) C hP hD hS 0 rfl uw_Mo tt_Mo nn_Mo rfl 14 (by decide) wa_315 rfl rfl rfl (Nat.le_of_ble_eq_true rfl) dd_Mo_goOver_2 rfl (fun H locs hP hD hS => ?_)
  refine lv_aload_n hx hb dd_Mo_goOver_5 rfl (lv_at hl 0 rfl) ?_
  refine lv_iconst (v := (0 : Int32)) hx hb dd_Mo_goOver_6 (by decide) ?_
  refine ly_put (ws' := (ws_Mo K mh m1 m2 m3 m4 m5 m6 m7 m8 m9 n xk xa xb xc xe xl 0 0 xr xd xt xf xw xp xq xv xo)) C hP hD hS 0 rfl uw_Mo tt_Mo nn_Mo rfl 12 (by decide) wa_317 rfl rfl rfl (Nat.le_of_ble_eq_true rfl) dd_Mo_goOver_7 rfl (fun H locs hP hD hS => ?_)
  refine lv_iconst (v := (0 : Int32)) hx hb dd_Mo_goOver_10 (by decide) ?_
  refine lv_istore_n (lv' := [(2, .int (0 : Int32)), (0, .ref mh), (1, .int (nI sg))]) hx hb dd_Mo_goOver_11 rfl hl (by decide) rfl (fun ls hl => ?_)
  have lp12 : ∀ (k : Nat) (j : Nat) (xs : Nat) (xg : Nat) (xp : Nat → Nat) (xq : Nat → Int32) (xv : Nat → Nat) (xo : Nat → Int32) (ls : Array Slot) (H : Heap) (locs : List Loc), j + k = n → (xg ≤ 6) → (xs ≤ j) → mm_Mo_goOver_L12 sg xr xt k j xs xg xp xq xv xo = res → lv_has ls 3 [(2, .int (nI j)), (0, .ref mh), (1, .int (nI sg))] → va_P D cl_all (ws_Mo K mh m1 m2 m3 m4 m5 m6 m7 m8 m9 n xk xa xb xc xe xl xs xg xr xd xt xf xw xp xq xv xo) H → va_D A (ws_Mo K mh m1 m2 m3 m4 m5 m6 m7 m8 m9 n xk xa xb xc xe xl xs xg xr xd xt xf xw xp xq xv xo) → va_S A s.heap H locs → W p l e R s m av below meth c H locs 0 0 Q (F0 m 12 ls []) := by
    intro k
    induction k with
    | zero =>
      intro j xs xg xp xq xv xo ls H locs hjk12 htk6 hps hM hl hP hD hS
      have hj0 : j = n := by omega
      subst j
      rw [mm_Mo_goOver_L12] at hM
      refine lv_iload_n hx hb dd_Mo_goOver_12 rfl (lv_at hl 0 rfl) ?_
      refine lv_aload_n hx hb dd_Mo_goOver_13 rfl (lv_at hl 1 rfl) ?_
      refine ly_get (v := .int (nI n)) C hP 0 rfl uw_Mo rfl 1 (by decide) wa_263 rfl dd_Mo_goOver_14 ?_
      refine lv_icmp_ge (tgt := 77) hx hb dd_Mo_goOver_17 (by decide) (fun _ => ?_) (fun h => absurd (nI_le (a := n) (b := n) (by omega) (by omega)) h)
      exact ret (xs, xg, xp, xq, xv, xo) H locs 77 ls hM hS hP hD dd_Mo_goOver_77
    | succ k ih12 =>
      intro j xs xg xp xq xv xo ls H locs hjk12 htk6 hps hM hl hP hD hS
      rw [mm_Mo_goOver_L12] at hM
      refine lv_iload_n hx hb dd_Mo_goOver_12 rfl (lv_at hl 0 rfl) ?_
      refine lv_aload_n hx hb dd_Mo_goOver_13 rfl (lv_at hl 1 rfl) ?_
      refine ly_get (v := .int (nI n)) C hP 0 rfl uw_Mo rfl 1 (by decide) wa_263 rfl dd_Mo_goOver_14 ?_
      refine lv_icmp_ge (tgt := 77) hx hb dd_Mo_goOver_17 (by decide) (fun h => absurd h (nI_ge (a := j) (b := n) (by omega) (by omega))) (fun _ => ?_)
      refine lv_aload_n hx hb dd_Mo_goOver_20 rfl (lv_at hl 1 rfl) ?_
      refine ly_get (v := .ref m3) C hP 0 rfl uw_Mo rfl 4 (by decide) wa_255 rfl dd_Mo_goOver_21 ?_
      refine lv_aload_n hx hb dd_Mo_goOver_24 rfl (lv_at hl 1 rfl) ?_
      refine lv_iload_n hx hb dd_Mo_goOver_25 rfl (lv_at hl 2 rfl) ?_
      refine lv_iload_n hx hb dd_Mo_goOver_26 rfl (lv_at hl 0 rfl) ?_
      refine ly_cV_i (n := 2) (z := (nI (11 * sg + j))) (rest := [.ref m3]) (wn := (ws_Mo K mh m1 m2 m3 m4 m5 m6 m7 m8 m9 n xk xa xb xc xe xl xs xg xr xd xt xf xw xp xq xv xo)) C (cc_Mo_cell D K mh m1 m2 m3 m4 m5 m6 m7 m8 m9 sg j n xk xa xb xc xe xl xs xg xr xd xt xf xw xp xq xv xo (by omega) (by omega) (by omega) (by omega)) rfl wa_289 wa_292 wa_265 wa_293 wa_294 (by decide) (Nat.le_trans (by decide) hRf) (Nat.le_trans (by decide) hRl) rfl hl.1 rfl (Nat.le_of_ble_eq_true rfl) dd_Mo_goOver_27 hcs [0, 1, 2, 3, 4, 5, 6, 7, 8, 9] [] [0, 1, 2, 3, 4, 5, 6, 7, 8, 9] hP hD hS rfl rfl (by decide) rfl rfl rfl (fun H locs hP hD hS => ?_)
      refine W.eq (g2 := F0 m 30 ls [.int (nI (11 * sg + j)), .ref m3]) rfl ?_
      refine ly_zald C hP 3 rfl (11 * sg + j) rfl (by omega) (by omega) dd_Mo_goOver_30 ?_
      refine lv_if_eq (tgt := 71) hx hb dd_Mo_goOver_31 (by decide) (fun h31 => ?_) (fun h31 => ?_)
      · rw [if_pos h31] at hM
        refine lv_iinc (k := 0) (v := (nI (j + 1))) (lv' := [(2, .int (nI (j + 1))), (0, .ref mh), (1, .int (nI sg))]) hx hb dd_Mo_goOver_71 hl rfl (ly_incN _) (by decide) rfl (fun ls hl => ?_)
        refine lv_goto (tgt := 12) hx hb dd_Mo_goOver_74 (by decide) ?_
        exact ih12 (j + 1) xs xg xp xq xv xo ls H locs (by omega) (by omega) (by omega) hM (lv_sub hl [0, 1, 2] rfl) hP hD hS
      · rw [if_neg h31] at hM
        refine lv_aload_n hx hb dd_Mo_goOver_34 rfl (lv_at hl 1 rfl) ?_
        refine ly_get (v := .int (nI xg)) C hP 0 rfl uw_Mo rfl 14 (by decide) wa_315 rfl dd_Mo_goOver_35 ?_
        refine lv_bipush (v := (6 : Int32)) hx hb dd_Mo_goOver_38 (by decide) ?_
        refine lv_icmp_ge (tgt := 71) hx hb dd_Mo_goOver_40 (by decide) (fun h40 => ?_) (fun h40 => ?_)
        · rw [if_pos h40] at hM
          refine lv_iinc (k := 0) (v := (nI (j + 1))) (lv' := [(2, .int (nI (j + 1))), (0, .ref mh), (1, .int (nI sg))]) hx hb dd_Mo_goOver_71 hl rfl (ly_incN _) (by decide) rfl (fun ls hl => ?_)
          refine lv_goto (tgt := 12) hx hb dd_Mo_goOver_74 (by decide) ?_
          exact ih12 (j + 1) xs xg xp xq xv xo ls H locs (by omega) (by omega) (by omega) hM (lv_sub hl [0, 1, 2] rfl) hP hD hS
        · rw [if_neg h40] at hM
          have hg6 : xg < 6 := Nat.lt_of_not_le (fun h => h40 ((nI_leI (a := 6) (by decide) (by omega)).mpr h))
          refine lv_aload_n hx hb dd_Mo_goOver_43 rfl (lv_at hl 1 rfl) ?_
          refine lv_iload_n hx hb dd_Mo_goOver_44 rfl (lv_at hl 0 rfl) ?_
          obtain ⟨⟨r_45, xg_45, xq_45, xv_45, xo_45⟩, hq45⟩ : ∃ z, z = mm_Mo_adds j xg xr xq xv xo := ⟨_, rfl⟩
          try rw [← hq45] at hM
          try dsimp only at hM
          refine ly_cV_i (n := 1) (z := (r_45, xg_45, xq_45, xv_45, xo_45)) (rest := []) (wn := (ws_Mo K mh m1 m2 m3 m4 m5 m6 m7 m8 m9 n xk xa xb xc xe xl xs xg_45 xr xd xt xf xw xp xq_45 xv_45 xo_45)) C (cc_Mo_adds D K mh m1 m2 m3 m4 m5 m6 m7 m8 m9 j n xk xa xb xc xe xl xs xg xr xd xt xf xw xp xq xv xo (by omega) (by omega) (by omega) (by omega)) hq45 wa_314 wa_318 wa_265 wa_319 wa_320 (by decide) (Nat.le_trans (by decide) hRf) (Nat.le_trans (by decide) hRl) rfl hl.1 rfl (Nat.le_of_ble_eq_true rfl) dd_Mo_goOver_45 hcs [0, 1, 2, 3, 4, 5, 6, 7, 8, 9] [] [0, 1, 2, 3, 4, 5, 6, 7, 8, 9] hP hD hS rfl rfl (by decide) rfl rfl rfl (fun H locs hP hD hS => ?_)
          refine W.eq (g2 := F0 m 48 ls [.int r_45]) rfl ?_
          have htk := tk_adds hq45
          refine lv_if_eq (tgt := 71) hx hb dd_Mo_goOver_48 (by decide) (fun h48 => ?_) (fun h48 => ?_)
          · rw [if_pos h48] at hM
            refine lv_iinc (k := 0) (v := (nI (j + 1))) (lv' := [(2, .int (nI (j + 1))), (0, .ref mh), (1, .int (nI sg))]) hx hb dd_Mo_goOver_71 hl rfl (ly_incN _) (by decide) rfl (fun ls hl => ?_)
            refine lv_goto (tgt := 12) hx hb dd_Mo_goOver_74 (by decide) ?_
            exact ih12 (j + 1) xs xg_45 xp xq_45 xv_45 xo_45 ls H locs (by omega) (by omega) (by omega) hM (lv_sub hl [0, 1, 2] rfl) hP hD hS
          · rw [if_neg h48] at hM
            refine lv_aload_n hx hb dd_Mo_goOver_51 rfl (lv_at hl 1 rfl) ?_
            refine ly_get (v := .ref m6) C hP 0 rfl uw_Mo rfl 13 (by decide) wa_258 rfl dd_Mo_goOver_52 ?_
            refine lv_aload_n hx hb dd_Mo_goOver_55 rfl (lv_at hl 1 rfl) ?_
            refine ly_get (v := .int (nI xs)) C hP 0 rfl uw_Mo rfl 12 (by decide) wa_317 rfl dd_Mo_goOver_56 ?_
            refine lv_iload_n hx hb dd_Mo_goOver_59 rfl (lv_at hl 0 rfl) ?_
            refine ly_nast (ws' := (ws_Mo K mh m1 m2 m3 m4 m5 m6 m7 m8 m9 n xk xa xb xc xe xl xs xg_45 xr xd xt xf xw (va_up xp xs j) xq_45 xv_45 xo_45)) C hP hD hS 6 rfl j (by omega) xs rfl rfl (by omega) (by omega) dd_Mo_goOver_60 rfl (fun H locs hP hD hS => ?_)
            refine lv_aload_n hx hb dd_Mo_goOver_61 rfl (lv_at hl 1 rfl) ?_
            refine lv_dup hx hb dd_Mo_goOver_62 rfl ?_
            refine ly_get (v := .int (nI xs)) C hP 0 rfl uw_Mo rfl 12 (by decide) wa_317 rfl dd_Mo_goOver_63 ?_
            refine lv_iconst (v := (1 : Int32)) hx hb dd_Mo_goOver_66 (by decide) ?_
            refine ly_iaddN C xs 1 rfl rfl dd_Mo_goOver_67 ?_
            refine ly_put (ws' := (ws_Mo K mh m1 m2 m3 m4 m5 m6 m7 m8 m9 n xk xa xb xc xe xl (xs + 1) xg_45 xr xd xt xf xw (va_up xp xs j) xq_45 xv_45 xo_45)) C hP hD hS 0 rfl uw_Mo tt_Mo nn_Mo rfl 12 (by decide) wa_317 rfl rfl rfl (Nat.le_of_ble_eq_true rfl) dd_Mo_goOver_68 rfl (fun H locs hP hD hS => ?_)
            refine lv_iinc (k := 0) (v := (nI (j + 1))) (lv' := [(2, .int (nI (j + 1))), (0, .ref mh), (1, .int (nI sg))]) hx hb dd_Mo_goOver_71 hl rfl (ly_incN _) (by decide) rfl (fun ls hl => ?_)
            refine lv_goto (tgt := 12) hx hb dd_Mo_goOver_74 (by decide) ?_
            exact ih12 (j + 1) (xs + 1) xg_45 (va_up xp xs j) xq_45 xv_45 xo_45 ls H locs (by omega) (by omega) (by omega) hM (lv_sub hl [0, 1, 2] rfl) hP hD hS
  exact lp12 n 0 0 0 xp xq xv xo ls H locs (by omega) (by omega) (by omega) hM (lv_sub hl [0, 1, 2] rfl) hP hD hS

def mm_Mo_choose_L36 (i : Nat) (xk : Int32) (xg : Nat) (xq : Nat → Int32) (xv : Nat → Nat) (xo : Nat → Int32) : Nat → Nat → (Nat) → (Nat → Nat) → Int32 × (Nat) × (Nat) × (Nat → Nat) × (Nat → Int32) × (Nat → Nat) × (Nat → Int32)
  | 0, j, xs, xp => ((1 : Int32), xs, xg, xp, xq, xv, xo)
  | k + 1, j, xs, xp => (if (mm_Mo_grouped i j xk) = (0 : Int32) then (mm_Mo_choose_L36 i xk xg xq xv xo k (j + 1) xs xp) else (mm_Mo_choose_L36 i xk xg xq xv xo k (j + 1) (xs + 1) (va_up xp xs j)))
def mm_Mo_choose (sg : Nat) (i : Nat) (n : Nat) (xk : Int32) (xg : Nat) (xr : Nat → Int32) (xt : Nat → Int32) (xp : Nat → Nat) (xq : Nat → Int32) (xv : Nat → Nat) (xo : Nat → Int32) : Int32 × (Nat) × (Nat) × (Nat → Nat) × (Nat → Int32) × (Nat → Nat) × (Nat → Int32) := (if (mm_Mo_local sg i n xk xt) = (0 : Int32) then (match mm_Mo_goOver sg n xr xt xp xq xv xo with | (xs_11, xg_11, xp_11, xq_11, xv_11, xo_11) => (if (nI xg_11) = (6 : Int32) then ((1 : Int32), xs_11, xg_11, xp_11, xq_11, xv_11, xo_11) else ((0 : Int32), xs_11, xg_11, xp_11, xq_11, xv_11, xo_11))) else (mm_Mo_choose_L36 i xk xg xq xv xo n 0 0 xp))
set_option maxHeartbeats 4000000 in
set_option maxRecDepth 100000 in
theorem cc_Mo_choose {l : Launch} (D : va_G) (K : Nat → ClassId) (mh m1 m2 m3 m4 m5 m6 m7 m8 m9 : Nat) (sg : Nat) (i : Nat) (n : Nat) (xk : Int32) (xa : Int32) (xb : Int32) (xc : Int32) (xe : Int32) (xl : Int64) (xs : Nat) (xg : Nat) (xr : Nat → Int32) (xd : Nat → Int64) (xt : Nat → Int32) (xf : Nat → Int64) (xw : Nat → Int32) (xp : Nat → Nat) (xq : Nat → Int32) (xv : Nat → Nat) (xo : Nat → Int32) (hsg : sg < 3) (hi : i < n) (hn : n ≤ 11) (hn6 : 6 ≤ n) : ly_i l yy_Mo_choose bb_Mo_choose 4 (some .boolean) 4 93 D K [.ref mh, .int (nI sg), .int (nI i)] (ws_Mo K mh m1 m2 m3 m4 m5 m6 m7 m8 m9 n xk xa xb xc xe xl xs xg xr xd xt xf xw xp xq xv xo) (fun z => z.1) (fun z => (ws_Mo K mh m1 m2 m3 m4 m5 m6 m7 m8 m9 n xk xa xb xc xe xl (z.2.1) (z.2.2.1) xr xd xt xf xw (z.2.2.2.1) (z.2.2.2.2.1) (z.2.2.2.2.2.1) (z.2.2.2.2.2.2))) (mm_Mo_choose sg i n xk xg xr xt xp xq xv xo) := by
  refine ly_entI (by decide) (Nat.le_of_ble_eq_true rfl) ?_
  intro p e s m av below meth c A ls R Q H locs res hM C hRf hRl hS hP hD hl ret
  obtain ⟨hx, hb, -⟩ := id C
  have hcs : 0 ≤ R.cells ∧ 0 ≤ R.slots := ⟨Nat.zero_le _, Nat.zero_le _⟩
  have hl : lv_has ls 4 [(0, .ref mh), (1, .int (nI sg)), (2, .int (nI i))] := hl
  rw [mm_Mo_choose] at hM
  refine lv_aload_n hx hb dd_Mo_choose_0 rfl (lv_at hl 0 rfl) ?_
  refine lv_iload_n hx hb dd_Mo_choose_1 rfl (lv_at hl 1 rfl) ?_
  refine lv_iload_n hx hb dd_Mo_choose_2 rfl (lv_at hl 2 rfl) ?_
  obtain ⟨r_3, hq3⟩ : ∃ z, z = mm_Mo_local sg i n xk xt := ⟨_, rfl⟩
  try rw [← hq3] at hM
  refine ly_cV_i (n := 2) (z := r_3) (rest := []) (wn := (ws_Mo K mh m1 m2 m3 m4 m5 m6 m7 m8 m9 n xk xa xb xc xe xl xs xg xr xd xt xf xw xp xq xv xo)) C (cc_Mo_local D K mh m1 m2 m3 m4 m5 m6 m7 m8 m9 sg i n xk xa xb xc xe xl xs xg xr xd xt xf xw xp xq xv xo (by omega) (by omega) (by omega) (by omega)) hq3 wa_310 wa_322 wa_265 wa_323 wa_324 (by decide) (Nat.le_trans (by decide) hRf) (Nat.le_trans (by decide) hRl) rfl hl.1 rfl (Nat.le_of_ble_eq_true rfl) dd_Mo_choose_3 hcs [0, 1, 2, 3, 4, 5, 6, 7, 8, 9] [] [0, 1, 2, 3, 4, 5, 6, 7, 8, 9] hP hD hS rfl rfl (by decide) rfl rfl rfl (fun H locs hP hD hS => ?_)
  refine W.eq (g2 := F0 m 6 ls [.int r_3]) rfl ?_
  refine lv_if_ne (tgt := 29) hx hb dd_Mo_choose_6 (by decide) (fun h6 => ?_) (fun h6 => ?_)
  · rw [if_neg h6] at hM
    refine lv_aload_n hx hb dd_Mo_choose_29 rfl (lv_at hl 0 rfl) ?_
    refine lv_iconst (v := (0 : Int32)) hx hb dd_Mo_choose_30 (by decide) ?_
    refine ly_put (ws' := (ws_Mo K mh m1 m2 m3 m4 m5 m6 m7 m8 m9 n xk xa xb xc xe xl 0 xg xr xd xt xf xw xp xq xv xo)) C hP hD hS 0 rfl uw_Mo tt_Mo nn_Mo rfl 12 (by decide) wa_317 rfl rfl rfl (Nat.le_of_ble_eq_true rfl) dd_Mo_choose_31 rfl (fun H locs hP hD hS => ?_)
    refine lv_iconst (v := (0 : Int32)) hx hb dd_Mo_choose_34 (by decide) ?_
    refine lv_istore_n (lv' := [(3, .int (0 : Int32)), (0, .ref mh), (1, .int (nI sg)), (2, .int (nI i))]) hx hb dd_Mo_choose_35 rfl hl (by decide) rfl (fun ls hl => ?_)
    have lp36 : ∀ (k : Nat) (j : Nat) (xs : Nat) (xp : Nat → Nat) (ls : Array Slot) (H : Heap) (locs : List Loc), j + k = n → (xs ≤ j) → mm_Mo_choose_L36 i xk xg xq xv xo k j xs xp = res → lv_has ls 4 [(3, .int (nI j)), (0, .ref mh), (1, .int (nI sg)), (2, .int (nI i))] → va_P D cl_all (ws_Mo K mh m1 m2 m3 m4 m5 m6 m7 m8 m9 n xk xa xb xc xe xl xs xg xr xd xt xf xw xp xq xv xo) H → va_D A (ws_Mo K mh m1 m2 m3 m4 m5 m6 m7 m8 m9 n xk xa xb xc xe xl xs xg xr xd xt xf xw xp xq xv xo) → va_S A s.heap H locs → W p l e R s m av below meth c H locs 0 0 Q (F0 m 36 ls []) := by
      intro k
      induction k with
      | zero =>
        intro j xs xp ls H locs hjk36 hps hM hl hP hD hS
        have hj0 : j = n := by omega
        subst j
        rw [mm_Mo_choose_L36] at hM
        refine lv_iload_n hx hb dd_Mo_choose_36 rfl (lv_at hl 0 rfl) ?_
        refine lv_aload_n hx hb dd_Mo_choose_37 rfl (lv_at hl 1 rfl) ?_
        refine ly_get (v := .int (nI n)) C hP 0 rfl uw_Mo rfl 1 (by decide) wa_263 rfl dd_Mo_choose_38 ?_
        refine lv_icmp_ge (tgt := 79) hx hb dd_Mo_choose_41 (by decide) (fun _ => ?_) (fun h => absurd (nI_le (a := n) (b := n) (by omega) (by omega)) h)
        refine lv_iconst (v := (1 : Int32)) hx hb dd_Mo_choose_79 (by decide) ?_
        exact ret ((1 : Int32), xs, xg, xp, xq, xv, xo) H locs 80 ls hM ly_z1 hS hP hD dd_Mo_choose_80
      | succ k ih36 =>
        intro j xs xp ls H locs hjk36 hps hM hl hP hD hS
        rw [mm_Mo_choose_L36] at hM
        refine lv_iload_n hx hb dd_Mo_choose_36 rfl (lv_at hl 0 rfl) ?_
        refine lv_aload_n hx hb dd_Mo_choose_37 rfl (lv_at hl 1 rfl) ?_
        refine ly_get (v := .int (nI n)) C hP 0 rfl uw_Mo rfl 1 (by decide) wa_263 rfl dd_Mo_choose_38 ?_
        refine lv_icmp_ge (tgt := 79) hx hb dd_Mo_choose_41 (by decide) (fun h => absurd h (nI_ge (a := j) (b := n) (by omega) (by omega))) (fun _ => ?_)
        refine lv_aload_n hx hb dd_Mo_choose_44 rfl (lv_at hl 1 rfl) ?_
        refine lv_iload_n hx hb dd_Mo_choose_45 rfl (lv_at hl 3 rfl) ?_
        refine lv_iload_n hx hb dd_Mo_choose_46 rfl (lv_at hl 0 rfl) ?_
        obtain ⟨r_47, hq47⟩ : ∃ z, z = mm_Mo_grouped i j xk := ⟨_, rfl⟩
        try rw [← hq47] at hM
        refine ly_cV_i (n := 2) (z := r_47) (rest := []) (wn := (ws_Mo K mh m1 m2 m3 m4 m5 m6 m7 m8 m9 n xk xa xb xc xe xl xs xg xr xd xt xf xw xp xq xv xo)) C (cc_Mo_grouped D K mh m1 m2 m3 m4 m5 m6 m7 m8 m9 i j n xk xa xb xc xe xl xs xg xr xd xt xf xw xp xq xv xo (by omega) (by omega) (by omega) (by omega)) hq47 wa_305 wa_311 wa_265 wa_312 wa_313 (by decide) (Nat.le_trans (by decide) hRf) (Nat.le_trans (by decide) hRl) rfl hl.1 rfl (Nat.le_of_ble_eq_true rfl) dd_Mo_choose_47 hcs [0, 1, 2, 3, 4, 5, 6, 7, 8, 9] [] [0, 1, 2, 3, 4, 5, 6, 7, 8, 9] hP hD hS rfl rfl (by decide) rfl rfl rfl (fun H locs hP hD hS => ?_)
        refine W.eq (g2 := F0 m 50 ls [.int r_47]) rfl ?_
        refine lv_if_eq (tgt := 73) hx hb dd_Mo_choose_50 (by decide) (fun h50 => ?_) (fun h50 => ?_)
        · rw [if_pos h50] at hM
          refine lv_iinc (k := 0) (v := (nI (j + 1))) (lv' := [(3, .int (nI (j + 1))), (0, .ref mh), (1, .int (nI sg)), (2, .int (nI i))]) hx hb dd_Mo_choose_73 hl rfl (ly_incN _) (by decide) rfl (fun ls hl => ?_)
          refine lv_goto (tgt := 36) hx hb dd_Mo_choose_76 (by decide) ?_
          exact ih36 (j + 1) xs xp ls H locs (by omega) (by omega) hM (lv_sub hl [0, 1, 2, 3] rfl) hP hD hS
        · rw [if_neg h50] at hM
          refine lv_aload_n hx hb dd_Mo_choose_53 rfl (lv_at hl 1 rfl) ?_
          refine ly_get (v := .ref m6) C hP 0 rfl uw_Mo rfl 13 (by decide) wa_258 rfl dd_Mo_choose_54 ?_
          refine lv_aload_n hx hb dd_Mo_choose_57 rfl (lv_at hl 1 rfl) ?_
          refine ly_get (v := .int (nI xs)) C hP 0 rfl uw_Mo rfl 12 (by decide) wa_317 rfl dd_Mo_choose_58 ?_
          refine lv_iload_n hx hb dd_Mo_choose_61 rfl (lv_at hl 0 rfl) ?_
          refine ly_nast (ws' := (ws_Mo K mh m1 m2 m3 m4 m5 m6 m7 m8 m9 n xk xa xb xc xe xl xs xg xr xd xt xf xw (va_up xp xs j) xq xv xo)) C hP hD hS 6 rfl j (by omega) xs rfl rfl (by omega) (by omega) dd_Mo_choose_62 rfl (fun H locs hP hD hS => ?_)
          refine lv_aload_n hx hb dd_Mo_choose_63 rfl (lv_at hl 1 rfl) ?_
          refine lv_dup hx hb dd_Mo_choose_64 rfl ?_
          refine ly_get (v := .int (nI xs)) C hP 0 rfl uw_Mo rfl 12 (by decide) wa_317 rfl dd_Mo_choose_65 ?_
          refine lv_iconst (v := (1 : Int32)) hx hb dd_Mo_choose_68 (by decide) ?_
          refine ly_iaddN C xs 1 rfl rfl dd_Mo_choose_69 ?_
          refine ly_put (ws' := (ws_Mo K mh m1 m2 m3 m4 m5 m6 m7 m8 m9 n xk xa xb xc xe xl (xs + 1) xg xr xd xt xf xw (va_up xp xs j) xq xv xo)) C hP hD hS 0 rfl uw_Mo tt_Mo nn_Mo rfl 12 (by decide) wa_317 rfl rfl rfl (Nat.le_of_ble_eq_true rfl) dd_Mo_choose_70 rfl (fun H locs hP hD hS => ?_)
          refine lv_iinc (k := 0) (v := (nI (j + 1))) (lv' := [(3, .int (nI (j + 1))), (0, .ref mh), (1, .int (nI sg)), (2, .int (nI i))]) hx hb dd_Mo_choose_73 hl rfl (ly_incN _) (by decide) rfl (fun ls hl => ?_)
          refine lv_goto (tgt := 36) hx hb dd_Mo_choose_76 (by decide) ?_
          exact ih36 (j + 1) (xs + 1) (va_up xp xs j) ls H locs (by omega) (by omega) hM (lv_sub hl [0, 1, 2, 3] rfl) hP hD hS
    exact lp36 n 0 0 xp ls H locs (by omega) (by omega) hM (lv_sub hl [0, 1, 2, 3] rfl) hP hD hS
  · rw [if_pos h6] at hM
    refine lv_aload_n hx hb dd_Mo_choose_9 rfl (lv_at hl 0 rfl) ?_
    refine lv_iload_n hx hb dd_Mo_choose_10 rfl (lv_at hl 1 rfl) ?_
    obtain ⟨⟨xs_11, xg_11, xp_11, xq_11, xv_11, xo_11⟩, hq11⟩ : ∃ z, z = mm_Mo_goOver sg n xr xt xp xq xv xo := ⟨_, rfl⟩
    try rw [← hq11] at hM
    try dsimp only at hM
    refine ly_cV_v (n := 1) (z := (xs_11, xg_11, xp_11, xq_11, xv_11, xo_11)) (rest := []) (wn := (ws_Mo K mh m1 m2 m3 m4 m5 m6 m7 m8 m9 n xk xa xb xc xe xl xs_11 xg_11 xr xd xt xf xw xp_11 xq_11 xv_11 xo_11)) C (cc_Mo_goOver D K mh m1 m2 m3 m4 m5 m6 m7 m8 m9 sg n xk xa xb xc xe xl xs xg xr xd xt xf xw xp xq xv xo (by omega) (by omega) (by omega)) hq11 wa_316 wa_325 wa_265 wa_326 wa_327 (by decide) (Nat.le_trans (by decide) hRf) (Nat.le_trans (by decide) hRl) rfl hl.1 rfl (Nat.le_of_ble_eq_true rfl) dd_Mo_choose_11 hcs [0, 1, 2, 3, 4, 5, 6, 7, 8, 9] [] [0, 1, 2, 3, 4, 5, 6, 7, 8, 9] hP hD hS rfl rfl (by decide) rfl rfl rfl (fun H locs hP hD hS => ?_)
    refine W.eq (g2 := F0 m 14 ls []) rfl ?_
    refine lv_aload_n hx hb dd_Mo_choose_14 rfl (lv_at hl 0 rfl) ?_
    refine ly_get (v := .int (nI xg_11)) C hP 0 rfl uw_Mo rfl 14 (by decide) wa_315 rfl dd_Mo_choose_15 ?_
    refine lv_bipush (v := (6 : Int32)) hx hb dd_Mo_choose_18 (by decide) ?_
    refine lv_icmp_ne (tgt := 27) hx hb dd_Mo_choose_20 (by decide) (fun h20 => ?_) (fun h20 => ?_)
    · rw [if_neg h20] at hM
      refine lv_iconst (v := (0 : Int32)) hx hb dd_Mo_choose_27 (by decide) ?_
      exact ret ((0 : Int32), xs_11, xg_11, xp_11, xq_11, xv_11, xo_11) H locs 28 ls hM ly_z0 hS hP hD dd_Mo_choose_28
    · rw [if_pos h20] at hM
      refine lv_iconst (v := (1 : Int32)) hx hb dd_Mo_choose_23 (by decide) ?_
      refine lv_goto (tgt := 28) hx hb dd_Mo_choose_24 (by decide) ?_
      exact ret ((1 : Int32), xs_11, xg_11, xp_11, xq_11, xv_11, xo_11) H locs 28 ls hM ly_z1 hS hP hD dd_Mo_choose_28
theorem ps_goOver12 {sg : Nat} {xr xt : Nat → Int32} : ∀ (k j xs xg : Nat) (xp : Nat → Nat) (xq : Nat → Int32) (xv : Nat → Nat) (xo : Nat → Int32), xs ≤ j → (mm_Mo_goOver_L12 sg xr xt k j xs xg xp xq xv xo).1 ≤ j + k
  | 0, j, xs, xg, xp, xq, xv, xo, h => by rw [mm_Mo_goOver_L12]; exact h
  | k + 1, j, xs, xg, xp, xq, xv, xo, h => by
    rw [mm_Mo_goOver_L12, show j + (k + 1) = j + 1 + k by omega]
    split
    · exact ps_goOver12 k (j + 1) _ _ _ _ _ _ (by omega)
    · split
      · exact ps_goOver12 k (j + 1) _ _ _ _ _ _ (by omega)
      · obtain ⟨⟨r, a, b, c, d⟩, hz⟩ : ∃ z, z = mm_Mo_adds j xg xr xq xv xo := ⟨_, rfl⟩
        rw [← hz]
        dsimp only
        split
        · exact ps_goOver12 k (j + 1) _ _ _ _ _ _ (by omega)
        · exact ps_goOver12 k (j + 1) _ _ _ _ _ _ (by omega)
theorem ps_choose36 {i xg : Nat} {xk : Int32} {xq xo : Nat → Int32} {xv : Nat → Nat} : ∀ (k j xs : Nat) (xp : Nat → Nat), xs ≤ j → (mm_Mo_choose_L36 i xk xg xq xv xo k j xs xp).2.1 ≤ j + k
  | 0, j, xs, xp, h => by rw [mm_Mo_choose_L36]; exact h
  | k + 1, j, xs, xp, h => by
    rw [mm_Mo_choose_L36, show j + (k + 1) = j + 1 + k by omega]
    split
    · exact ps_choose36 k (j + 1) _ _ (by omega)
    · exact ps_choose36 k (j + 1) _ _ (by omega)
theorem ps_choose {sg i n xg xs' xg' : Nat} {r xk : Int32} {xr xt xq xq' xo xo' : Nat → Int32} {xp xp' xv xv' : Nat → Nat} (hn : n ≤ 11) (h : (r, xs', xg', xp', xq', xv', xo') = mm_Mo_choose sg i n xk xg xr xt xp xq xv xo) : xs' ≤ 11 := by
  have e : xs' = (mm_Mo_choose sg i n xk xg xr xt xp xq xv xo).2.1 := by rw [← h]
  rw [e]
  unfold mm_Mo_choose
  split
  · have h1 := ps_goOver12 (sg := sg) (xr := xr) (xt := xt) n 0 0 0 xp xq xv xo (Nat.le_refl _)
    unfold mm_Mo_goOver
    obtain ⟨⟨a1, a2, a3, a4, a5, a6⟩, hz⟩ : ∃ z, z = mm_Mo_goOver_L12 sg xr xt n 0 0 0 xp xq xv xo := ⟨_, rfl⟩
    rw [← hz] at h1 ⊢
    dsimp only at h1 ⊢
    split
    · show a1 ≤ 11; omega
    · show a1 ≤ 11; omega
  · have h1 := ps_choose36 (i := i) (xg := xg) (xk := xk) (xq := xq) (xo := xo) (xv := xv) n 0 0 xp (Nat.le_refl _)
    omega
