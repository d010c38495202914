def ws_Sq (K : Nat → ClassId) (a0 aw af : Nat) (n : Nat) (fn : Nat) (al : Int32) (th : Int32) (wr : Nat → Int64) (fl : Nat → Int64) : va_W := [(a0, .inr (3, [.int (nI fn), .int al, .ref aw, .ref af, .int th])), (aw, .inl (K 0, n, .inr (.inl wr))), (af, .inl (K 0, n, .inr (.inl fl)))]
def ws_Co (K : Nat → ClassId) (ac ar : Nat) (n : Nat) (gr : Int32) : va_W := [(ac, .inr (1, [.int (nI n), .ref ar, .int gr]))]
def ws_Sp (K : Nat → ClassId) (ap aq ax : Nat) (sr : Nat → Int64) (sv : Nat → Int64) : va_W := [(ap, .inr (2, [.ref aq, .ref ax])), (aq, .inl (K 0, 6, .inr (.inl sr))), (ax, .inl (K 0, 6, .inr (.inl sv)))]
def ws_RI (K : Nat → ClassId) (ah ac ap az au ak ar : Nat) (n : Nat) (lf : Int64) (rb : Int64) (gr : Int32) : va_W := [(ah, .inr (0, [.ref ac, .ref ap, .ref az, .ref au, .ref ak, .long lf, .long rb])), (ac, .inr (1, [.int (nI n), .ref ar, .int gr]))]
def ws_RG (K : Nat → ClassId) (ah ac ar ap aq ax au ak a0 aw af az : Nat) (n : Nat) (fn : Nat) (lf : Int64) (rb : Int64) (gr : Int32) (ro : Nat → Int64) (sr : Nat → Int64) (sv : Nat → Int64) (up : Nat → Int32) (ct : Nat → Int32) (al : Int32) (th : Int32) (wr : Nat → Int64) (fl : Nat → Int64) : va_W := [(ah, .inr (0, [.ref ac, .ref ap, .ref az, .ref au, .ref ak, .long lf, .long rb])), (ac, .inr (1, [.int (nI n), .ref ar, .int gr])), (ar, .inl (K 0, n, .inr (.inl ro))), (ap, .inr (2, [.ref aq, .ref ax])), (aq, .inl (K 0, 6, .inr (.inl sr))), (ax, .inl (K 0, 6, .inr (.inl sv))), (au, .inl (K 2, 12, .inl up)), (ak, .inl (K 1, 4, .inl ct)), (a0, .inr (3, [.int (nI fn), .int al, .ref aw, .ref af, .int th])), (aw, .inl (K 0, n, .inr (.inl wr))), (af, .inl (K 0, n, .inr (.inl fl)))]
def ws_LJ (K : Nat → ClassId) (ah ac ar ap aq ax au ak a0 aw af az : Nat) (n : Nat) (fn : Nat) (lf : Int64) (rb : Int64) (gr : Int32) (ro : Nat → Int64) (sr : Nat → Int64) (sv : Nat → Int64) (up : Nat → Int32) (ct : Nat → Int32) (al : Int32) (th : Int32) (wr : Nat → Int64) (fl : Nat → Int64) (sf : Nat → Option Nat) (t1 : Nat × va_E) (t2 : Nat × va_E) (t3 : Nat × va_E) (t4 : Nat × va_E) (t5 : Nat × va_E) (t6 : Nat × va_E) : va_W := [(ah, .inr (0, [.ref ac, .ref ap, .ref az, .ref au, .ref ak, .long lf, .long rb])), (ac, .inr (1, [.int (nI n), .ref ar, .int gr])), (ar, .inl (K 0, n, .inr (.inl ro))), (ap, .inr (2, [.ref aq, .ref ax])), (aq, .inl (K 0, 6, .inr (.inl sr))), (ax, .inl (K 0, 6, .inr (.inl sv))), (au, .inl (K 2, 12, .inl up)), (ak, .inl (K 1, 4, .inl ct)), (a0, .inr (3, [.int (nI fn), .int al, .ref aw, .ref af, .int th])), (aw, .inl (K 0, n, .inr (.inl wr))), (af, .inl (K 0, n, .inr (.inl fl))), (az, .inl (K 3, 3, .inr (.inr (.inr (.inr sf))))), t1, t2, t3, t4, t5, t6]
def ws_L3x (K : Nat → ClassId) (ah ac ar ap aq ax au ak az b0 c0 d0 b1 c1 d1 b2 c2 d2 : Nat) (n : Nat) (lf : Int64) (rb : Int64) (gr : Int32) (ro : Nat → Int64) (sr : Nat → Int64) (sv : Nat → Int64) (up : Nat → Int32) (ct : Nat → Int32) (sf : Nat → Option Nat) (al : Int32) (th0 : Int32) (wr0 : Nat → Int64) (fl0 : Nat → Int64) (th1 : Int32) (wr1 : Nat → Int64) (fl1 : Nat → Int64) (th2 : Int32) (wr2 : Nat → Int64) (fl2 : Nat → Int64) : va_W := [(ah, .inr (0, [.ref ac, .ref ap, .ref az, .ref au, .ref ak, .long lf, .long rb])), (ac, .inr (1, [.int (nI n), .ref ar, .int gr])), (ar, .inl (K 0, n, .inr (.inl ro))), (ap, .inr (2, [.ref aq, .ref ax])), (aq, .inl (K 0, 6, .inr (.inl sr))), (ax, .inl (K 0, 6, .inr (.inl sv))), (au, .inl (K 2, 12, .inl up)), (ak, .inl (K 1, 4, .inl ct)), (az, .inl (K 3, 3, .inr (.inr (.inr (.inr sf))))), (b0, .inr (3, [.int (nI 0), .int al, .ref c0, .ref d0, .int th0])), (c0, .inl (K 0, n, .inr (.inl wr0))), (d0, .inl (K 0, n, .inr (.inl fl0))), (b1, .inr (3, [.int (nI 5), .int al, .ref c1, .ref d1, .int th1])), (c1, .inl (K 0, n, .inr (.inl wr1))), (d1, .inl (K 0, n, .inr (.inl fl1))), (b2, .inr (3, [.int (nI 10), .int al, .ref c2, .ref d2, .int th2])), (c2, .inl (K 0, n, .inr (.inl wr2))), (d2, .inl (K 0, n, .inr (.inl fl2)))]
theorem ly_mod12 {f i : Nat} (h : f + i < 2 ^ 31) : ((nI f + nI i) - (nI f + nI i) / (12 : Int32) * (12 : Int32)) = nI ((f + i) % 12) := by
  rw [nI_add]; exact pk_rem h (by decide) (by decide)
theorem ly_rng {y : Int32} {N : Nat} (h0 : ¬ y < 0) (h1 : y < nI N) (hN : N < 2 ^ 31) : ∃ i, i < N ∧ y = nI i := by
  obtain ⟨j, hj, rfl⟩ := nI_of h0
  exact ⟨j, (nI_ltI hj hN).mp h1, rfl⟩
theorem ly_rng2 {y : Int32} {N : Nat} (h0 : ¬ y < 0) (h1 : ¬ nI N ≤ y) (hN : N < 2 ^ 31) : ∃ i, i < N ∧ y = nI i := by
  obtain ⟨j, hj, rfl⟩ := nI_of h0
  exact ⟨j, Nat.lt_of_not_le (fun h => h1 ((nI_leI hN hj).mpr h)), rfl⟩
theorem ly_z0 : narrow .boolean (.int (0 : Int32)) = .int 0 := by decide
theorem ly_z1 : narrow .boolean (.int (1 : Int32)) = .int 1 := by decide
def mm_By_at (bs : Int64) (i : Nat) : Int32 := (((bs.toUInt64 >>> (((8 : Int32) * (nI i)).toInt64.toUInt64 &&& Int64.toUInt64 63)).toInt64).toInt32 &&& (255 : Int32))
set_option maxHeartbeats 4000000 in
set_option maxRecDepth 100000 in
theorem cc_By_at {l : Launch} (D : va_G) (K : Nat → ClassId) (bs : Int64) (i : Nat) : ly_i l yy_By_at bb_By_at 3 (some .int) 0 0 D K [.long bs, .int (nI i)] ([] : va_W) (fun z => z) (fun _ => ([] : va_W)) (mm_By_at bs i) := by
  refine ly_entI (by decide) (Nat.le_of_ble_eq_true rfl) ?_
  intro p e s m av below meth c A ls R Q H locs res hM C hRf hRl hS hP hD hl ret
  obtain ⟨hx, hb, -⟩ := id C
  have hcs : 0 ≤ R.cells ∧ 0 ≤ R.slots := ⟨Nat.zero_le _, Nat.zero_le _⟩
  have hl : lv_has ls 3 [(0, .long bs), (2, .int (nI i))] := hl
  rw [mm_By_at] at hM
  refine lv_lload_n hx hb dd_By_at_0 rfl (lv_at hl 0 rfl) ?_
  refine lv_bipush (v := (8 : Int32)) hx hb dd_By_at_1 (by decide) ?_
  refine lv_iload_n hx hb dd_By_at_3 rfl (lv_at hl 1 rfl) ?_
  refine lv_imul hx hb dd_By_at_4 ?_
  refine lv_lushr (v := (bs.toUInt64 >>> (((8 : Int32) * (nI i)).toInt64.toUInt64 &&& Int64.toUInt64 63)).toInt64) hx hb dd_By_at_5 rfl ?_
  refine lv_l2i (v := ((bs.toUInt64 >>> (((8 : Int32) * (nI i)).toInt64.toUInt64 &&& Int64.toUInt64 63)).toInt64).toInt32) hx hb dd_By_at_6 rfl ?_
  refine lv_sipush (v := (255 : Int32)) hx hb dd_By_at_7 (by decide) ?_
  refine lv_iand hx hb dd_By_at_10 ?_
  exact ret (((bs.toUInt64 >>> (((8 : Int32) * (nI i)).toInt64.toUInt64 &&& Int64.toUInt64 63)).toInt64).toInt32 &&& (255 : Int32)) H locs 11 ls hM rfl hS hP hD dd_By_at_11

def mm_By_placed (x : Int32) (i : Nat) : Int64 := (x.toInt64 <<< (((8 : Int32) * (nI i)).toInt64 &&& 63))
set_option maxHeartbeats 4000000 in
set_option maxRecDepth 100000 in
theorem cc_By_placed {l : Launch} (D : va_G) (K : Nat → ClassId) (x : Int32) (i : Nat) : ly_l l yy_By_placed bb_By_placed 2 (some .long) 0 0 D K [.int x, .int (nI i)] ([] : va_W) (fun z => z) (fun _ => ([] : va_W)) (mm_By_placed x i) := by
  refine ly_entL (by decide) (Nat.le_of_ble_eq_true rfl) ?_
  intro p e s m av below meth c A ls R Q H locs res hM C hRf hRl hS hP hD hl ret
  obtain ⟨hx, hb, -⟩ := id C
  have hcs : 0 ≤ R.cells ∧ 0 ≤ R.slots := ⟨Nat.zero_le _, Nat.zero_le _⟩
  have hl : lv_has ls 2 [(0, .int x), (1, .int (nI i))] := hl
  rw [mm_By_placed] at hM
  refine lv_iload_n hx hb dd_By_placed_0 rfl (lv_at hl 0 rfl) ?_
  refine lv_i2l (v := x.toInt64) hx hb dd_By_placed_1 rfl ?_
  refine lv_bipush (v := (8 : Int32)) hx hb dd_By_placed_2 (by decide) ?_
  refine lv_iload_n hx hb dd_By_placed_4 rfl (lv_at hl 1 rfl) ?_
  refine lv_imul hx hb dd_By_placed_5 ?_
  refine lv_lshl (v := (x.toInt64 <<< (((8 : Int32) * (nI i)).toInt64 &&& 63))) hx hb dd_By_placed_6 rfl ?_
  exact ret (x.toInt64 <<< (((8 : Int32) * (nI i)).toInt64 &&& 63)) H locs 7 ls hM hS hP hD dd_By_placed_7

def mm_By_times_L8 (x : Int32) : Nat → Nat → (Int64) → (Int64) → Int64
  | 0, j, v3, v5 => v3
  | k + 1, j, v3, v5 => (if ((x >>> ((nI j) &&& 31)) &&& (1 : Int32)) = (0 : Int32) then (mm_By_times_L8 x k (j + 1) v3 (((v5 &&& (9187201950435737471 : Int64)) <<< ((1 : Int32).toInt64 &&& 63)) ^^^ (((v5.toUInt64 >>> ((7 : Int32).toInt64.toUInt64 &&& Int64.toUInt64 63)).toInt64 &&& (72340172838076673 : Int64)) * (29 : Int64)))) else (mm_By_times_L8 x k (j + 1) (v3 ^^^ v5) (((v5 &&& (9187201950435737471 : Int64)) <<< ((1 : Int32).toInt64 &&& 63)) ^^^ (((v5.toUInt64 >>> ((7 : Int32).toInt64.toUInt64 &&& Int64.toUInt64 63)).toInt64 &&& (72340172838076673 : Int64)) * (29 : Int64)))))
def mm_By_times (x : Int32) (bs : Int64) : Int64 := (mm_By_times_L8 x 8 0 (0 : Int64) bs)
set_option maxHeartbeats 4000000 in
set_option maxRecDepth 100000 in
theorem cc_By_times {l : Launch} (D : va_G) (K : Nat → ClassId) (x : Int32) (bs : Int64) : ly_l l yy_By_times bb_By_times 12 (some .long) 0 0 D K [.int x, .long bs] ([] : va_W) (fun z => z) (fun _ => ([] : va_W)) (mm_By_times x bs) := by
  refine ly_entL (by decide) (Nat.le_of_ble_eq_true rfl) ?_
  intro p e s m av below meth c A ls R Q H locs res hM C hRf hRl hS hP hD hl ret
  obtain ⟨hx, hb, -⟩ := id C
  have hcs : 0 ≤ R.cells ∧ 0 ≤ R.slots := ⟨Nat.zero_le _, Nat.zero_le _⟩
  have hl : lv_has ls 12 [(0, .int x), (1, .long bs)] := hl
  rw [mm_By_times] at hM
  refine lv_lconst (v := (0 : Int64)) hx hb dd_By_times_0 (by decide) ?_
  refine lv_lstore_n (lv' := [(3, .long (0 : Int64)), (0, .int x), (1, .long bs)]) hx hb dd_By_times_1 rfl hl (by decide) rfl (fun ls hl => ?_)
  refine lv_lload_n hx hb dd_By_times_2 rfl (lv_at hl 2 rfl) ?_
  refine lv_lstore (lv' := [(5, .long bs), (3, .long (0 : Int64)), (0, .int x), (1, .long bs)]) hx hb dd_By_times_3 hl (by decide) rfl (fun ls hl => ?_)
  refine lv_iconst (v := (0 : Int32)) hx hb dd_By_times_5 (by decide) ?_
  refine lv_istore (lv' := [(7, .int (0 : Int32)), (5, .long bs), (3, .long (0 : Int64)), (0, .int x), (1, .long bs)]) hx hb dd_By_times_6 hl (by decide) rfl (fun ls hl => ?_)
  have lp8 : ∀ (k : Nat) (j : Nat) (v3 : Int64) (v5 : Int64) (ls : Array Slot) (H : Heap) (locs : List Loc), j + k = 8 → mm_By_times_L8 x k j v3 v5 = res → lv_has ls 12 [(7, .int (nI j)), (5, .long v5), (3, .long v3), (0, .int x), (1, .long bs)] → va_P D cl_all ([] : va_W) H → va_D A ([] : va_W) → va_S A s.heap H locs → W p l e R s m av below meth c H locs 0 0 Q (F0 m 8 ls []) := by
    intro k
    induction k with
    | zero =>
      intro j v3 v5 ls H locs hjk8 hM hl hP hD hS
      have hj0 : j = 8 := by omega
      subst j
      rw [mm_By_times_L8] at hM
      refine lv_iload hx hb dd_By_times_8 (lv_at hl 0 rfl) ?_
      refine lv_bipush (v := (8 : Int32)) hx hb dd_By_times_10 (by decide) ?_
      refine lv_icmp_ge (tgt := 67) hx hb dd_By_times_12 (by decide) (fun _ => ?_) (fun h => absurd (nI_le (a := 8) (b := 8) (by omega) (by omega)) h)
      refine lv_lload_n hx hb dd_By_times_67 rfl (lv_at hl 2 rfl) ?_
      exact ret v3 H locs 68 ls hM hS hP hD dd_By_times_68
    | succ k ih8 =>
      intro j v3 v5 ls H locs hjk8 hM hl hP hD hS
      rw [mm_By_times_L8] at hM
      refine lv_iload hx hb dd_By_times_8 (lv_at hl 0 rfl) ?_
      refine lv_bipush (v := (8 : Int32)) hx hb dd_By_times_10 (by decide) ?_
      refine lv_icmp_ge (tgt := 67) hx hb dd_By_times_12 (by decide) (fun h => absurd h (nI_ge (a := j) (b := 8) (by omega) (by omega))) (fun _ => ?_)
      refine lv_iload_n hx hb dd_By_times_15 rfl (lv_at hl 3 rfl) ?_
      refine lv_iload hx hb dd_By_times_16 (lv_at hl 0 rfl) ?_
      refine lv_ishr hx hb dd_By_times_18 ?_
      refine lv_iconst (v := (1 : Int32)) hx hb dd_By_times_19 (by decide) ?_
      refine lv_iand hx hb dd_By_times_20 ?_
      refine lv_if_eq (tgt := 29) hx hb dd_By_times_21 (by decide) (fun h21 => ?_) (fun h21 => ?_)
      · rw [if_pos h21] at hM
        refine lv_lload hx hb dd_By_times_29 (lv_at hl 1 rfl) ?_
        refine lv_bipush (v := (7 : Int32)) hx hb dd_By_times_31 (by decide) ?_
        refine lv_lushr (v := (v5.toUInt64 >>> ((7 : Int32).toInt64.toUInt64 &&& Int64.toUInt64 63)).toInt64) hx hb dd_By_times_33 rfl ?_
        refine ly_ldc2 (x := (72340172838076673 : Int64)) C wa_199 dd_By_times_34 ?_
        refine lv_land hx hb dd_By_times_37 ?_
        refine lv_lstore (lv' := [(8, .long ((v5.toUInt64 >>> ((7 : Int32).toInt64.toUInt64 &&& Int64.toUInt64 63)).toInt64 &&& (72340172838076673 : Int64))), (7, .int (nI j)), (5, .long v5), (3, .long v3), (0, .int x), (1, .long bs)]) hx hb dd_By_times_38 hl (by decide) rfl (fun ls hl => ?_)
        refine lv_lload hx hb dd_By_times_40 (lv_at hl 2 rfl) ?_
        refine ly_ldc2 (x := (9187201950435737471 : Int64)) C wa_200 dd_By_times_42 ?_
        refine lv_land hx hb dd_By_times_45 ?_
        refine lv_lstore (lv' := [(10, .long (v5 &&& (9187201950435737471 : Int64))), (8, .long ((v5.toUInt64 >>> ((7 : Int32).toInt64.toUInt64 &&& Int64.toUInt64 63)).toInt64 &&& (72340172838076673 : Int64))), (7, .int (nI j)), (5, .long v5), (3, .long v3), (0, .int x), (1, .long bs)]) hx hb dd_By_times_46 hl (by decide) rfl (fun ls hl => ?_)
        refine lv_lload hx hb dd_By_times_48 (lv_at hl 0 rfl) ?_
        refine lv_iconst (v := (1 : Int32)) hx hb dd_By_times_50 (by decide) ?_
        refine lv_lshl (v := ((v5 &&& (9187201950435737471 : Int64)) <<< ((1 : Int32).toInt64 &&& 63))) hx hb dd_By_times_51 rfl ?_
        refine lv_lload hx hb dd_By_times_52 (lv_at hl 1 rfl) ?_
        refine ly_ldc2 (x := (29 : Int64)) C wa_201 dd_By_times_54 ?_
        refine lv_lmul hx hb dd_By_times_57 ?_
        refine lv_lxor hx hb dd_By_times_58 ?_
        refine lv_lstore (lv' := [(5, .long (((v5 &&& (9187201950435737471 : Int64)) <<< ((1 : Int32).toInt64 &&& 63)) ^^^ (((v5.toUInt64 >>> ((7 : Int32).toInt64.toUInt64 &&& Int64.toUInt64 63)).toInt64 &&& (72340172838076673 : Int64)) * (29 : Int64)))), (10, .long (v5 &&& (9187201950435737471 : Int64))), (8, .long ((v5.toUInt64 >>> ((7 : Int32).toInt64.toUInt64 &&& Int64.toUInt64 63)).toInt64 &&& (72340172838076673 : Int64))), (7, .int (nI j)), (3, .long v3), (0, .int x), (1, .long bs)]) hx hb dd_By_times_59 hl (by decide) rfl (fun ls hl => ?_)
        refine lv_iinc (k := 3) (v := (nI (j + 1))) (lv' := [(7, .int (nI (j + 1))), (5, .long (((v5 &&& (9187201950435737471 : Int64)) <<< ((1 : Int32).toInt64 &&& 63)) ^^^ (((v5.toUInt64 >>> ((7 : Int32).toInt64.toUInt64 &&& Int64.toUInt64 63)).toInt64 &&& (72340172838076673 : Int64)) * (29 : Int64)))), (10, .long (v5 &&& (9187201950435737471 : Int64))), (8, .long ((v5.toUInt64 >>> ((7 : Int32).toInt64.toUInt64 &&& Int64.toUInt64 63)).toInt64 &&& (72340172838076673 : Int64))), (3, .long v3), (0, .int x), (1, .long bs)]) hx hb dd_By_times_61 hl rfl (ly_incN _) (by decide) rfl (fun ls hl => ?_)
        refine lv_goto (tgt := 8) hx hb dd_By_times_64 (by decide) ?_
        exact ih8 (j + 1) v3 (((v5 &&& (9187201950435737471 : Int64)) <<< ((1 : Int32).toInt64 &&& 63)) ^^^ (((v5.toUInt64 >>> ((7 : Int32).toInt64.toUInt64 &&& Int64.toUInt64 63)).toInt64 &&& (72340172838076673 : Int64)) * (29 : Int64))) ls H locs (by omega) hM (lv_sub hl [0, 1, 4, 5, 6] rfl) hP hD hS
      · rw [if_neg h21] at hM
        refine lv_lload_n hx hb dd_By_times_24 rfl (lv_at hl 2 rfl) ?_
        refine lv_lload hx hb dd_By_times_25 (lv_at hl 1 rfl) ?_
        refine lv_lxor hx hb dd_By_times_27 ?_
        refine lv_lstore_n (lv' := [(3, .long (v3 ^^^ v5)), (7, .int (nI j)), (5, .long v5), (0, .int x), (1, .long bs)]) hx hb dd_By_times_28 rfl hl (by decide) rfl (fun ls hl => ?_)
        refine lv_lload hx hb dd_By_times_29 (lv_at hl 2 rfl) ?_
        refine lv_bipush (v := (7 : Int32)) hx hb dd_By_times_31 (by decide) ?_
        refine lv_lushr (v := (v5.toUInt64 >>> ((7 : Int32).toInt64.toUInt64 &&& Int64.toUInt64 63)).toInt64) hx hb dd_By_times_33 rfl ?_
        refine ly_ldc2 (x := (72340172838076673 : Int64)) C wa_199 dd_By_times_34 ?_
        refine lv_land hx hb dd_By_times_37 ?_
        refine lv_lstore (lv' := [(8, .long ((v5.toUInt64 >>> ((7 : Int32).toInt64.toUInt64 &&& Int64.toUInt64 63)).toInt64 &&& (72340172838076673 : Int64))), (3, .long (v3 ^^^ v5)), (7, .int (nI j)), (5, .long v5), (0, .int x), (1, .long bs)]) hx hb dd_By_times_38 hl (by decide) rfl (fun ls hl => ?_)
        refine lv_lload hx hb dd_By_times_40 (lv_at hl 3 rfl) ?_
        refine ly_ldc2 (x := (9187201950435737471 : Int64)) C wa_200 dd_By_times_42 ?_
        refine lv_land hx hb dd_By_times_45 ?_
        refine lv_lstore (lv' := [(10, .long (v5 &&& (9187201950435737471 : Int64))), (8, .long ((v5.toUInt64 >>> ((7 : Int32).toInt64.toUInt64 &&& Int64.toUInt64 63)).toInt64 &&& (72340172838076673 : Int64))), (3, .long (v3 ^^^ v5)), (7, .int (nI j)), (5, .long v5), (0, .int x), (1, .long bs)]) hx hb dd_By_times_46 hl (by decide) rfl (fun ls hl => ?_)
        refine lv_lload hx hb dd_By_times_48 (lv_at hl 0 rfl) ?_
        refine lv_iconst (v := (1 : Int32)) hx hb dd_By_times_50 (by decide) ?_
        refine lv_lshl (v := ((v5 &&& (9187201950435737471 : Int64)) <<< ((1 : Int32).toInt64 &&& 63))) hx hb dd_By_times_51 rfl ?_
        refine lv_lload hx hb dd_By_times_52 (lv_at hl 1 rfl) ?_
        refine ly_ldc2 (x := (29 : Int64)) C wa_201 dd_By_times_54 ?_
        refine lv_lmul hx hb dd_By_times_57 ?_
        refine lv_lxor hx hb dd_By_times_58 ?_
        refine lv_lstore (lv' := [(5, .long (((v5 &&& (9187201950435737471 : Int64)) <<< ((1 : Int32).toInt64 &&& 63)) ^^^ (((v5.toUInt64 >>> ((7 : Int32).toInt64.toUInt64 &&& Int64.toUInt64 63)).toInt64 &&& (72340172838076673 : Int64)) * (29 : Int64)))), (10, .long (v5 &&& (9187201950435737471 : Int64))), (8, .long ((v5.toUInt64 >>> ((7 : Int32).toInt64.toUInt64 &&& Int64.toUInt64 63)).toInt64 &&& (72340172838076673 : Int64))), (3, .long (v3 ^^^ v5)), (7, .int (nI j)), (0, .int x), (1, .long bs)]) hx hb dd_By_times_59 hl (by decide) rfl (fun ls hl => ?_)
        refine lv_iinc (k := 4) (v := (nI (j + 1))) (lv' := [(7, .int (nI (j + 1))), (5, .long (((v5 &&& (9187201950435737471 : Int64)) <<< ((1 : Int32).toInt64 &&& 63)) ^^^ (((v5.toUInt64 >>> ((7 : Int32).toInt64.toUInt64 &&& Int64.toUInt64 63)).toInt64 &&& (72340172838076673 : Int64)) * (29 : Int64)))), (10, .long (v5 &&& (9187201950435737471 : Int64))), (8, .long ((v5.toUInt64 >>> ((7 : Int32).toInt64.toUInt64 &&& Int64.toUInt64 63)).toInt64 &&& (72340172838076673 : Int64))), (3, .long (v3 ^^^ v5)), (0, .int x), (1, .long bs)]) hx hb dd_By_times_61 hl rfl (ly_incN _) (by decide) rfl (fun ls hl => ?_)
        refine lv_goto (tgt := 8) hx hb dd_By_times_64 (by decide) ?_
        exact ih8 (j + 1) (v3 ^^^ v5) (((v5 &&& (9187201950435737471 : Int64)) <<< ((1 : Int32).toInt64 &&& 63)) ^^^ (((v5.toUInt64 >>> ((7 : Int32).toInt64.toUInt64 &&& Int64.toUInt64 63)).toInt64 &&& (72340172838076673 : Int64)) * (29 : Int64))) ls H locs (by omega) hM (lv_sub hl [0, 1, 4, 5, 6] rfl) hP hD hS
  exact lp8 8 0 (0 : Int64) bs ls H locs (by omega) hM (lv_sub hl [0, 1, 2, 3, 4] rfl) hP hD hS

def mm_By_inverse_L6 : Nat → Nat → (Int32) → (Int32) → Int32
  | 0, j, v1, v2 => v2
  | k + 1, j, v1, v2 => (mm_By_inverse_L6 k (j + 1) (mm_By_times v1 v1.toInt64).toInt32 (mm_By_times v2 (mm_By_times v1 v1.toInt64).toInt32.toInt64).toInt32)
def mm_By_inverse (x : Int32) : Int32 := (mm_By_inverse_L6 7 1 x (1 : Int32))
set_option maxHeartbeats 4000000 in
set_option maxRecDepth 100000 in
theorem cc_By_inverse {l : Launch} (D : va_G) (K : Nat → ClassId) (x : Int32) : ly_i l yy_By_inverse bb_By_inverse 4 (some .int) 1 31 D K [.int x] ([] : va_W) (fun z => z) (fun _ => ([] : va_W)) (mm_By_inverse x) := by
  refine ly_entI (by decide) (Nat.le_of_ble_eq_true rfl) ?_
  intro p e s m av below meth c A ls R Q H locs res hM C hRf hRl hS hP hD hl ret
  obtain ⟨hx, hb, -⟩ := id C
  have hcs : 0 ≤ R.cells ∧ 0 ≤ R.slots := ⟨Nat.zero_le _, Nat.zero_le _⟩
  have hl : lv_has ls 4 [(0, .int x)] := hl
  rw [mm_By_inverse] at hM
  refine lv_iload_n hx hb dd_By_inverse_0 rfl (lv_at hl 0 rfl) ?_
  refine lv_istore_n (lv' := [(1, .int x), (0, .int x)]) hx hb dd_By_inverse_1 rfl hl (by decide) rfl (fun ls hl => ?_)
  refine lv_iconst (v := (1 : Int32)) hx hb dd_By_inverse_2 (by decide) ?_
  refine lv_istore_n (lv' := [(2, .int (1 : Int32)), (1, .int x), (0, .int x)]) hx hb dd_By_inverse_3 rfl hl (by decide) rfl (fun ls hl => ?_)
  refine lv_iconst (v := (1 : Int32)) hx hb dd_By_inverse_4 (by decide) ?_
  refine lv_istore_n (lv' := [(3, .int (1 : Int32)), (2, .int (1 : Int32)), (1, .int x), (0, .int x)]) hx hb dd_By_inverse_5 rfl hl (by decide) rfl (fun ls hl => ?_)
  have lp6 : ∀ (k : Nat) (j : Nat) (v1 : Int32) (v2 : Int32) (ls : Array Slot) (H : Heap) (locs : List Loc), j + k = 8 → mm_By_inverse_L6 k j v1 v2 = res → lv_has ls 4 [(3, .int (nI j)), (2, .int v2), (1, .int v1), (0, .int x)] → va_P D cl_all ([] : va_W) H → va_D A ([] : va_W) → va_S A s.heap H locs → W p l e R s m av below meth c H locs 0 0 Q (F0 m 6 ls []) := by
    intro k
    induction k with
    | zero =>
      intro j v1 v2 ls H locs hjk6 hM hl hP hD hS
      have hj0 : j = 8 := by omega
      subst j
      rw [mm_By_inverse_L6] at hM
      refine lv_iload_n hx hb dd_By_inverse_6 rfl (lv_at hl 0 rfl) ?_
      refine lv_bipush (v := (8 : Int32)) hx hb dd_By_inverse_7 (by decide) ?_
      refine lv_icmp_ge (tgt := 34) hx hb dd_By_inverse_9 (by decide) (fun _ => ?_) (fun h => absurd (nI_le (a := 8) (b := 8) (by omega) (by omega)) h)
      refine lv_iload_n hx hb dd_By_inverse_34 rfl (lv_at hl 1 rfl) ?_
      exact ret v2 H locs 35 ls hM rfl hS hP hD dd_By_inverse_35
    | succ k ih6 =>
      intro j v1 v2 ls H locs hjk6 hM hl hP hD hS
      rw [mm_By_inverse_L6] at hM
      refine lv_iload_n hx hb dd_By_inverse_6 rfl (lv_at hl 0 rfl) ?_
      refine lv_bipush (v := (8 : Int32)) hx hb dd_By_inverse_7 (by decide) ?_
      refine lv_icmp_ge (tgt := 34) hx hb dd_By_inverse_9 (by decide) (fun h => absurd h (nI_ge (a := j) (b := 8) (by omega) (by omega))) (fun _ => ?_)
      refine lv_iload_n hx hb dd_By_inverse_12 rfl (lv_at hl 2 rfl) ?_
      refine lv_iload_n hx hb dd_By_inverse_13 rfl (lv_at hl 2 rfl) ?_
      refine lv_i2l (v := v1.toInt64) hx hb dd_By_inverse_14 rfl ?_
      obtain ⟨r_15, hq15⟩ : ∃ z, z = mm_By_times v1 v1.toInt64 := ⟨_, rfl⟩
      try rw [← hq15] at hM
      refine ly_cS_l (n := 2) (z := r_15) (rest := []) (wn := ([] : va_W)) C (cc_By_times D K v1 v1.toInt64) hq15 wa_198 wa_203 wa_149 wa_155 (by decide) (Nat.le_trans (by decide) hRf) (Nat.le_trans (by decide) hRl) rfl hl.1 rfl (Nat.le_of_ble_eq_true rfl) dd_By_inverse_15 hcs [] [] [] hP hD hS rfl rfl (by decide) rfl (fun H locs hP hD hS => ?_)
      refine W.eq (g2 := F0 m 18 ls [.long r_15]) rfl ?_
      refine lv_l2i (v := r_15.toInt32) hx hb dd_By_inverse_18 rfl ?_
      refine lv_istore_n (lv' := [(1, .int r_15.toInt32), (3, .int (nI j)), (2, .int v2), (0, .int x)]) hx hb dd_By_inverse_19 rfl hl (by decide) rfl (fun ls hl => ?_)
      refine lv_iload_n hx hb dd_By_inverse_20 rfl (lv_at hl 2 rfl) ?_
      refine lv_iload_n hx hb dd_By_inverse_21 rfl (lv_at hl 0 rfl) ?_
      refine lv_i2l (v := r_15.toInt32.toInt64) hx hb dd_By_inverse_22 rfl ?_
      obtain ⟨r_23, hq23⟩ : ∃ z, z = mm_By_times v2 r_15.toInt32.toInt64 := ⟨_, rfl⟩
      try rw [← hq23] at hM
      refine ly_cS_l (n := 2) (z := r_23) (rest := []) (wn := ([] : va_W)) C (cc_By_times D K v2 r_15.toInt32.toInt64) hq23 wa_198 wa_203 wa_149 wa_155 (by decide) (Nat.le_trans (by decide) hRf) (Nat.le_trans (by decide) hRl) rfl hl.1 rfl (Nat.le_of_ble_eq_true rfl) dd_By_inverse_23 hcs [] [] [] hP hD hS rfl rfl (by decide) rfl (fun H locs hP hD hS => ?_)
      refine W.eq (g2 := F0 m 26 ls [.long r_23]) rfl ?_
      refine lv_l2i (v := r_23.toInt32) hx hb dd_By_inverse_26 rfl ?_
      refine lv_istore_n (lv' := [(2, .int r_23.toInt32), (1, .int r_15.toInt32), (3, .int (nI j)), (0, .int x)]) hx hb dd_By_inverse_27 rfl hl (by decide) rfl (fun ls hl => ?_)
      refine lv_iinc (k := 2) (v := (nI (j + 1))) (lv' := [(3, .int (nI (j + 1))), (2, .int r_23.toInt32), (1, .int r_15.toInt32), (0, .int x)]) hx hb dd_By_inverse_28 hl rfl (ly_incN _) (by decide) rfl (fun ls hl => ?_)
      refine lv_goto (tgt := 6) hx hb dd_By_inverse_31 (by decide) ?_
      exact ih6 (j + 1) r_15.toInt32 r_23.toInt32 ls H locs (by omega) hM (lv_sub hl [0, 1, 2, 3] rfl) hP hD hS
  exact lp6 7 1 x (1 : Int32) ls H locs (by omega) hM (lv_sub hl [0, 1, 2, 3] rfl) hP hD hS

def mm_Co_inversesRow_L4 (x : Int32) : Nat → Nat → (Int64) → Int64
  | 0, j, v1 => v1
  | k + 1, j, v1 => (mm_Co_inversesRow_L4 x k (j + 1) (v1 ||| (mm_By_placed (mm_By_inverse (x ^^^ (nI j))) j)))
def mm_Co_inversesRow (x : Int32) : Int64 := (mm_Co_inversesRow_L4 x 6 0 (0 : Int64))
set_option maxHeartbeats 4000000 in
set_option maxRecDepth 100000 in
theorem cc_Co_inversesRow {l : Launch} (D : va_G) (K : Nat → ClassId) (x : Int32) : ly_l l yy_Co_inversesRow bb_Co_inversesRow 4 (some .long) 2 54 D K [.int x] ([] : va_W) (fun z => z) (fun _ => ([] : va_W)) (mm_Co_inversesRow x) := by
  refine ly_entL (by decide) (Nat.le_of_ble_eq_true rfl) ?_
  intro p e s m av below meth c A ls R Q H locs res hM C hRf hRl hS hP hD hl ret
  obtain ⟨hx, hb, -⟩ := id C
  have hcs : 0 ≤ R.cells ∧ 0 ≤ R.slots := ⟨Nat.zero_le _, Nat.zero_le _⟩
  have hl : lv_has ls 4 [(0, .int x)] := hl
  rw [mm_Co_inversesRow] at hM
  refine lv_lconst (v := (0 : Int64)) hx hb dd_Co_inversesRow_0 (by decide) ?_
  refine lv_lstore_n (lv' := [(1, .long (0 : Int64)), (0, .int x)]) hx hb dd_Co_inversesRow_1 rfl hl (by decide) rfl (fun ls hl => ?_)
  refine lv_iconst (v := (0 : Int32)) hx hb dd_Co_inversesRow_2 (by decide) ?_
  refine lv_istore_n (lv' := [(3, .int (0 : Int32)), (1, .long (0 : Int64)), (0, .int x)]) hx hb dd_Co_inversesRow_3 rfl hl (by decide) rfl (fun ls hl => ?_)
  have lp4 : ∀ (k : Nat) (j : Nat) (v1 : Int64) (ls : Array Slot) (H : Heap) (locs : List Loc), j + k = 6 → mm_Co_inversesRow_L4 x k j v1 = res → lv_has ls 4 [(3, .int (nI j)), (1, .long v1), (0, .int x)] → va_P D cl_all ([] : va_W) H → va_D A ([] : va_W) → va_S A s.heap H locs → W p l e R s m av below meth c H locs 0 0 Q (F0 m 4 ls []) := by
    intro k
    induction k with
    | zero =>
      intro j v1 ls H locs hjk4 hM hl hP hD hS
      have hj0 : j = 6 := by omega
      subst j
      rw [mm_Co_inversesRow_L4] at hM
      refine lv_iload_n hx hb dd_Co_inversesRow_4 rfl (lv_at hl 0 rfl) ?_
      refine lv_bipush (v := (6 : Int32)) hx hb dd_Co_inversesRow_5 (by decide) ?_
      refine lv_icmp_ge (tgt := 29) hx hb dd_Co_inversesRow_7 (by decide) (fun _ => ?_) (fun h => absurd (nI_le (a := 6) (b := 6) (by omega) (by omega)) h)
      refine lv_lload_n hx hb dd_Co_inversesRow_29 rfl (lv_at hl 1 rfl) ?_
      exact ret v1 H locs 30 ls hM hS hP hD dd_Co_inversesRow_30
    | succ k ih4 =>
      intro j v1 ls H locs hjk4 hM hl hP hD hS
      rw [mm_Co_inversesRow_L4] at hM
      refine lv_iload_n hx hb dd_Co_inversesRow_4 rfl (lv_at hl 0 rfl) ?_
      refine lv_bipush (v := (6 : Int32)) hx hb dd_Co_inversesRow_5 (by decide) ?_
      refine lv_icmp_ge (tgt := 29) hx hb dd_Co_inversesRow_7 (by decide) (fun h => absurd h (nI_ge (a := j) (b := 6) (by omega) (by omega))) (fun _ => ?_)
      refine lv_lload_n hx hb dd_Co_inversesRow_10 rfl (lv_at hl 1 rfl) ?_
      refine lv_iload_n hx hb dd_Co_inversesRow_11 rfl (lv_at hl 2 rfl) ?_
      refine lv_iload_n hx hb dd_Co_inversesRow_12 rfl (lv_at hl 0 rfl) ?_
      refine lv_ixor hx hb dd_Co_inversesRow_13 ?_
      obtain ⟨r_14, hq14⟩ : ∃ z, z = mm_By_inverse (x ^^^ (nI j)) := ⟨_, rfl⟩
      try rw [← hq14] at hM
      refine ly_cS_i (n := 1) (z := r_14) (rest := [.long v1]) (wn := ([] : va_W)) C (cc_By_inverse D K (x ^^^ (nI j))) hq14 wa_202 wa_223 wa_149 wa_224 (by decide) (Nat.le_trans (by decide) hRf) (Nat.le_trans (by decide) hRl) rfl hl.1 rfl (Nat.le_of_ble_eq_true rfl) dd_Co_inversesRow_14 hcs [] [] [] hP hD hS rfl rfl (by decide) rfl (fun H locs hP hD hS => ?_)
      refine W.eq (g2 := F0 m 17 ls [.int r_14, .long v1]) rfl ?_
      refine lv_iload_n hx hb dd_Co_inversesRow_17 rfl (lv_at hl 0 rfl) ?_
      obtain ⟨r_18, hq18⟩ : ∃ z, z = mm_By_placed r_14 j := ⟨_, rfl⟩
      try rw [← hq18] at hM
      refine ly_cS_l (n := 2) (z := r_18) (rest := [.long v1]) (wn := ([] : va_W)) C (cc_By_placed D K r_14 j) hq18 wa_197 wa_215 wa_149 wa_216 (by decide) (Nat.le_trans (by decide) hRf) (Nat.le_trans (by decide) hRl) rfl hl.1 rfl (Nat.le_of_ble_eq_true rfl) dd_Co_inversesRow_18 hcs [] [] [] hP hD hS rfl rfl (by decide) rfl (fun H locs hP hD hS => ?_)
      refine W.eq (g2 := F0 m 21 ls [.long r_18, .long v1]) rfl ?_
      refine lv_lor hx hb dd_Co_inversesRow_21 ?_
      refine lv_lstore_n (lv' := [(1, .long (v1 ||| r_18)), (3, .int (nI j)), (0, .int x)]) hx hb dd_Co_inversesRow_22 rfl hl (by decide) rfl (fun ls hl => ?_)
      refine lv_iinc (k := 1) (v := (nI (j + 1))) (lv' := [(3, .int (nI (j + 1))), (1, .long (v1 ||| r_18)), (0, .int x)]) hx hb dd_Co_inversesRow_23 hl rfl (ly_incN _) (by decide) rfl (fun ls hl => ?_)
      refine lv_goto (tgt := 4) hx hb dd_Co_inversesRow_26 (by decide) ?_
      exact ih4 (j + 1) (v1 ||| r_18) ls H locs (by omega) hM (lv_sub hl [0, 1, 2] rfl) hP hD hS
  exact lp4 6 0 (0 : Int64) ls H locs (by omega) hM (lv_sub hl [0, 1, 2] rfl) hP hD hS

def mm_Co_plainRow (i : Nat) : Int64 := (if (6 : Int32) ≤ (nI i) then (mm_Co_inversesRow (((8 : Int32) + (nI i)) - (6 : Int32))) else (mm_By_placed (1 : Int32) i))
set_option maxHeartbeats 4000000 in
set_option maxRecDepth 100000 in
theorem cc_Co_plainRow {l : Launch} (D : va_G) (K : Nat → ClassId) (i : Nat) : ly_l l yy_Co_plainRow bb_Co_plainRow 1 (some .long) 3 77 D K [.int (nI i)] ([] : va_W) (fun z => z) (fun _ => ([] : va_W)) (mm_Co_plainRow i) := by
  refine ly_entL (by decide) (Nat.le_of_ble_eq_true rfl) ?_
  intro p e s m av below meth c A ls R Q H locs res hM C hRf hRl hS hP hD hl ret
  obtain ⟨hx, hb, -⟩ := id C
  have hcs : 0 ≤ R.cells ∧ 0 ≤ R.slots := ⟨Nat.zero_le _, Nat.zero_le _⟩
  have hl : lv_has ls 1 [(0, .int (nI i))] := hl
  rw [mm_Co_plainRow] at hM
  refine lv_iload_n hx hb dd_Co_plainRow_0 rfl (lv_at hl 0 rfl) ?_
  refine lv_bipush (v := (6 : Int32)) hx hb dd_Co_plainRow_1 (by decide) ?_
  refine lv_icmp_ge (tgt := 14) hx hb dd_Co_plainRow_3 (by decide) (fun h3 => ?_) (fun h3 => ?_)
  · rw [if_pos h3] at hM
    refine lv_bipush (v := (8 : Int32)) hx hb dd_Co_plainRow_14 (by decide) ?_
    refine lv_iload_n hx hb dd_Co_plainRow_16 rfl (lv_at hl 0 rfl) ?_
    refine lv_iadd hx hb dd_Co_plainRow_17 ?_
    refine lv_bipush (v := (6 : Int32)) hx hb dd_Co_plainRow_18 (by decide) ?_
    refine lv_isub hx hb dd_Co_plainRow_20 ?_
    obtain ⟨r_21, hq21⟩ : ∃ z, z = mm_Co_inversesRow (((8 : Int32) + (nI i)) - (6 : Int32)) := ⟨_, rfl⟩
    try rw [← hq21] at hM
    refine ly_cS_l (n := 1) (z := r_21) (rest := []) (wn := ([] : va_W)) C (cc_Co_inversesRow D K (((8 : Int32) + (nI i)) - (6 : Int32))) hq21 wa_222 wa_217 wa_41 wa_218 (by decide) (Nat.le_trans (by decide) hRf) (Nat.le_trans (by decide) hRl) rfl hl.1 rfl (Nat.le_of_ble_eq_true rfl) dd_Co_plainRow_21 hcs [] [] [] hP hD hS rfl rfl (by decide) rfl (fun H locs hP hD hS => ?_)
    refine W.eq (g2 := F0 m 24 ls [.long r_21]) rfl ?_
    exact ret r_21 H locs 24 ls hM hS hP hD dd_Co_plainRow_24
  · rw [if_neg h3] at hM
    refine lv_iconst (v := (1 : Int32)) hx hb dd_Co_plainRow_6 (by decide) ?_
    refine lv_iload_n hx hb dd_Co_plainRow_7 rfl (lv_at hl 0 rfl) ?_
    obtain ⟨r_8, hq8⟩ : ∃ z, z = mm_By_placed (1 : Int32) i := ⟨_, rfl⟩
    try rw [← hq8] at hM
    refine ly_cS_l (n := 2) (z := r_8) (rest := []) (wn := ([] : va_W)) C (cc_By_placed D K (1 : Int32) i) hq8 wa_197 wa_215 wa_149 wa_216 (by decide) (Nat.le_trans (by decide) hRf) (Nat.le_trans (by decide) hRl) rfl hl.1 rfl (Nat.le_of_ble_eq_true rfl) dd_Co_plainRow_8 hcs [] [] [] hP hD hS rfl rfl (by decide) rfl (fun H locs hP hD hS => ?_)
    refine W.eq (g2 := F0 m 11 ls [.long r_8]) rfl ?_
    refine lv_goto (tgt := 24) hx hb dd_Co_plainRow_11 (by decide) ?_
    exact ret r_8 H locs 24 ls hM hS hP hD dd_Co_plainRow_24

def mm_Co_groupedRow (i : Nat) : Int64 := (if (6 : Int32) ≤ (nI i) then (if i = 6 then (65793 : Int64) else (if i = 7 then (1103823372288 : Int64) else (if i = 8 then (mm_Co_inversesRow (8 : Int32)) else (if i = 9 then (mm_Co_inversesRow (9 : Int32)) else ((mm_Co_inversesRow (8 : Int32)) ^^^ (mm_Co_inversesRow (9 : Int32))))))) else (mm_By_placed (1 : Int32) i))
set_option maxHeartbeats 4000000 in
set_option maxRecDepth 100000 in
theorem cc_Co_groupedRow {l : Launch} (D : va_G) (K : Nat → ClassId) (i : Nat) (hi : i < 11) : ly_l l yy_Co_groupedRow bb_Co_groupedRow 1 (some .long) 3 77 D K [.int (nI i)] ([] : va_W) (fun z => z) (fun _ => ([] : va_W)) (mm_Co_groupedRow i) := by
  refine ly_entL (by decide) (Nat.le_of_ble_eq_true rfl) ?_
  intro p e s m av below meth c A ls R Q H locs res hM C hRf hRl hS hP hD hl ret
  obtain ⟨hx, hb, -⟩ := id C
  have hcs : 0 ≤ R.cells ∧ 0 ≤ R.slots := ⟨Nat.zero_le _, Nat.zero_le _⟩
  have hl : lv_has ls 1 [(0, .int (nI i))] := hl
  rw [mm_Co_groupedRow] at hM
  refine lv_iload_n hx hb dd_Co_groupedRow_0 rfl (lv_at hl 0 rfl) ?_
  refine lv_bipush (v := (6 : Int32)) hx hb dd_Co_groupedRow_1 (by decide) ?_
  refine lv_icmp_ge (tgt := 12) hx hb dd_Co_groupedRow_3 (by decide) (fun h3 => ?_) (fun h3 => ?_)
  · rw [if_pos h3] at hM
    have hi6 : 6 ≤ i := (nI_leI (a := 6) (by decide) (by omega)).mp h3
    refine lv_iload_n hx hb dd_Co_groupedRow_12 rfl (lv_at hl 0 rfl) ?_
    rcases (by omega : i = 6 ∨ i = 7 ∨ i = 8 ∨ i = 9 ∨ i = 10) with rfl | rfl | rfl | rfl | rfl
    · rw [if_pos rfl] at hM
      refine lv_tableIn (tgt := 44) hx hb dd_Co_groupedRow_13 (by decide) (by decide) rfl (by decide) ?_
      refine ly_ldc2 (x := (65793 : Int64)) C wa_220 dd_Co_groupedRow_44 ?_
      exact ret (65793 : Int64) H locs 47 ls hM hS hP hD dd_Co_groupedRow_47
    · rw [if_neg (by decide), if_pos rfl] at hM
      refine lv_tableIn (tgt := 48) hx hb dd_Co_groupedRow_13 (by decide) (by decide) rfl (by decide) ?_
      refine ly_ldc2 (x := (1103823372288 : Int64)) C wa_221 dd_Co_groupedRow_48 ?_
      exact ret (1103823372288 : Int64) H locs 51 ls hM hS hP hD dd_Co_groupedRow_51
    · rw [if_neg (by decide), if_neg (by decide), if_pos rfl] at hM
      refine lv_tableIn (tgt := 52) hx hb dd_Co_groupedRow_13 (by decide) (by decide) rfl (by decide) ?_
      refine lv_bipush (v := (8 : Int32)) hx hb dd_Co_groupedRow_52 (by decide) ?_
      obtain ⟨r_54, hq54⟩ : ∃ z, z = mm_Co_inversesRow (8 : Int32) := ⟨_, rfl⟩
      try rw [← hq54] at hM
      refine ly_cS_l (n := 1) (z := r_54) (rest := []) (wn := ([] : va_W)) C (cc_Co_inversesRow D K (8 : Int32)) hq54 wa_222 wa_217 wa_41 wa_218 (by decide) (Nat.le_trans (by decide) hRf) (Nat.le_trans (by decide) hRl) rfl hl.1 rfl (Nat.le_of_ble_eq_true rfl) dd_Co_groupedRow_54 hcs [] [] [] hP hD hS rfl rfl (by decide) rfl (fun H locs hP hD hS => ?_)
      refine W.eq (g2 := F0 m 57 ls [.long r_54]) rfl ?_
      exact ret r_54 H locs 57 ls hM hS hP hD dd_Co_groupedRow_57
    · rw [if_neg (by decide), if_neg (by decide), if_neg (by decide), if_pos rfl] at hM
      refine lv_tableIn (tgt := 58) hx hb dd_Co_groupedRow_13 (by decide) (by decide) rfl (by decide) ?_
      refine lv_bipush (v := (9 : Int32)) hx hb dd_Co_groupedRow_58 (by decide) ?_
      obtain ⟨r_60, hq60⟩ : ∃ z, z = mm_Co_inversesRow (9 : Int32) := ⟨_, rfl⟩
      try rw [← hq60] at hM
      refine ly_cS_l (n := 1) (z := r_60) (rest := []) (wn := ([] : va_W)) C (cc_Co_inversesRow D K (9 : Int32)) hq60 wa_222 wa_217 wa_41 wa_218 (by decide) (Nat.le_trans (by decide) hRf) (Nat.le_trans (by decide) hRl) rfl hl.1 rfl (Nat.le_of_ble_eq_true rfl) dd_Co_groupedRow_60 hcs [] [] [] hP hD hS rfl rfl (by decide) rfl (fun H locs hP hD hS => ?_)
      refine W.eq (g2 := F0 m 63 ls [.long r_60]) rfl ?_
      exact ret r_60 H locs 63 ls hM hS hP hD dd_Co_groupedRow_63
    · rw [if_neg (by decide), if_neg (by decide), if_neg (by decide), if_neg (by decide)] at hM
      refine lv_tableOut (tgt := 64) hx hb dd_Co_groupedRow_13 (by decide) (by decide) ?_
      refine lv_bipush (v := (8 : Int32)) hx hb dd_Co_groupedRow_64 (by decide) ?_
      obtain ⟨r_66, hq66⟩ : ∃ z, z = mm_Co_inversesRow (8 : Int32) := ⟨_, rfl⟩
      try rw [← hq66] at hM
      refine ly_cS_l (n := 1) (z := r_66) (rest := []) (wn := ([] : va_W)) C (cc_Co_inversesRow D K (8 : Int32)) hq66 wa_222 wa_217 wa_41 wa_218 (by decide) (Nat.le_trans (by decide) hRf) (Nat.le_trans (by decide) hRl) rfl hl.1 rfl (Nat.le_of_ble_eq_true rfl) dd_Co_groupedRow_66 hcs [] [] [] hP hD hS rfl rfl (by decide) rfl (fun H locs hP hD hS => ?_)
      refine W.eq (g2 := F0 m 69 ls [.long r_66]) rfl ?_
      refine lv_bipush (v := (9 : Int32)) hx hb dd_Co_groupedRow_69 (by decide) ?_
      obtain ⟨r_71, hq71⟩ : ∃ z, z = mm_Co_inversesRow (9 : Int32) := ⟨_, rfl⟩
      try rw [← hq71] at hM
      refine ly_cS_l (n := 1) (z := r_71) (rest := [.long r_66]) (wn := ([] : va_W)) C (cc_Co_inversesRow D K (9 : Int32)) hq71 wa_222 wa_217 wa_41 wa_218 (by decide) (Nat.le_trans (by decide) hRf) (Nat.le_trans (by decide) hRl) rfl hl.1 rfl (Nat.le_of_ble_eq_true rfl) dd_Co_groupedRow_71 hcs [] [] [] hP hD hS rfl rfl (by decide) rfl (fun H locs hP hD hS => ?_)
      refine W.eq (g2 := F0 m 74 ls [.long r_71, .long r_66]) rfl ?_
      refine lv_lxor hx hb dd_Co_groupedRow_74 ?_
      exact ret (r_66 ^^^ r_71) H locs 75 ls hM hS hP hD dd_Co_groupedRow_75
  · rw [if_neg h3] at hM
    refine lv_iconst (v := (1 : Int32)) hx hb dd_Co_groupedRow_6 (by decide) ?_
    refine lv_iload_n hx hb dd_Co_groupedRow_7 rfl (lv_at hl 0 rfl) ?_
    obtain ⟨r_8, hq8⟩ : ∃ z, z = mm_By_placed (1 : Int32) i := ⟨_, rfl⟩
    try rw [← hq8] at hM
    refine ly_cS_l (n := 2) (z := r_8) (rest := []) (wn := ([] : va_W)) C (cc_By_placed D K (1 : Int32) i) hq8 wa_197 wa_215 wa_149 wa_216 (by decide) (Nat.le_trans (by decide) hRf) (Nat.le_trans (by decide) hRl) rfl hl.1 rfl (Nat.le_of_ble_eq_true rfl) dd_Co_groupedRow_8 hcs [] [] [] hP hD hS rfl rfl (by decide) rfl (fun H locs hP hD hS => ?_)
    refine W.eq (g2 := F0 m 11 ls [.long r_8]) rfl ?_
    exact ret r_8 H locs 11 ls hM hS hP hD dd_Co_groupedRow_11

def mm_RG_isIn (x : Int32) (i : Nat) : Int32 := (if ((x >>> ((nI i) &&& 31)) &&& (1 : Int32)) = (0 : Int32) then (0 : Int32) else (1 : Int32))
set_option maxHeartbeats 4000000 in
set_option maxRecDepth 100000 in
theorem cc_RG_isIn {l : Launch} (D : va_G) (K : Nat → ClassId) (x : Int32) (i : Nat) : ly_i l yy_RG_isIn bb_RG_isIn 2 (some .boolean) 0 0 D K [.int x, .int (nI i)] ([] : va_W) (fun z => z) (fun _ => ([] : va_W)) (mm_RG_isIn x i) := by
  refine ly_entI (by decide) (Nat.le_of_ble_eq_true rfl) ?_
  intro p e s m av below meth c A ls R Q H locs res hM C hRf hRl hS hP hD hl ret
  obtain ⟨hx, hb, -⟩ := id C
  have hcs : 0 ≤ R.cells ∧ 0 ≤ R.slots := ⟨Nat.zero_le _, Nat.zero_le _⟩
  have hl : lv_has ls 2 [(0, .int x), (1, .int (nI i))] := hl
  rw [mm_RG_isIn] at hM
  refine lv_iload_n hx hb dd_RG_isIn_0 rfl (lv_at hl 0 rfl) ?_
  refine lv_iload_n hx hb dd_RG_isIn_1 rfl (lv_at hl 1 rfl) ?_
  refine lv_ishr hx hb dd_RG_isIn_2 ?_
  refine lv_iconst (v := (1 : Int32)) hx hb dd_RG_isIn_3 (by decide) ?_
  refine lv_iand hx hb dd_RG_isIn_4 ?_
  refine lv_if_eq (tgt := 12) hx hb dd_RG_isIn_5 (by decide) (fun h5 => ?_) (fun h5 => ?_)
  · rw [if_pos h5] at hM
    refine lv_iconst (v := (0 : Int32)) hx hb dd_RG_isIn_12 (by decide) ?_
    exact ret (0 : Int32) H locs 13 ls hM ly_z0 hS hP hD dd_RG_isIn_13
  · rw [if_neg h5] at hM
    refine lv_iconst (v := (1 : Int32)) hx hb dd_RG_isIn_8 (by decide) ?_
    refine lv_goto (tgt := 13) hx hb dd_RG_isIn_9 (by decide) ?_
    exact ret (1 : Int32) H locs 13 ls hM ly_z1 hS hP hD dd_RG_isIn_13
theorem zb_RG_isIn (x : Int32) (i : Nat) : narrow .boolean (.int (mm_RG_isIn x i)) = .int (mm_RG_isIn x i) := by
  unfold mm_RG_isIn; split <;> rfl
