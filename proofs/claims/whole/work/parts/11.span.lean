def mm_Co_groupOf (i : Nat) (n : Nat) (gr : Int32) : Int32 := (if gr = (0 : Int32) then (0 : Int32) else (if (mm_RG_isIn (71 : Int32) i) = (0 : Int32) then (if (mm_RG_isIn (184 : Int32) i) = (0 : Int32) then (if (nI n) = (11 : Int32) then (1792 : Int32) else (0 : Int32)) else (184 : Int32)) else (71 : Int32)))
set_option maxHeartbeats 4000000 in
set_option maxRecDepth 100000 in
theorem cc_Co_groupOf {l : Launch} (D : va_G) (K : Nat → ClassId) (ac ar : Nat) (i : Nat) (n : Nat) (gr : Int32) (hn : n ≤ 11) : ly_i l yy_Co_groupOf bb_Co_groupOf 2 (some .int) 1 21 D K [.ref ac, .int (nI i)] (ws_Co K ac ar n gr) (fun z => z) (fun _ => (ws_Co K ac ar n gr)) (mm_Co_groupOf i n gr) := by
  refine ly_entI (by decide) (Nat.le_of_ble_eq_true rfl) ?_
  intro p e s m av below meth c A ls R Q H locs res hM C hRf hRl hS hP hD hl ret
  obtain ⟨hx, hb, -⟩ := id C
  have hcs : 0 ≤ R.cells ∧ 0 ≤ R.slots := ⟨Nat.zero_le _, Nat.zero_le _⟩
  have hl : lv_has ls 2 [(0, .ref ac), (1, .int (nI i))] := hl
  rw [mm_Co_groupOf] at hM
  refine lv_aload_n hx hb dd_Co_groupOf_0 rfl (lv_at hl 0 rfl) ?_
  refine ly_get (v := .int gr) C hP 0 rfl uw_Co rfl 2 (by decide) wa_207 rfl dd_Co_groupOf_1 ?_
  refine lv_if_ne (tgt := 9) hx hb dd_Co_groupOf_4 (by decide) (fun h4 => ?_) (fun h4 => ?_)
  · rw [if_neg h4] at hM
    refine lv_bipush (v := (71 : Int32)) hx hb dd_Co_groupOf_9 (by decide) ?_
    refine lv_iload_n hx hb dd_Co_groupOf_11 rfl (lv_at hl 1 rfl) ?_
    obtain ⟨r_12, hq12⟩ : ∃ z, z = mm_RG_isIn (71 : Int32) i := ⟨_, rfl⟩
    try rw [← hq12] at hM
    refine ly_cSN_i (n := 2) (z := r_12) (rest := []) (wn := (ws_Co K ac ar n gr)) C (cc_RG_isIn D K (71 : Int32) i) hq12 wa_195 nw_3 wa_62 wa_167 (by decide) (Nat.le_trans (by decide) hRf) (Nat.le_trans (by decide) hRl) rfl hl.1 rfl (Nat.le_of_ble_eq_true rfl) dd_Co_groupOf_12 hcs [] [0] [0] hP hD hS rfl rfl (by decide) rfl (fun H locs hP hD hS => ?_)
    refine W.eq (g2 := F0 m 15 ls [.int r_12]) rfl ?_
    refine lv_if_eq (tgt := 21) hx hb dd_Co_groupOf_15 (by decide) (fun h15 => ?_) (fun h15 => ?_)
    · rw [if_pos h15] at hM
      refine lv_sipush (v := (184 : Int32)) hx hb dd_Co_groupOf_21 (by decide) ?_
      refine lv_iload_n hx hb dd_Co_groupOf_24 rfl (lv_at hl 1 rfl) ?_
      obtain ⟨r_25, hq25⟩ : ∃ z, z = mm_RG_isIn (184 : Int32) i := ⟨_, rfl⟩
      try rw [← hq25] at hM
      refine ly_cSN_i (n := 2) (z := r_25) (rest := []) (wn := (ws_Co K ac ar n gr)) C (cc_RG_isIn D K (184 : Int32) i) hq25 wa_195 nw_3 wa_62 wa_167 (by decide) (Nat.le_trans (by decide) hRf) (Nat.le_trans (by decide) hRl) rfl hl.1 rfl (Nat.le_of_ble_eq_true rfl) dd_Co_groupOf_25 hcs [] [0] [0] hP hD hS rfl rfl (by decide) rfl (fun H locs hP hD hS => ?_)
      refine W.eq (g2 := F0 m 28 ls [.int r_25]) rfl ?_
      refine lv_if_eq (tgt := 35) hx hb dd_Co_groupOf_28 (by decide) (fun h28 => ?_) (fun h28 => ?_)
      · rw [if_pos h28] at hM
        refine lv_aload_n hx hb dd_Co_groupOf_35 rfl (lv_at hl 0 rfl) ?_
        refine ly_get (v := .int (nI n)) C hP 0 rfl uw_Co rfl 0 (by decide) wa_206 rfl dd_Co_groupOf_36 ?_
        refine lv_bipush (v := (11 : Int32)) hx hb dd_Co_groupOf_39 (by decide) ?_
        refine lv_icmp_ne (tgt := 50) hx hb dd_Co_groupOf_41 (by decide) (fun h41 => ?_) (fun h41 => ?_)
        · rw [if_neg h41] at hM
          refine lv_iconst (v := (0 : Int32)) hx hb dd_Co_groupOf_50 (by decide) ?_
          exact ret (0 : Int32) H locs 51 ls hM rfl hS hP hD dd_Co_groupOf_51
        · rw [if_pos h41] at hM
          refine lv_sipush (v := (1792 : Int32)) hx hb dd_Co_groupOf_44 (by decide) ?_
          refine lv_goto (tgt := 51) hx hb dd_Co_groupOf_47 (by decide) ?_
          exact ret (1792 : Int32) H locs 51 ls hM rfl hS hP hD dd_Co_groupOf_51
      · rw [if_neg h28] at hM
        refine lv_sipush (v := (184 : Int32)) hx hb dd_Co_groupOf_31 (by decide) ?_
        exact ret (184 : Int32) H locs 34 ls hM rfl hS hP hD dd_Co_groupOf_34
    · rw [if_neg h15] at hM
      refine lv_bipush (v := (71 : Int32)) hx hb dd_Co_groupOf_18 (by decide) ?_
      exact ret (71 : Int32) H locs 20 ls hM rfl hS hP hD dd_Co_groupOf_20
  · rw [if_pos h4] at hM
    refine lv_iconst (v := (0 : Int32)) hx hb dd_Co_groupOf_7 (by decide) ?_
    exact ret (0 : Int32) H locs 8 ls hM rfl hS hP hD dd_Co_groupOf_8

def mm_Sp_clear_L2 : Nat → Nat → (Nat → Int64) → (Nat → Int64) → (Nat → Int64) × (Nat → Int64)
  | 0, j, sr, sv => (sr, sv)
  | k + 1, j, sr, sv => (mm_Sp_clear_L2 k (j + 1) (vp_updL sr j (0 : Int64)) (vp_updL sv j (0 : Int64)))
def mm_Sp_clear (sr : Nat → Int64) (sv : Nat → Int64) : (Nat → Int64) × (Nat → Int64) := (mm_Sp_clear_L2 6 0 sr sv)
set_option maxHeartbeats 4000000 in
set_option maxRecDepth 100000 in
theorem cc_Sp_clear {l : Launch} (D : va_G) (K : Nat → ClassId) (ap aq ax : Nat) (sr : Nat → Int64) (sv : Nat → Int64) : ly_v l yy_Sp_clear bb_Sp_clear 2 none 0 0 D K [.ref ap] (ws_Sp K ap aq ax sr sv) (fun z => (ws_Sp K ap aq ax (z.1) (z.2))) (mm_Sp_clear sr sv) := by
  refine ly_entV (by decide) (Nat.le_of_ble_eq_true rfl) ?_
  intro p e s m av below meth c A ls R Q H locs res hM C hRf hRl hS hP hD hl ret
  obtain ⟨hx, hb, -⟩ := id C
  have hcs : 0 ≤ R.cells ∧ 0 ≤ R.slots := ⟨Nat.zero_le _, Nat.zero_le _⟩
  have hl : lv_has ls 2 [(0, .ref ap)] := hl
  rw [mm_Sp_clear] at hM
  refine lv_iconst (v := (0 : Int32)) hx hb dd_Sp_clear_0 (by decide) ?_
  refine lv_istore_n (lv' := [(1, .int (0 : Int32)), (0, .ref ap)]) hx hb dd_Sp_clear_1 rfl hl (by decide) rfl (fun ls hl => ?_)
  have lp2 : ∀ (k : Nat) (j : Nat) (sr : Nat → Int64) (sv : Nat → Int64) (ls : Array Slot) (H : Heap) (locs : List Loc), j + k = 6 → mm_Sp_clear_L2 k j sr sv = res → lv_has ls 2 [(1, .int (nI j)), (0, .ref ap)] → va_P D cl_all (ws_Sp K ap aq ax sr sv) H → va_D A (ws_Sp K ap aq ax sr sv) → va_S A s.heap H locs → W p l e R s m av below meth c H locs 0 0 Q (F0 m 2 ls []) := by
    intro k
    induction k with
    | zero =>
      intro j sr sv ls H locs hjk2 hM hl hP hD hS
      have hj0 : j = 6 := by omega
      subst j
      rw [mm_Sp_clear_L2] at hM
      refine lv_iload_n hx hb dd_Sp_clear_2 rfl (lv_at hl 0 rfl) ?_
      refine lv_bipush (v := (6 : Int32)) hx hb dd_Sp_clear_3 (by decide) ?_
      refine lv_icmp_ge (tgt := 28) hx hb dd_Sp_clear_5 (by decide) (fun _ => ?_) (fun h => absurd (nI_le (a := 6) (b := 6) (by omega) (by omega)) h)
      exact ret (sr, sv) H locs 28 ls hM hS hP hD dd_Sp_clear_28
    | succ k ih2 =>
      intro j sr sv ls H locs hjk2 hM hl hP hD hS
      rw [mm_Sp_clear_L2] at hM
      refine lv_iload_n hx hb dd_Sp_clear_2 rfl (lv_at hl 0 rfl) ?_
      refine lv_bipush (v := (6 : Int32)) hx hb dd_Sp_clear_3 (by decide) ?_
      refine lv_icmp_ge (tgt := 28) hx hb dd_Sp_clear_5 (by decide) (fun h => absurd h (nI_ge (a := j) (b := 6) (by omega) (by omega))) (fun _ => ?_)
      refine lv_aload_n hx hb dd_Sp_clear_8 rfl (lv_at hl 1 rfl) ?_
      refine ly_get (v := .ref aq) C hP 0 rfl uw_Sp rfl 0 (by decide) wa_228 rfl dd_Sp_clear_9 ?_
      refine lv_iload_n hx hb dd_Sp_clear_12 rfl (lv_at hl 0 rfl) ?_
      refine lv_lconst (v := (0 : Int64)) hx hb dd_Sp_clear_13 (by decide) ?_
      refine ly_last (ws' := (ws_Sp K ap aq ax (vp_updL sr j (0 : Int64)) sv)) C hP hD hS 1 rfl j rfl (by omega) (by omega) dd_Sp_clear_14 rfl (fun H locs hP hD hS => ?_)
      refine lv_aload_n hx hb dd_Sp_clear_15 rfl (lv_at hl 1 rfl) ?_
      refine ly_get (v := .ref ax) C hP 0 rfl uw_Sp rfl 1 (by decide) wa_229 rfl dd_Sp_clear_16 ?_
      refine lv_iload_n hx hb dd_Sp_clear_19 rfl (lv_at hl 0 rfl) ?_
      refine lv_lconst (v := (0 : Int64)) hx hb dd_Sp_clear_20 (by decide) ?_
      refine ly_last (ws' := (ws_Sp K ap aq ax (vp_updL sr j (0 : Int64)) (vp_updL sv j (0 : Int64)))) C hP hD hS 2 rfl j rfl (by omega) (by omega) dd_Sp_clear_21 rfl (fun H locs hP hD hS => ?_)
      refine lv_iinc (k := 0) (v := (nI (j + 1))) (lv' := [(1, .int (nI (j + 1))), (0, .ref ap)]) hx hb dd_Sp_clear_22 hl rfl (ly_incN _) (by decide) rfl (fun ls hl => ?_)
      refine lv_goto (tgt := 2) hx hb dd_Sp_clear_25 (by decide) ?_
      exact ih2 (j + 1) (vp_updL sr j (0 : Int64)) (vp_updL sv j (0 : Int64)) ls H locs (by omega) hM (lv_sub hl [0, 1] rfl) hP hD hS
  exact lp2 6 0 sr sv ls H locs (by omega) hM (lv_sub hl [0, 1] rfl) hP hD hS

def mm_Sp_take_L9 (sr : Nat → Int64) (sv : Nat → Int64) : Nat → Nat → (Int64) → (Int64) → Int32 × (Nat → Int64) × (Nat → Int64)
  | 0, j, v5, v7 => ((0 : Int32), sr, sv)
  | k + 1, j, v5, v7 => (if (mm_By_at v5 j) = (0 : Int32) then (mm_Sp_take_L9 sr sv k (j + 1) (v5 ^^^ (mm_By_times (mm_By_at v5 j) (sr j))) (v7 ^^^ (mm_By_times (mm_By_at v5 j) (sv j)))) else (if (lg_cmp (sr j) (0 : Int64)) = (0 : Int32) then ((1 : Int32), (vp_updL sr j (mm_By_times (mm_By_inverse (mm_By_at v5 j)) v5)), (vp_updL sv j (mm_By_times (mm_By_inverse (mm_By_at v5 j)) v7))) else (mm_Sp_take_L9 sr sv k (j + 1) (v5 ^^^ (mm_By_times (mm_By_at v5 j) (sr j))) (v7 ^^^ (mm_By_times (mm_By_at v5 j) (sv j))))))
def mm_Sp_take (x : Int64) (y : Int64) (sr : Nat → Int64) (sv : Nat → Int64) : Int32 × (Nat → Int64) × (Nat → Int64) := (mm_Sp_take_L9 sr sv 6 0 x y)
set_option maxHeartbeats 4000000 in
set_option maxRecDepth 100000 in
theorem cc_Sp_take {l : Launch} (D : va_G) (K : Nat → ClassId) (ap aq ax : Nat) (x : Int64) (y : Int64) (sr : Nat → Int64) (sv : Nat → Int64) : ly_i l yy_Sp_take bb_Sp_take 12 (some .boolean) 2 54 D K [.ref ap, .long x, .long y] (ws_Sp K ap aq ax sr sv) (fun z => z.1) (fun z => (ws_Sp K ap aq ax (z.2.1) (z.2.2))) (mm_Sp_take x y sr sv) := by
  refine ly_entI (by decide) (Nat.le_of_ble_eq_true rfl) ?_
  intro p e s m av below meth c A ls R Q H locs res hM C hRf hRl hS hP hD hl ret
  obtain ⟨hx, hb, -⟩ := id C
  have hcs : 0 ≤ R.cells ∧ 0 ≤ R.slots := ⟨Nat.zero_le _, Nat.zero_le _⟩
  have hl : lv_has ls 12 [(0, .ref ap), (1, .long x), (3, .long y)] := hl
  rw [mm_Sp_take] at hM
  refine lv_lload_n hx hb dd_Sp_take_0 rfl (lv_at hl 1 rfl) ?_
  refine lv_lstore (lv' := [(5, .long x), (0, .ref ap), (1, .long x), (3, .long y)]) hx hb dd_Sp_take_1 hl (by decide) rfl (fun ls hl => ?_)
  refine lv_lload_n hx hb dd_Sp_take_3 rfl (lv_at hl 3 rfl) ?_
  refine lv_lstore (lv' := [(7, .long y), (5, .long x), (0, .ref ap), (1, .long x), (3, .long y)]) hx hb dd_Sp_take_4 hl (by decide) rfl (fun ls hl => ?_)
  refine lv_iconst (v := (0 : Int32)) hx hb dd_Sp_take_6 (by decide) ?_
  refine lv_istore (lv' := [(9, .int (0 : Int32)), (7, .long y), (5, .long x), (0, .ref ap), (1, .long x), (3, .long y)]) hx hb dd_Sp_take_7 hl (by decide) rfl (fun ls hl => ?_)
  have lp9 : ∀ (k : Nat) (j : Nat) (v5 : Int64) (v7 : Int64) (ls : Array Slot) (H : Heap) (locs : List Loc), j + k = 6 → mm_Sp_take_L9 sr sv k j v5 v7 = res → lv_has ls 12 [(9, .int (nI j)), (7, .long v7), (5, .long v5), (0, .ref ap), (1, .long x), (3, .long y)] → va_P D cl_all (ws_Sp K ap aq ax sr sv) H → va_D A (ws_Sp K ap aq ax sr sv) → va_S A s.heap H locs → W p l e R s m av below meth c H locs 0 0 Q (F0 m 9 ls []) := by
    intro k
    induction k with
    | zero =>
      intro j v5 v7 ls H locs hjk9 hM hl hP hD hS
      have hj0 : j = 6 := by omega
      subst j
      rw [mm_Sp_take_L9] at hM
      refine lv_iload hx hb dd_Sp_take_9 (lv_at hl 0 rfl) ?_
      refine lv_bipush (v := (6 : Int32)) hx hb dd_Sp_take_11 (by decide) ?_
      refine lv_icmp_ge (tgt := 119) hx hb dd_Sp_take_13 (by decide) (fun _ => ?_) (fun h => absurd (nI_le (a := 6) (b := 6) (by omega) (by omega)) h)
      refine lv_iconst (v := (0 : Int32)) hx hb dd_Sp_take_119 (by decide) ?_
      exact ret ((0 : Int32), sr, sv) H locs 120 ls hM ly_z0 hS hP hD dd_Sp_take_120
    | succ k ih9 =>
      intro j v5 v7 ls H locs hjk9 hM hl hP hD hS
      rw [mm_Sp_take_L9] at hM
      refine lv_iload hx hb dd_Sp_take_9 (lv_at hl 0 rfl) ?_
      refine lv_bipush (v := (6 : Int32)) hx hb dd_Sp_take_11 (by decide) ?_
      refine lv_icmp_ge (tgt := 119) hx hb dd_Sp_take_13 (by decide) (fun h => absurd h (nI_ge (a := j) (b := 6) (by omega) (by omega))) (fun _ => ?_)
      refine lv_lload hx hb dd_Sp_take_16 (lv_at hl 2 rfl) ?_
      refine lv_iload hx hb dd_Sp_take_18 (lv_at hl 0 rfl) ?_
      obtain ⟨r_20, hq20⟩ : ∃ z, z = mm_By_at v5 j := ⟨_, rfl⟩
      try rw [← hq20] at hM
      refine ly_cS_i (n := 2) (z := r_20) (rest := []) (wn := (ws_Sp K ap aq ax sr sv)) C (cc_By_at D K v5 j) hq20 wa_196 wa_232 wa_149 wa_150 (by decide) (Nat.le_trans (by decide) hRf) (Nat.le_trans (by decide) hRl) rfl hl.1 rfl (Nat.le_of_ble_eq_true rfl) dd_Sp_take_20 hcs [] [0, 1, 2] [0, 1, 2] hP hD hS rfl rfl (by decide) rfl (fun H locs hP hD hS => ?_)
      refine W.eq (g2 := F0 m 23 ls [.int r_20]) rfl ?_
      refine lv_istore (lv' := [(10, .int r_20), (9, .int (nI j)), (7, .long v7), (5, .long v5), (0, .ref ap), (1, .long x), (3, .long y)]) hx hb dd_Sp_take_23 hl (by decide) rfl (fun ls hl => ?_)
      refine lv_iload hx hb dd_Sp_take_25 (lv_at hl 0 rfl) ?_
      refine lv_if_eq (tgt := 79) hx hb dd_Sp_take_27 (by decide) (fun h27 => ?_) (fun h27 => ?_)
      · rw [if_pos h27] at hM
        refine lv_lload hx hb dd_Sp_take_79 (lv_at hl 3 rfl) ?_
        refine lv_iload hx hb dd_Sp_take_81 (lv_at hl 0 rfl) ?_
        refine lv_aload_n hx hb dd_Sp_take_83 rfl (lv_at hl 4 rfl) ?_
        refine ly_get (v := .ref aq) C hP 0 rfl uw_Sp rfl 0 (by decide) wa_228 rfl dd_Sp_take_84 ?_
        refine lv_iload hx hb dd_Sp_take_87 (lv_at hl 1 rfl) ?_
        refine ly_lald C hP 1 rfl j rfl (by omega) (by omega) dd_Sp_take_89 ?_
        obtain ⟨r_90, hq90⟩ : ∃ z, z = mm_By_times r_20 (sr j) := ⟨_, rfl⟩
        try rw [← hq90] at hM
        refine ly_cS_l (n := 2) (z := r_90) (rest := [.long v5]) (wn := (ws_Sp K ap aq ax sr sv)) C (cc_By_times D K r_20 (sr j)) hq90 wa_198 wa_234 wa_149 wa_155 (by decide) (Nat.le_trans (by decide) hRf) (Nat.le_trans (by decide) hRl) rfl hl.1 rfl (Nat.le_of_ble_eq_true rfl) dd_Sp_take_90 hcs [] [0, 1, 2] [0, 1, 2] hP hD hS rfl rfl (by decide) rfl (fun H locs hP hD hS => ?_)
        refine W.eq (g2 := F0 m 93 ls [.long r_90, .long v5]) rfl ?_
        refine lv_lxor hx hb dd_Sp_take_93 ?_
        refine lv_lstore (lv' := [(5, .long (v5 ^^^ r_90)), (10, .int r_20), (9, .int (nI j)), (7, .long v7), (0, .ref ap), (1, .long x), (3, .long y)]) hx hb dd_Sp_take_94 hl (by decide) rfl (fun ls hl => ?_)
        refine lv_lload hx hb dd_Sp_take_96 (lv_at hl 3 rfl) ?_
        refine lv_iload hx hb dd_Sp_take_98 (lv_at hl 1 rfl) ?_
        refine lv_aload_n hx hb dd_Sp_take_100 rfl (lv_at hl 4 rfl) ?_
        refine ly_get (v := .ref ax) C hP 0 rfl uw_Sp rfl 1 (by decide) wa_229 rfl dd_Sp_take_101 ?_
        refine lv_iload hx hb dd_Sp_take_104 (lv_at hl 2 rfl) ?_
        refine ly_lald C hP 2 rfl j rfl (by omega) (by omega) dd_Sp_take_106 ?_
        obtain ⟨r_107, hq107⟩ : ∃ z, z = mm_By_times r_20 (sv j) := ⟨_, rfl⟩
        try rw [← hq107] at hM
        refine ly_cS_l (n := 2) (z := r_107) (rest := [.long v7]) (wn := (ws_Sp K ap aq ax sr sv)) C (cc_By_times D K r_20 (sv j)) hq107 wa_198 wa_234 wa_149 wa_155 (by decide) (Nat.le_trans (by decide) hRf) (Nat.le_trans (by decide) hRl) rfl hl.1 rfl (Nat.le_of_ble_eq_true rfl) dd_Sp_take_107 hcs [] [0, 1, 2] [0, 1, 2] hP hD hS rfl rfl (by decide) rfl (fun H locs hP hD hS => ?_)
        refine W.eq (g2 := F0 m 110 ls [.long r_107, .long v7]) rfl ?_
        refine lv_lxor hx hb dd_Sp_take_110 ?_
        refine lv_lstore (lv' := [(7, .long (v7 ^^^ r_107)), (5, .long (v5 ^^^ r_90)), (10, .int r_20), (9, .int (nI j)), (0, .ref ap), (1, .long x), (3, .long y)]) hx hb dd_Sp_take_111 hl (by decide) rfl (fun ls hl => ?_)
        refine lv_iinc (k := 3) (v := (nI (j + 1))) (lv' := [(9, .int (nI (j + 1))), (7, .long (v7 ^^^ r_107)), (5, .long (v5 ^^^ r_90)), (10, .int r_20), (0, .ref ap), (1, .long x), (3, .long y)]) hx hb dd_Sp_take_113 hl rfl (ly_incN _) (by decide) rfl (fun ls hl => ?_)
        refine lv_goto (tgt := 9) hx hb dd_Sp_take_116 (by decide) ?_
        exact ih9 (j + 1) (v5 ^^^ r_90) (v7 ^^^ r_107) ls H locs (by omega) hM (lv_sub hl [0, 1, 2, 4, 5, 6] rfl) hP hD hS
      · rw [if_neg h27] at hM
        refine lv_aload_n hx hb dd_Sp_take_30 rfl (lv_at hl 4 rfl) ?_
        refine ly_get (v := .ref aq) C hP 0 rfl uw_Sp rfl 0 (by decide) wa_228 rfl dd_Sp_take_31 ?_
        refine lv_iload hx hb dd_Sp_take_34 (lv_at hl 1 rfl) ?_
        refine ly_lald C hP 1 rfl j rfl (by omega) (by omega) dd_Sp_take_36 ?_
        refine lv_lconst (v := (0 : Int64)) hx hb dd_Sp_take_37 (by decide) ?_
        refine W.lcmp hx hb dd_Sp_take_38 ?_
        refine lv_if_ne (tgt := 79) hx hb dd_Sp_take_39 (by decide) (fun h39 => ?_) (fun h39 => ?_)
        · rw [if_neg h39] at hM
          refine lv_lload hx hb dd_Sp_take_79 (lv_at hl 3 rfl) ?_
          refine lv_iload hx hb dd_Sp_take_81 (lv_at hl 0 rfl) ?_
          refine lv_aload_n hx hb dd_Sp_take_83 rfl (lv_at hl 4 rfl) ?_
          refine ly_get (v := .ref aq) C hP 0 rfl uw_Sp rfl 0 (by decide) wa_228 rfl dd_Sp_take_84 ?_
          refine lv_iload hx hb dd_Sp_take_87 (lv_at hl 1 rfl) ?_
          refine ly_lald C hP 1 rfl j rfl (by omega) (by omega) dd_Sp_take_89 ?_
          obtain ⟨r_90, hq90⟩ : ∃ z, z = mm_By_times r_20 (sr j) := ⟨_, rfl⟩
          try rw [← hq90] at hM
          refine ly_cS_l (n := 2) (z := r_90) (rest := [.long v5]) (wn := (ws_Sp K ap aq ax sr sv)) C (cc_By_times D K r_20 (sr j)) hq90 wa_198 wa_234 wa_149 wa_155 (by decide) (Nat.le_trans (by decide) hRf) (Nat.le_trans (by decide) hRl) rfl hl.1 rfl (Nat.le_of_ble_eq_true rfl) dd_Sp_take_90 hcs [] [0, 1, 2] [0, 1, 2] hP hD hS rfl rfl (by decide) rfl (fun H locs hP hD hS => ?_)
          refine W.eq (g2 := F0 m 93 ls [.long r_90, .long v5]) rfl ?_
          refine lv_lxor hx hb dd_Sp_take_93 ?_
          refine lv_lstore (lv' := [(5, .long (v5 ^^^ r_90)), (10, .int r_20), (9, .int (nI j)), (7, .long v7), (0, .ref ap), (1, .long x), (3, .long y)]) hx hb dd_Sp_take_94 hl (by decide) rfl (fun ls hl => ?_)
          refine lv_lload hx hb dd_Sp_take_96 (lv_at hl 3 rfl) ?_
          refine lv_iload hx hb dd_Sp_take_98 (lv_at hl 1 rfl) ?_
          refine lv_aload_n hx hb dd_Sp_take_100 rfl (lv_at hl 4 rfl) ?_
          refine ly_get (v := .ref ax) C hP 0 rfl uw_Sp rfl 1 (by decide) wa_229 rfl dd_Sp_take_101 ?_
          refine lv_iload hx hb dd_Sp_take_104 (lv_at hl 2 rfl) ?_
          refine ly_lald C hP 2 rfl j rfl (by omega) (by omega) dd_Sp_take_106 ?_
          obtain ⟨r_107, hq107⟩ : ∃ z, z = mm_By_times r_20 (sv j) := ⟨_, rfl⟩
          try rw [← hq107] at hM
          refine ly_cS_l (n := 2) (z := r_107) (rest := [.long v7]) (wn := (ws_Sp K ap aq ax sr sv)) C (cc_By_times D K r_20 (sv j)) hq107 wa_198 wa_234 wa_149 wa_155 (by decide) (Nat.le_trans (by decide) hRf) (Nat.le_trans (by decide) hRl) rfl hl.1 rfl (Nat.le_of_ble_eq_true rfl) dd_Sp_take_107 hcs [] [0, 1, 2] [0, 1, 2] hP hD hS rfl rfl (by decide) rfl (fun H locs hP hD hS => ?_)
          refine W.eq (g2 := F0 m 110 ls [.long r_107, .long v7]) rfl ?_
          refine lv_lxor hx hb dd_Sp_take_110 ?_
          refine lv_lstore (lv' := [(7, .long (v7 ^^^ r_107)), (5, .long (v5 ^^^ r_90)), (10, .int r_20), (9, .int (nI j)), (0, .ref ap), (1, .long x), (3, .long y)]) hx hb dd_Sp_take_111 hl (by decide) rfl (fun ls hl => ?_)
          refine lv_iinc (k := 3) (v := (nI (j + 1))) (lv' := [(9, .int (nI (j + 1))), (7, .long (v7 ^^^ r_107)), (5, .long (v5 ^^^ r_90)), (10, .int r_20), (0, .ref ap), (1, .long x), (3, .long y)]) hx hb dd_Sp_take_113 hl rfl (ly_incN _) (by decide) rfl (fun ls hl => ?_)
          refine lv_goto (tgt := 9) hx hb dd_Sp_take_116 (by decide) ?_
          exact ih9 (j + 1) (v5 ^^^ r_90) (v7 ^^^ r_107) ls H locs (by omega) hM (lv_sub hl [0, 1, 2, 4, 5, 6] rfl) hP hD hS
        · rw [if_pos h39] at hM
          refine lv_iload hx hb dd_Sp_take_42 (lv_at hl 0 rfl) ?_
          obtain ⟨r_44, hq44⟩ : ∃ z, z = mm_By_inverse r_20 := ⟨_, rfl⟩
          try rw [← hq44] at hM
          refine ly_cS_i (n := 1) (z := r_44) (rest := []) (wn := (ws_Sp K ap aq ax sr sv)) C (cc_By_inverse D K r_20) hq44 wa_202 wa_233 wa_149 wa_224 (by decide) (Nat.le_trans (by decide) hRf) (Nat.le_trans (by decide) hRl) rfl hl.1 rfl (Nat.le_of_ble_eq_true rfl) dd_Sp_take_44 hcs [] [0, 1, 2] [0, 1, 2] hP hD hS rfl rfl (by decide) rfl (fun H locs hP hD hS => ?_)
          refine W.eq (g2 := F0 m 47 ls [.int r_44]) rfl ?_
          refine lv_istore (lv' := [(11, .int r_44), (10, .int r_20), (9, .int (nI j)), (7, .long v7), (5, .long v5), (0, .ref ap), (1, .long x), (3, .long y)]) hx hb dd_Sp_take_47 hl (by decide) rfl (fun ls hl => ?_)
          refine lv_aload_n hx hb dd_Sp_take_49 rfl (lv_at hl 5 rfl) ?_
          refine ly_get (v := .ref aq) C hP 0 rfl uw_Sp rfl 0 (by decide) wa_228 rfl dd_Sp_take_50 ?_
          refine lv_iload hx hb dd_Sp_take_53 (lv_at hl 2 rfl) ?_
          refine lv_iload hx hb dd_Sp_take_55 (lv_at hl 0 rfl) ?_
          refine lv_lload hx hb dd_Sp_take_57 (lv_at hl 4 rfl) ?_
          obtain ⟨r_59, hq59⟩ : ∃ z, z = mm_By_times r_44 v5 := ⟨_, rfl⟩
          try rw [← hq59] at hM
          refine ly_cS_l (n := 2) (z := r_59) (rest := [.int (nI j), .ref aq]) (wn := (ws_Sp K ap aq ax sr sv)) C (cc_By_times D K r_44 v5) hq59 wa_198 wa_234 wa_149 wa_155 (by decide) (Nat.le_trans (by decide) hRf) (Nat.le_trans (by decide) hRl) rfl hl.1 rfl (Nat.le_of_ble_eq_true rfl) dd_Sp_take_59 hcs [] [0, 1, 2] [0, 1, 2] hP hD hS rfl rfl (by decide) rfl (fun H locs hP hD hS => ?_)
          refine W.eq (g2 := F0 m 62 ls [.long r_59, .int (nI j), .ref aq]) rfl ?_
          refine ly_last (ws' := (ws_Sp K ap aq ax (vp_updL sr j r_59) sv)) C hP hD hS 1 rfl j rfl (by omega) (by omega) dd_Sp_take_62 rfl (fun H locs hP hD hS => ?_)
          refine lv_aload_n hx hb dd_Sp_take_63 rfl (lv_at hl 5 rfl) ?_
          refine ly_get (v := .ref ax) C hP 0 rfl uw_Sp rfl 1 (by decide) wa_229 rfl dd_Sp_take_64 ?_
          refine lv_iload hx hb dd_Sp_take_67 (lv_at hl 2 rfl) ?_
          refine lv_iload hx hb dd_Sp_take_69 (lv_at hl 0 rfl) ?_
          refine lv_lload hx hb dd_Sp_take_71 (lv_at hl 3 rfl) ?_
          obtain ⟨r_73, hq73⟩ : ∃ z, z = mm_By_times r_44 v7 := ⟨_, rfl⟩
          try rw [← hq73] at hM
          refine ly_cS_l (n := 2) (z := r_73) (rest := [.int (nI j), .ref ax]) (wn := (ws_Sp K ap aq ax (vp_updL sr j r_59) sv)) C (cc_By_times D K r_44 v7) hq73 wa_198 wa_234 wa_149 wa_155 (by decide) (Nat.le_trans (by decide) hRf) (Nat.le_trans (by decide) hRl) rfl hl.1 rfl (Nat.le_of_ble_eq_true rfl) dd_Sp_take_73 hcs [] [0, 1, 2] [0, 1, 2] hP hD hS rfl rfl (by decide) rfl (fun H locs hP hD hS => ?_)
          refine W.eq (g2 := F0 m 76 ls [.long r_73, .int (nI j), .ref ax]) rfl ?_
          refine ly_last (ws' := (ws_Sp K ap aq ax (vp_updL sr j r_59) (vp_updL sv j r_73))) C hP hD hS 2 rfl j rfl (by omega) (by omega) dd_Sp_take_76 rfl (fun H locs hP hD hS => ?_)
          refine lv_iconst (v := (1 : Int32)) hx hb dd_Sp_take_77 (by decide) ?_
          exact ret ((1 : Int32), (vp_updL sr j r_59), (vp_updL sv j r_73)) H locs 78 ls hM ly_z1 hS hP hD dd_Sp_take_78
  exact lp9 6 0 x y ls H locs (by omega) hM (lv_sub hl [0, 1, 2, 3, 4, 5] rfl) hP hD hS

def mm_Sp_valueOf_L8 (sr : Nat → Int64) (sv : Nat → Int64) : Nat → Nat → (Int64) → (Int64) → Int64
  | 0, j, v3, v5 => v5
  | k + 1, j, v3, v5 => (mm_Sp_valueOf_L8 sr sv k (j + 1) (v3 ^^^ (mm_By_times (mm_By_at v3 j) (sr j))) (v5 ^^^ (mm_By_times (mm_By_at v3 j) (sv j))))
def mm_Sp_valueOf (x : Int64) (sr : Nat → Int64) (sv : Nat → Int64) : Int64 := (mm_Sp_valueOf_L8 sr sv 6 0 x (0 : Int64))
set_option maxHeartbeats 4000000 in
set_option maxRecDepth 100000 in
theorem cc_Sp_valueOf {l : Launch} (D : va_G) (K : Nat → ClassId) (ap aq ax : Nat) (x : Int64) (sr : Nat → Int64) (sv : Nat → Int64) : ly_l l yy_Sp_valueOf bb_Sp_valueOf 9 (some .long) 1 31 D K [.ref ap, .long x] (ws_Sp K ap aq ax sr sv) (fun z => z) (fun _ => (ws_Sp K ap aq ax sr sv)) (mm_Sp_valueOf x sr sv) := by
  refine ly_entL (by decide) (Nat.le_of_ble_eq_true rfl) ?_
  intro p e s m av below meth c A ls R Q H locs res hM C hRf hRl hS hP hD hl ret
  obtain ⟨hx, hb, -⟩ := id C
  have hcs : 0 ≤ R.cells ∧ 0 ≤ R.slots := ⟨Nat.zero_le _, Nat.zero_le _⟩
  have hl : lv_has ls 9 [(0, .ref ap), (1, .long x)] := hl
  rw [mm_Sp_valueOf] at hM
  refine lv_lload_n hx hb dd_Sp_valueOf_0 rfl (lv_at hl 1 rfl) ?_
  refine lv_lstore_n (lv' := [(3, .long x), (0, .ref ap), (1, .long x)]) hx hb dd_Sp_valueOf_1 rfl hl (by decide) rfl (fun ls hl => ?_)
  refine lv_lconst (v := (0 : Int64)) hx hb dd_Sp_valueOf_2 (by decide) ?_
  refine lv_lstore (lv' := [(5, .long (0 : Int64)), (3, .long x), (0, .ref ap), (1, .long x)]) hx hb dd_Sp_valueOf_3 hl (by decide) rfl (fun ls hl => ?_)
  refine lv_iconst (v := (0 : Int32)) hx hb dd_Sp_valueOf_5 (by decide) ?_
  refine lv_istore (lv' := [(7, .int (0 : Int32)), (5, .long (0 : Int64)), (3, .long x), (0, .ref ap), (1, .long x)]) hx hb dd_Sp_valueOf_6 hl (by decide) rfl (fun ls hl => ?_)
  have lp8 : ∀ (k : Nat) (j : Nat) (v3 : Int64) (v5 : Int64) (ls : Array Slot) (H : Heap) (locs : List Loc), j + k = 6 → mm_Sp_valueOf_L8 sr sv k j v3 v5 = res → lv_has ls 9 [(7, .int (nI j)), (5, .long v5), (3, .long v3), (0, .ref ap), (1, .long x)] → va_P D cl_all (ws_Sp K ap aq ax sr sv) H → va_D A (ws_Sp K ap aq ax sr sv) → va_S A s.heap H locs → W p l e R s m av below meth c H locs 0 0 Q (F0 m 8 ls []) := by
    intro k
    induction k with
    | zero =>
      intro j v3 v5 ls H locs hjk8 hM hl hP hD hS
      have hj0 : j = 6 := by omega
      subst j
      rw [mm_Sp_valueOf_L8] at hM
      refine lv_iload hx hb dd_Sp_valueOf_8 (lv_at hl 0 rfl) ?_
      refine lv_bipush (v := (6 : Int32)) hx hb dd_Sp_valueOf_10 (by decide) ?_
      refine lv_icmp_ge (tgt := 61) hx hb dd_Sp_valueOf_12 (by decide) (fun _ => ?_) (fun h => absurd (nI_le (a := 6) (b := 6) (by omega) (by omega)) h)
      refine lv_lload hx hb dd_Sp_valueOf_61 (lv_at hl 1 rfl) ?_
      exact ret v5 H locs 63 ls hM hS hP hD dd_Sp_valueOf_63
    | succ k ih8 =>
      intro j v3 v5 ls H locs hjk8 hM hl hP hD hS
      rw [mm_Sp_valueOf_L8] at hM
      refine lv_iload hx hb dd_Sp_valueOf_8 (lv_at hl 0 rfl) ?_
      refine lv_bipush (v := (6 : Int32)) hx hb dd_Sp_valueOf_10 (by decide) ?_
      refine lv_icmp_ge (tgt := 61) hx hb dd_Sp_valueOf_12 (by decide) (fun h => absurd h (nI_ge (a := j) (b := 6) (by omega) (by omega))) (fun _ => ?_)
      refine lv_lload_n hx hb dd_Sp_valueOf_15 rfl (lv_at hl 2 rfl) ?_
      refine lv_iload hx hb dd_Sp_valueOf_16 (lv_at hl 0 rfl) ?_
      obtain ⟨r_18, hq18⟩ : ∃ z, z = mm_By_at v3 j := ⟨_, rfl⟩
      try rw [← hq18] at hM
      refine ly_cS_i (n := 2) (z := r_18) (rest := []) (wn := (ws_Sp K ap aq ax sr sv)) C (cc_By_at D K v3 j) hq18 wa_196 wa_232 wa_149 wa_150 (by decide) (Nat.le_trans (by decide) hRf) (Nat.le_trans (by decide) hRl) rfl hl.1 rfl (Nat.le_of_ble_eq_true rfl) dd_Sp_valueOf_18 hcs [] [0, 1, 2] [0, 1, 2] hP hD hS rfl rfl (by decide) rfl (fun H locs hP hD hS => ?_)
      refine W.eq (g2 := F0 m 21 ls [.int r_18]) rfl ?_
      refine lv_istore (lv' := [(8, .int r_18), (7, .int (nI j)), (5, .long v5), (3, .long v3), (0, .ref ap), (1, .long x)]) hx hb dd_Sp_valueOf_21 hl (by decide) rfl (fun ls hl => ?_)
      refine lv_lload_n hx hb dd_Sp_valueOf_23 rfl (lv_at hl 3 rfl) ?_
      refine lv_iload hx hb dd_Sp_valueOf_24 (lv_at hl 0 rfl) ?_
      refine lv_aload_n hx hb dd_Sp_valueOf_26 rfl (lv_at hl 4 rfl) ?_
      refine ly_get (v := .ref aq) C hP 0 rfl uw_Sp rfl 0 (by decide) wa_228 rfl dd_Sp_valueOf_27 ?_
      refine lv_iload hx hb dd_Sp_valueOf_30 (lv_at hl 1 rfl) ?_
      refine ly_lald C hP 1 rfl j rfl (by omega) (by omega) dd_Sp_valueOf_32 ?_
      obtain ⟨r_33, hq33⟩ : ∃ z, z = mm_By_times r_18 (sr j) := ⟨_, rfl⟩
      try rw [← hq33] at hM
      refine ly_cS_l (n := 2) (z := r_33) (rest := [.long v3]) (wn := (ws_Sp K ap aq ax sr sv)) C (cc_By_times D K r_18 (sr j)) hq33 wa_198 wa_234 wa_149 wa_155 (by decide) (Nat.le_trans (by decide) hRf) (Nat.le_trans (by decide) hRl) rfl hl.1 rfl (Nat.le_of_ble_eq_true rfl) dd_Sp_valueOf_33 hcs [] [0, 1, 2] [0, 1, 2] hP hD hS rfl rfl (by decide) rfl (fun H locs hP hD hS => ?_)
      refine W.eq (g2 := F0 m 36 ls [.long r_33, .long v3]) rfl ?_
      refine lv_lxor hx hb dd_Sp_valueOf_36 ?_
      refine lv_lstore_n (lv' := [(3, .long (v3 ^^^ r_33)), (8, .int r_18), (7, .int (nI j)), (5, .long v5), (0, .ref ap), (1, .long x)]) hx hb dd_Sp_valueOf_37 rfl hl (by decide) rfl (fun ls hl => ?_)
      refine lv_lload hx hb dd_Sp_valueOf_38 (lv_at hl 3 rfl) ?_
      refine lv_iload hx hb dd_Sp_valueOf_40 (lv_at hl 1 rfl) ?_
      refine lv_aload_n hx hb dd_Sp_valueOf_42 rfl (lv_at hl 4 rfl) ?_
      refine ly_get (v := .ref ax) C hP 0 rfl uw_Sp rfl 1 (by decide) wa_229 rfl dd_Sp_valueOf_43 ?_
      refine lv_iload hx hb dd_Sp_valueOf_46 (lv_at hl 2 rfl) ?_
      refine ly_lald C hP 2 rfl j rfl (by omega) (by omega) dd_Sp_valueOf_48 ?_
      obtain ⟨r_49, hq49⟩ : ∃ z, z = mm_By_times r_18 (sv j) := ⟨_, rfl⟩
      try rw [← hq49] at hM
      refine ly_cS_l (n := 2) (z := r_49) (rest := [.long v5]) (wn := (ws_Sp K ap aq ax sr sv)) C (cc_By_times D K r_18 (sv j)) hq49 wa_198 wa_234 wa_149 wa_155 (by decide) (Nat.le_trans (by decide) hRf) (Nat.le_trans (by decide) hRl) rfl hl.1 rfl (Nat.le_of_ble_eq_true rfl) dd_Sp_valueOf_49 hcs [] [0, 1, 2] [0, 1, 2] hP hD hS rfl rfl (by decide) rfl (fun H locs hP hD hS => ?_)
      refine W.eq (g2 := F0 m 52 ls [.long r_49, .long v5]) rfl ?_
      refine lv_lxor hx hb dd_Sp_valueOf_52 ?_
      refine lv_lstore (lv' := [(5, .long (v5 ^^^ r_49)), (3, .long (v3 ^^^ r_33)), (8, .int r_18), (7, .int (nI j)), (0, .ref ap), (1, .long x)]) hx hb dd_Sp_valueOf_53 hl (by decide) rfl (fun ls hl => ?_)
      refine lv_iinc (k := 3) (v := (nI (j + 1))) (lv' := [(7, .int (nI (j + 1))), (5, .long (v5 ^^^ r_49)), (3, .long (v3 ^^^ r_33)), (8, .int r_18), (0, .ref ap), (1, .long x)]) hx hb dd_Sp_valueOf_55 hl rfl (ly_incN _) (by decide) rfl (fun ls hl => ?_)
      refine lv_goto (tgt := 8) hx hb dd_Sp_valueOf_58 (by decide) ?_
      exact ih8 (j + 1) (v3 ^^^ r_33) (v5 ^^^ r_49) ls H locs (by omega) hM (lv_sub hl [0, 1, 2, 4, 5] rfl) hP hD hS
  exact lp8 6 0 x (0 : Int64) ls H locs (by omega) hM (lv_sub hl [0, 1, 2, 3, 4] rfl) hP hD hS
