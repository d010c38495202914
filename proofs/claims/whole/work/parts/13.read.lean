def mm_RG_readShard (i : Nat) (ct : Nat → Int32) (th : Int32) (fl : Nat → Int64) : Int32 × (Nat → Int32) × (Int32) := (if (mm_Sq_isDamaged i fl) = (0 : Int32) then ((1 : Int32), (upd ct 0 ((ct 0) + (1 : Int32))), th) else ((0 : Int32), (upd ct 0 ((ct 0) + (1 : Int32))), (mm_Sq_lose i th)))
set_option maxHeartbeats 4000000 in
set_option maxRecDepth 100000 in
theorem cc_RG_readShard {l : Launch} (D : va_G) (K : Nat → ClassId) (ah ac ar ap aq ax au ak a0 aw af az : Nat) (i : Nat) (n : Nat) (fn : Nat) (lf : Int64) (rb : Int64) (gr : Int32) (ro : Nat → Int64) (sr : Nat → Int64) (sv : Nat → Int64) (up : Nat → Int32) (ct : Nat → Int32) (al : Int32) (th : Int32) (wr : Nat → Int64) (fl : Nat → Int64) (hi : i < n) (hn : n ≤ 11) (hn6 : 6 ≤ n) (hfn : fn ≤ 10) : ly_i l yy_RG_readShard bb_RG_readShard 3 (some .boolean) 1 21 D K [.ref ah, .ref a0, .int (nI i)] (ws_RG K ah ac ar ap aq ax au ak a0 aw af az n fn lf rb gr ro sr sv up ct al th wr fl) (fun z => z.1) (fun z => (ws_RG K ah ac ar ap aq ax au ak a0 aw af az n fn lf rb gr ro sr sv up (z.2.1) al (z.2.2) wr fl)) (mm_RG_readShard i ct th fl) := by
  refine ly_entI (by decide) (Nat.le_of_ble_eq_true rfl) ?_
  intro p e s m av below meth c A ls R Q H locs res hM C hRf hRl hS hP hD hl ret
  obtain ⟨hx, hb, -⟩ := id C
  have hcs : 0 ≤ R.cells ∧ 0 ≤ R.slots := ⟨Nat.zero_le _, Nat.zero_le _⟩
  have hl : lv_has ls 3 [(0, .ref ah), (1, .ref a0), (2, .int (nI i))] := hl
  rw [mm_RG_readShard] at hM
  refine lv_aload_n hx hb dd_RG_readShard_0 rfl (lv_at hl 0 rfl) ?_
  refine ly_get (v := .ref ak) C hP 0 rfl uw_RG rfl 4 (by decide) wa_59 rfl dd_RG_readShard_1 ?_
  refine lv_iconst (v := (0 : Int32)) hx hb dd_RG_readShard_4 (by decide) ?_
  refine lv_dup2_11 hx hb dd_RG_readShard_5 rfl rfl ?_
  refine ly_iald C hP 7 rfl 0 rfl (by omega) (by omega) dd_RG_readShard_6 ?_
  refine lv_iconst (v := (1 : Int32)) hx hb dd_RG_readShard_7 (by decide) ?_
  refine lv_iadd hx hb dd_RG_readShard_8 ?_
  refine ly_iast (ws' := (ws_RG K ah ac ar ap aq ax au ak a0 aw af az n fn lf rb gr ro sr sv up (upd ct 0 ((ct 0) + (1 : Int32))) al th wr fl)) C hP hD hS 7 rfl 0 rfl (by omega) (by omega) dd_RG_readShard_9 rfl (fun H locs hP hD hS => ?_)
  refine lv_aload_n hx hb dd_RG_readShard_10 rfl (lv_at hl 1 rfl) ?_
  refine lv_iload_n hx hb dd_RG_readShard_11 rfl (lv_at hl 2 rfl) ?_
  obtain ⟨r_12, hq12⟩ : ∃ z, z = mm_Sq_isDamaged i fl := ⟨_, rfl⟩
  try rw [← hq12] at hM
  refine ly_cV_i (n := 1) (z := r_12) (rest := []) (wn := (ws_RG K ah ac ar ap aq ax au ak a0 aw af az n fn lf rb gr ro sr sv up (upd ct 0 ((ct 0) + (1 : Int32))) al th wr fl)) C (cc_Sq_isDamaged D K a0 aw af i n fn al th wr fl (by omega) (by omega) (by omega)) hq12 wa_246 wa_136 wa_53 wa_137 wa_138 (by decide) (Nat.le_trans (by decide) hRf) (Nat.le_trans (by decide) hRl) rfl hl.1 rfl (Nat.le_of_ble_eq_true rfl) dd_RG_readShard_12 hcs [8, 9, 10] [0, 1, 2, 3, 4, 5, 6, 7] [0, 1, 2, 3, 4, 5, 6, 7, 8, 9, 10] hP hD hS rfl rfl (by decide) rfl rfl rfl (fun H locs hP hD hS => ?_)
  refine W.eq (g2 := F0 m 15 ls [.int r_12]) rfl ?_
  refine lv_if_eq (tgt := 25) hx hb dd_RG_readShard_15 (by decide) (fun h15 => ?_) (fun h15 => ?_)
  · rw [if_pos h15] at hM
    refine lv_iconst (v := (1 : Int32)) hx hb dd_RG_readShard_25 (by decide) ?_
    exact ret ((1 : Int32), (upd ct 0 ((ct 0) + (1 : Int32))), th) H locs 26 ls hM ly_z1 hS hP hD dd_RG_readShard_26
  · rw [if_neg h15] at hM
    refine lv_aload_n hx hb dd_RG_readShard_18 rfl (lv_at hl 1 rfl) ?_
    refine lv_iload_n hx hb dd_RG_readShard_19 rfl (lv_at hl 2 rfl) ?_
    obtain ⟨th_20, hq20⟩ : ∃ z, z = mm_Sq_lose i th := ⟨_, rfl⟩
    try rw [← hq20] at hM
    refine ly_cV_v (n := 1) (z := th_20) (rest := []) (wn := (ws_RG K ah ac ar ap aq ax au ak a0 aw af az n fn lf rb gr ro sr sv up (upd ct 0 ((ct 0) + (1 : Int32))) al th_20 wr fl)) C (cc_Sq_lose D K a0 aw af i n fn al th wr fl (by omega) (by omega)) hq20 wa_249 wa_139 wa_53 wa_140 wa_141 (by decide) (Nat.le_trans (by decide) hRf) (Nat.le_trans (by decide) hRl) rfl hl.1 rfl (Nat.le_of_ble_eq_true rfl) dd_RG_readShard_20 hcs [8, 9, 10] [0, 1, 2, 3, 4, 5, 6, 7] [0, 1, 2, 3, 4, 5, 6, 7, 8, 9, 10] hP hD hS rfl rfl (by decide) rfl rfl rfl (fun H locs hP hD hS => ?_)
    refine W.eq (g2 := F0 m 23 ls []) rfl ?_
    refine lv_iconst (v := (0 : Int32)) hx hb dd_RG_readShard_23 (by decide) ?_
    exact ret ((0 : Int32), (upd ct 0 ((ct 0) + (1 : Int32))), th_20) H locs 24 ls hM ly_z0 hS hP hD dd_RG_readShard_24
theorem zb_RG_readShard {i : Nat} {ct ct' : Nat → Int32} {th th' r : Int32} {fl : Nat → Int64} (h : (r, ct', th') = mm_RG_readShard i ct th fl) : narrow .boolean (.int r) = .int r := by
  unfold mm_RG_readShard at h
  split at h
  · cases h; rfl
  · cases h; rfl
def mm_RG_readShardFor (i : Nat) (q : Nat) (fn : Nat) (ct : Nat → Int32) (th : Int32) (fl : Nat → Int64) : Int32 × (Nat → Int32) × (Int32) := (if ((nI ((fn + i) % 12)) / (3 : Int32)) = ((nI ((fn + q) % 12)) / (3 : Int32)) then (match mm_RG_readShard i ct th fl with | (r_34, ct_34, th_34) => (r_34, ct_34, th_34)) else (match mm_RG_readShard i (upd ct 2 ((ct 2) + (1 : Int32))) th fl with | (r_34, ct_34, th_34) => (r_34, ct_34, th_34)))
set_option maxHeartbeats 4000000 in
set_option maxRecDepth 100000 in
theorem cc_RG_readShardFor {l : Launch} (D : va_G) (K : Nat → ClassId) (ah ac ar ap aq ax au ak a0 aw af az : Nat) (i : Nat) (q : Nat) (n : Nat) (fn : Nat) (lf : Int64) (rb : Int64) (gr : Int32) (ro : Nat → Int64) (sr : Nat → Int64) (sv : Nat → Int64) (up : Nat → Int32) (ct : Nat → Int32) (al : Int32) (th : Int32) (wr : Nat → Int64) (fl : Nat → Int64) (hi : i < n) (hq : q < n) (hn : n ≤ 11) (hn6 : 6 ≤ n) (hfn : fn ≤ 10) : ly_i l yy_RG_readShardFor bb_RG_readShardFor 5 (some .boolean) 2 43 D K [.ref ah, .ref a0, .int (nI i), .int (nI q)] (ws_RG K ah ac ar ap aq ax au ak a0 aw af az n fn lf rb gr ro sr sv up ct al th wr fl) (fun z => z.1) (fun z => (ws_RG K ah ac ar ap aq ax au ak a0 aw af az n fn lf rb gr ro sr sv up (z.2.1) al (z.2.2) wr fl)) (mm_RG_readShardFor i q fn ct th fl) := by
  refine ly_entI (by decide) (Nat.le_of_ble_eq_true rfl) ?_
  intro p e s m av below meth c A ls R Q H locs res hM C hRf hRl hS hP hD hl ret
  obtain ⟨hx, hb, -⟩ := id C
  have hcs : 0 ≤ R.cells ∧ 0 ≤ R.slots := ⟨Nat.zero_le _, Nat.zero_le _⟩
  have hl : lv_has ls 5 [(0, .ref ah), (1, .ref a0), (2, .int (nI i)), (3, .int (nI q))] := hl
  rw [mm_RG_readShardFor] at hM
  refine lv_aload_n hx hb dd_RG_readShardFor_0 rfl (lv_at hl 1 rfl) ?_
  refine lv_iload_n hx hb dd_RG_readShardFor_1 rfl (lv_at hl 2 rfl) ?_
  refine ly_cV_i (n := 1) (z := (nI ((fn + i) % 12))) (rest := []) (wn := (ws_RG K ah ac ar ap aq ax au ak a0 aw af az n fn lf rb gr ro sr sv up ct al th wr fl)) C (cc_Sq_nodeOf D K a0 aw af i n fn al th wr fl (by omega) (by omega) (by omega)) rfl wa_243 wa_101 wa_53 wa_102 wa_103 (by decide) (Nat.le_trans (by decide) hRf) (Nat.le_trans (by decide) hRl) rfl hl.1 rfl (Nat.le_of_ble_eq_true rfl) dd_RG_readShardFor_2 hcs [8, 9, 10] [0, 1, 2, 3, 4, 5, 6, 7] [0, 1, 2, 3, 4, 5, 6, 7, 8, 9, 10] hP hD hS rfl rfl (by decide) rfl rfl rfl (fun H locs hP hD hS => ?_)
  refine W.eq (g2 := F0 m 5 ls [.int (nI ((fn + i) % 12))]) rfl ?_
  refine lv_iconst (v := (3 : Int32)) hx hb dd_RG_readShardFor_5 (by decide) ?_
  refine lv_idiv hx hb dd_RG_readShardFor_6 (by decide) ?_
  refine lv_istore (lv' := [(4, .int ((nI ((fn + i) % 12)) / (3 : Int32))), (0, .ref ah), (1, .ref a0), (2, .int (nI i)), (3, .int (nI q))]) hx hb dd_RG_readShardFor_7 hl (by decide) rfl (fun ls hl => ?_)
  refine lv_iload hx hb dd_RG_readShardFor_9 (lv_at hl 0 rfl) ?_
  refine lv_aload_n hx hb dd_RG_readShardFor_11 rfl (lv_at hl 2 rfl) ?_
  refine lv_iload_n hx hb dd_RG_readShardFor_12 rfl (lv_at hl 4 rfl) ?_
  refine ly_cV_i (n := 1) (z := (nI ((fn + q) % 12))) (rest := [.int ((nI ((fn + i) % 12)) / (3 : Int32))]) (wn := (ws_RG K ah ac ar ap aq ax au ak a0 aw af az n fn lf rb gr ro sr sv up ct al th wr fl)) C (cc_Sq_nodeOf D K a0 aw af q n fn al th wr fl (by omega) (by omega) (by omega)) rfl wa_243 wa_101 wa_53 wa_102 wa_103 (by decide) (Nat.le_trans (by decide) hRf) (Nat.le_trans (by decide) hRl) rfl hl.1 rfl (Nat.le_of_ble_eq_true rfl) dd_RG_readShardFor_13 hcs [8, 9, 10] [0, 1, 2, 3, 4, 5, 6, 7] [0, 1, 2, 3, 4, 5, 6, 7, 8, 9, 10] hP hD hS rfl rfl (by decide) rfl rfl rfl (fun H locs hP hD hS => ?_)
  refine W.eq (g2 := F0 m 16 ls [.int (nI ((fn + q) % 12)), .int ((nI ((fn + i) % 12)) / (3 : Int32))]) rfl ?_
  refine lv_iconst (v := (3 : Int32)) hx hb dd_RG_readShardFor_16 (by decide) ?_
  refine lv_idiv hx hb dd_RG_readShardFor_17 (by decide) ?_
  refine lv_icmp_eq (tgt := 31) hx hb dd_RG_readShardFor_18 (by decide) (fun h18 => ?_) (fun h18 => ?_)
  · rw [if_pos h18] at hM
    refine lv_aload_n hx hb dd_RG_readShardFor_31 rfl (lv_at hl 1 rfl) ?_
    refine lv_aload_n hx hb dd_RG_readShardFor_32 rfl (lv_at hl 2 rfl) ?_
    refine lv_iload_n hx hb dd_RG_readShardFor_33 rfl (lv_at hl 3 rfl) ?_
    obtain ⟨⟨r_34, ct_34, th_34⟩, hq34⟩ : ∃ z, z = mm_RG_readShard i ct th fl := ⟨_, rfl⟩
    try rw [← hq34] at hM
    try dsimp only at hM
    refine ly_cV_i (n := 2) (z := (r_34, ct_34, th_34)) (rest := []) (wn := (ws_RG K ah ac ar ap aq ax au ak a0 aw af az n fn lf rb gr ro sr sv up ct_34 al th_34 wr fl)) C (cc_RG_readShard D K ah ac ar ap aq ax au ak a0 aw af az i n fn lf rb gr ro sr sv up ct al th wr fl (by omega) (by omega) (by omega) (by omega)) hq34 wa_135 wa_67 wa_62 wa_68 wa_69 (by decide) (Nat.le_trans (by decide) hRf) (Nat.le_trans (by decide) hRl) rfl hl.1 rfl (Nat.le_of_ble_eq_true rfl) dd_RG_readShardFor_34 hcs [0, 1, 2, 3, 4, 5, 6, 7, 8, 9, 10] [] [0, 1, 2, 3, 4, 5, 6, 7, 8, 9, 10] hP hD hS rfl rfl (by decide) rfl rfl rfl (fun H locs hP hD hS => ?_)
    refine W.eq (g2 := F0 m 37 ls [.int r_34]) rfl ?_
    exact ret (r_34, ct_34, th_34) H locs 37 ls hM (by first | exact zb_RG_readShard hq34) hS hP hD dd_RG_readShardFor_37
  · rw [if_neg h18] at hM
    refine lv_aload_n hx hb dd_RG_readShardFor_21 rfl (lv_at hl 1 rfl) ?_
    refine ly_get (v := .ref ak) C hP 0 rfl uw_RG rfl 4 (by decide) wa_59 rfl dd_RG_readShardFor_22 ?_
    refine lv_iconst (v := (2 : Int32)) hx hb dd_RG_readShardFor_25 (by decide) ?_
    refine lv_dup2_11 hx hb dd_RG_readShardFor_26 rfl rfl ?_
    refine ly_iald C hP 7 rfl 2 rfl (by omega) (by omega) dd_RG_readShardFor_27 ?_
    refine lv_iconst (v := (1 : Int32)) hx hb dd_RG_readShardFor_28 (by decide) ?_
    refine lv_iadd hx hb dd_RG_readShardFor_29 ?_
    refine ly_iast (ws' := (ws_RG K ah ac ar ap aq ax au ak a0 aw af az n fn lf rb gr ro sr sv up (upd ct 2 ((ct 2) + (1 : Int32))) al th wr fl)) C hP hD hS 7 rfl 2 rfl (by omega) (by omega) dd_RG_readShardFor_30 rfl (fun H locs hP hD hS => ?_)
    refine lv_aload_n hx hb dd_RG_readShardFor_31 rfl (lv_at hl 1 rfl) ?_
    refine lv_aload_n hx hb dd_RG_readShardFor_32 rfl (lv_at hl 2 rfl) ?_
    refine lv_iload_n hx hb dd_RG_readShardFor_33 rfl (lv_at hl 3 rfl) ?_
    obtain ⟨⟨r_34, ct_34, th_34⟩, hq34⟩ : ∃ z, z = mm_RG_readShard i (upd ct 2 ((ct 2) + (1 : Int32))) th fl := ⟨_, rfl⟩
    try rw [← hq34] at hM
    try dsimp only at hM
    refine ly_cV_i (n := 2) (z := (r_34, ct_34, th_34)) (rest := []) (wn := (ws_RG K ah ac ar ap aq ax au ak a0 aw af az n fn lf rb gr ro sr sv up ct_34 al th_34 wr fl)) C (cc_RG_readShard D K ah ac ar ap aq ax au ak a0 aw af az i n fn lf rb gr ro sr sv up (upd ct 2 ((ct 2) + (1 : Int32))) al th wr fl (by omega) (by omega) (by omega) (by omega)) hq34 wa_135 wa_67 wa_62 wa_68 wa_69 (by decide) (Nat.le_trans (by decide) hRf) (Nat.le_trans (by decide) hRl) rfl hl.1 rfl (Nat.le_of_ble_eq_true rfl) dd_RG_readShardFor_34 hcs [0, 1, 2, 3, 4, 5, 6, 7, 8, 9, 10] [] [0, 1, 2, 3, 4, 5, 6, 7, 8, 9, 10] hP hD hS rfl rfl (by decide) rfl rfl rfl (fun H locs hP hD hS => ?_)
    refine W.eq (g2 := F0 m 37 ls [.int r_34]) rfl ?_
    exact ret (r_34, ct_34, th_34) H locs 37 ls hM (by first | exact zb_RG_readShard hq34) hS hP hD dd_RG_readShardFor_37

def mm_RG_writeShard (i : Nat) (x : Int64) (ct : Nat → Int32) (th : Int32) (wr : Nat → Int64) (fl : Nat → Int64) : (Nat → Int32) × (Int32) × (Nat → Int64) × (Nat → Int64) := (match mm_Sq_store i x th wr fl with | (th_13, wr_13, fl_13) => ((upd ct 1 ((ct 1) + (1 : Int32))), th_13, wr_13, fl_13))
set_option maxHeartbeats 4000000 in
set_option maxRecDepth 100000 in
theorem cc_RG_writeShard {l : Launch} (D : va_G) (K : Nat → ClassId) (ah ac ar ap aq ax au ak a0 aw af az : Nat) (i : Nat) (x : Int64) (n : Nat) (fn : Nat) (lf : Int64) (rb : Int64) (gr : Int32) (ro : Nat → Int64) (sr : Nat → Int64) (sv : Nat → Int64) (up : Nat → Int32) (ct : Nat → Int32) (al : Int32) (th : Int32) (wr : Nat → Int64) (fl : Nat → Int64) (hi : i < n) (hn : n ≤ 11) (hn6 : 6 ≤ n) (hfn : fn ≤ 10) : ly_v l yy_RG_writeShard bb_RG_writeShard 5 none 1 23 D K [.ref ah, .ref a0, .int (nI i), .long x] (ws_RG K ah ac ar ap aq ax au ak a0 aw af az n fn lf rb gr ro sr sv up ct al th wr fl) (fun z => (ws_RG K ah ac ar ap aq ax au ak a0 aw af az n fn lf rb gr ro sr sv up (z.1) al (z.2.1) (z.2.2.1) (z.2.2.2))) (mm_RG_writeShard i x ct th wr fl) := by
  refine ly_entV (by decide) (Nat.le_of_ble_eq_true rfl) ?_
  intro p e s m av below meth c A ls R Q H locs res hM C hRf hRl hS hP hD hl ret
  obtain ⟨hx, hb, -⟩ := id C
  have hcs : 0 ≤ R.cells ∧ 0 ≤ R.slots := ⟨Nat.zero_le _, Nat.zero_le _⟩
  have hl : lv_has ls 5 [(0, .ref ah), (1, .ref a0), (2, .int (nI i)), (3, .long x)] := hl
  rw [mm_RG_writeShard] at hM
  refine lv_aload_n hx hb dd_RG_writeShard_0 rfl (lv_at hl 0 rfl) ?_
  refine ly_get (v := .ref ak) C hP 0 rfl uw_RG rfl 4 (by decide) wa_59 rfl dd_RG_writeShard_1 ?_
  refine lv_iconst (v := (1 : Int32)) hx hb dd_RG_writeShard_4 (by decide) ?_
  refine lv_dup2_11 hx hb dd_RG_writeShard_5 rfl rfl ?_
  refine ly_iald C hP 7 rfl 1 rfl (by omega) (by omega) dd_RG_writeShard_6 ?_
  refine lv_iconst (v := (1 : Int32)) hx hb dd_RG_writeShard_7 (by decide) ?_
  refine lv_iadd hx hb dd_RG_writeShard_8 ?_
  refine ly_iast (ws' := (ws_RG K ah ac ar ap aq ax au ak a0 aw af az n fn lf rb gr ro sr sv up (upd ct 1 ((ct 1) + (1 : Int32))) al th wr fl)) C hP hD hS 7 rfl 1 rfl (by omega) (by omega) dd_RG_writeShard_9 rfl (fun H locs hP hD hS => ?_)
  refine lv_aload_n hx hb dd_RG_writeShard_10 rfl (lv_at hl 1 rfl) ?_
  refine lv_iload_n hx hb dd_RG_writeShard_11 rfl (lv_at hl 2 rfl) ?_
  refine lv_lload_n hx hb dd_RG_writeShard_12 rfl (lv_at hl 3 rfl) ?_
  obtain ⟨⟨th_13, wr_13, fl_13⟩, hq13⟩ : ∃ z, z = mm_Sq_store i x th wr fl := ⟨_, rfl⟩
  try rw [← hq13] at hM
  try dsimp only at hM
  refine ly_cV_v (n := 2) (z := (th_13, wr_13, fl_13)) (rest := []) (wn := (ws_RG K ah ac ar ap aq ax au ak a0 aw af az n fn lf rb gr ro sr sv up (upd ct 1 ((ct 1) + (1 : Int32))) al th_13 wr_13 fl_13)) C (cc_Sq_store D K a0 aw af i x n fn al th wr fl (by omega) (by omega) (by omega)) hq13 wa_250 wa_144 wa_53 wa_145 wa_146 (by decide) (Nat.le_trans (by decide) hRf) (Nat.le_trans (by decide) hRl) rfl hl.1 rfl (Nat.le_of_ble_eq_true rfl) dd_RG_writeShard_13 hcs [8, 9, 10] [0, 1, 2, 3, 4, 5, 6, 7] [0, 1, 2, 3, 4, 5, 6, 7, 8, 9, 10] hP hD hS rfl rfl (by decide) rfl rfl rfl (fun H locs hP hD hS => ?_)
  refine W.eq (g2 := F0 m 16 ls []) rfl ?_
  exact ret ((upd ct 1 ((ct 1) + (1 : Int32))), th_13, wr_13, fl_13) H locs 16 ls hM hS hP hD dd_RG_writeShard_16

def mm_RG_updateCoded_L7 (i : Nat) (x : Int64) (fn : Nat) (ro : Nat → Int64) : Nat → Nat → (Int32) → (Nat → Int32) → (Int32) → (Nat → Int64) → (Nat → Int64) → Int32 × (Nat → Int32) × (Int32) × (Nat → Int64) × (Nat → Int64)
  | 0, j, v5, ct, th, wr, fl => (v5, ct, th, wr, fl)
  | k + 1, j, v5, ct, th, wr, fl => (if (mm_By_at (ro j) i) = (0 : Int32) then (mm_RG_updateCoded_L7 i x fn ro k (j + 1) v5 ct th wr fl) else (if (mm_Sq_isThere j th) = (0 : Int32) then (mm_RG_updateCoded_L7 i x fn ro k (j + 1) v5 ct th wr fl) else (match mm_RG_readShardFor j i fn ct th fl with | (r_54, ct_54, th_54) => (if r_54 = (0 : Int32) then (mm_RG_updateCoded_L7 i x fn ro k (j + 1) v5 ct_54 th_54 wr fl) else (match mm_RG_writeShard j ((mm_Sq_held j wr fl) ^^^ (mm_By_times (mm_By_at (ro j) i) x)) ct_54 th_54 wr fl with | (ct_77, th_77, wr_77, fl_77) => (mm_RG_updateCoded_L7 i x fn ro k (j + 1) (v5 + 1) ct_77 th_77 wr_77 fl_77))))))
def mm_RG_updateCoded (i : Nat) (x : Int64) (n : Nat) (fn : Nat) (ro : Nat → Int64) (ct : Nat → Int32) (th : Int32) (wr : Nat → Int64) (fl : Nat → Int64) : Int32 × (Nat → Int32) × (Int32) × (Nat → Int64) × (Nat → Int64) := (mm_RG_updateCoded_L7 i x fn ro (n - 6) 6 (0 : Int32) ct th wr fl)
set_option maxHeartbeats 4000000 in
set_option maxRecDepth 100000 in
theorem cc_RG_updateCoded {l : Launch} (D : va_G) (K : Nat → ClassId) (ah ac ar ap aq ax au ak a0 aw af az : Nat) (i : Nat) (x : Int64) (n : Nat) (fn : Nat) (lf : Int64) (rb : Int64) (gr : Int32) (ro : Nat → Int64) (sr : Nat → Int64) (sv : Nat → Int64) (up : Nat → Int32) (ct : Nat → Int32) (al : Int32) (th : Int32) (wr : Nat → Int64) (fl : Nat → Int64) (hi : i < n) (hn : n ≤ 11) (hn6 : 6 ≤ n) (hfn : fn ≤ 10) : ly_i l yy_RG_updateCoded bb_RG_updateCoded 8 (some .int) 3 67 D K [.ref ah, .ref a0, .int (nI i), .long x] (ws_RG K ah ac ar ap aq ax au ak a0 aw af az n fn lf rb gr ro sr sv up ct al th wr fl) (fun z => z.1) (fun z => (ws_RG K ah ac ar ap aq ax au ak a0 aw af az n fn lf rb gr ro sr sv up (z.2.1) al (z.2.2.1) (z.2.2.2.1) (z.2.2.2.2))) (mm_RG_updateCoded i x n fn ro ct th wr fl) := by
  refine ly_entI (by decide) (Nat.le_of_ble_eq_true rfl) ?_
  intro p e s m av below meth c A ls R Q H locs res hM C hRf hRl hS hP hD hl ret
  obtain ⟨hx, hb, -⟩ := id C
  have hcs : 0 ≤ R.cells ∧ 0 ≤ R.slots := ⟨Nat.zero_le _, Nat.zero_le _⟩
  have hl : lv_has ls 8 [(0, .ref ah), (1, .ref a0), (2, .int (nI i)), (3, .long x)] := hl
  rw [mm_RG_updateCoded] at hM
  refine lv_iconst (v := (0 : Int32)) hx hb dd_RG_updateCoded_0 (by decide) ?_
  refine lv_istore (lv' := [(5, .int (0 : Int32)), (0, .ref ah), (1, .ref a0), (2, .int (nI i)), (3, .long x)]) hx hb dd_RG_updateCoded_1 hl (by decide) rfl (fun ls hl => ?_)
  refine lv_bipush (v := (6 : Int32)) hx hb dd_RG_updateCoded_3 (by decide) ?_
  refine lv_istore (lv' := [(6, .int (6 : Int32)), (5, .int (0 : Int32)), (0, .ref ah), (1, .ref a0), (2, .int (nI i)), (3, .long x)]) hx hb dd_RG_updateCoded_5 hl (by decide) rfl (fun ls hl => ?_)
  have lp7 : ∀ (k : Nat) (j : Nat) (v5 : Int32) (ct : Nat → Int32) (th : Int32) (wr : Nat → Int64) (fl : Nat → Int64) (ls : Array Slot) (H : Heap) (locs : List Loc), j + k = n → mm_RG_updateCoded_L7 i x fn ro k j v5 ct th wr fl = res → lv_has ls 8 [(6, .int (nI j)), (5, .int v5), (0, .ref ah), (1, .ref a0), (2, .int (nI i)), (3, .long x)] → va_P D cl_all (ws_RG K ah ac ar ap aq ax au ak a0 aw af az n fn lf rb gr ro sr sv up ct al th wr fl) H → va_D A (ws_RG K ah ac ar ap aq ax au ak a0 aw af az n fn lf rb gr ro sr sv up ct al th wr fl) → va_S A s.heap H locs → W p l e R s m av below meth c H locs 0 0 Q (F0 m 7 ls []) := by
    intro k
    induction k with
    | zero =>
      intro j v5 ct th wr fl ls H locs hjk7 hM hl hP hD hS
      have hj0 : j = n := by omega
      subst j
      rw [mm_RG_updateCoded_L7] at hM
      refine lv_iload hx hb dd_RG_updateCoded_7 (lv_at hl 0 rfl) ?_
      refine lv_aload_n hx hb dd_RG_updateCoded_9 rfl (lv_at hl 2 rfl) ?_
      refine ly_get (v := .ref ac) C hP 0 rfl uw_RG rfl 0 (by decide) wa_44 rfl dd_RG_updateCoded_10 ?_
      refine ly_getN (v := .int (nI n)) C hP 1 rfl uw_Co rfl 0 (by decide) nw_1 rfl dd_RG_updateCoded_13 ?_
      refine lv_icmp_ge (tgt := 89) hx hb dd_RG_updateCoded_16 (by decide) (fun _ => ?_) (fun h => absurd (nI_le (a := n) (b := n) (by omega) (by omega)) h)
      refine lv_iload hx hb dd_RG_updateCoded_89 (lv_at hl 1 rfl) ?_
      exact ret (v5, ct, th, wr, fl) H locs 91 ls hM rfl hS hP hD dd_RG_updateCoded_91
    | succ k ih7 =>
      intro j v5 ct th wr fl ls H locs hjk7 hM hl hP hD hS
      rw [mm_RG_updateCoded_L7] at hM
      refine lv_iload hx hb dd_RG_updateCoded_7 (lv_at hl 0 rfl) ?_
      refine lv_aload_n hx hb dd_RG_updateCoded_9 rfl (lv_at hl 2 rfl) ?_
      refine ly_get (v := .ref ac) C hP 0 rfl uw_RG rfl 0 (by decide) wa_44 rfl dd_RG_updateCoded_10 ?_
      refine ly_getN (v := .int (nI n)) C hP 1 rfl uw_Co rfl 0 (by decide) nw_1 rfl dd_RG_updateCoded_13 ?_
      refine lv_icmp_ge (tgt := 89) hx hb dd_RG_updateCoded_16 (by decide) (fun h => absurd h (nI_ge (a := j) (b := n) (by omega) (by omega))) (fun _ => ?_)
      refine lv_aload_n hx hb dd_RG_updateCoded_19 rfl (lv_at hl 2 rfl) ?_
      refine ly_get (v := .ref ac) C hP 0 rfl uw_RG rfl 0 (by decide) wa_44 rfl dd_RG_updateCoded_20 ?_
      refine ly_getN (v := .ref ar) C hP 1 rfl uw_Co rfl 1 (by decide) nw_2 rfl dd_RG_updateCoded_23 ?_
      refine lv_iload hx hb dd_RG_updateCoded_26 (lv_at hl 0 rfl) ?_
      refine ly_lald C hP 2 rfl j rfl (by omega) (by omega) dd_RG_updateCoded_28 ?_
      refine lv_iload_n hx hb dd_RG_updateCoded_29 rfl (lv_at hl 4 rfl) ?_
      obtain ⟨r_30, hq30⟩ : ∃ z, z = mm_By_at (ro j) i := ⟨_, rfl⟩
      try rw [← hq30] at hM
      refine ly_cS_i (n := 2) (z := r_30) (rest := []) (wn := (ws_RG K ah ac ar ap aq ax au ak a0 aw af az n fn lf rb gr ro sr sv up ct al th wr fl)) C (cc_By_at D K (ro j) i) hq30 wa_196 wa_148 wa_149 wa_150 (by decide) (Nat.le_trans (by decide) hRf) (Nat.le_trans (by decide) hRl) rfl hl.1 rfl (Nat.le_of_ble_eq_true rfl) dd_RG_updateCoded_30 hcs [] [0, 1, 2, 3, 4, 5, 6, 7, 8, 9, 10] [0, 1, 2, 3, 4, 5, 6, 7, 8, 9, 10] hP hD hS rfl rfl (by decide) rfl (fun H locs hP hD hS => ?_)
      refine W.eq (g2 := F0 m 33 ls [.int r_30]) rfl ?_
      refine lv_istore (lv' := [(7, .int r_30), (6, .int (nI j)), (5, .int v5), (0, .ref ah), (1, .ref a0), (2, .int (nI i)), (3, .long x)]) hx hb dd_RG_updateCoded_33 hl (by decide) rfl (fun ls hl => ?_)
      refine lv_iload hx hb dd_RG_updateCoded_35 (lv_at hl 0 rfl) ?_
      refine lv_if_eq (tgt := 83) hx hb dd_RG_updateCoded_37 (by decide) (fun h37 => ?_) (fun h37 => ?_)
      · rw [if_pos h37] at hM
        refine lv_iinc (k := 1) (v := (nI (j + 1))) (lv' := [(6, .int (nI (j + 1))), (7, .int r_30), (5, .int v5), (0, .ref ah), (1, .ref a0), (2, .int (nI i)), (3, .long x)]) hx hb dd_RG_updateCoded_83 hl rfl (ly_incN _) (by decide) rfl (fun ls hl => ?_)
        refine lv_goto (tgt := 7) hx hb dd_RG_updateCoded_86 (by decide) ?_
        exact ih7 (j + 1) v5 ct th wr fl ls H locs (by omega) hM (lv_sub hl [0, 2, 3, 4, 5, 6] rfl) hP hD hS
      · rw [if_neg h37] at hM
        refine lv_aload_n hx hb dd_RG_updateCoded_40 rfl (lv_at hl 4 rfl) ?_
        refine lv_iload hx hb dd_RG_updateCoded_41 (lv_at hl 1 rfl) ?_
        obtain ⟨r_43, hq43⟩ : ∃ z, z = mm_Sq_isThere j th := ⟨_, rfl⟩
        try rw [← hq43] at hM
        refine ly_cV_i (n := 1) (z := r_43) (rest := []) (wn := (ws_RG K ah ac ar ap aq ax au ak a0 aw af az n fn lf rb gr ro sr sv up ct al th wr fl)) C (cc_Sq_isThere D K a0 aw af j n fn al th wr fl (by omega) (by omega)) hq43 wa_244 wa_64 wa_53 wa_65 wa_66 (by decide) (Nat.le_trans (by decide) hRf) (Nat.le_trans (by decide) hRl) rfl hl.1 rfl (Nat.le_of_ble_eq_true rfl) dd_RG_updateCoded_43 hcs [8, 9, 10] [0, 1, 2, 3, 4, 5, 6, 7] [0, 1, 2, 3, 4, 5, 6, 7, 8, 9, 10] hP hD hS rfl rfl (by decide) rfl rfl rfl (fun H locs hP hD hS => ?_)
        refine W.eq (g2 := F0 m 46 ls [.int r_43]) rfl ?_
        refine lv_if_eq (tgt := 83) hx hb dd_RG_updateCoded_46 (by decide) (fun h46 => ?_) (fun h46 => ?_)
        · rw [if_pos h46] at hM
          refine lv_iinc (k := 1) (v := (nI (j + 1))) (lv' := [(6, .int (nI (j + 1))), (7, .int r_30), (5, .int v5), (0, .ref ah), (1, .ref a0), (2, .int (nI i)), (3, .long x)]) hx hb dd_RG_updateCoded_83 hl rfl (ly_incN _) (by decide) rfl (fun ls hl => ?_)
          refine lv_goto (tgt := 7) hx hb dd_RG_updateCoded_86 (by decide) ?_
          exact ih7 (j + 1) v5 ct th wr fl ls H locs (by omega) hM (lv_sub hl [0, 2, 3, 4, 5, 6] rfl) hP hD hS
        · rw [if_neg h46] at hM
          refine lv_aload_n hx hb dd_RG_updateCoded_49 rfl (lv_at hl 3 rfl) ?_
          refine lv_aload_n hx hb dd_RG_updateCoded_50 rfl (lv_at hl 4 rfl) ?_
          refine lv_iload hx hb dd_RG_updateCoded_51 (lv_at hl 1 rfl) ?_
          refine lv_iload_n hx hb dd_RG_updateCoded_53 rfl (lv_at hl 5 rfl) ?_
          obtain ⟨⟨r_54, ct_54, th_54⟩, hq54⟩ : ∃ z, z = mm_RG_readShardFor j i fn ct th fl := ⟨_, rfl⟩
          try rw [← hq54] at hM
          try dsimp only at hM
          refine ly_cV_i (n := 3) (z := (r_54, ct_54, th_54)) (rest := []) (wn := (ws_RG K ah ac ar ap aq ax au ak a0 aw af az n fn lf rb gr ro sr sv up ct_54 al th_54 wr fl)) C (cc_RG_readShardFor D K ah ac ar ap aq ax au ak a0 aw af az j i n fn lf rb gr ro sr sv up ct al th wr fl (by omega) (by omega) (by omega) (by omega) (by omega)) hq54 wa_142 wa_151 wa_62 wa_152 wa_153 (by decide) (Nat.le_trans (by decide) hRf) (Nat.le_trans (by decide) hRl) rfl hl.1 rfl (Nat.le_of_ble_eq_true rfl) dd_RG_updateCoded_54 hcs [0, 1, 2, 3, 4, 5, 6, 7, 8, 9, 10] [] [0, 1, 2, 3, 4, 5, 6, 7, 8, 9, 10] hP hD hS rfl rfl (by decide) rfl rfl rfl (fun H locs hP hD hS => ?_)
          refine W.eq (g2 := F0 m 57 ls [.int r_54]) rfl ?_
          refine lv_if_eq (tgt := 83) hx hb dd_RG_updateCoded_57 (by decide) (fun h57 => ?_) (fun h57 => ?_)
          · rw [if_pos h57] at hM
            refine lv_iinc (k := 1) (v := (nI (j + 1))) (lv' := [(6, .int (nI (j + 1))), (7, .int r_30), (5, .int v5), (0, .ref ah), (1, .ref a0), (2, .int (nI i)), (3, .long x)]) hx hb dd_RG_updateCoded_83 hl rfl (ly_incN _) (by decide) rfl (fun ls hl => ?_)
            refine lv_goto (tgt := 7) hx hb dd_RG_updateCoded_86 (by decide) ?_
            exact ih7 (j + 1) v5 ct_54 th_54 wr fl ls H locs (by omega) hM (lv_sub hl [0, 2, 3, 4, 5, 6] rfl) hP hD hS
          · rw [if_neg h57] at hM
            refine lv_aload_n hx hb dd_RG_updateCoded_60 rfl (lv_at hl 3 rfl) ?_
            refine lv_aload_n hx hb dd_RG_updateCoded_61 rfl (lv_at hl 4 rfl) ?_
            refine lv_iload hx hb dd_RG_updateCoded_62 (lv_at hl 1 rfl) ?_
            refine lv_aload_n hx hb dd_RG_updateCoded_64 rfl (lv_at hl 4 rfl) ?_
            refine lv_iload hx hb dd_RG_updateCoded_65 (lv_at hl 1 rfl) ?_
            obtain ⟨r_67, hq67⟩ : ∃ z, z = mm_Sq_held j wr fl := ⟨_, rfl⟩
            try rw [← hq67] at hM
            refine ly_cV_l (n := 1) (z := r_67) (rest := [.int (nI j), .ref a0, .ref ah]) (wn := (ws_RG K ah ac ar ap aq ax au ak a0 aw af az n fn lf rb gr ro sr sv up ct_54 al th_54 wr fl)) C (cc_Sq_held D K a0 aw af j n fn al th_54 wr fl (by omega) (by omega) (by omega)) hq67 wa_247 wa_70 wa_53 wa_71 wa_72 (by decide) (Nat.le_trans (by decide) hRf) (Nat.le_trans (by decide) hRl) rfl hl.1 rfl (Nat.le_of_ble_eq_true rfl) dd_RG_updateCoded_67 hcs [8, 9, 10] [0, 1, 2, 3, 4, 5, 6, 7] [0, 1, 2, 3, 4, 5, 6, 7, 8, 9, 10] hP hD hS rfl rfl (by decide) rfl rfl rfl (fun H locs hP hD hS => ?_)
            refine W.eq (g2 := F0 m 70 ls [.long r_67, .int (nI j), .ref a0, .ref ah]) rfl ?_
            refine lv_iload hx hb dd_RG_updateCoded_70 (lv_at hl 0 rfl) ?_
            refine lv_lload_n hx hb dd_RG_updateCoded_72 rfl (lv_at hl 6 rfl) ?_
            obtain ⟨r_73, hq73⟩ : ∃ z, z = mm_By_times r_30 x := ⟨_, rfl⟩
            try rw [← hq73] at hM
            refine ly_cS_l (n := 2) (z := r_73) (rest := [.long r_67, .int (nI j), .ref a0, .ref ah]) (wn := (ws_RG K ah ac ar ap aq ax au ak a0 aw af az n fn lf rb gr ro sr sv up ct_54 al th_54 wr fl)) C (cc_By_times D K r_30 x) hq73 wa_198 wa_154 wa_149 wa_155 (by decide) (Nat.le_trans (by decide) hRf) (Nat.le_trans (by decide) hRl) rfl hl.1 rfl (Nat.le_of_ble_eq_true rfl) dd_RG_updateCoded_73 hcs [] [0, 1, 2, 3, 4, 5, 6, 7, 8, 9, 10] [0, 1, 2, 3, 4, 5, 6, 7, 8, 9, 10] hP hD hS rfl rfl (by decide) rfl (fun H locs hP hD hS => ?_)
            refine W.eq (g2 := F0 m 76 ls [.long r_73, .long r_67, .int (nI j), .ref a0, .ref ah]) rfl ?_
            refine lv_lxor hx hb dd_RG_updateCoded_76 ?_
            obtain ⟨⟨ct_77, th_77, wr_77, fl_77⟩, hq77⟩ : ∃ z, z = mm_RG_writeShard j (r_67 ^^^ r_73) ct_54 th_54 wr fl := ⟨_, rfl⟩
            try rw [← hq77] at hM
            try dsimp only at hM
            refine ly_cV_v (n := 3) (z := (ct_77, th_77, wr_77, fl_77)) (rest := []) (wn := (ws_RG K ah ac ar ap aq ax au ak a0 aw af az n fn lf rb gr ro sr sv up ct_77 al th_77 wr_77 fl_77)) C (cc_RG_writeShard D K ah ac ar ap aq ax au ak a0 aw af az j (r_67 ^^^ r_73) n fn lf rb gr ro sr sv up ct_54 al th_54 wr fl (by omega) (by omega) (by omega) (by omega)) hq77 wa_143 wa_76 wa_62 wa_77 wa_78 (by decide) (Nat.le_trans (by decide) hRf) (Nat.le_trans (by decide) hRl) rfl hl.1 rfl (Nat.le_of_ble_eq_true rfl) dd_RG_updateCoded_77 hcs [0, 1, 2, 3, 4, 5, 6, 7, 8, 9, 10] [] [0, 1, 2, 3, 4, 5, 6, 7, 8, 9, 10] hP hD hS rfl rfl (by decide) rfl rfl rfl (fun H locs hP hD hS => ?_)
            refine W.eq (g2 := F0 m 80 ls []) rfl ?_
            refine lv_iinc (k := 2) (v := (v5 + 1)) (lv' := [(5, .int (v5 + 1)), (7, .int r_30), (6, .int (nI j)), (0, .ref ah), (1, .ref a0), (2, .int (nI i)), (3, .long x)]) hx hb dd_RG_updateCoded_80 hl rfl (ly_inc _) (by decide) rfl (fun ls hl => ?_)
            refine lv_iinc (k := 2) (v := (nI (j + 1))) (lv' := [(6, .int (nI (j + 1))), (5, .int (v5 + 1)), (7, .int r_30), (0, .ref ah), (1, .ref a0), (2, .int (nI i)), (3, .long x)]) hx hb dd_RG_updateCoded_83 hl rfl (ly_incN _) (by decide) rfl (fun ls hl => ?_)
            refine lv_goto (tgt := 7) hx hb dd_RG_updateCoded_86 (by decide) ?_
            exact ih7 (j + 1) (v5 + 1) ct_77 th_77 wr_77 fl_77 ls H locs (by omega) hM (lv_sub hl [0, 1, 3, 4, 5, 6] rfl) hP hD hS
  exact lp7 (n - 6) 6 (0 : Int32) ct th wr fl ls H locs (by omega) hM (lv_sub hl [0, 1, 2, 3, 4, 5] rfl) hP hD hS

def mm_RG_dropShardsOn_L5 (x : Int32) (fn : Nat) : Nat → Nat → (Int32) → (Int32) → Int32 × (Int32)
  | 0, j, v3, th => (v3, th)
  | k + 1, j, v3, th => (if (nI ((fn + j) % 12)) = x then (if (mm_Sq_isThere j th) = (0 : Int32) then (mm_RG_dropShardsOn_L5 x fn k (j + 1) v3 th) else (mm_RG_dropShardsOn_L5 x fn k (j + 1) (v3 + 1) (mm_Sq_lose j th))) else (mm_RG_dropShardsOn_L5 x fn k (j + 1) v3 th))
def mm_RG_dropShardsOn (x : Int32) (n : Nat) (fn : Nat) (th : Int32) : Int32 × (Int32) := (mm_RG_dropShardsOn_L5 x fn n 0 (0 : Int32) th)
set_option maxHeartbeats 4000000 in
set_option maxRecDepth 100000 in
theorem cc_RG_dropShardsOn {l : Launch} (D : va_G) (K : Nat → ClassId) (ah ac ar ap aq ax au ak a0 aw af az : Nat) (x : Int32) (n : Nat) (fn : Nat) (lf : Int64) (rb : Int64) (gr : Int32) (ro : Nat → Int64) (sr : Nat → Int64) (sv : Nat → Int64) (up : Nat → Int32) (ct : Nat → Int32) (al : Int32) (th : Int32) (wr : Nat → Int64) (fl : Nat → Int64) (hn : n ≤ 11) (hn6 : 6 ≤ n) (hfn : fn ≤ 10) : ly_i l yy_RG_dropShardsOn bb_RG_dropShardsOn 5 (some .int) 2 42 D K [.ref ah, .ref a0, .int x] (ws_RG K ah ac ar ap aq ax au ak a0 aw af az n fn lf rb gr ro sr sv up ct al th wr fl) (fun z => z.1) (fun z => (ws_RG K ah ac ar ap aq ax au ak a0 aw af az n fn lf rb gr ro sr sv up ct al (z.2) wr fl)) (mm_RG_dropShardsOn x n fn th) := by
  refine ly_entI (by decide) (Nat.le_of_ble_eq_true rfl) ?_
  intro p e s m av below meth c A ls R Q H locs res hM C hRf hRl hS hP hD hl ret
  obtain ⟨hx, hb, -⟩ := id C
  have hcs : 0 ≤ R.cells ∧ 0 ≤ R.slots := ⟨Nat.zero_le _, Nat.zero_le _⟩
  have hl : lv_has ls 5 [(0, .ref ah), (1, .ref a0), (2, .int x)] := hl
  rw [mm_RG_dropShardsOn] at hM
  refine lv_iconst (v := (0 : Int32)) hx hb dd_RG_dropShardsOn_0 (by decide) ?_
  refine lv_istore_n (lv' := [(3, .int (0 : Int32)), (0, .ref ah), (1, .ref a0), (2, .int x)]) hx hb dd_RG_dropShardsOn_1 rfl hl (by decide) rfl (fun ls hl => ?_)
  refine lv_iconst (v := (0 : Int32)) hx hb dd_RG_dropShardsOn_2 (by decide) ?_
  refine lv_istore (lv' := [(4, .int (0 : Int32)), (3, .int (0 : Int32)), (0, .ref ah), (1, .ref a0), (2, .int x)]) hx hb dd_RG_dropShardsOn_3 hl (by decide) rfl (fun ls hl => ?_)
  have lp5 : ∀ (k : Nat) (j : Nat) (v3 : Int32) (th : Int32) (ls : Array Slot) (H : Heap) (locs : List Loc), j + k = n → mm_RG_dropShardsOn_L5 x fn k j v3 th = res → lv_has ls 5 [(4, .int (nI j)), (3, .int v3), (0, .ref ah), (1, .ref a0), (2, .int x)] → va_P D cl_all (ws_RG K ah ac ar ap aq ax au ak a0 aw af az n fn lf rb gr ro sr sv up ct al th wr fl) H → va_D A (ws_RG K ah ac ar ap aq ax au ak a0 aw af az n fn lf rb gr ro sr sv up ct al th wr fl) → va_S A s.heap H locs → W p l e R s m av below meth c H locs 0 0 Q (F0 m 5 ls []) := by
    intro k
    induction k with
    | zero =>
      intro j v3 th ls H locs hjk5 hM hl hP hD hS
      have hj0 : j = n := by omega
      subst j
      rw [mm_RG_dropShardsOn_L5] at hM
      refine lv_iload hx hb dd_RG_dropShardsOn_5 (lv_at hl 0 rfl) ?_
      refine lv_aload_n hx hb dd_RG_dropShardsOn_7 rfl (lv_at hl 2 rfl) ?_
      refine ly_get (v := .ref ac) C hP 0 rfl uw_RG rfl 0 (by decide) wa_44 rfl dd_RG_dropShardsOn_8 ?_
      refine ly_getN (v := .int (nI n)) C hP 1 rfl uw_Co rfl 0 (by decide) nw_1 rfl dd_RG_dropShardsOn_11 ?_
      refine lv_icmp_ge (tgt := 51) hx hb dd_RG_dropShardsOn_14 (by decide) (fun _ => ?_) (fun h => absurd (nI_le (a := n) (b := n) (by omega) (by omega)) h)
      refine lv_iload_n hx hb dd_RG_dropShardsOn_51 rfl (lv_at hl 1 rfl) ?_
      exact ret (v3, th) H locs 52 ls hM rfl hS hP hD dd_RG_dropShardsOn_52
    | succ k ih5 =>
      intro j v3 th ls H locs hjk5 hM hl hP hD hS
      rw [mm_RG_dropShardsOn_L5] at hM
      refine lv_iload hx hb dd_RG_dropShardsOn_5 (lv_at hl 0 rfl) ?_
      refine lv_aload_n hx hb dd_RG_dropShardsOn_7 rfl (lv_at hl 2 rfl) ?_
      refine ly_get (v := .ref ac) C hP 0 rfl uw_RG rfl 0 (by decide) wa_44 rfl dd_RG_dropShardsOn_8 ?_
      refine ly_getN (v := .int (nI n)) C hP 1 rfl uw_Co rfl 0 (by decide) nw_1 rfl dd_RG_dropShardsOn_11 ?_
      refine lv_icmp_ge (tgt := 51) hx hb dd_RG_dropShardsOn_14 (by decide) (fun h => absurd h (nI_ge (a := j) (b := n) (by omega) (by omega))) (fun _ => ?_)
      refine lv_aload_n hx hb dd_RG_dropShardsOn_17 rfl (lv_at hl 3 rfl) ?_
      refine lv_iload hx hb dd_RG_dropShardsOn_18 (lv_at hl 0 rfl) ?_
      refine ly_cV_i (n := 1) (z := (nI ((fn + j) % 12))) (rest := []) (wn := (ws_RG K ah ac ar ap aq ax au ak a0 aw af az n fn lf rb gr ro sr sv up ct al th wr fl)) C (cc_Sq_nodeOf D K a0 aw af j n fn al th wr fl (by omega) (by omega) (by omega)) rfl wa_243 wa_101 wa_53 wa_102 wa_103 (by decide) (Nat.le_trans (by decide) hRf) (Nat.le_trans (by decide) hRl) rfl hl.1 rfl (Nat.le_of_ble_eq_true rfl) dd_RG_dropShardsOn_20 hcs [8, 9, 10] [0, 1, 2, 3, 4, 5, 6, 7] [0, 1, 2, 3, 4, 5, 6, 7, 8, 9, 10] hP hD hS rfl rfl (by decide) rfl rfl rfl (fun H locs hP hD hS => ?_)
      refine W.eq (g2 := F0 m 23 ls [.int (nI ((fn + j) % 12))]) rfl ?_
      refine lv_iload_n hx hb dd_RG_dropShardsOn_23 rfl (lv_at hl 4 rfl) ?_
      refine lv_icmp_ne (tgt := 45) hx hb dd_RG_dropShardsOn_24 (by decide) (fun h24 => ?_) (fun h24 => ?_)
      · rw [if_neg h24] at hM
        refine lv_iinc (k := 0) (v := (nI (j + 1))) (lv' := [(4, .int (nI (j + 1))), (3, .int v3), (0, .ref ah), (1, .ref a0), (2, .int x)]) hx hb dd_RG_dropShardsOn_45 hl rfl (ly_incN _) (by decide) rfl (fun ls hl => ?_)
        refine lv_goto (tgt := 5) hx hb dd_RG_dropShardsOn_48 (by decide) ?_
        exact ih5 (j + 1) v3 th ls H locs (by omega) hM (lv_sub hl [0, 1, 2, 3, 4] rfl) hP hD hS
      · rw [if_pos h24] at hM
        refine lv_aload_n hx hb dd_RG_dropShardsOn_27 rfl (lv_at hl 3 rfl) ?_
        refine lv_iload hx hb dd_RG_dropShardsOn_28 (lv_at hl 0 rfl) ?_
        obtain ⟨r_30, hq30⟩ : ∃ z, z = mm_Sq_isThere j th := ⟨_, rfl⟩
        try rw [← hq30] at hM
        refine ly_cV_i (n := 1) (z := r_30) (rest := []) (wn := (ws_RG K ah ac ar ap aq ax au ak a0 aw af az n fn lf rb gr ro sr sv up ct al th wr fl)) C (cc_Sq_isThere D K a0 aw af j n fn al th wr fl (by omega) (by omega)) hq30 wa_244 wa_64 wa_53 wa_65 wa_66 (by decide) (Nat.le_trans (by decide) hRf) (Nat.le_trans (by decide) hRl) rfl hl.1 rfl (Nat.le_of_ble_eq_true rfl) dd_RG_dropShardsOn_30 hcs [8, 9, 10] [0, 1, 2, 3, 4, 5, 6, 7] [0, 1, 2, 3, 4, 5, 6, 7, 8, 9, 10] hP hD hS rfl rfl (by decide) rfl rfl rfl (fun H locs hP hD hS => ?_)
        refine W.eq (g2 := F0 m 33 ls [.int r_30]) rfl ?_
        refine lv_if_eq (tgt := 45) hx hb dd_RG_dropShardsOn_33 (by decide) (fun h33 => ?_) (fun h33 => ?_)
        · rw [if_pos h33] at hM
          refine lv_iinc (k := 0) (v := (nI (j + 1))) (lv' := [(4, .int (nI (j + 1))), (3, .int v3), (0, .ref ah), (1, .ref a0), (2, .int x)]) hx hb dd_RG_dropShardsOn_45 hl rfl (ly_incN _) (by decide) rfl (fun ls hl => ?_)
          refine lv_goto (tgt := 5) hx hb dd_RG_dropShardsOn_48 (by decide) ?_
          exact ih5 (j + 1) v3 th ls H locs (by omega) hM (lv_sub hl [0, 1, 2, 3, 4] rfl) hP hD hS
        · rw [if_neg h33] at hM
          refine lv_aload_n hx hb dd_RG_dropShardsOn_36 rfl (lv_at hl 3 rfl) ?_
          refine lv_iload hx hb dd_RG_dropShardsOn_37 (lv_at hl 0 rfl) ?_
          obtain ⟨th_39, hq39⟩ : ∃ z, z = mm_Sq_lose j th := ⟨_, rfl⟩
          try rw [← hq39] at hM
          refine ly_cV_v (n := 1) (z := th_39) (rest := []) (wn := (ws_RG K ah ac ar ap aq ax au ak a0 aw af az n fn lf rb gr ro sr sv up ct al th_39 wr fl)) C (cc_Sq_lose D K a0 aw af j n fn al th wr fl (by omega) (by omega)) hq39 wa_249 wa_139 wa_53 wa_140 wa_141 (by decide) (Nat.le_trans (by decide) hRf) (Nat.le_trans (by decide) hRl) rfl hl.1 rfl (Nat.le_of_ble_eq_true rfl) dd_RG_dropShardsOn_39 hcs [8, 9, 10] [0, 1, 2, 3, 4, 5, 6, 7] [0, 1, 2, 3, 4, 5, 6, 7, 8, 9, 10] hP hD hS rfl rfl (by decide) rfl rfl rfl (fun H locs hP hD hS => ?_)
          refine W.eq (g2 := F0 m 42 ls []) rfl ?_
          refine lv_iinc (k := 1) (v := (v3 + 1)) (lv' := [(3, .int (v3 + 1)), (4, .int (nI j)), (0, .ref ah), (1, .ref a0), (2, .int x)]) hx hb dd_RG_dropShardsOn_42 hl rfl (ly_inc _) (by decide) rfl (fun ls hl => ?_)
          refine lv_iinc (k := 1) (v := (nI (j + 1))) (lv' := [(4, .int (nI (j + 1))), (3, .int (v3 + 1)), (0, .ref ah), (1, .ref a0), (2, .int x)]) hx hb dd_RG_dropShardsOn_45 hl rfl (ly_incN _) (by decide) rfl (fun ls hl => ?_)
          refine lv_goto (tgt := 5) hx hb dd_RG_dropShardsOn_48 (by decide) ?_
          exact ih5 (j + 1) (v3 + 1) th_39 ls H locs (by omega) hM (lv_sub hl [0, 1, 2, 3, 4] rfl) hP hD hS
  exact lp5 n 0 (0 : Int32) th ls H locs (by omega) hM (lv_sub hl [0, 1, 2, 3, 4] rfl) hP hD hS
