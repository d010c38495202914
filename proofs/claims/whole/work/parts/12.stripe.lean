def mm_Sq_nodeOf (i : Nat) (fn : Nat) : Int32 := (nI ((fn + i) % 12))
set_option maxHeartbeats 4000000 in
set_option maxRecDepth 100000 in
theorem cc_Sq_nodeOf {l : Launch} (D : va_G) (K : Nat → ClassId) (a0 aw af : Nat) (i : Nat) (n : Nat) (fn : Nat) (al : Int32) (th : Int32) (wr : Nat → Int64) (fl : Nat → Int64) (hi : i < 11) (hn : n ≤ 11) (hfn : fn ≤ 10) : ly_i l yy_Sq_nodeOf bb_Sq_nodeOf 2 (some .int) 0 0 D K [.ref a0, .int (nI i)] (ws_Sq K a0 aw af n fn al th wr fl) (fun z => z) (fun _ => (ws_Sq K a0 aw af n fn al th wr fl)) (mm_Sq_nodeOf i fn) := by
  refine ly_entI (by decide) (Nat.le_of_ble_eq_true rfl) ?_
  intro p e s m av below meth c A ls R Q H locs res hM C hRf hRl hS hP hD hl ret
  obtain ⟨hx, hb, -⟩ := id C
  have hcs : 0 ≤ R.cells ∧ 0 ≤ R.slots := ⟨Nat.zero_le _, Nat.zero_le _⟩
  have hl : lv_has ls 2 [(0, .ref a0), (1, .int (nI i))] := hl
  rw [mm_Sq_nodeOf] at hM
  refine lv_aload_n hx hb dd_Sq_nodeOf_0 rfl (lv_at hl 0 rfl) ?_
  refine ly_get (v := .int (nI fn)) C hP 0 rfl uw_Sq rfl 0 (by decide) wa_238 rfl dd_Sq_nodeOf_1 ?_
  refine lv_iload_n hx hb dd_Sq_nodeOf_4 rfl (lv_at hl 1 rfl) ?_
  refine lv_iadd hx hb dd_Sq_nodeOf_5 ?_
  refine lv_bipush (v := (12 : Int32)) hx hb dd_Sq_nodeOf_6 (by decide) ?_
  refine lv_irem hx hb dd_Sq_nodeOf_8 (by decide) ?_
  rw [ly_mod12 (f := fn) (i := i) (by omega)]
  exact ret (nI ((fn + i) % 12)) H locs 9 ls hM rfl hS hP hD dd_Sq_nodeOf_9

def mm_Sq_isThere (i : Nat) (th : Int32) : Int32 := (mm_RG_isIn th i)
set_option maxHeartbeats 4000000 in
set_option maxRecDepth 100000 in
theorem cc_Sq_isThere {l : Launch} (D : va_G) (K : Nat → ClassId) (a0 aw af : Nat) (i : Nat) (n : Nat) (fn : Nat) (al : Int32) (th : Int32) (wr : Nat → Int64) (fl : Nat → Int64) (hn : n ≤ 11) (hfn : fn ≤ 10) : ly_i l yy_Sq_isThere bb_Sq_isThere 2 (some .boolean) 1 21 D K [.ref a0, .int (nI i)] (ws_Sq K a0 aw af n fn al th wr fl) (fun z => z) (fun _ => (ws_Sq K a0 aw af n fn al th wr fl)) (mm_Sq_isThere i th) := by
  refine ly_entI (by decide) (Nat.le_of_ble_eq_true rfl) ?_
  intro p e s m av below meth c A ls R Q H locs res hM C hRf hRl hS hP hD hl ret
  obtain ⟨hx, hb, -⟩ := id C
  have hcs : 0 ≤ R.cells ∧ 0 ≤ R.slots := ⟨Nat.zero_le _, Nat.zero_le _⟩
  have hl : lv_has ls 2 [(0, .ref a0), (1, .int (nI i))] := hl
  rw [mm_Sq_isThere] at hM
  refine lv_aload_n hx hb dd_Sq_isThere_0 rfl (lv_at hl 0 rfl) ?_
  refine ly_get (v := .int th) C hP 0 rfl uw_Sq rfl 4 (by decide) wa_242 rfl dd_Sq_isThere_1 ?_
  refine lv_iload_n hx hb dd_Sq_isThere_4 rfl (lv_at hl 1 rfl) ?_
  obtain ⟨r_5, hq5⟩ : ∃ z, z = mm_RG_isIn th i := ⟨_, rfl⟩
  try rw [← hq5] at hM
  refine ly_cSN_i (n := 2) (z := r_5) (rest := []) (wn := (ws_Sq K a0 aw af n fn al th wr fl)) C (cc_RG_isIn D K th i) hq5 wa_195 nw_4 wa_62 wa_167 (by decide) (Nat.le_trans (by decide) hRf) (Nat.le_trans (by decide) hRl) rfl hl.1 rfl (Nat.le_of_ble_eq_true rfl) dd_Sq_isThere_5 hcs [] [0, 1, 2] [0, 1, 2] hP hD hS rfl rfl (by decide) rfl (fun H locs hP hD hS => ?_)
  refine W.eq (g2 := F0 m 8 ls [.int r_5]) rfl ?_
  exact ret r_5 H locs 8 ls hM (by rw [hq5]; exact zb_RG_isIn _ _) hS hP hD dd_Sq_isThere_8

def mm_Sq_lostMask (al : Int32) (th : Int32) : Int32 := (al &&& (th ^^^ (-1 : Int32)))
set_option maxHeartbeats 4000000 in
set_option maxRecDepth 100000 in
theorem cc_Sq_lostMask {l : Launch} (D : va_G) (K : Nat → ClassId) (a0 aw af : Nat) (n : Nat) (fn : Nat) (al : Int32) (th : Int32) (wr : Nat → Int64) (fl : Nat → Int64) (hn : n ≤ 11) (hfn : fn ≤ 10) : ly_i l yy_Sq_lostMask bb_Sq_lostMask 1 (some .int) 0 0 D K [.ref a0] (ws_Sq K a0 aw af n fn al th wr fl) (fun z => z) (fun _ => (ws_Sq K a0 aw af n fn al th wr fl)) (mm_Sq_lostMask al th) := by
  refine ly_entI (by decide) (Nat.le_of_ble_eq_true rfl) ?_
  intro p e s m av below meth c A ls R Q H locs res hM C hRf hRl hS hP hD hl ret
  obtain ⟨hx, hb, -⟩ := id C
  have hcs : 0 ≤ R.cells ∧ 0 ≤ R.slots := ⟨Nat.zero_le _, Nat.zero_le _⟩
  have hl : lv_has ls 1 [(0, .ref a0)] := hl
  rw [mm_Sq_lostMask] at hM
  refine lv_aload_n hx hb dd_Sq_lostMask_0 rfl (lv_at hl 0 rfl) ?_
  refine ly_get (v := .int al) C hP 0 rfl uw_Sq rfl 1 (by decide) wa_239 rfl dd_Sq_lostMask_1 ?_
  refine lv_aload_n hx hb dd_Sq_lostMask_4 rfl (lv_at hl 0 rfl) ?_
  refine ly_get (v := .int th) C hP 0 rfl uw_Sq rfl 4 (by decide) wa_242 rfl dd_Sq_lostMask_5 ?_
  refine lv_iconst (v := (-1 : Int32)) hx hb dd_Sq_lostMask_8 (by decide) ?_
  refine lv_ixor hx hb dd_Sq_lostMask_9 ?_
  refine lv_iand hx hb dd_Sq_lostMask_10 ?_
  exact ret (al &&& (th ^^^ (-1 : Int32))) H locs 11 ls hM rfl hS hP hD dd_Sq_lostMask_11

def mm_Sq_isDamaged (i : Nat) (fl : Nat → Int64) : Int32 := (if (lg_cmp (fl i) (0 : Int64)) = (0 : Int32) then (0 : Int32) else (1 : Int32))
set_option maxHeartbeats 4000000 in
set_option maxRecDepth 100000 in
theorem cc_Sq_isDamaged {l : Launch} (D : va_G) (K : Nat → ClassId) (a0 aw af : Nat) (i : Nat) (n : Nat) (fn : Nat) (al : Int32) (th : Int32) (wr : Nat → Int64) (fl : Nat → Int64) (hi : i < n) (hn : n ≤ 11) (hfn : fn ≤ 10) : ly_i l yy_Sq_isDamaged bb_Sq_isDamaged 2 (some .boolean) 0 0 D K [.ref a0, .int (nI i)] (ws_Sq K a0 aw af n fn al th wr fl) (fun z => z) (fun _ => (ws_Sq K a0 aw af n fn al th wr fl)) (mm_Sq_isDamaged i fl) := by
  refine ly_entI (by decide) (Nat.le_of_ble_eq_true rfl) ?_
  intro p e s m av below meth c A ls R Q H locs res hM C hRf hRl hS hP hD hl ret
  obtain ⟨hx, hb, -⟩ := id C
  have hcs : 0 ≤ R.cells ∧ 0 ≤ R.slots := ⟨Nat.zero_le _, Nat.zero_le _⟩
  have hl : lv_has ls 2 [(0, .ref a0), (1, .int (nI i))] := hl
  rw [mm_Sq_isDamaged] at hM
  refine lv_aload_n hx hb dd_Sq_isDamaged_0 rfl (lv_at hl 0 rfl) ?_
  refine ly_get (v := .ref af) C hP 0 rfl uw_Sq rfl 3 (by decide) wa_241 rfl dd_Sq_isDamaged_1 ?_
  refine lv_iload_n hx hb dd_Sq_isDamaged_4 rfl (lv_at hl 1 rfl) ?_
  refine ly_lald C hP 2 rfl i rfl (by omega) (by omega) dd_Sq_isDamaged_5 ?_
  refine lv_lconst (v := (0 : Int64)) hx hb dd_Sq_isDamaged_6 (by decide) ?_
  refine W.lcmp hx hb dd_Sq_isDamaged_7 ?_
  refine lv_if_eq (tgt := 15) hx hb dd_Sq_isDamaged_8 (by decide) (fun h8 => ?_) (fun h8 => ?_)
  · rw [if_pos h8] at hM
    refine lv_iconst (v := (0 : Int32)) hx hb dd_Sq_isDamaged_15 (by decide) ?_
    exact ret (0 : Int32) H locs 16 ls hM ly_z0 hS hP hD dd_Sq_isDamaged_16
  · rw [if_neg h8] at hM
    refine lv_iconst (v := (1 : Int32)) hx hb dd_Sq_isDamaged_11 (by decide) ?_
    refine lv_goto (tgt := 16) hx hb dd_Sq_isDamaged_12 (by decide) ?_
    exact ret (1 : Int32) H locs 16 ls hM ly_z1 hS hP hD dd_Sq_isDamaged_16

def mm_Sq_held (i : Nat) (wr : Nat → Int64) (fl : Nat → Int64) : Int64 := ((wr i) ^^^ (fl i))
set_option maxHeartbeats 4000000 in
set_option maxRecDepth 100000 in
theorem cc_Sq_held {l : Launch} (D : va_G) (K : Nat → ClassId) (a0 aw af : Nat) (i : Nat) (n : Nat) (fn : Nat) (al : Int32) (th : Int32) (wr : Nat → Int64) (fl : Nat → Int64) (hi : i < n) (hn : n ≤ 11) (hfn : fn ≤ 10) : ly_l l yy_Sq_held bb_Sq_held 2 (some .long) 0 0 D K [.ref a0, .int (nI i)] (ws_Sq K a0 aw af n fn al th wr fl) (fun z => z) (fun _ => (ws_Sq K a0 aw af n fn al th wr fl)) (mm_Sq_held i wr fl) := by
  refine ly_entL (by decide) (Nat.le_of_ble_eq_true rfl) ?_
  intro p e s m av below meth c A ls R Q H locs res hM C hRf hRl hS hP hD hl ret
  obtain ⟨hx, hb, -⟩ := id C
  have hcs : 0 ≤ R.cells ∧ 0 ≤ R.slots := ⟨Nat.zero_le _, Nat.zero_le _⟩
  have hl : lv_has ls 2 [(0, .ref a0), (1, .int (nI i))] := hl
  rw [mm_Sq_held] at hM
  refine lv_aload_n hx hb dd_Sq_held_0 rfl (lv_at hl 0 rfl) ?_
  refine ly_get (v := .ref aw) C hP 0 rfl uw_Sq rfl 2 (by decide) wa_240 rfl dd_Sq_held_1 ?_
  refine lv_iload_n hx hb dd_Sq_held_4 rfl (lv_at hl 1 rfl) ?_
  refine ly_lald C hP 1 rfl i rfl (by omega) (by omega) dd_Sq_held_5 ?_
  refine lv_aload_n hx hb dd_Sq_held_6 rfl (lv_at hl 0 rfl) ?_
  refine ly_get (v := .ref af) C hP 0 rfl uw_Sq rfl 3 (by decide) wa_241 rfl dd_Sq_held_7 ?_
  refine lv_iload_n hx hb dd_Sq_held_10 rfl (lv_at hl 1 rfl) ?_
  refine ly_lald C hP 2 rfl i rfl (by omega) (by omega) dd_Sq_held_11 ?_
  refine lv_lxor hx hb dd_Sq_held_12 ?_
  exact ret ((wr i) ^^^ (fl i)) H locs 13 ls hM hS hP hD dd_Sq_held_13

def mm_Sq_flip (i : Nat) (b : Int32) (fl : Nat → Int64) : (Nat → Int64) := (vp_updL fl i ((fl i) ^^^ ((1 : Int64) <<< (b.toInt64 &&& 63))))
set_option maxHeartbeats 4000000 in
set_option maxRecDepth 100000 in
theorem cc_Sq_flip {l : Launch} (D : va_G) (K : Nat → ClassId) (a0 aw af : Nat) (i : Nat) (b : Int32) (n : Nat) (fn : Nat) (al : Int32) (th : Int32) (wr : Nat → Int64) (fl : Nat → Int64) (hi : i < n) (hn : n ≤ 11) (hfn : fn ≤ 10) : ly_v l yy_Sq_flip bb_Sq_flip 3 none 0 0 D K [.ref a0, .int (nI i), .int b] (ws_Sq K a0 aw af n fn al th wr fl) (fun z => (ws_Sq K a0 aw af n fn al th wr z)) (mm_Sq_flip i b fl) := by
  refine ly_entV (by decide) (Nat.le_of_ble_eq_true rfl) ?_
  intro p e s m av below meth c A ls R Q H locs res hM C hRf hRl hS hP hD hl ret
  obtain ⟨hx, hb, -⟩ := id C
  have hcs : 0 ≤ R.cells ∧ 0 ≤ R.slots := ⟨Nat.zero_le _, Nat.zero_le _⟩
  have hl : lv_has ls 3 [(0, .ref a0), (1, .int (nI i)), (2, .int b)] := hl
  rw [mm_Sq_flip] at hM
  refine lv_aload_n hx hb dd_Sq_flip_0 rfl (lv_at hl 0 rfl) ?_
  refine ly_get (v := .ref af) C hP 0 rfl uw_Sq rfl 3 (by decide) wa_241 rfl dd_Sq_flip_1 ?_
  refine lv_iload_n hx hb dd_Sq_flip_4 rfl (lv_at hl 1 rfl) ?_
  refine lv_dup2_11 hx hb dd_Sq_flip_5 rfl rfl ?_
  refine ly_lald C hP 2 rfl i rfl (by omega) (by omega) dd_Sq_flip_6 ?_
  refine lv_lconst (v := (1 : Int64)) hx hb dd_Sq_flip_7 (by decide) ?_
  refine lv_iload_n hx hb dd_Sq_flip_8 rfl (lv_at hl 2 rfl) ?_
  refine lv_lshl (v := ((1 : Int64) <<< (b.toInt64 &&& 63))) hx hb dd_Sq_flip_9 rfl ?_
  refine lv_lxor hx hb dd_Sq_flip_10 ?_
  refine ly_last (ws' := (ws_Sq K a0 aw af n fn al th wr (vp_updL fl i ((fl i) ^^^ ((1 : Int64) <<< (b.toInt64 &&& 63)))))) C hP hD hS 2 rfl i rfl (by omega) (by omega) dd_Sq_flip_11 rfl (fun H locs hP hD hS => ?_)
  exact ret (vp_updL fl i ((fl i) ^^^ ((1 : Int64) <<< (b.toInt64 &&& 63)))) H locs 12 ls hM hS hP hD dd_Sq_flip_12

def mm_Sq_lose (i : Nat) (th : Int32) : (Int32) := (th &&& (((1 : Int32) <<< ((nI i) &&& 31)) ^^^ (-1 : Int32)))
set_option maxHeartbeats 4000000 in
set_option maxRecDepth 100000 in
theorem cc_Sq_lose {l : Launch} (D : va_G) (K : Nat → ClassId) (a0 aw af : Nat) (i : Nat) (n : Nat) (fn : Nat) (al : Int32) (th : Int32) (wr : Nat → Int64) (fl : Nat → Int64) (hn : n ≤ 11) (hfn : fn ≤ 10) : ly_v l yy_Sq_lose bb_Sq_lose 2 none 0 0 D K [.ref a0, .int (nI i)] (ws_Sq K a0 aw af n fn al th wr fl) (fun z => (ws_Sq K a0 aw af n fn al z wr fl)) (mm_Sq_lose i th) := by
  refine ly_entV (by decide) (Nat.le_of_ble_eq_true rfl) ?_
  intro p e s m av below meth c A ls R Q H locs res hM C hRf hRl hS hP hD hl ret
  obtain ⟨hx, hb, -⟩ := id C
  have hcs : 0 ≤ R.cells ∧ 0 ≤ R.slots := ⟨Nat.zero_le _, Nat.zero_le _⟩
  have hl : lv_has ls 2 [(0, .ref a0), (1, .int (nI i))] := hl
  rw [mm_Sq_lose] at hM
  refine lv_aload_n hx hb dd_Sq_lose_0 rfl (lv_at hl 0 rfl) ?_
  refine lv_dup hx hb dd_Sq_lose_1 rfl ?_
  refine ly_get (v := .int th) C hP 0 rfl uw_Sq rfl 4 (by decide) wa_242 rfl dd_Sq_lose_2 ?_
  refine lv_iconst (v := (1 : Int32)) hx hb dd_Sq_lose_5 (by decide) ?_
  refine lv_iload_n hx hb dd_Sq_lose_6 rfl (lv_at hl 1 rfl) ?_
  refine lv_ishl hx hb dd_Sq_lose_7 ?_
  refine lv_iconst (v := (-1 : Int32)) hx hb dd_Sq_lose_8 (by decide) ?_
  refine lv_ixor hx hb dd_Sq_lose_9 ?_
  refine lv_iand hx hb dd_Sq_lose_10 ?_
  refine ly_put (ws' := (ws_Sq K a0 aw af n fn al (th &&& (((1 : Int32) <<< ((nI i) &&& 31)) ^^^ (-1 : Int32))) wr fl)) C hP hD hS 0 rfl uw_Sq tt_Sq nn_Sq rfl 4 (by decide) wa_242 rfl rfl rfl (Nat.le_of_ble_eq_true rfl) dd_Sq_lose_11 rfl (fun H locs hP hD hS => ?_)
  exact ret (th &&& (((1 : Int32) <<< ((nI i) &&& 31)) ^^^ (-1 : Int32))) H locs 14 ls hM hS hP hD dd_Sq_lose_14

def mm_Sq_store (i : Nat) (x : Int64) (th : Int32) (wr : Nat → Int64) (fl : Nat → Int64) : (Int32) × (Nat → Int64) × (Nat → Int64) := ((th ||| ((1 : Int32) <<< ((nI i) &&& 31))), (vp_updL wr i x), (vp_updL fl i (0 : Int64)))
set_option maxHeartbeats 4000000 in
set_option maxRecDepth 100000 in
theorem cc_Sq_store {l : Launch} (D : va_G) (K : Nat → ClassId) (a0 aw af : Nat) (i : Nat) (x : Int64) (n : Nat) (fn : Nat) (al : Int32) (th : Int32) (wr : Nat → Int64) (fl : Nat → Int64) (hi : i < n) (hn : n ≤ 11) (hfn : fn ≤ 10) : ly_v l yy_Sq_store bb_Sq_store 4 none 0 0 D K [.ref a0, .int (nI i), .long x] (ws_Sq K a0 aw af n fn al th wr fl) (fun z => (ws_Sq K a0 aw af n fn al (z.1) (z.2.1) (z.2.2))) (mm_Sq_store i x th wr fl) := by
  refine ly_entV (by decide) (Nat.le_of_ble_eq_true rfl) ?_
  intro p e s m av below meth c A ls R Q H locs res hM C hRf hRl hS hP hD hl ret
  obtain ⟨hx, hb, -⟩ := id C
  have hcs : 0 ≤ R.cells ∧ 0 ≤ R.slots := ⟨Nat.zero_le _, Nat.zero_le _⟩
  have hl : lv_has ls 4 [(0, .ref a0), (1, .int (nI i)), (2, .long x)] := hl
  rw [mm_Sq_store] at hM
  refine lv_aload_n hx hb dd_Sq_store_0 rfl (lv_at hl 0 rfl) ?_
  refine ly_get (v := .ref aw) C hP 0 rfl uw_Sq rfl 2 (by decide) wa_240 rfl dd_Sq_store_1 ?_
  refine lv_iload_n hx hb dd_Sq_store_4 rfl (lv_at hl 1 rfl) ?_
  refine lv_lload_n hx hb dd_Sq_store_5 rfl (lv_at hl 2 rfl) ?_
  refine ly_last (ws' := (ws_Sq K a0 aw af n fn al th (vp_updL wr i x) fl)) C hP hD hS 1 rfl i rfl (by omega) (by omega) dd_Sq_store_6 rfl (fun H locs hP hD hS => ?_)
  refine lv_aload_n hx hb dd_Sq_store_7 rfl (lv_at hl 0 rfl) ?_
  refine ly_get (v := .ref af) C hP 0 rfl uw_Sq rfl 3 (by decide) wa_241 rfl dd_Sq_store_8 ?_
  refine lv_iload_n hx hb dd_Sq_store_11 rfl (lv_at hl 1 rfl) ?_
  refine lv_lconst (v := (0 : Int64)) hx hb dd_Sq_store_12 (by decide) ?_
  refine ly_last (ws' := (ws_Sq K a0 aw af n fn al th (vp_updL wr i x) (vp_updL fl i (0 : Int64)))) C hP hD hS 2 rfl i rfl (by omega) (by omega) dd_Sq_store_13 rfl (fun H locs hP hD hS => ?_)
  refine lv_aload_n hx hb dd_Sq_store_14 rfl (lv_at hl 0 rfl) ?_
  refine lv_dup hx hb dd_Sq_store_15 rfl ?_
  refine ly_get (v := .int th) C hP 0 rfl uw_Sq rfl 4 (by decide) wa_242 rfl dd_Sq_store_16 ?_
  refine lv_iconst (v := (1 : Int32)) hx hb dd_Sq_store_19 (by decide) ?_
  refine lv_iload_n hx hb dd_Sq_store_20 rfl (lv_at hl 1 rfl) ?_
  refine lv_ishl hx hb dd_Sq_store_21 ?_
  refine lv_ior hx hb dd_Sq_store_22 ?_
  refine ly_put (ws' := (ws_Sq K a0 aw af n fn al (th ||| ((1 : Int32) <<< ((nI i) &&& 31))) (vp_updL wr i x) (vp_updL fl i (0 : Int64)))) C hP hD hS 0 rfl uw_Sq tt_Sq nn_Sq rfl 4 (by decide) wa_242 rfl rfl rfl (Nat.le_of_ble_eq_true rfl) dd_Sq_store_23 rfl (fun H locs hP hD hS => ?_)
  exact ret ((th ||| ((1 : Int32) <<< ((nI i) &&& 31))), (vp_updL wr i x), (vp_updL fl i (0 : Int64))) H locs 26 ls hM hS hP hD dd_Sq_store_26

def mm_RG_isStripe (x : Int32) : Int32 := (if x < (0 : Int32) then (0 : Int32) else (if (3 : Int32) ≤ x then (0 : Int32) else (1 : Int32)))
set_option maxHeartbeats 4000000 in
set_option maxRecDepth 100000 in
theorem cc_RG_isStripe {l : Launch} (D : va_G) (K : Nat → ClassId) (x : Int32) : ly_i l yy_RG_isStripe bb_RG_isStripe 1 (some .boolean) 0 0 D K [.int x] ([] : va_W) (fun z => z) (fun _ => ([] : va_W)) (mm_RG_isStripe x) := by
  refine ly_entI (by decide) (Nat.le_of_ble_eq_true rfl) ?_
  intro p e s m av below meth c A ls R Q H locs res hM C hRf hRl hS hP hD hl ret
  obtain ⟨hx, hb, -⟩ := id C
  have hcs : 0 ≤ R.cells ∧ 0 ≤ R.slots := ⟨Nat.zero_le _, Nat.zero_le _⟩
  have hl : lv_has ls 1 [(0, .int x)] := hl
  rw [mm_RG_isStripe] at hM
  refine lv_iload_n hx hb dd_RG_isStripe_0 rfl (lv_at hl 0 rfl) ?_
  refine lv_if_lt (tgt := 13) hx hb dd_RG_isStripe_1 (by decide) (fun h1 => ?_) (fun h1 => ?_)
  · rw [if_pos h1] at hM
    refine lv_iconst (v := (0 : Int32)) hx hb dd_RG_isStripe_13 (by decide) ?_
    exact ret (0 : Int32) H locs 14 ls hM ly_z0 hS hP hD dd_RG_isStripe_14
  · rw [if_neg h1] at hM
    refine lv_iload_n hx hb dd_RG_isStripe_4 rfl (lv_at hl 0 rfl) ?_
    refine lv_iconst (v := (3 : Int32)) hx hb dd_RG_isStripe_5 (by decide) ?_
    refine lv_icmp_ge (tgt := 13) hx hb dd_RG_isStripe_6 (by decide) (fun h6 => ?_) (fun h6 => ?_)
    · rw [if_pos h6] at hM
      refine lv_iconst (v := (0 : Int32)) hx hb dd_RG_isStripe_13 (by decide) ?_
      exact ret (0 : Int32) H locs 14 ls hM ly_z0 hS hP hD dd_RG_isStripe_14
    · rw [if_neg h6] at hM
      refine lv_iconst (v := (1 : Int32)) hx hb dd_RG_isStripe_9 (by decide) ?_
      refine lv_goto (tgt := 14) hx hb dd_RG_isStripe_10 (by decide) ?_
      exact ret (1 : Int32) H locs 14 ls hM ly_z1 hS hP hD dd_RG_isStripe_14

def mm_RG_isNode (x : Int32) : Int32 := (if x < (0 : Int32) then (0 : Int32) else (if (12 : Int32) ≤ x then (0 : Int32) else (1 : Int32)))
set_option maxHeartbeats 4000000 in
set_option maxRecDepth 100000 in
theorem cc_RG_isNode {l : Launch} (D : va_G) (K : Nat → ClassId) (x : Int32) : ly_i l yy_RG_isNode bb_RG_isNode 1 (some .boolean) 0 0 D K [.int x] ([] : va_W) (fun z => z) (fun _ => ([] : va_W)) (mm_RG_isNode x) := by
  refine ly_entI (by decide) (Nat.le_of_ble_eq_true rfl) ?_
  intro p e s m av below meth c A ls R Q H locs res hM C hRf hRl hS hP hD hl ret
  obtain ⟨hx, hb, -⟩ := id C
  have hcs : 0 ≤ R.cells ∧ 0 ≤ R.slots := ⟨Nat.zero_le _, Nat.zero_le _⟩
  have hl : lv_has ls 1 [(0, .int x)] := hl
  rw [mm_RG_isNode] at hM
  refine lv_iload_n hx hb dd_RG_isNode_0 rfl (lv_at hl 0 rfl) ?_
  refine lv_if_lt (tgt := 14) hx hb dd_RG_isNode_1 (by decide) (fun h1 => ?_) (fun h1 => ?_)
  · rw [if_pos h1] at hM
    refine lv_iconst (v := (0 : Int32)) hx hb dd_RG_isNode_14 (by decide) ?_
    exact ret (0 : Int32) H locs 15 ls hM ly_z0 hS hP hD dd_RG_isNode_15
  · rw [if_neg h1] at hM
    refine lv_iload_n hx hb dd_RG_isNode_4 rfl (lv_at hl 0 rfl) ?_
    refine lv_bipush (v := (12 : Int32)) hx hb dd_RG_isNode_5 (by decide) ?_
    refine lv_icmp_ge (tgt := 14) hx hb dd_RG_isNode_7 (by decide) (fun h7 => ?_) (fun h7 => ?_)
    · rw [if_pos h7] at hM
      refine lv_iconst (v := (0 : Int32)) hx hb dd_RG_isNode_14 (by decide) ?_
      exact ret (0 : Int32) H locs 15 ls hM ly_z0 hS hP hD dd_RG_isNode_15
    · rw [if_neg h7] at hM
      refine lv_iconst (v := (1 : Int32)) hx hb dd_RG_isNode_10 (by decide) ?_
      refine lv_goto (tgt := 15) hx hb dd_RG_isNode_11 (by decide) ?_
      exact ret (1 : Int32) H locs 15 ls hM ly_z1 hS hP hD dd_RG_isNode_15

def mm_RG_isShard (x : Int32) (y : Int32) (n : Nat) : Int32 := (if (mm_RG_isStripe x) = (0 : Int32) then (0 : Int32) else (if y < (0 : Int32) then (0 : Int32) else (if (nI n) ≤ y then (0 : Int32) else (1 : Int32))))
set_option maxHeartbeats 4000000 in
set_option maxRecDepth 100000 in
theorem cc_RG_isShard {l : Launch} (D : va_G) (K : Nat → ClassId) (ah ac ap az au ak ar : Nat) (x : Int32) (y : Int32) (n : Nat) (lf : Int64) (rb : Int64) (gr : Int32) (hn : n ≤ 11) : ly_i l yy_RG_isShard bb_RG_isShard 3 (some .boolean) 1 20 D K [.ref ah, .int x, .int y] (ws_RI K ah ac ap az au ak ar n lf rb gr) (fun z => z) (fun _ => (ws_RI K ah ac ap az au ak ar n lf rb gr)) (mm_RG_isShard x y n) := by
  refine ly_entI (by decide) (Nat.le_of_ble_eq_true rfl) ?_
  intro p e s m av below meth c A ls R Q H locs res hM C hRf hRl hS hP hD hl ret
  obtain ⟨hx, hb, -⟩ := id C
  have hcs : 0 ≤ R.cells ∧ 0 ≤ R.slots := ⟨Nat.zero_le _, Nat.zero_le _⟩
  have hl : lv_has ls 3 [(0, .ref ah), (1, .int x), (2, .int y)] := hl
  rw [mm_RG_isShard] at hM
  refine lv_iload_n hx hb dd_RG_isShard_0 rfl (lv_at hl 1 rfl) ?_
  obtain ⟨r_1, hq1⟩ : ∃ z, z = mm_RG_isStripe x := ⟨_, rfl⟩
  try rw [← hq1] at hM
  refine ly_cS_i (n := 1) (z := r_1) (rest := []) (wn := (ws_RI K ah ac ap az au ak ar n lf rb gr)) C (cc_RG_isStripe D K x) hq1 wa_132 wa_61 wa_62 wa_63 (by decide) (Nat.le_trans (by decide) hRf) (Nat.le_trans (by decide) hRl) rfl hl.1 rfl (Nat.le_of_ble_eq_true rfl) dd_RG_isShard_1 hcs [] [0, 1] [0, 1] hP hD hS rfl rfl (by decide) rfl (fun H locs hP hD hS => ?_)
  refine W.eq (g2 := F0 m 4 ls [.int r_1]) rfl ?_
  refine lv_if_eq (tgt := 26) hx hb dd_RG_isShard_4 (by decide) (fun h4 => ?_) (fun h4 => ?_)
  · rw [if_pos h4] at hM
    refine lv_iconst (v := (0 : Int32)) hx hb dd_RG_isShard_26 (by decide) ?_
    exact ret (0 : Int32) H locs 27 ls hM ly_z0 hS hP hD dd_RG_isShard_27
  · rw [if_neg h4] at hM
    refine lv_iload_n hx hb dd_RG_isShard_7 rfl (lv_at hl 2 rfl) ?_
    refine lv_if_lt (tgt := 26) hx hb dd_RG_isShard_8 (by decide) (fun h8 => ?_) (fun h8 => ?_)
    · rw [if_pos h8] at hM
      refine lv_iconst (v := (0 : Int32)) hx hb dd_RG_isShard_26 (by decide) ?_
      exact ret (0 : Int32) H locs 27 ls hM ly_z0 hS hP hD dd_RG_isShard_27
    · rw [if_neg h8] at hM
      refine lv_iload_n hx hb dd_RG_isShard_11 rfl (lv_at hl 2 rfl) ?_
      refine lv_aload_n hx hb dd_RG_isShard_12 rfl (lv_at hl 0 rfl) ?_
      refine ly_get (v := .ref ac) C hP 0 rfl uw_RG rfl 0 (by decide) wa_44 rfl dd_RG_isShard_13 ?_
      refine ly_getN (v := .int (nI n)) C hP 1 rfl uw_Co rfl 0 (by decide) nw_1 rfl dd_RG_isShard_16 ?_
      refine lv_icmp_ge (tgt := 26) hx hb dd_RG_isShard_19 (by decide) (fun h19 => ?_) (fun h19 => ?_)
      · rw [if_pos h19] at hM
        refine lv_iconst (v := (0 : Int32)) hx hb dd_RG_isShard_26 (by decide) ?_
        exact ret (0 : Int32) H locs 27 ls hM ly_z0 hS hP hD dd_RG_isShard_27
      · rw [if_neg h19] at hM
        refine lv_iconst (v := (1 : Int32)) hx hb dd_RG_isShard_22 (by decide) ?_
        refine lv_goto (tgt := 27) hx hb dd_RG_isShard_23 (by decide) ?_
        exact ret (1 : Int32) H locs 27 ls hM ly_z1 hS hP hD dd_RG_isShard_27
theorem in_isStripe {x r : Int32} (hq : r = mm_RG_isStripe x) (h : ¬ r = 0) : ∃ j, j < 3 ∧ x = nI j := by
  subst hq
  unfold mm_RG_isStripe at h
  by_cases h0 : x < 0
  · rw [if_pos h0] at h; exact absurd rfl h
  · rw [if_neg h0] at h
    by_cases h1 : (3 : Int32) ≤ x
    · rw [if_pos h1] at h; exact absurd rfl h
    · exact ly_rng2 (N := 3) h0 h1 (by decide)
theorem in_isNode {x r : Int32} (hq : r = mm_RG_isNode x) (h : ¬ r = 0) : ∃ j, j < 12 ∧ x = nI j := by
  subst hq
  unfold mm_RG_isNode at h
  by_cases h0 : x < 0
  · rw [if_pos h0] at h; exact absurd rfl h
  · rw [if_neg h0] at h
    by_cases h1 : (12 : Int32) ≤ x
    · rw [if_pos h1] at h; exact absurd rfl h
    · exact ly_rng2 (N := 12) h0 h1 (by decide)
theorem in_isShard {x y r : Int32} {n : Nat} (hn : n ≤ 11) (hq : r = mm_RG_isShard x y n) (h : ¬ r = 0) : ∃ j, j < 3 ∧ x = nI j ∧ ∃ i, i < n ∧ y = nI i := by
  subst hq
  unfold mm_RG_isShard at h
  by_cases h9 : mm_RG_isStripe x = 0
  · rw [if_pos h9] at h; exact absurd rfl h
  · rw [if_neg h9] at h
    obtain ⟨j, hj, hx⟩ := in_isStripe rfl h9
    refine ⟨j, hj, hx, ?_⟩
    by_cases h0 : y < 0
    · rw [if_pos h0] at h; exact absurd rfl h
    · rw [if_neg h0] at h
      by_cases h1 : nI n ≤ y
      · rw [if_pos h1] at h; exact absurd rfl h
      · exact ly_rng2 h0 h1 (by omega)
