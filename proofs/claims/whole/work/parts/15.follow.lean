def mm_RG_readPlan_L3 (x : Int32) (q : Nat) (fn : Nat) (fl : Nat → Int64) : Nat → Nat → (Nat → Int32) → (Int32) → Int32 × (Nat → Int32) × (Int32)
  | 0, j, ct, th => ((1 : Int32), ct, th)
  | k + 1, j, ct, th => (if (mm_RG_isIn x j) = (0 : Int32) then (mm_RG_readPlan_L3 x q fn fl k (j + 1) ct th) else (match mm_RG_readShardFor j q fn ct th fl with | (r_29, ct_29, th_29) => (if r_29 = (0 : Int32) then ((0 : Int32), ct_29, th_29) else (mm_RG_readPlan_L3 x q fn fl k (j + 1) ct_29 th_29))))
def mm_RG_readPlan (x : Int32) (q : Nat) (n : Nat) (fn : Nat) (ct : Nat → Int32) (th : Int32) (fl : Nat → Int64) : Int32 × (Nat → Int32) × (Int32) := (mm_RG_readPlan_L3 x q fn fl n 0 ct th)
set_option maxHeartbeats 4000000 in
set_option maxRecDepth 100000 in
theorem cc_RG_readPlan {l : Launch} (D : va_G) (K : Nat → ClassId) (ah ac ar ap aq ax au ak a0 aw af az : Nat) (x : Int32) (q : Nat) (n : Nat) (fn : Nat) (lf : Int64) (rb : Int64) (gr : Int32) (ro : Nat → Int64) (sr : Nat → Int64) (sv : Nat → Int64) (up : Nat → Int32) (ct : Nat → Int32) (al : Int32) (th : Int32) (wr : Nat → Int64) (fl : Nat → Int64) (hq : q < n) (hn : n ≤ 11) (hn6 : 6 ≤ n) (hfn : fn ≤ 10) : ly_i l yy_RG_readPlan bb_RG_readPlan 5 (some .boolean) 3 67 D K [.ref ah, .ref a0, .int x, .int (nI q)] (ws_RG K ah ac ar ap aq ax au ak a0 aw af az n fn lf rb gr ro sr sv up ct al th wr fl) (fun z => z.1) (fun z => (ws_RG K ah ac ar ap aq ax au ak a0 aw af az n fn lf rb gr ro sr sv up (z.2.1) al (z.2.2) wr fl)) (mm_RG_readPlan x q n fn ct th fl) := by
  refine ly_entI (by decide) (Nat.le_of_ble_eq_true rfl) ?_
  intro p e s m av below meth c A ls R Q H locs res hM C hRf hRl hS hP hD hl ret
  obtain ⟨hx, hb, -⟩ := id C
  have hcs : 0 ≤ R.cells ∧ 0 ≤ R.slots := ⟨Nat.zero_le _, Nat.zero_le _⟩
  have hl : lv_has ls 5 [(0, .ref ah), (1, .ref a0), (2, .int x), (3, .int (nI q))] := hl
  rw [mm_RG_readPlan] at hM
  refine lv_iconst (v := (0 : Int32)) hx hb dd_RG_readPlan_0 (by decide) ?_
  refine lv_istore (lv' := [(4, .int (0 : Int32)), (0, .ref ah), (1, .ref a0), (2, .int x), (3, .int (nI q))]) hx hb dd_RG_readPlan_1 hl (by decide) rfl (fun ls hl => ?_)
  have lp3 : ∀ (k : Nat) (j : Nat) (ct : Nat → Int32) (th : Int32) (ls : Array Slot) (H : Heap) (locs : List Loc), j + k = n → mm_RG_readPlan_L3 x q fn fl k j ct th = res → lv_has ls 5 [(4, .int (nI j)), (0, .ref ah), (1, .ref a0), (2, .int x), (3, .int (nI q))] → va_P D cl_all (ws_RG K ah ac ar ap aq ax au ak a0 aw af az n fn lf rb gr ro sr sv up ct al th wr fl) H → va_D A (ws_RG K ah ac ar ap aq ax au ak a0 aw af az n fn lf rb gr ro sr sv up ct al th wr fl) → va_S A s.heap H locs → W p l e R s m av below meth c H locs 0 0 Q (F0 m 3 ls []) := by
    intro k
    induction k with
    | zero =>
      intro j ct th ls H locs hjk3 hM hl hP hD hS
      have hj0 : j = n := by omega
      subst j
      rw [mm_RG_readPlan_L3] at hM
      refine lv_iload hx hb dd_RG_readPlan_3 (lv_at hl 0 rfl) ?_
      refine lv_aload_n hx hb dd_RG_readPlan_5 rfl (lv_at hl 1 rfl) ?_
      refine ly_get (v := .ref ac) C hP 0 rfl uw_RG rfl 0 (by decide) wa_44 rfl dd_RG_readPlan_6 ?_
      refine ly_getN (v := .int (nI n)) C hP 1 rfl uw_Co rfl 0 (by decide) nw_1 rfl dd_RG_readPlan_9 ?_
      refine lv_icmp_ge (tgt := 43) hx hb dd_RG_readPlan_12 (by decide) (fun _ => ?_) (fun h => absurd (nI_le (a := n) (b := n) (by omega) (by omega)) h)
      refine lv_iconst (v := (1 : Int32)) hx hb dd_RG_readPlan_43 (by decide) ?_
      exact ret ((1 : Int32), ct, th) H locs 44 ls hM ly_z1 hS hP hD dd_RG_readPlan_44
    | succ k ih3 =>
      intro j ct th ls H locs hjk3 hM hl hP hD hS
      rw [mm_RG_readPlan_L3] at hM
      refine lv_iload hx hb dd_RG_readPlan_3 (lv_at hl 0 rfl) ?_
      refine lv_aload_n hx hb dd_RG_readPlan_5 rfl (lv_at hl 1 rfl) ?_
      refine ly_get (v := .ref ac) C hP 0 rfl uw_RG rfl 0 (by decide) wa_44 rfl dd_RG_readPlan_6 ?_
      refine ly_getN (v := .int (nI n)) C hP 1 rfl uw_Co rfl 0 (by decide) nw_1 rfl dd_RG_readPlan_9 ?_
      refine lv_icmp_ge (tgt := 43) hx hb dd_RG_readPlan_12 (by decide) (fun h => absurd h (nI_ge (a := j) (b := n) (by omega) (by omega))) (fun _ => ?_)
      refine lv_iload_n hx hb dd_RG_readPlan_15 rfl (lv_at hl 3 rfl) ?_
      refine lv_iload hx hb dd_RG_readPlan_16 (lv_at hl 0 rfl) ?_
      obtain ⟨r_18, hq18⟩ : ∃ z, z = mm_RG_isIn x j := ⟨_, rfl⟩
      try rw [← hq18] at hM
      refine ly_cS_i (n := 2) (z := r_18) (rest := []) (wn := (ws_RG K ah ac ar ap aq ax au ak a0 aw af az n fn lf rb gr ro sr sv up ct al th wr fl)) C (cc_RG_isIn D K x j) hq18 wa_195 wa_166 wa_62 wa_167 (by decide) (Nat.le_trans (by decide) hRf) (Nat.le_trans (by decide) hRl) rfl hl.1 rfl (Nat.le_of_ble_eq_true rfl) dd_RG_readPlan_18 hcs [] [0, 1, 2, 3, 4, 5, 6, 7, 8, 9, 10] [0, 1, 2, 3, 4, 5, 6, 7, 8, 9, 10] hP hD hS rfl rfl (by decide) rfl (fun H locs hP hD hS => ?_)
      refine W.eq (g2 := F0 m 21 ls [.int r_18]) rfl ?_
      refine lv_if_eq (tgt := 37) hx hb dd_RG_readPlan_21 (by decide) (fun h21 => ?_) (fun h21 => ?_)
      · rw [if_pos h21] at hM
        refine lv_iinc (k := 0) (v := (nI (j + 1))) (lv' := [(4, .int (nI (j + 1))), (0, .ref ah), (1, .ref a0), (2, .int x), (3, .int (nI q))]) hx hb dd_RG_readPlan_37 hl rfl (ly_incN _) (by decide) rfl (fun ls hl => ?_)
        refine lv_goto (tgt := 3) hx hb dd_RG_readPlan_40 (by decide) ?_
        exact ih3 (j + 1) ct th ls H locs (by omega) hM (lv_sub hl [0, 1, 2, 3, 4] rfl) hP hD hS
      · rw [if_neg h21] at hM
        refine lv_aload_n hx hb dd_RG_readPlan_24 rfl (lv_at hl 1 rfl) ?_
        refine lv_aload_n hx hb dd_RG_readPlan_25 rfl (lv_at hl 2 rfl) ?_
        refine lv_iload hx hb dd_RG_readPlan_26 (lv_at hl 0 rfl) ?_
        refine lv_iload_n hx hb dd_RG_readPlan_28 rfl (lv_at hl 4 rfl) ?_
        obtain ⟨⟨r_29, ct_29, th_29⟩, hq29⟩ : ∃ z, z = mm_RG_readShardFor j q fn ct th fl := ⟨_, rfl⟩
        try rw [← hq29] at hM
        try dsimp only at hM
        refine ly_cV_i (n := 3) (z := (r_29, ct_29, th_29)) (rest := []) (wn := (ws_RG K ah ac ar ap aq ax au ak a0 aw af az n fn lf rb gr ro sr sv up ct_29 al th_29 wr fl)) C (cc_RG_readShardFor D K ah ac ar ap aq ax au ak a0 aw af az j q n fn lf rb gr ro sr sv up ct al th wr fl (by omega) (by omega) (by omega) (by omega) (by omega)) hq29 wa_142 wa_151 wa_62 wa_152 wa_153 (by decide) (Nat.le_trans (by decide) hRf) (Nat.le_trans (by decide) hRl) rfl hl.1 rfl (Nat.le_of_ble_eq_true rfl) dd_RG_readPlan_29 hcs [0, 1, 2, 3, 4, 5, 6, 7, 8, 9, 10] [] [0, 1, 2, 3, 4, 5, 6, 7, 8, 9, 10] hP hD hS rfl rfl (by decide) rfl rfl rfl (fun H locs hP hD hS => ?_)
        refine W.eq (g2 := F0 m 32 ls [.int r_29]) rfl ?_
        refine lv_if_ne (tgt := 37) hx hb dd_RG_readPlan_32 (by decide) (fun h32 => ?_) (fun h32 => ?_)
        · rw [if_neg h32] at hM
          refine lv_iinc (k := 0) (v := (nI (j + 1))) (lv' := [(4, .int (nI (j + 1))), (0, .ref ah), (1, .ref a0), (2, .int x), (3, .int (nI q))]) hx hb dd_RG_readPlan_37 hl rfl (ly_incN _) (by decide) rfl (fun ls hl => ?_)
          refine lv_goto (tgt := 3) hx hb dd_RG_readPlan_40 (by decide) ?_
          exact ih3 (j + 1) ct_29 th_29 ls H locs (by omega) hM (lv_sub hl [0, 1, 2, 3, 4] rfl) hP hD hS
        · rw [if_pos h32] at hM
          refine lv_iconst (v := (0 : Int32)) hx hb dd_RG_readPlan_35 (by decide) ?_
          exact ret ((0 : Int32), ct_29, th_29) H locs 36 ls hM ly_z0 hS hP hD dd_RG_readPlan_36
  exact lp3 n 0 ct th ls H locs (by omega) hM (lv_sub hl [0, 1, 2, 3, 4] rfl) hP hD hS

def mm_RG_decode_L10 (x : Int32) (i : Nat) (ro : Nat → Int64) (wr : Nat → Int64) (fl : Nat → Int64) : Nat → Nat → (Nat → Int64) → (Nat → Int64) → Int64 × (Nat → Int64) × (Nat → Int64)
  | 0, j, sr, sv => ((mm_Sp_valueOf (ro i) sr sv), sr, sv)
  | k + 1, j, sr, sv => (if (mm_RG_isIn x j) = (0 : Int32) then (mm_RG_decode_L10 x i ro wr fl k (j + 1) sr sv) else (match mm_Sp_take (ro j) (mm_Sq_held j wr fl) sr sv with | (r_51, sr_51, sv_51) => (mm_RG_decode_L10 x i ro wr fl k (j + 1) sr_51 sv_51)))
def mm_RG_decode (x : Int32) (i : Nat) (n : Nat) (ro : Nat → Int64) (sr : Nat → Int64) (sv : Nat → Int64) (wr : Nat → Int64) (fl : Nat → Int64) : Int64 × (Nat → Int64) × (Nat → Int64) := (match mm_Sp_clear sr sv with | (sr_4, sv_4) => (mm_RG_decode_L10 x i ro wr fl n 0 sr_4 sv_4))
set_option maxHeartbeats 4000000 in
set_option maxRecDepth 100000 in
theorem cc_RG_decode {l : Launch} (D : va_G) (K : Nat → ClassId) (ah ac ar ap aq ax au ak a0 aw af az : Nat) (x : Int32) (i : Nat) (n : Nat) (fn : Nat) (lf : Int64) (rb : Int64) (gr : Int32) (ro : Nat → Int64) (sr : Nat → Int64) (sv : Nat → Int64) (up : Nat → Int32) (ct : Nat → Int32) (al : Int32) (th : Int32) (wr : Nat → Int64) (fl : Nat → Int64) (hi : i < n) (hn : n ≤ 11) (hn6 : 6 ≤ n) (hfn : fn ≤ 10) : ly_l l yy_RG_decode bb_RG_decode 5 (some .long) 3 85 D K [.ref ah, .ref a0, .int x, .int (nI i)] (ws_RG K ah ac ar ap aq ax au ak a0 aw af az n fn lf rb gr ro sr sv up ct al th wr fl) (fun z => z.1) (fun z => (ws_RG K ah ac ar ap aq ax au ak a0 aw af az n fn lf rb gr ro (z.2.1) (z.2.2) up ct al th wr fl)) (mm_RG_decode x i n ro sr sv wr fl) := by
  refine ly_entL (by decide) (Nat.le_of_ble_eq_true rfl) ?_
  intro p e s m av below meth c A ls R Q H locs res hM C hRf hRl hS hP hD hl ret
  obtain ⟨hx, hb, -⟩ := id C
  have hcs : 0 ≤ R.cells ∧ 0 ≤ R.slots := ⟨Nat.zero_le _, Nat.zero_le _⟩
  have hl : lv_has ls 5 [(0, .ref ah), (1, .ref a0), (2, .int x), (3, .int (nI i))] := hl
  rw [mm_RG_decode] at hM
  refine lv_aload_n hx hb dd_RG_decode_0 rfl (lv_at hl 0 rfl) ?_
  refine ly_get (v := .ref ap) C hP 0 rfl uw_RG rfl 1 (by decide) wa_49 rfl dd_RG_decode_1 ?_
  obtain ⟨⟨sr_4, sv_4⟩, hq4⟩ : ∃ z, z = mm_Sp_clear sr sv := ⟨_, rfl⟩
  try rw [← hq4] at hM
  try dsimp only at hM
  refine ly_cV_v (n := 0) (z := (sr_4, sv_4)) (rest := []) (wn := (ws_RG K ah ac ar ap aq ax au ak a0 aw af az n fn lf rb gr ro sr_4 sv_4 up ct al th wr fl)) C (cc_Sp_clear D K ap aq ax sr sv) hq4 wa_230 wa_169 wa_47 wa_170 wa_171 (by decide) (Nat.le_trans (by decide) hRf) (Nat.le_trans (by decide) hRl) rfl hl.1 rfl (Nat.le_of_ble_eq_true rfl) dd_RG_decode_4 hcs [3, 4, 5] [0, 1, 2, 6, 7, 8, 9, 10] [0, 1, 2, 8, 9, 10, 3, 4, 5, 6, 7] hP hD hS rfl rfl (by decide) rfl rfl rfl (fun H locs hP hD hS => ?_)
  refine W.eq (g2 := F0 m 7 ls []) rfl ?_
  refine lv_iconst (v := (0 : Int32)) hx hb dd_RG_decode_7 (by decide) ?_
  refine lv_istore (lv' := [(4, .int (0 : Int32)), (0, .ref ah), (1, .ref a0), (2, .int x), (3, .int (nI i))]) hx hb dd_RG_decode_8 hl (by decide) rfl (fun ls hl => ?_)
  have lp10 : ∀ (k : Nat) (j : Nat) (sr : Nat → Int64) (sv : Nat → Int64) (ls : Array Slot) (H : Heap) (locs : List Loc), j + k = n → mm_RG_decode_L10 x i ro wr fl k j sr sv = res → lv_has ls 5 [(4, .int (nI j)), (0, .ref ah), (1, .ref a0), (2, .int x), (3, .int (nI i))] → va_P D cl_all (ws_RG K ah ac ar ap aq ax au ak a0 aw af az n fn lf rb gr ro sr sv up ct al th wr fl) H → va_D A (ws_RG K ah ac ar ap aq ax au ak a0 aw af az n fn lf rb gr ro sr sv up ct al th wr fl) → va_S A s.heap H locs → W p l e R s m av below meth c H locs 0 0 Q (F0 m 10 ls []) := by
    intro k
    induction k with
    | zero =>
      intro j sr sv ls H locs hjk10 hM hl hP hD hS
      have hj0 : j = n := by omega
      subst j
      rw [mm_RG_decode_L10] at hM
      refine lv_iload hx hb dd_RG_decode_10 (lv_at hl 0 rfl) ?_
      refine lv_aload_n hx hb dd_RG_decode_12 rfl (lv_at hl 1 rfl) ?_
      refine ly_get (v := .ref ac) C hP 0 rfl uw_RG rfl 0 (by decide) wa_44 rfl dd_RG_decode_13 ?_
      refine ly_getN (v := .int (nI n)) C hP 1 rfl uw_Co rfl 0 (by decide) nw_1 rfl dd_RG_decode_16 ?_
      refine lv_icmp_ge (tgt := 61) hx hb dd_RG_decode_19 (by decide) (fun _ => ?_) (fun h => absurd (nI_le (a := n) (b := n) (by omega) (by omega)) h)
      refine lv_aload_n hx hb dd_RG_decode_61 rfl (lv_at hl 1 rfl) ?_
      refine ly_get (v := .ref ap) C hP 0 rfl uw_RG rfl 1 (by decide) wa_49 rfl dd_RG_decode_62 ?_
      refine lv_aload_n hx hb dd_RG_decode_65 rfl (lv_at hl 1 rfl) ?_
      refine ly_get (v := .ref ac) C hP 0 rfl uw_RG rfl 0 (by decide) wa_44 rfl dd_RG_decode_66 ?_
      refine ly_getN (v := .ref ar) C hP 1 rfl uw_Co rfl 1 (by decide) nw_2 rfl dd_RG_decode_69 ?_
      refine lv_iload_n hx hb dd_RG_decode_72 rfl (lv_at hl 4 rfl) ?_
      refine ly_lald C hP 2 rfl i rfl (by omega) (by omega) dd_RG_decode_73 ?_
      obtain ⟨r_74, hq74⟩ : ∃ z, z = mm_Sp_valueOf (ro i) sr sv := ⟨_, rfl⟩
      try rw [← hq74] at hM
      refine ly_cV_l (n := 1) (z := r_74) (rest := []) (wn := (ws_RG K ah ac ar ap aq ax au ak a0 aw af az n fn lf rb gr ro sr sv up ct al th wr fl)) C (cc_Sp_valueOf D K ap aq ax (ro i) sr sv) hq74 wa_235 wa_175 wa_47 wa_176 wa_177 (by decide) (Nat.le_trans (by decide) hRf) (Nat.le_trans (by decide) hRl) rfl hl.1 rfl (Nat.le_of_ble_eq_true rfl) dd_RG_decode_74 hcs [3, 4, 5] [0, 1, 2, 6, 7, 8, 9, 10] [0, 1, 2, 8, 9, 10, 3, 4, 5, 6, 7] hP hD hS rfl rfl (by decide) rfl rfl rfl (fun H locs hP hD hS => ?_)
      refine W.eq (g2 := F0 m 77 ls [.long r_74]) rfl ?_
      exact ret (r_74, sr, sv) H locs 77 ls hM hS hP hD dd_RG_decode_77
    | succ k ih10 =>
      intro j sr sv ls H locs hjk10 hM hl hP hD hS
      rw [mm_RG_decode_L10] at hM
      refine lv_iload hx hb dd_RG_decode_10 (lv_at hl 0 rfl) ?_
      refine lv_aload_n hx hb dd_RG_decode_12 rfl (lv_at hl 1 rfl) ?_
      refine ly_get (v := .ref ac) C hP 0 rfl uw_RG rfl 0 (by decide) wa_44 rfl dd_RG_decode_13 ?_
      refine ly_getN (v := .int (nI n)) C hP 1 rfl uw_Co rfl 0 (by decide) nw_1 rfl dd_RG_decode_16 ?_
      refine lv_icmp_ge (tgt := 61) hx hb dd_RG_decode_19 (by decide) (fun h => absurd h (nI_ge (a := j) (b := n) (by omega) (by omega))) (fun _ => ?_)
      refine lv_iload_n hx hb dd_RG_decode_22 rfl (lv_at hl 3 rfl) ?_
      refine lv_iload hx hb dd_RG_decode_23 (lv_at hl 0 rfl) ?_
      obtain ⟨r_25, hq25⟩ : ∃ z, z = mm_RG_isIn x j := ⟨_, rfl⟩
      try rw [← hq25] at hM
      refine ly_cS_i (n := 2) (z := r_25) (rest := []) (wn := (ws_RG K ah ac ar ap aq ax au ak a0 aw af az n fn lf rb gr ro sr sv up ct al th wr fl)) C (cc_RG_isIn D K x j) hq25 wa_195 wa_166 wa_62 wa_167 (by decide) (Nat.le_trans (by decide) hRf) (Nat.le_trans (by decide) hRl) rfl hl.1 rfl (Nat.le_of_ble_eq_true rfl) dd_RG_decode_25 hcs [] [0, 1, 2, 3, 4, 5, 6, 7, 8, 9, 10] [0, 1, 2, 3, 4, 5, 6, 7, 8, 9, 10] hP hD hS rfl rfl (by decide) rfl (fun H locs hP hD hS => ?_)
      refine W.eq (g2 := F0 m 28 ls [.int r_25]) rfl ?_
      refine lv_if_eq (tgt := 55) hx hb dd_RG_decode_28 (by decide) (fun h28 => ?_) (fun h28 => ?_)
      · rw [if_pos h28] at hM
        refine lv_iinc (k := 0) (v := (nI (j + 1))) (lv' := [(4, .int (nI (j + 1))), (0, .ref ah), (1, .ref a0), (2, .int x), (3, .int (nI i))]) hx hb dd_RG_decode_55 hl rfl (ly_incN _) (by decide) rfl (fun ls hl => ?_)
        refine lv_goto (tgt := 10) hx hb dd_RG_decode_58 (by decide) ?_
        exact ih10 (j + 1) sr sv ls H locs (by omega) hM (lv_sub hl [0, 1, 2, 3, 4] rfl) hP hD hS
      · rw [if_neg h28] at hM
        refine lv_aload_n hx hb dd_RG_decode_31 rfl (lv_at hl 1 rfl) ?_
        refine ly_get (v := .ref ap) C hP 0 rfl uw_RG rfl 1 (by decide) wa_49 rfl dd_RG_decode_32 ?_
        refine lv_aload_n hx hb dd_RG_decode_35 rfl (lv_at hl 1 rfl) ?_
        refine ly_get (v := .ref ac) C hP 0 rfl uw_RG rfl 0 (by decide) wa_44 rfl dd_RG_decode_36 ?_
        refine ly_getN (v := .ref ar) C hP 1 rfl uw_Co rfl 1 (by decide) nw_2 rfl dd_RG_decode_39 ?_
        refine lv_iload hx hb dd_RG_decode_42 (lv_at hl 0 rfl) ?_
        refine ly_lald C hP 2 rfl j rfl (by omega) (by omega) dd_RG_decode_44 ?_
        refine lv_aload_n hx hb dd_RG_decode_45 rfl (lv_at hl 2 rfl) ?_
        refine lv_iload hx hb dd_RG_decode_46 (lv_at hl 0 rfl) ?_
        obtain ⟨r_48, hq48⟩ : ∃ z, z = mm_Sq_held j wr fl := ⟨_, rfl⟩
        try rw [← hq48] at hM
        refine ly_cV_l (n := 1) (z := r_48) (rest := [.long (ro j), .ref ap]) (wn := (ws_RG K ah ac ar ap aq ax au ak a0 aw af az n fn lf rb gr ro sr sv up ct al th wr fl)) C (cc_Sq_held D K a0 aw af j n fn al th wr fl (by omega) (by omega) (by omega)) hq48 wa_247 wa_70 wa_53 wa_71 wa_72 (by decide) (Nat.le_trans (by decide) hRf) (Nat.le_trans (by decide) hRl) rfl hl.1 rfl (Nat.le_of_ble_eq_true rfl) dd_RG_decode_48 hcs [8, 9, 10] [0, 1, 2, 3, 4, 5, 6, 7] [0, 1, 2, 3, 4, 5, 6, 7, 8, 9, 10] hP hD hS rfl rfl (by decide) rfl rfl rfl (fun H locs hP hD hS => ?_)
        refine W.eq (g2 := F0 m 51 ls [.long r_48, .long (ro j), .ref ap]) rfl ?_
        obtain ⟨⟨r_51, sr_51, sv_51⟩, hq51⟩ : ∃ z, z = mm_Sp_take (ro j) r_48 sr sv := ⟨_, rfl⟩
        try rw [← hq51] at hM
        try dsimp only at hM
        refine ly_cV_i (n := 2) (z := (r_51, sr_51, sv_51)) (rest := []) (wn := (ws_RG K ah ac ar ap aq ax au ak a0 aw af az n fn lf rb gr ro sr_51 sv_51 up ct al th wr fl)) C (cc_Sp_take D K ap aq ax (ro j) r_48 sr sv) hq51 wa_231 wa_172 wa_47 wa_173 wa_174 (by decide) (Nat.le_trans (by decide) hRf) (Nat.le_trans (by decide) hRl) rfl hl.1 rfl (Nat.le_of_ble_eq_true rfl) dd_RG_decode_51 hcs [3, 4, 5] [0, 1, 2, 6, 7, 8, 9, 10] [0, 1, 2, 8, 9, 10, 3, 4, 5, 6, 7] hP hD hS rfl rfl (by decide) rfl rfl rfl (fun H locs hP hD hS => ?_)
        refine W.eq (g2 := F0 m 54 ls [.int r_51]) rfl ?_
        refine lv_pop hx hb dd_RG_decode_54 rfl ?_
        refine lv_iinc (k := 0) (v := (nI (j + 1))) (lv' := [(4, .int (nI (j + 1))), (0, .ref ah), (1, .ref a0), (2, .int x), (3, .int (nI i))]) hx hb dd_RG_decode_55 hl rfl (ly_incN _) (by decide) rfl (fun ls hl => ?_)
        refine lv_goto (tgt := 10) hx hb dd_RG_decode_58 (by decide) ?_
        exact ih10 (j + 1) sr_51 sv_51 ls H locs (by omega) hM (lv_sub hl [0, 1, 2, 3, 4] rfl) hP hD hS
  exact lp10 n 0 sr_4 sv_4 ls H locs (by omega) hM (lv_sub hl [0, 1, 2, 3, 4] rfl) hP hD hS

def mm_RG_followPlans_L2 (i : Nat) (n : Nat) (fn : Nat) (rb : Int64) (gr : Int32) (ro : Nat → Int64) (al : Int32) (wr : Nat → Int64) (fl : Nat → Int64) : Nat → Nat → (Nat → Int64) → (Nat → Int64) → (Nat → Int32) → (Int32) → Int32 × (Int64) × (Nat → Int64) × (Nat → Int64) × (Nat → Int32) × (Int32)
  | 0, j, sr, sv, ct, th => ((-4 : Int32), rb, sr, sv, ct, th)
  | k + 1, j, sr, sv, ct, th => (match mm_RG_choosePlan i n gr ro sr sv al th with | (r_11, sr_11, sv_11) => (if r_11 = (0 : Int32) then ((-4 : Int32), rb, sr_11, sv_11, ct, th) else (match mm_RG_readPlan r_11 i n fn (upd ct 3 ((ct 3) + (1 : Int32))) th fl with | (r_39, ct_39, th_39) => (if r_39 = (0 : Int32) then (mm_RG_followPlans_L2 i n fn rb gr ro al wr fl k (j + 1) sr_11 sv_11 ct_39 th_39) else (match mm_RG_decode r_11 i n ro sr_11 sv_11 wr fl with | (r_51, sr_51, sv_51) => ((nI j), r_51, sr_51, sv_51, ct_39, th_39))))))
def mm_RG_followPlans (i : Nat) (n : Nat) (fn : Nat) (rb : Int64) (gr : Int32) (ro : Nat → Int64) (sr : Nat → Int64) (sv : Nat → Int64) (ct : Nat → Int32) (al : Int32) (th : Int32) (wr : Nat → Int64) (fl : Nat → Int64) : Int32 × (Int64) × (Nat → Int64) × (Nat → Int64) × (Nat → Int32) × (Int32) := (mm_RG_followPlans_L2 i n fn rb gr ro al wr fl 32 1 sr sv ct th)
set_option maxHeartbeats 4000000 in
set_option maxRecDepth 100000 in
theorem cc_RG_followPlans {l : Launch} (D : va_G) (K : Nat → ClassId) (ah ac ar ap aq ax au ak a0 aw af az : Nat) (i : Nat) (n : Nat) (fn : Nat) (lf : Int64) (rb : Int64) (gr : Int32) (ro : Nat → Int64) (sr : Nat → Int64) (sv : Nat → Int64) (up : Nat → Int32) (ct : Nat → Int32) (al : Int32) (th : Int32) (wr : Nat → Int64) (fl : Nat → Int64) (hi : i < n) (hn : n ≤ 11) (hn6 : 6 ≤ n) (hfn : fn ≤ 10) : ly_i l yy_RG_followPlans bb_RG_followPlans 5 (some .int) 5 131 D K [.ref ah, .ref a0, .int (nI i)] (ws_RG K ah ac ar ap aq ax au ak a0 aw af az n fn lf rb gr ro sr sv up ct al th wr fl) (fun z => z.1) (fun z => (ws_RG K ah ac ar ap aq ax au ak a0 aw af az n fn lf (z.2.1) gr ro (z.2.2.1) (z.2.2.2.1) up (z.2.2.2.2.1) al (z.2.2.2.2.2) wr fl)) (mm_RG_followPlans i n fn rb gr ro sr sv ct al th wr fl) := by
  refine ly_entI (by decide) (Nat.le_of_ble_eq_true rfl) ?_
  intro p e s m av below meth c A ls R Q H locs res hM C hRf hRl hS hP hD hl ret
  obtain ⟨hx, hb, -⟩ := id C
  have hcs : 0 ≤ R.cells ∧ 0 ≤ R.slots := ⟨Nat.zero_le _, Nat.zero_le _⟩
  have hl : lv_has ls 5 [(0, .ref ah), (1, .ref a0), (2, .int (nI i))] := hl
  rw [mm_RG_followPlans] at hM
  refine lv_iconst (v := (1 : Int32)) hx hb dd_RG_followPlans_0 (by decide) ?_
  refine lv_istore_n (lv' := [(3, .int (1 : Int32)), (0, .ref ah), (1, .ref a0), (2, .int (nI i))]) hx hb dd_RG_followPlans_1 rfl hl (by decide) rfl (fun ls hl => ?_)
  have lp2 : ∀ (k : Nat) (j : Nat) (sr : Nat → Int64) (sv : Nat → Int64) (ct : Nat → Int32) (th : Int32) (ls : Array Slot) (H : Heap) (locs : List Loc), j + k = 33 → mm_RG_followPlans_L2 i n fn rb gr ro al wr fl k j sr sv ct th = res → lv_has ls 5 [(3, .int (nI j)), (0, .ref ah), (1, .ref a0), (2, .int (nI i))] → va_P D cl_all (ws_RG K ah ac ar ap aq ax au ak a0 aw af az n fn lf rb gr ro sr sv up ct al th wr fl) H → va_D A (ws_RG K ah ac ar ap aq ax au ak a0 aw af az n fn lf rb gr ro sr sv up ct al th wr fl) → va_S A s.heap H locs → W p l e R s m av below meth c H locs 0 0 Q (F0 m 2 ls []) := by
    intro k
    induction k with
    | zero =>
      intro j sr sv ct th ls H locs hjk2 hM hl hP hD hS
      have hj0 : j = 33 := by omega
      subst j
      rw [mm_RG_followPlans_L2] at hM
      refine lv_iload_n hx hb dd_RG_followPlans_2 rfl (lv_at hl 0 rfl) ?_
      refine lv_bipush (v := (32 : Int32)) hx hb dd_RG_followPlans_3 (by decide) ?_
      refine lv_icmp_gt (tgt := 65) hx hb dd_RG_followPlans_5 (by decide) (fun _ => ?_) (fun h => absurd (nI_lt (a := 32) (b := 33) (by omega) (by omega)) h)
      refine lv_bipush (v := (-4 : Int32)) hx hb dd_RG_followPlans_65 (by decide) ?_
      exact ret ((-4 : Int32), rb, sr, sv, ct, th) H locs 67 ls hM rfl hS hP hD dd_RG_followPlans_67
    | succ k ih2 =>
      intro j sr sv ct th ls H locs hjk2 hM hl hP hD hS
      rw [mm_RG_followPlans_L2] at hM
      refine lv_iload_n hx hb dd_RG_followPlans_2 rfl (lv_at hl 0 rfl) ?_
      refine lv_bipush (v := (32 : Int32)) hx hb dd_RG_followPlans_3 (by decide) ?_
      refine lv_icmp_gt (tgt := 65) hx hb dd_RG_followPlans_5 (by decide) (fun h => absurd h (nI_nlt (a := 32) (b := j) (by omega) (by omega))) (fun _ => ?_)
      refine lv_aload_n hx hb dd_RG_followPlans_8 rfl (lv_at hl 1 rfl) ?_
      refine lv_aload_n hx hb dd_RG_followPlans_9 rfl (lv_at hl 2 rfl) ?_
      refine lv_iload_n hx hb dd_RG_followPlans_10 rfl (lv_at hl 3 rfl) ?_
      obtain ⟨⟨r_11, sr_11, sv_11⟩, hq11⟩ : ∃ z, z = mm_RG_choosePlan i n gr ro sr sv al th := ⟨_, rfl⟩
      try rw [← hq11] at hM
      try dsimp only at hM
      refine ly_cV_i (n := 2) (z := (r_11, sr_11, sv_11)) (rest := []) (wn := (ws_RG K ah ac ar ap aq ax au ak a0 aw af az n fn lf rb gr ro sr_11 sv_11 up ct al th wr fl)) C (cc_RG_choosePlan D K ah ac ar ap aq ax au ak a0 aw af az i n fn lf rb gr ro sr sv up ct al th wr fl (by omega) (by omega) (by omega) (by omega)) hq11 wa_178 wa_113 wa_62 wa_114 wa_115 (by decide) (Nat.le_trans (by decide) hRf) (Nat.le_trans (by decide) hRl) rfl hl.1 rfl (Nat.le_of_ble_eq_true rfl) dd_RG_followPlans_11 hcs [0, 1, 2, 3, 4, 5, 6, 7, 8, 9, 10] [] [0, 1, 2, 3, 4, 5, 6, 7, 8, 9, 10] hP hD hS rfl rfl (by decide) rfl rfl rfl (fun H locs hP hD hS => ?_)
      refine W.eq (g2 := F0 m 14 ls [.int r_11]) rfl ?_
      refine lv_istore (lv' := [(4, .int r_11), (3, .int (nI j)), (0, .ref ah), (1, .ref a0), (2, .int (nI i))]) hx hb dd_RG_followPlans_14 hl (by decide) rfl (fun ls hl => ?_)
      refine lv_iload hx hb dd_RG_followPlans_16 (lv_at hl 0 rfl) ?_
      refine lv_if_ne (tgt := 24) hx hb dd_RG_followPlans_18 (by decide) (fun h18 => ?_) (fun h18 => ?_)
      · rw [if_neg h18] at hM
        refine lv_aload_n hx hb dd_RG_followPlans_24 rfl (lv_at hl 2 rfl) ?_
        refine ly_get (v := .ref ak) C hP 0 rfl uw_RG rfl 4 (by decide) wa_59 rfl dd_RG_followPlans_25 ?_
        refine lv_iconst (v := (3 : Int32)) hx hb dd_RG_followPlans_28 (by decide) ?_
        refine lv_dup2_11 hx hb dd_RG_followPlans_29 rfl rfl ?_
        refine ly_iald C hP 7 rfl 3 rfl (by omega) (by omega) dd_RG_followPlans_30 ?_
        refine lv_iconst (v := (1 : Int32)) hx hb dd_RG_followPlans_31 (by decide) ?_
        refine lv_iadd hx hb dd_RG_followPlans_32 ?_
        refine ly_iast (ws' := (ws_RG K ah ac ar ap aq ax au ak a0 aw af az n fn lf rb gr ro sr_11 sv_11 up (upd ct 3 ((ct 3) + (1 : Int32))) al th wr fl)) C hP hD hS 7 rfl 3 rfl (by omega) (by omega) dd_RG_followPlans_33 rfl (fun H locs hP hD hS => ?_)
        refine lv_aload_n hx hb dd_RG_followPlans_34 rfl (lv_at hl 2 rfl) ?_
        refine lv_aload_n hx hb dd_RG_followPlans_35 rfl (lv_at hl 3 rfl) ?_
        refine lv_iload hx hb dd_RG_followPlans_36 (lv_at hl 0 rfl) ?_
        refine lv_iload_n hx hb dd_RG_followPlans_38 rfl (lv_at hl 4 rfl) ?_
        obtain ⟨⟨r_39, ct_39, th_39⟩, hq39⟩ : ∃ z, z = mm_RG_readPlan r_11 i n fn (upd ct 3 ((ct 3) + (1 : Int32))) th fl := ⟨_, rfl⟩
        try rw [← hq39] at hM
        try dsimp only at hM
        refine ly_cV_i (n := 3) (z := (r_39, ct_39, th_39)) (rest := []) (wn := (ws_RG K ah ac ar ap aq ax au ak a0 aw af az n fn lf rb gr ro sr_11 sv_11 up ct_39 al th_39 wr fl)) C (cc_RG_readPlan D K ah ac ar ap aq ax au ak a0 aw af az r_11 i n fn lf rb gr ro sr_11 sv_11 up (upd ct 3 ((ct 3) + (1 : Int32))) al th wr fl (by omega) (by omega) (by omega) (by omega)) hq39 wa_165 wa_159 wa_62 wa_160 wa_161 (by decide) (Nat.le_trans (by decide) hRf) (Nat.le_trans (by decide) hRl) rfl hl.1 rfl (Nat.le_of_ble_eq_true rfl) dd_RG_followPlans_39 hcs [0, 1, 2, 3, 4, 5, 6, 7, 8, 9, 10] [] [0, 1, 2, 3, 4, 5, 6, 7, 8, 9, 10] hP hD hS rfl rfl (by decide) rfl rfl rfl (fun H locs hP hD hS => ?_)
        refine W.eq (g2 := F0 m 42 ls [.int r_39]) rfl ?_
        refine lv_if_eq (tgt := 59) hx hb dd_RG_followPlans_42 (by decide) (fun h42 => ?_) (fun h42 => ?_)
        · rw [if_pos h42] at hM
          refine lv_iinc (k := 1) (v := (nI (j + 1))) (lv' := [(3, .int (nI (j + 1))), (4, .int r_11), (0, .ref ah), (1, .ref a0), (2, .int (nI i))]) hx hb dd_RG_followPlans_59 hl rfl (ly_incN _) (by decide) rfl (fun ls hl => ?_)
          refine lv_goto (tgt := 2) hx hb dd_RG_followPlans_62 (by decide) ?_
          exact ih2 (j + 1) sr_11 sv_11 ct_39 th_39 ls H locs (by omega) hM (lv_sub hl [0, 2, 3, 4] rfl) hP hD hS
        · rw [if_neg h42] at hM
          refine lv_aload_n hx hb dd_RG_followPlans_45 rfl (lv_at hl 2 rfl) ?_
          refine lv_aload_n hx hb dd_RG_followPlans_46 rfl (lv_at hl 2 rfl) ?_
          refine lv_aload_n hx hb dd_RG_followPlans_47 rfl (lv_at hl 3 rfl) ?_
          refine lv_iload hx hb dd_RG_followPlans_48 (lv_at hl 0 rfl) ?_
          refine lv_iload_n hx hb dd_RG_followPlans_50 rfl (lv_at hl 4 rfl) ?_
          obtain ⟨⟨r_51, sr_51, sv_51⟩, hq51⟩ : ∃ z, z = mm_RG_decode r_11 i n ro sr_11 sv_11 wr fl := ⟨_, rfl⟩
          try rw [← hq51] at hM
          try dsimp only at hM
          refine ly_cV_l (n := 3) (z := (r_51, sr_51, sv_51)) (rest := [.ref ah]) (wn := (ws_RG K ah ac ar ap aq ax au ak a0 aw af az n fn lf rb gr ro sr_51 sv_51 up ct_39 al th_39 wr fl)) C (cc_RG_decode D K ah ac ar ap aq ax au ak a0 aw af az r_11 i n fn lf rb gr ro sr_11 sv_11 up ct_39 al th_39 wr fl (by omega) (by omega) (by omega) (by omega)) hq51 wa_168 wa_162 wa_62 wa_163 wa_164 (by decide) (Nat.le_trans (by decide) hRf) (Nat.le_trans (by decide) hRl) rfl hl.1 rfl (Nat.le_of_ble_eq_true rfl) dd_RG_followPlans_51 hcs [0, 1, 2, 3, 4, 5, 6, 7, 8, 9, 10] [] [0, 1, 2, 3, 4, 5, 6, 7, 8, 9, 10] hP hD hS rfl rfl (by decide) rfl rfl rfl (fun H locs hP hD hS => ?_)
          refine W.eq (g2 := F0 m 54 ls [.long r_51, .ref ah]) rfl ?_
          refine ly_put (ws' := (ws_RG K ah ac ar ap aq ax au ak a0 aw af az n fn lf r_51 gr ro sr_51 sv_51 up ct_39 al th_39 wr fl)) C hP hD hS 0 rfl uw_RG tt_RG nn_RG rfl 6 (by decide) wa_87 rfl rfl rfl (Nat.le_of_ble_eq_true rfl) dd_RG_followPlans_54 rfl (fun H locs hP hD hS => ?_)
          refine lv_iload_n hx hb dd_RG_followPlans_57 rfl (lv_at hl 1 rfl) ?_
          exact ret ((nI j), r_51, sr_51, sv_51, ct_39, th_39) H locs 58 ls hM rfl hS hP hD dd_RG_followPlans_58
      · rw [if_pos h18] at hM
        refine lv_goto (tgt := 65) hx hb dd_RG_followPlans_21 (by decide) ?_
        refine lv_bipush (v := (-4 : Int32)) hx hb dd_RG_followPlans_65 (by decide) ?_
        exact ret ((-4 : Int32), rb, sr_11, sv_11, ct, th) H locs 67 ls hM rfl hS hP hD dd_RG_followPlans_67
  exact lp2 32 1 sr sv ct th ls H locs (by omega) hM (lv_sub hl [0, 1, 2, 3] rfl) hP hD hS

def mm_RG_rebuild (i : Nat) (n : Nat) (fn : Nat) (rb : Int64) (gr : Int32) (ro : Nat → Int64) (sr : Nat → Int64) (sv : Nat → Int64) (ct : Nat → Int32) (al : Int32) (th : Int32) (wr : Nat → Int64) (fl : Nat → Int64) : Int32 × (Int64) × (Nat → Int64) × (Nat → Int64) × (Nat → Int32) × (Int32) × (Nat → Int64) × (Nat → Int64) := (match mm_RG_followPlans i n fn rb gr ro sr sv ct al th wr fl with | (r_3, rb_3, sr_3, sv_3, ct_3, th_3) => (if r_3 < (0 : Int32) then (r_3, rb_3, sr_3, sv_3, ct_3, th_3, wr, fl) else (match mm_RG_writeShard i rb_3 ct_3 th_3 wr fl with | (ct_18, th_18, wr_18, fl_18) => (r_3, rb_3, sr_3, sv_3, ct_18, th_18, wr_18, fl_18))))
set_option maxHeartbeats 4000000 in
set_option maxRecDepth 100000 in
theorem cc_RG_rebuild {l : Launch} (D : va_G) (K : Nat → ClassId) (ah ac ar ap aq ax au ak a0 aw af az : Nat) (i : Nat) (n : Nat) (fn : Nat) (lf : Int64) (rb : Int64) (gr : Int32) (ro : Nat → Int64) (sr : Nat → Int64) (sv : Nat → Int64) (up : Nat → Int32) (ct : Nat → Int32) (al : Int32) (th : Int32) (wr : Nat → Int64) (fl : Nat → Int64) (hi : i < n) (hn : n ≤ 11) (hn6 : 6 ≤ n) (hfn : fn ≤ 10) : ly_i l yy_RG_rebuild bb_RG_rebuild 4 (some .int) 6 155 D K [.ref ah, .ref a0, .int (nI i)] (ws_RG K ah ac ar ap aq ax au ak a0 aw af az n fn lf rb gr ro sr sv up ct al th wr fl) (fun z => z.1) (fun z => (ws_RG K ah ac ar ap aq ax au ak a0 aw af az n fn lf (z.2.1) gr ro (z.2.2.1) (z.2.2.2.1) up (z.2.2.2.2.1) al (z.2.2.2.2.2.1) (z.2.2.2.2.2.2.1) (z.2.2.2.2.2.2.2))) (mm_RG_rebuild i n fn rb gr ro sr sv ct al th wr fl) := by
  refine ly_entI (by decide) (Nat.le_of_ble_eq_true rfl) ?_
  intro p e s m av below meth c A ls R Q H locs res hM C hRf hRl hS hP hD hl ret
  obtain ⟨hx, hb, -⟩ := id C
  have hcs : 0 ≤ R.cells ∧ 0 ≤ R.slots := ⟨Nat.zero_le _, Nat.zero_le _⟩
  have hl : lv_has ls 4 [(0, .ref ah), (1, .ref a0), (2, .int (nI i))] := hl
  rw [mm_RG_rebuild] at hM
  refine lv_aload_n hx hb dd_RG_rebuild_0 rfl (lv_at hl 0 rfl) ?_
  refine lv_aload_n hx hb dd_RG_rebuild_1 rfl (lv_at hl 1 rfl) ?_
  refine lv_iload_n hx hb dd_RG_rebuild_2 rfl (lv_at hl 2 rfl) ?_
  obtain ⟨⟨r_3, rb_3, sr_3, sv_3, ct_3, th_3⟩, hq3⟩ : ∃ z, z = mm_RG_followPlans i n fn rb gr ro sr sv ct al th wr fl := ⟨_, rfl⟩
  try rw [← hq3] at hM
  try dsimp only at hM
  refine ly_cV_i (n := 2) (z := (r_3, rb_3, sr_3, sv_3, ct_3, th_3)) (rest := []) (wn := (ws_RG K ah ac ar ap aq ax au ak a0 aw af az n fn lf rb_3 gr ro sr_3 sv_3 up ct_3 al th_3 wr fl)) C (cc_RG_followPlans D K ah ac ar ap aq ax au ak a0 aw af az i n fn lf rb gr ro sr sv up ct al th wr fl (by omega) (by omega) (by omega) (by omega)) hq3 wa_158 wa_84 wa_62 wa_85 wa_86 (by decide) (Nat.le_trans (by decide) hRf) (Nat.le_trans (by decide) hRl) rfl hl.1 rfl (Nat.le_of_ble_eq_true rfl) dd_RG_rebuild_3 hcs [0, 1, 2, 3, 4, 5, 6, 7, 8, 9, 10] [] [0, 1, 2, 3, 4, 5, 6, 7, 8, 9, 10] hP hD hS rfl rfl (by decide) rfl rfl rfl (fun H locs hP hD hS => ?_)
  refine W.eq (g2 := F0 m 6 ls [.int r_3]) rfl ?_
  refine lv_istore_n (lv' := [(3, .int r_3), (0, .ref ah), (1, .ref a0), (2, .int (nI i))]) hx hb dd_RG_rebuild_6 rfl hl (by decide) rfl (fun ls hl => ?_)
  refine lv_iload_n hx hb dd_RG_rebuild_7 rfl (lv_at hl 0 rfl) ?_
  refine lv_if_lt (tgt := 21) hx hb dd_RG_rebuild_8 (by decide) (fun h8 => ?_) (fun h8 => ?_)
  · rw [if_pos h8] at hM
    refine lv_iload_n hx hb dd_RG_rebuild_21 rfl (lv_at hl 0 rfl) ?_
    exact ret (r_3, rb_3, sr_3, sv_3, ct_3, th_3, wr, fl) H locs 22 ls hM rfl hS hP hD dd_RG_rebuild_22
  · rw [if_neg h8] at hM
    refine lv_aload_n hx hb dd_RG_rebuild_11 rfl (lv_at hl 1 rfl) ?_
    refine lv_aload_n hx hb dd_RG_rebuild_12 rfl (lv_at hl 2 rfl) ?_
    refine lv_iload_n hx hb dd_RG_rebuild_13 rfl (lv_at hl 3 rfl) ?_
    refine lv_aload_n hx hb dd_RG_rebuild_14 rfl (lv_at hl 1 rfl) ?_
    refine ly_get (v := .long rb_3) C hP 0 rfl uw_RG rfl 6 (by decide) wa_87 rfl dd_RG_rebuild_15 ?_
    obtain ⟨⟨ct_18, th_18, wr_18, fl_18⟩, hq18⟩ : ∃ z, z = mm_RG_writeShard i rb_3 ct_3 th_3 wr fl := ⟨_, rfl⟩
    try rw [← hq18] at hM
    try dsimp only at hM
    refine ly_cV_v (n := 3) (z := (ct_18, th_18, wr_18, fl_18)) (rest := []) (wn := (ws_RG K ah ac ar ap aq ax au ak a0 aw af az n fn lf rb_3 gr ro sr_3 sv_3 up ct_18 al th_18 wr_18 fl_18)) C (cc_RG_writeShard D K ah ac ar ap aq ax au ak a0 aw af az i rb_3 n fn lf rb_3 gr ro sr_3 sv_3 up ct_3 al th_3 wr fl (by omega) (by omega) (by omega) (by omega)) hq18 wa_143 wa_76 wa_62 wa_77 wa_78 (by decide) (Nat.le_trans (by decide) hRf) (Nat.le_trans (by decide) hRl) rfl hl.1 rfl (Nat.le_of_ble_eq_true rfl) dd_RG_rebuild_18 hcs [0, 1, 2, 3, 4, 5, 6, 7, 8, 9, 10] [] [0, 1, 2, 3, 4, 5, 6, 7, 8, 9, 10] hP hD hS rfl rfl (by decide) rfl rfl rfl (fun H locs hP hD hS => ?_)
    refine W.eq (g2 := F0 m 21 ls []) rfl ?_
    refine lv_iload_n hx hb dd_RG_rebuild_21 rfl (lv_at hl 0 rfl) ?_
    exact ret (r_3, rb_3, sr_3, sv_3, ct_18, th_18, wr_18, fl_18) H locs 22 ls hM rfl hS hP hD dd_RG_rebuild_22

def mm_RG_canBeWritten (i : Nat) (fn : Nat) (up : Nat → Int32) (th : Int32) : Int32 := (if (mm_Sq_isThere i th) = (0 : Int32) then (if (up ((fn + i) % 12)) = (0 : Int32) then (0 : Int32) else (1 : Int32)) else (0 : Int32))
set_option maxHeartbeats 4000000 in
set_option maxRecDepth 100000 in
theorem cc_RG_canBeWritten {l : Launch} (D : va_G) (K : Nat → ClassId) (ah ac ar ap aq ax au ak a0 aw af az : Nat) (i : Nat) (n : Nat) (fn : Nat) (lf : Int64) (rb : Int64) (gr : Int32) (ro : Nat → Int64) (sr : Nat → Int64) (sv : Nat → Int64) (up : Nat → Int32) (ct : Nat → Int32) (al : Int32) (th : Int32) (wr : Nat → Int64) (fl : Nat → Int64) (hi : i < n) (hn : n ≤ 11) (hn6 : 6 ≤ n) (hfn : fn ≤ 10) : ly_i l yy_RG_canBeWritten bb_RG_canBeWritten 3 (some .boolean) 2 42 D K [.ref ah, .ref a0, .int (nI i)] (ws_RG K ah ac ar ap aq ax au ak a0 aw af az n fn lf rb gr ro sr sv up ct al th wr fl) (fun z => z) (fun _ => (ws_RG K ah ac ar ap aq ax au ak a0 aw af az n fn lf rb gr ro sr sv up ct al th wr fl)) (mm_RG_canBeWritten i fn up th) := by
  refine ly_entI (by decide) (Nat.le_of_ble_eq_true rfl) ?_
  intro p e s m av below meth c A ls R Q H locs res hM C hRf hRl hS hP hD hl ret
  obtain ⟨hx, hb, -⟩ := id C
  have hcs : 0 ≤ R.cells ∧ 0 ≤ R.slots := ⟨Nat.zero_le _, Nat.zero_le _⟩
  have hl : lv_has ls 3 [(0, .ref ah), (1, .ref a0), (2, .int (nI i))] := hl
  rw [mm_RG_canBeWritten] at hM
  refine lv_aload_n hx hb dd_RG_canBeWritten_0 rfl (lv_at hl 1 rfl) ?_
  refine lv_iload_n hx hb dd_RG_canBeWritten_1 rfl (lv_at hl 2 rfl) ?_
  obtain ⟨r_2, hq2⟩ : ∃ z, z = mm_Sq_isThere i th := ⟨_, rfl⟩
  try rw [← hq2] at hM
  refine ly_cV_i (n := 1) (z := r_2) (rest := []) (wn := (ws_RG K ah ac ar ap aq ax au ak a0 aw af az n fn lf rb gr ro sr sv up ct al th wr fl)) C (cc_Sq_isThere D K a0 aw af i n fn al th wr fl (by omega) (by omega)) hq2 wa_244 wa_64 wa_53 wa_65 wa_66 (by decide) (Nat.le_trans (by decide) hRf) (Nat.le_trans (by decide) hRl) rfl hl.1 rfl (Nat.le_of_ble_eq_true rfl) dd_RG_canBeWritten_2 hcs [8, 9, 10] [0, 1, 2, 3, 4, 5, 6, 7] [0, 1, 2, 3, 4, 5, 6, 7, 8, 9, 10] hP hD hS rfl rfl (by decide) rfl rfl rfl (fun H locs hP hD hS => ?_)
  refine W.eq (g2 := F0 m 5 ls [.int r_2]) rfl ?_
  refine lv_if_ne (tgt := 25) hx hb dd_RG_canBeWritten_5 (by decide) (fun h5 => ?_) (fun h5 => ?_)
  · rw [if_neg h5] at hM
    refine lv_iconst (v := (0 : Int32)) hx hb dd_RG_canBeWritten_25 (by decide) ?_
    exact ret (0 : Int32) H locs 26 ls hM ly_z0 hS hP hD dd_RG_canBeWritten_26
  · rw [if_pos h5] at hM
    refine lv_aload_n hx hb dd_RG_canBeWritten_8 rfl (lv_at hl 0 rfl) ?_
    refine ly_get (v := .ref au) C hP 0 rfl uw_RG rfl 3 (by decide) wa_57 rfl dd_RG_canBeWritten_9 ?_
    refine lv_aload_n hx hb dd_RG_canBeWritten_12 rfl (lv_at hl 1 rfl) ?_
    refine lv_iload_n hx hb dd_RG_canBeWritten_13 rfl (lv_at hl 2 rfl) ?_
    refine ly_cV_i (n := 1) (z := (nI ((fn + i) % 12))) (rest := [.ref au]) (wn := (ws_RG K ah ac ar ap aq ax au ak a0 aw af az n fn lf rb gr ro sr sv up ct al th wr fl)) C (cc_Sq_nodeOf D K a0 aw af i n fn al th wr fl (by omega) (by omega) (by omega)) rfl wa_243 wa_101 wa_53 wa_102 wa_103 (by decide) (Nat.le_trans (by decide) hRf) (Nat.le_trans (by decide) hRl) rfl hl.1 rfl (Nat.le_of_ble_eq_true rfl) dd_RG_canBeWritten_14 hcs [8, 9, 10] [0, 1, 2, 3, 4, 5, 6, 7] [0, 1, 2, 3, 4, 5, 6, 7, 8, 9, 10] hP hD hS rfl rfl (by decide) rfl rfl rfl (fun H locs hP hD hS => ?_)
    refine W.eq (g2 := F0 m 17 ls [.int (nI ((fn + i) % 12)), .ref au]) rfl ?_
    refine ly_zald C hP 6 rfl ((fn + i) % 12) rfl (by omega) (by omega) dd_RG_canBeWritten_17 ?_
    refine lv_if_eq (tgt := 25) hx hb dd_RG_canBeWritten_18 (by decide) (fun h18 => ?_) (fun h18 => ?_)
    · rw [if_pos h18] at hM
      refine lv_iconst (v := (0 : Int32)) hx hb dd_RG_canBeWritten_25 (by decide) ?_
      exact ret (0 : Int32) H locs 26 ls hM ly_z0 hS hP hD dd_RG_canBeWritten_26
    · rw [if_neg h18] at hM
      refine lv_iconst (v := (1 : Int32)) hx hb dd_RG_canBeWritten_21 (by decide) ?_
      refine lv_goto (tgt := 26) hx hb dd_RG_canBeWritten_22 (by decide) ?_
      exact ret (1 : Int32) H locs 26 ls hM ly_z1 hS hP hD dd_RG_canBeWritten_26

def mm_RG_nextToMend_L35 (n : Nat) (fn : Nat) (gr : Int32) (ro : Nat → Int64) (sr : Nat → Int64) (sv : Nat → Int64) (up : Nat → Int32) (al : Int32) (th : Int32) (v2 : Int32) : Nat → Nat → Int32 × (Nat → Int64) × (Nat → Int64)
  | 0, j => (match mm_RG_independentShards n ro sr sv th with | (r_74, sr_74, sv_74) => (if (mm_RG_globalPlan r_74) = (0 : Int32) then ((-1 : Int32), sr_74, sv_74) else (v2, sr_74, sv_74)))
  | k + 1, j => (if (mm_RG_canBeWritten j fn up th) = (0 : Int32) then (mm_RG_nextToMend_L35 n fn gr ro sr sv up al th v2 k (j + 1)) else (if (mm_RG_localPlan j n gr al th) = (0 : Int32) then (mm_RG_nextToMend_L35 n fn gr ro sr sv up al th v2 k (j + 1)) else ((nI j), sr, sv)))
def mm_RG_nextToMend_L12 (n : Nat) (fn : Nat) (gr : Int32) (ro : Nat → Int64) (sr : Nat → Int64) (sv : Nat → Int64) (up : Nat → Int32) (al : Int32) (th : Int32) : Nat → (Int32) → Int32 × (Nat → Int64) × (Nat → Int64)
  | 0, v2 => (mm_RG_nextToMend_L35 n fn gr ro sr sv up al th v2 n 0)
  | k + 1, v2 => (if (mm_RG_canBeWritten k fn up th) = (0 : Int32) then (mm_RG_nextToMend_L12 n fn gr ro sr sv up al th k v2) else (mm_RG_nextToMend_L12 n fn gr ro sr sv up al th k (nI k)))
def mm_RG_nextToMend (n : Nat) (fn : Nat) (gr : Int32) (ro : Nat → Int64) (sr : Nat → Int64) (sv : Nat → Int64) (up : Nat → Int32) (al : Int32) (th : Int32) : Int32 × (Nat → Int64) × (Nat → Int64) := (mm_RG_nextToMend_L12 n fn gr ro sr sv up al th n (-1 : Int32))
set_option maxHeartbeats 4000000 in
set_option maxRecDepth 100000 in
theorem cc_RG_nextToMend {l : Launch} (D : va_G) (K : Nat → ClassId) (ah ac ar ap aq ax au ak a0 aw af az : Nat) (n : Nat) (fn : Nat) (lf : Int64) (rb : Int64) (gr : Int32) (ro : Nat → Int64) (sr : Nat → Int64) (sv : Nat → Int64) (up : Nat → Int32) (ct : Nat → Int32) (al : Int32) (th : Int32) (wr : Nat → Int64) (fl : Nat → Int64) (hn : n ≤ 11) (hn6 : 6 ≤ n) (hfn : fn ≤ 10) : ly_i l yy_RG_nextToMend bb_RG_nextToMend 4 (some .int) 4 108 D K [.ref ah, .ref a0] (ws_RG K ah ac ar ap aq ax au ak a0 aw af az n fn lf rb gr ro sr sv up ct al th wr fl) (fun z => z.1) (fun z => (ws_RG K ah ac ar ap aq ax au ak a0 aw af az n fn lf rb gr ro (z.2.1) (z.2.2) up ct al th wr fl)) (mm_RG_nextToMend n fn gr ro sr sv up al th) := by
  refine ly_entI (by decide) (Nat.le_of_ble_eq_true rfl) ?_
  intro p e s m av below meth c A ls R Q H locs res hM C hRf hRl hS hP hD hl ret
  obtain ⟨hx, hb, -⟩ := id C
  have hcs : 0 ≤ R.cells ∧ 0 ≤ R.slots := ⟨Nat.zero_le _, Nat.zero_le _⟩
  have hl : lv_has ls 4 [(0, .ref ah), (1, .ref a0)] := hl
  rw [mm_RG_nextToMend] at hM
  refine lv_iconst (v := (-1 : Int32)) hx hb dd_RG_nextToMend_0 (by decide) ?_
  refine lv_istore_n (lv' := [(2, .int (-1 : Int32)), (0, .ref ah), (1, .ref a0)]) hx hb dd_RG_nextToMend_1 rfl hl (by decide) rfl (fun ls hl => ?_)
  refine lv_aload_n hx hb dd_RG_nextToMend_2 rfl (lv_at hl 1 rfl) ?_
  refine ly_get (v := .ref ac) C hP 0 rfl uw_RG rfl 0 (by decide) wa_44 rfl dd_RG_nextToMend_3 ?_
  refine ly_getN (v := .int (nI n)) C hP 1 rfl uw_Co rfl 0 (by decide) nw_1 rfl dd_RG_nextToMend_6 ?_
  refine lv_iconst (v := (1 : Int32)) hx hb dd_RG_nextToMend_9 (by decide) ?_
  refine lv_isub hx hb dd_RG_nextToMend_10 ?_
  refine lv_istore_n (lv' := [(3, .int ((nI n) - (1 : Int32))), (2, .int (-1 : Int32)), (0, .ref ah), (1, .ref a0)]) hx hb dd_RG_nextToMend_11 rfl hl (by decide) rfl (fun ls hl => ?_)
  have lp12 : ∀ (k : Nat) (v2 : Int32) (ls : Array Slot) (H : Heap) (locs : List Loc), k ≤ n → mm_RG_nextToMend_L12 n fn gr ro sr sv up al th k v2 = res → lv_has ls 4 [(3, .int (nI k - 1)), (2, .int v2), (0, .ref ah), (1, .ref a0)] → va_P D cl_all (ws_RG K ah ac ar ap aq ax au ak a0 aw af az n fn lf rb gr ro sr sv up ct al th wr fl) H → va_D A (ws_RG K ah ac ar ap aq ax au ak a0 aw af az n fn lf rb gr ro sr sv up ct al th wr fl) → va_S A s.heap H locs → W p l e R s m av below meth c H locs 0 0 Q (F0 m 12 ls []) := by
    intro k
    induction k with
    | zero =>
      intro v2 ls H locs hkn12 hM hl hP hD hS
      rw [mm_RG_nextToMend_L12] at hM
      refine lv_iload_n hx hb dd_RG_nextToMend_12 rfl (lv_at hl 0 rfl) ?_
      refine lv_if_lt (tgt := 33) hx hb dd_RG_nextToMend_13 (by decide) (fun _ => ?_) (fun h => absurd (by decide) h)
      refine lv_iconst (v := (0 : Int32)) hx hb dd_RG_nextToMend_33 (by decide) ?_
      refine lv_istore_n (lv' := [(3, .int (0 : Int32)), (2, .int v2), (0, .ref ah), (1, .ref a0)]) hx hb dd_RG_nextToMend_34 rfl hl (by decide) rfl (fun ls hl => ?_)
      have lp35 : ∀ (k : Nat) (j : Nat) (ls : Array Slot) (H : Heap) (locs : List Loc), j + k = n → mm_RG_nextToMend_L35 n fn gr ro sr sv up al th v2 k j = res → lv_has ls 4 [(3, .int (nI j)), (2, .int v2), (0, .ref ah), (1, .ref a0)] → va_P D cl_all (ws_RG K ah ac ar ap aq ax au ak a0 aw af az n fn lf rb gr ro sr sv up ct al th wr fl) H → va_D A (ws_RG K ah ac ar ap aq ax au ak a0 aw af az n fn lf rb gr ro sr sv up ct al th wr fl) → va_S A s.heap H locs → W p l e R s m av below meth c H locs 0 0 Q (F0 m 35 ls []) := by
        intro k
        induction k with
        | zero =>
          intro j ls H locs hjk35 hM hl hP hD hS
          have hj0 : j = n := by omega
          subst j
          rw [mm_RG_nextToMend_L35] at hM
          refine lv_iload_n hx hb dd_RG_nextToMend_35 rfl (lv_at hl 0 rfl) ?_
          refine lv_aload_n hx hb dd_RG_nextToMend_36 rfl (lv_at hl 2 rfl) ?_
          refine ly_get (v := .ref ac) C hP 0 rfl uw_RG rfl 0 (by decide) wa_44 rfl dd_RG_nextToMend_37 ?_
          refine ly_getN (v := .int (nI n)) C hP 1 rfl uw_Co rfl 0 (by decide) nw_1 rfl dd_RG_nextToMend_40 ?_
          refine lv_icmp_ge (tgt := 72) hx hb dd_RG_nextToMend_43 (by decide) (fun _ => ?_) (fun h => absurd (nI_le (a := n) (b := n) (by omega) (by omega)) h)
          refine lv_aload_n hx hb dd_RG_nextToMend_72 rfl (lv_at hl 2 rfl) ?_
          refine lv_aload_n hx hb dd_RG_nextToMend_73 rfl (lv_at hl 3 rfl) ?_
          obtain ⟨⟨r_74, sr_74, sv_74⟩, hq74⟩ : ∃ z, z = mm_RG_independentShards n ro sr sv th := ⟨_, rfl⟩
          try rw [← hq74] at hM
          try dsimp only at hM
          refine ly_cV_i (n := 1) (z := (r_74, sr_74, sv_74)) (rest := []) (wn := (ws_RG K ah ac ar ap aq ax au ak a0 aw af az n fn lf rb gr ro sr_74 sv_74 up ct al th wr fl)) C (cc_RG_independentShards D K ah ac ar ap aq ax au ak a0 aw af az n fn lf rb gr ro sr sv up ct al th wr fl (by omega) (by omega) (by omega)) hq74 wa_189 wa_120 wa_62 wa_121 wa_122 (by decide) (Nat.le_trans (by decide) hRf) (Nat.le_trans (by decide) hRl) rfl hl.1 rfl (Nat.le_of_ble_eq_true rfl) dd_RG_nextToMend_74 hcs [0, 1, 2, 3, 4, 5, 6, 7, 8, 9, 10] [] [0, 1, 2, 3, 4, 5, 6, 7, 8, 9, 10] hP hD hS rfl rfl (by decide) rfl rfl rfl (fun H locs hP hD hS => ?_)
          refine W.eq (g2 := F0 m 77 ls [.int r_74]) rfl ?_
          obtain ⟨r_77, hq77⟩ : ∃ z, z = mm_RG_globalPlan r_74 := ⟨_, rfl⟩
          try rw [← hq77] at hM
          refine ly_cS_i (n := 1) (z := r_77) (rest := []) (wn := (ws_RG K ah ac ar ap aq ax au ak a0 aw af az n fn lf rb gr ro sr_74 sv_74 up ct al th wr fl)) C (cc_RG_globalPlan D K r_74) hq77 wa_188 wa_182 wa_62 wa_183 (by decide) (Nat.le_trans (by decide) hRf) (Nat.le_trans (by decide) hRl) rfl hl.1 rfl (Nat.le_of_ble_eq_true rfl) dd_RG_nextToMend_77 hcs [] [0, 1, 2, 3, 4, 5, 6, 7, 8, 9, 10] [0, 1, 2, 3, 4, 5, 6, 7, 8, 9, 10] hP hD hS rfl rfl (by decide) rfl (fun H locs hP hD hS => ?_)
          refine W.eq (g2 := F0 m 80 ls [.int r_77]) rfl ?_
          refine lv_if_ne (tgt := 87) hx hb dd_RG_nextToMend_80 (by decide) (fun h80 => ?_) (fun h80 => ?_)
          · rw [if_neg h80] at hM
            refine lv_iload_n hx hb dd_RG_nextToMend_87 rfl (lv_at hl 1 rfl) ?_
            exact ret (v2, sr_74, sv_74) H locs 88 ls hM rfl hS hP hD dd_RG_nextToMend_88
          · rw [if_pos h80] at hM
            refine lv_iconst (v := (-1 : Int32)) hx hb dd_RG_nextToMend_83 (by decide) ?_
            refine lv_goto (tgt := 88) hx hb dd_RG_nextToMend_84 (by decide) ?_
            exact ret ((-1 : Int32), sr_74, sv_74) H locs 88 ls hM rfl hS hP hD dd_RG_nextToMend_88
        | succ k ih35 =>
          intro j ls H locs hjk35 hM hl hP hD hS
          rw [mm_RG_nextToMend_L35] at hM
          refine lv_iload_n hx hb dd_RG_nextToMend_35 rfl (lv_at hl 0 rfl) ?_
          refine lv_aload_n hx hb dd_RG_nextToMend_36 rfl (lv_at hl 2 rfl) ?_
          refine ly_get (v := .ref ac) C hP 0 rfl uw_RG rfl 0 (by decide) wa_44 rfl dd_RG_nextToMend_37 ?_
          refine ly_getN (v := .int (nI n)) C hP 1 rfl uw_Co rfl 0 (by decide) nw_1 rfl dd_RG_nextToMend_40 ?_
          refine lv_icmp_ge (tgt := 72) hx hb dd_RG_nextToMend_43 (by decide) (fun h => absurd h (nI_ge (a := j) (b := n) (by omega) (by omega))) (fun _ => ?_)
          refine lv_aload_n hx hb dd_RG_nextToMend_46 rfl (lv_at hl 2 rfl) ?_
          refine lv_aload_n hx hb dd_RG_nextToMend_47 rfl (lv_at hl 3 rfl) ?_
          refine lv_iload_n hx hb dd_RG_nextToMend_48 rfl (lv_at hl 0 rfl) ?_
          obtain ⟨r_49, hq49⟩ : ∃ z, z = mm_RG_canBeWritten j fn up th := ⟨_, rfl⟩
          try rw [← hq49] at hM
          refine ly_cV_i (n := 2) (z := r_49) (rest := []) (wn := (ws_RG K ah ac ar ap aq ax au ak a0 aw af az n fn lf rb gr ro sr sv up ct al th wr fl)) C (cc_RG_canBeWritten D K ah ac ar ap aq ax au ak a0 aw af az j n fn lf rb gr ro sr sv up ct al th wr fl (by omega) (by omega) (by omega) (by omega)) hq49 wa_194 wa_191 wa_62 wa_192 wa_193 (by decide) (Nat.le_trans (by decide) hRf) (Nat.le_trans (by decide) hRl) rfl hl.1 rfl (Nat.le_of_ble_eq_true rfl) dd_RG_nextToMend_49 hcs [0, 1, 2, 3, 4, 5, 6, 7, 8, 9, 10] [] [0, 1, 2, 3, 4, 5, 6, 7, 8, 9, 10] hP hD hS rfl rfl (by decide) rfl rfl rfl (fun H locs hP hD hS => ?_)
          refine W.eq (g2 := F0 m 52 ls [.int r_49]) rfl ?_
          refine lv_if_eq (tgt := 66) hx hb dd_RG_nextToMend_52 (by decide) (fun h52 => ?_) (fun h52 => ?_)
          · rw [if_pos h52] at hM
            refine lv_iinc (k := 0) (v := (nI (j + 1))) (lv' := [(3, .int (nI (j + 1))), (2, .int v2), (0, .ref ah), (1, .ref a0)]) hx hb dd_RG_nextToMend_66 hl rfl (ly_incN _) (by decide) rfl (fun ls hl => ?_)
            refine lv_goto (tgt := 35) hx hb dd_RG_nextToMend_69 (by decide) ?_
            exact ih35 (j + 1) ls H locs (by omega) hM (lv_sub hl [0, 1, 2, 3] rfl) hP hD hS
          · rw [if_neg h52] at hM
            refine lv_aload_n hx hb dd_RG_nextToMend_55 rfl (lv_at hl 2 rfl) ?_
            refine lv_aload_n hx hb dd_RG_nextToMend_56 rfl (lv_at hl 3 rfl) ?_
            refine lv_iload_n hx hb dd_RG_nextToMend_57 rfl (lv_at hl 0 rfl) ?_
            obtain ⟨r_58, hq58⟩ : ∃ z, z = mm_RG_localPlan j n gr al th := ⟨_, rfl⟩
            try rw [← hq58] at hM
            refine ly_cV_i (n := 2) (z := r_58) (rest := []) (wn := (ws_RG K ah ac ar ap aq ax au ak a0 aw af az n fn lf rb gr ro sr sv up ct al th wr fl)) C (cc_RG_localPlan D K ah ac ar ap aq ax au ak a0 aw af az j n fn lf rb gr ro sr sv up ct al th wr fl (by omega) (by omega) (by omega) (by omega)) hq58 wa_184 wa_179 wa_62 wa_180 wa_181 (by decide) (Nat.le_trans (by decide) hRf) (Nat.le_trans (by decide) hRl) rfl hl.1 rfl (Nat.le_of_ble_eq_true rfl) dd_RG_nextToMend_58 hcs [0, 1, 2, 3, 4, 5, 6, 7, 8, 9, 10] [] [0, 1, 2, 3, 4, 5, 6, 7, 8, 9, 10] hP hD hS rfl rfl (by decide) rfl rfl rfl (fun H locs hP hD hS => ?_)
            refine W.eq (g2 := F0 m 61 ls [.int r_58]) rfl ?_
            refine lv_if_eq (tgt := 66) hx hb dd_RG_nextToMend_61 (by decide) (fun h61 => ?_) (fun h61 => ?_)
            · rw [if_pos h61] at hM
              refine lv_iinc (k := 0) (v := (nI (j + 1))) (lv' := [(3, .int (nI (j + 1))), (2, .int v2), (0, .ref ah), (1, .ref a0)]) hx hb dd_RG_nextToMend_66 hl rfl (ly_incN _) (by decide) rfl (fun ls hl => ?_)
              refine lv_goto (tgt := 35) hx hb dd_RG_nextToMend_69 (by decide) ?_
              exact ih35 (j + 1) ls H locs (by omega) hM (lv_sub hl [0, 1, 2, 3] rfl) hP hD hS
            · rw [if_neg h61] at hM
              refine lv_iload_n hx hb dd_RG_nextToMend_64 rfl (lv_at hl 0 rfl) ?_
              exact ret ((nI j), sr, sv) H locs 65 ls hM rfl hS hP hD dd_RG_nextToMend_65
      exact lp35 n 0 ls H locs (by omega) hM (lv_sub hl [0, 1, 2, 3] rfl) hP hD hS
    | succ k ih12 =>
      intro v2 ls H locs hkn12 hM hl hP hD hS
      rw [nI_pred] at hl
      rw [mm_RG_nextToMend_L12] at hM
      refine lv_iload_n hx hb dd_RG_nextToMend_12 rfl (lv_at hl 0 rfl) ?_
      refine lv_if_lt (tgt := 33) hx hb dd_RG_nextToMend_13 (by decide) (fun h => absurd h (nI_pos (by omega))) (fun _ => ?_)
      refine lv_aload_n hx hb dd_RG_nextToMend_16 rfl (lv_at hl 2 rfl) ?_
      refine lv_aload_n hx hb dd_RG_nextToMend_17 rfl (lv_at hl 3 rfl) ?_
      refine lv_iload_n hx hb dd_RG_nextToMend_18 rfl (lv_at hl 0 rfl) ?_
      obtain ⟨r_19, hq19⟩ : ∃ z, z = mm_RG_canBeWritten k fn up th := ⟨_, rfl⟩
      try rw [← hq19] at hM
      refine ly_cV_i (n := 2) (z := r_19) (rest := []) (wn := (ws_RG K ah ac ar ap aq ax au ak a0 aw af az n fn lf rb gr ro sr sv up ct al th wr fl)) C (cc_RG_canBeWritten D K ah ac ar ap aq ax au ak a0 aw af az k n fn lf rb gr ro sr sv up ct al th wr fl (by omega) (by omega) (by omega) (by omega)) hq19 wa_194 wa_191 wa_62 wa_192 wa_193 (by decide) (Nat.le_trans (by decide) hRf) (Nat.le_trans (by decide) hRl) rfl hl.1 rfl (Nat.le_of_ble_eq_true rfl) dd_RG_nextToMend_19 hcs [0, 1, 2, 3, 4, 5, 6, 7, 8, 9, 10] [] [0, 1, 2, 3, 4, 5, 6, 7, 8, 9, 10] hP hD hS rfl rfl (by decide) rfl rfl rfl (fun H locs hP hD hS => ?_)
      refine W.eq (g2 := F0 m 22 ls [.int r_19]) rfl ?_
      refine lv_if_eq (tgt := 27) hx hb dd_RG_nextToMend_22 (by decide) (fun h22 => ?_) (fun h22 => ?_)
      · rw [if_pos h22] at hM
        refine lv_iinc (k := 0) (v := (nI k - 1)) (lv' := [(3, .int (nI k - 1)), (2, .int v2), (0, .ref ah), (1, .ref a0)]) hx hb dd_RG_nextToMend_27 hl rfl (ly_decN _) (by decide) rfl (fun ls hl => ?_)
        refine lv_goto (tgt := 12) hx hb dd_RG_nextToMend_30 (by decide) ?_
        exact ih12 v2 ls H locs (by omega) hM (lv_sub hl [0, 1, 2, 3] rfl) hP hD hS
      · rw [if_neg h22] at hM
        refine lv_iload_n hx hb dd_RG_nextToMend_25 rfl (lv_at hl 0 rfl) ?_
        refine lv_istore_n (lv' := [(2, .int (nI k)), (3, .int (nI k)), (0, .ref ah), (1, .ref a0)]) hx hb dd_RG_nextToMend_26 rfl hl (by decide) rfl (fun ls hl => ?_)
        refine lv_iinc (k := 1) (v := (nI k - 1)) (lv' := [(3, .int (nI k - 1)), (2, .int (nI k)), (0, .ref ah), (1, .ref a0)]) hx hb dd_RG_nextToMend_27 hl rfl (ly_decN _) (by decide) rfl (fun ls hl => ?_)
        refine lv_goto (tgt := 12) hx hb dd_RG_nextToMend_30 (by decide) ?_
        exact ih12 (nI k) ls H locs (by omega) hM (lv_sub hl [0, 1, 2, 3] rfl) hP hD hS
  exact lp12 n (-1 : Int32) ls H locs (Nat.le_refl _) hM (lv_sub hl [0, 1, 2, 3] rfl) hP hD hS
theorem in_nextToMend35 {n fn : Nat} {gr al th v2 : Int32} {ro sr sv : Nat → Int64} {up : Nat → Int32} : ∀ (k j : Nat), j + k ≤ n → v2 = -1 ∨ (∃ i, i < n ∧ v2 = nI i) → ∀ (r : Int32) (sr' sv' : Nat → Int64), (r, sr', sv') = mm_RG_nextToMend_L35 n fn gr ro sr sv up al th v2 k j → r = -1 ∨ ∃ i, i < n ∧ r = nI i
  | 0, j, _, hv, r, sr', sv', h => by
    rw [mm_RG_nextToMend_L35] at h
    obtain ⟨⟨a, b, c⟩, hz⟩ : ∃ z, z = mm_RG_independentShards n ro sr sv th := ⟨_, rfl⟩
    rw [← hz] at h
    dsimp only at h
    split at h
    · cases h; exact Or.inl rfl
    · cases h; exact hv
  | k + 1, j, hj, hv, r, sr', sv', h => by
    rw [mm_RG_nextToMend_L35] at h
    split at h
    · exact in_nextToMend35 k (j + 1) (by omega) hv r sr' sv' h
    · split at h
      · exact in_nextToMend35 k (j + 1) (by omega) hv r sr' sv' h
      · cases h; exact Or.inr ⟨j, by omega, rfl⟩
theorem in_nextToMend12 {n fn : Nat} {gr al th : Int32} {ro sr sv : Nat → Int64} {up : Nat → Int32} : ∀ (k : Nat) (v2 : Int32), k ≤ n → v2 = -1 ∨ (∃ i, i < n ∧ v2 = nI i) → ∀ (r : Int32) (sr' sv' : Nat → Int64), (r, sr', sv') = mm_RG_nextToMend_L12 n fn gr ro sr sv up al th k v2 → r = -1 ∨ ∃ i, i < n ∧ r = nI i
  | 0, v2, _, hv, r, sr', sv', h => by
    rw [mm_RG_nextToMend_L12] at h
    exact in_nextToMend35 n 0 (by omega) hv r sr' sv' h
  | k + 1, v2, hk, hv, r, sr', sv', h => by
    rw [mm_RG_nextToMend_L12] at h
    split at h
    · exact in_nextToMend12 k v2 (by omega) hv r sr' sv' h
    · exact in_nextToMend12 k (nI k) (by omega) (Or.inr ⟨k, by omega, rfl⟩) r sr' sv' h
theorem in_nextToMend {n fn : Nat} {gr al th r : Int32} {ro sr sv sr' sv' : Nat → Int64} {up : Nat → Int32} (h : (r, sr', sv') = mm_RG_nextToMend n fn gr ro sr sv up al th) (hr : ¬ r = -1) : ∃ i, i < n ∧ r = nI i := by
  rw [mm_RG_nextToMend] at h
  exact (in_nextToMend12 n (-1) (Nat.le_refl _) (Or.inl rfl) r sr' sv' h).resolve_left hr
