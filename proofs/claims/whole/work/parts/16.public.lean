def mm_RG_put (x : Int32) (y : Int32) (w : Int64) (n : Nat) (fn : Nat) (ro : Nat → Int64) (ct : Nat → Int32) (th : Int32) (wr : Nat → Int64) (fl : Nat → Int64) : Int32 × (Nat → Int32) × (Int32) × (Nat → Int64) × (Nat → Int64) := (if (mm_RG_isStripe x) = (0 : Int32) then ((-1 : Int32), ct, th, wr, fl) else (if y < (0 : Int32) then ((-1 : Int32), ct, th, wr, fl) else (if y < (6 : Int32) then (if (mm_Sq_isThere (y.toNatClampNeg) th) = (0 : Int32) then ((-2 : Int32), ct, th, wr, fl) else (match mm_RG_readShard (y.toNatClampNeg) ct th fl with | (r_43, ct_43, th_43) => (if r_43 = (0 : Int32) then ((-3 : Int32), ct_43, th_43, wr, fl) else (match mm_RG_updateCoded (y.toNatClampNeg) ((mm_Sq_held (y.toNatClampNeg) wr fl) ^^^ w) n fn ro ct_43 th_43 wr fl with | (r_64, ct_64, th_64, wr_64, fl_64) => (match mm_RG_writeShard (y.toNatClampNeg) w ct_64 th_64 wr_64 fl_64 with | (ct_74, th_74, wr_74, fl_74) => (r_64, ct_74, th_74, wr_74, fl_74)))))) else ((-1 : Int32), ct, th, wr, fl))))
set_option maxHeartbeats 4000000 in
set_option maxRecDepth 100000 in
theorem cc_RG_put {l : Launch} (D : va_G) (K : Nat → ClassId) (ah ac ar ap aq ax au ak a0 aw af az : Nat) (x : Int32) (y : Int32) (w : Int64) (n : Nat) (fn : Nat) (lf : Int64) (rb : Int64) (gr : Int32) (ro : Nat → Int64) (sr : Nat → Int64) (sv : Nat → Int64) (up : Nat → Int32) (ct : Nat → Int32) (al : Int32) (th : Int32) (wr : Nat → Int64) (fl : Nat → Int64) (sf : Nat → Option Nat) (t1 : Nat × va_E) (t2 : Nat × va_E) (t3 : Nat × va_E) (t4 : Nat × va_E) (t5 : Nat × va_E) (t6 : Nat × va_E) (hn : n ≤ 11) (hn6 : 6 ≤ n) (hfn : fn ≤ 10) (hsf : ∀ j, j < 3 → x = nI j → sf j = some a0) : ly_i l yy_RG_put bb_RG_put 7 (some .int) 4 94 D K [.ref ah, .int x, .int y, .long w] (ws_LJ K ah ac ar ap aq ax au ak a0 aw af az n fn lf rb gr ro sr sv up ct al th wr fl sf t1 t2 t3 t4 t5 t6) (fun z => z.1) (fun z => (ws_LJ K ah ac ar ap aq ax au ak a0 aw af az n fn lf rb gr ro sr sv up (z.2.1) al (z.2.2.1) (z.2.2.2.1) (z.2.2.2.2) sf t1 t2 t3 t4 t5 t6)) (mm_RG_put x y w n fn ro ct th wr fl) := by
  refine ly_entI (by decide) (Nat.le_of_ble_eq_true rfl) ?_
  intro p e s m av below meth c A ls R Q H locs res hM C hRf hRl hS hP hD hl ret
  obtain ⟨hx, hb, -⟩ := id C
  have hcs : 0 ≤ R.cells ∧ 0 ≤ R.slots := ⟨Nat.zero_le _, Nat.zero_le _⟩
  have hl : lv_has ls 7 [(0, .ref ah), (1, .int x), (2, .int y), (3, .long w)] := hl
  rw [mm_RG_put] at hM
  refine lv_iload_n hx hb dd_RG_put_0 rfl (lv_at hl 1 rfl) ?_
  obtain ⟨r_1, hq1⟩ : ∃ z, z = mm_RG_isStripe x := ⟨_, rfl⟩
  try rw [← hq1] at hM
  refine ly_cS_i (n := 1) (z := r_1) (rest := []) (wn := (ws_LJ K ah ac ar ap aq ax au ak a0 aw af az n fn lf rb gr ro sr sv up ct al th wr fl sf t1 t2 t3 t4 t5 t6)) C (cc_RG_isStripe D K x) hq1 wa_132 wa_61 wa_62 wa_63 (by decide) (Nat.le_trans (by decide) hRf) (Nat.le_trans (by decide) hRl) rfl hl.1 rfl (Nat.le_of_ble_eq_true rfl) dd_RG_put_1 hcs [] [0, 1, 2, 3, 4, 5, 6, 7, 8, 9, 10, 11, 12, 13, 14, 15, 16, 17] [0, 1, 2, 3, 4, 5, 6, 7, 8, 9, 10, 11, 12, 13, 14, 15, 16, 17] hP hD hS rfl rfl (by decide) rfl (fun H locs hP hD hS => ?_)
  refine W.eq (g2 := F0 m 4 ls [.int r_1]) rfl ?_
  refine lv_if_eq (tgt := 17) hx hb dd_RG_put_4 (by decide) (fun h4 => ?_) (fun h4 => ?_)
  · rw [if_pos h4] at hM
    refine lv_iconst (v := (-1 : Int32)) hx hb dd_RG_put_17 (by decide) ?_
    exact ret ((-1 : Int32), ct, th, wr, fl) H locs 18 ls hM rfl hS hP hD dd_RG_put_18
  · rw [if_neg h4] at hM
    refine lv_iload_n hx hb dd_RG_put_7 rfl (lv_at hl 2 rfl) ?_
    refine lv_if_lt (tgt := 17) hx hb dd_RG_put_8 (by decide) (fun h8 => ?_) (fun h8 => ?_)
    · rw [if_pos h8] at hM
      refine lv_iconst (v := (-1 : Int32)) hx hb dd_RG_put_17 (by decide) ?_
      exact ret ((-1 : Int32), ct, th, wr, fl) H locs 18 ls hM rfl hS hP hD dd_RG_put_18
    · rw [if_neg h8] at hM
      refine lv_iload_n hx hb dd_RG_put_11 rfl (lv_at hl 2 rfl) ?_
      refine lv_bipush (v := (6 : Int32)) hx hb dd_RG_put_12 (by decide) ?_
      refine lv_icmp_lt (tgt := 19) hx hb dd_RG_put_14 (by decide) (fun h14 => ?_) (fun h14 => ?_)
      · rw [if_pos h14] at hM
        obtain ⟨sj, hsj, hse⟩ := in_isStripe hq1 h4
        obtain ⟨i, hi, rfl⟩ := ly_rng (N := 6) h8 h14 (by decide)
        try rw [nI_clamp (n := i) (by omega)] at hM
        refine lv_aload_n hx hb dd_RG_put_19 rfl (lv_at hl 0 rfl) ?_
        refine ly_get (v := .ref az) C hP 0 rfl uw_RG rfl 2 (by decide) wa_51 rfl dd_RG_put_20 ?_
        refine lv_iload_n hx hb dd_RG_put_23 rfl (lv_at hl 1 rfl) ?_
        refine ly_aldq (b := a0) C hP 11 rfl rfl sj hse hsj (by omega) (hsf sj hsj hse) dd_RG_put_24 ?_
        refine lv_astore (lv' := [(5, .ref a0), (0, .ref ah), (1, .int x), (2, .int (nI i)), (3, .long w)]) hx hb dd_RG_put_25 hl (by decide) rfl (fun ls hl => ?_)
        refine lv_aload hx hb dd_RG_put_27 (lv_at hl 0 rfl) ?_
        refine lv_iload_n hx hb dd_RG_put_29 rfl (lv_at hl 3 rfl) ?_
        obtain ⟨r_30, hq30⟩ : ∃ z, z = mm_Sq_isThere i th := ⟨_, rfl⟩
        try rw [← hq30] at hM
        refine ly_cV_i (n := 1) (z := r_30) (rest := []) (wn := (ws_LJ K ah ac ar ap aq ax au ak a0 aw af az n fn lf rb gr ro sr sv up ct al th wr fl sf t1 t2 t3 t4 t5 t6)) C (cc_Sq_isThere D K a0 aw af i n fn al th wr fl (by omega) (by omega)) hq30 wa_244 wa_64 wa_53 wa_65 wa_66 (by decide) (Nat.le_trans (by decide) hRf) (Nat.le_trans (by decide) hRl) rfl hl.1 rfl (Nat.le_of_ble_eq_true rfl) dd_RG_put_30 hcs [8, 9, 10] [0, 1, 2, 3, 4, 5, 6, 7, 11, 12, 13, 14, 15, 16, 17] [0, 1, 2, 3, 4, 5, 6, 7, 15, 16, 17, 8, 9, 10, 11, 12, 13, 14] hP hD hS rfl rfl (by decide) rfl rfl rfl (fun H locs hP hD hS => ?_)
        refine W.eq (g2 := F0 m 33 ls [.int r_30]) rfl ?_
        refine lv_if_ne (tgt := 39) hx hb dd_RG_put_33 (by decide) (fun h33 => ?_) (fun h33 => ?_)
        · rw [if_neg h33] at hM
          refine lv_aload_n hx hb dd_RG_put_39 rfl (lv_at hl 1 rfl) ?_
          refine lv_aload hx hb dd_RG_put_40 (lv_at hl 0 rfl) ?_
          refine lv_iload_n hx hb dd_RG_put_42 rfl (lv_at hl 3 rfl) ?_
          obtain ⟨⟨r_43, ct_43, th_43⟩, hq43⟩ : ∃ z, z = mm_RG_readShard i ct th fl := ⟨_, rfl⟩
          try rw [← hq43] at hM
          try dsimp only at hM
          refine ly_cV_i (n := 2) (z := (r_43, ct_43, th_43)) (rest := []) (wn := (ws_LJ K ah ac ar ap aq ax au ak a0 aw af az n fn lf rb gr ro sr sv up ct_43 al th_43 wr fl sf t1 t2 t3 t4 t5 t6)) C (cc_RG_readShard D K ah ac ar ap aq ax au ak a0 aw af az i n fn lf rb gr ro sr sv up ct al th wr fl (by omega) (by omega) (by omega) (by omega)) hq43 wa_135 wa_67 wa_62 wa_68 wa_69 (by decide) (Nat.le_trans (by decide) hRf) (Nat.le_trans (by decide) hRl) rfl hl.1 rfl (Nat.le_of_ble_eq_true rfl) dd_RG_put_43 hcs [0, 1, 2, 3, 4, 5, 6, 7, 8, 9, 10] [11, 12, 13, 14, 15, 16, 17] [7, 8, 9, 10, 11, 12, 13, 14, 15, 16, 17, 0, 1, 2, 3, 4, 5, 6] hP hD hS rfl rfl (by decide) rfl rfl rfl (fun H locs hP hD hS => ?_)
          refine W.eq (g2 := F0 m 46 ls [.int r_43]) rfl ?_
          refine lv_if_ne (tgt := 52) hx hb dd_RG_put_46 (by decide) (fun h46 => ?_) (fun h46 => ?_)
          · rw [if_neg h46] at hM
            refine lv_aload_n hx hb dd_RG_put_52 rfl (lv_at hl 1 rfl) ?_
            refine lv_aload hx hb dd_RG_put_53 (lv_at hl 0 rfl) ?_
            refine lv_iload_n hx hb dd_RG_put_55 rfl (lv_at hl 3 rfl) ?_
            refine lv_aload hx hb dd_RG_put_56 (lv_at hl 0 rfl) ?_
            refine lv_iload_n hx hb dd_RG_put_58 rfl (lv_at hl 3 rfl) ?_
            obtain ⟨r_59, hq59⟩ : ∃ z, z = mm_Sq_held i wr fl := ⟨_, rfl⟩
            try rw [← hq59] at hM
            refine ly_cV_l (n := 1) (z := r_59) (rest := [.int (nI i), .ref a0, .ref ah]) (wn := (ws_LJ K ah ac ar ap aq ax au ak a0 aw af az n fn lf rb gr ro sr sv up ct_43 al th_43 wr fl sf t1 t2 t3 t4 t5 t6)) C (cc_Sq_held D K a0 aw af i n fn al th_43 wr fl (by omega) (by omega) (by omega)) hq59 wa_247 wa_70 wa_53 wa_71 wa_72 (by decide) (Nat.le_trans (by decide) hRf) (Nat.le_trans (by decide) hRl) rfl hl.1 rfl (Nat.le_of_ble_eq_true rfl) dd_RG_put_59 hcs [8, 9, 10] [0, 1, 2, 3, 4, 5, 6, 7, 11, 12, 13, 14, 15, 16, 17] [0, 1, 2, 3, 4, 5, 6, 7, 15, 16, 17, 8, 9, 10, 11, 12, 13, 14] hP hD hS rfl rfl (by decide) rfl rfl rfl (fun H locs hP hD hS => ?_)
            refine W.eq (g2 := F0 m 62 ls [.long r_59, .int (nI i), .ref a0, .ref ah]) rfl ?_
            refine lv_lload_n hx hb dd_RG_put_62 rfl (lv_at hl 4 rfl) ?_
            refine lv_lxor hx hb dd_RG_put_63 ?_
            obtain ⟨⟨r_64, ct_64, th_64, wr_64, fl_64⟩, hq64⟩ : ∃ z, z = mm_RG_updateCoded i (r_59 ^^^ w) n fn ro ct_43 th_43 wr fl := ⟨_, rfl⟩
            try rw [← hq64] at hM
            try dsimp only at hM
            refine ly_cV_i (n := 3) (z := (r_64, ct_64, th_64, wr_64, fl_64)) (rest := []) (wn := (ws_LJ K ah ac ar ap aq ax au ak a0 aw af az n fn lf rb gr ro sr sv up ct_64 al th_64 wr_64 fl_64 sf t1 t2 t3 t4 t5 t6)) C (cc_RG_updateCoded D K ah ac ar ap aq ax au ak a0 aw af az i (r_59 ^^^ w) n fn lf rb gr ro sr sv up ct_43 al th_43 wr fl (by omega) (by omega) (by omega) (by omega)) hq64 wa_147 wa_73 wa_62 wa_74 wa_75 (by decide) (Nat.le_trans (by decide) hRf) (Nat.le_trans (by decide) hRl) rfl hl.1 rfl (Nat.le_of_ble_eq_true rfl) dd_RG_put_64 hcs [0, 1, 2, 3, 4, 5, 6, 7, 8, 9, 10] [11, 12, 13, 14, 15, 16, 17] [7, 8, 9, 10, 11, 12, 13, 14, 15, 16, 17, 0, 1, 2, 3, 4, 5, 6] hP hD hS rfl rfl (by decide) rfl rfl rfl (fun H locs hP hD hS => ?_)
            refine W.eq (g2 := F0 m 67 ls [.int r_64]) rfl ?_
            refine lv_istore (lv' := [(6, .int r_64), (5, .ref a0), (0, .ref ah), (1, .int x), (2, .int (nI i)), (3, .long w)]) hx hb dd_RG_put_67 hl (by decide) rfl (fun ls hl => ?_)
            refine lv_aload_n hx hb dd_RG_put_69 rfl (lv_at hl 2 rfl) ?_
            refine lv_aload hx hb dd_RG_put_70 (lv_at hl 1 rfl) ?_
            refine lv_iload_n hx hb dd_RG_put_72 rfl (lv_at hl 4 rfl) ?_
            refine lv_lload_n hx hb dd_RG_put_73 rfl (lv_at hl 5 rfl) ?_
            obtain ⟨⟨ct_74, th_74, wr_74, fl_74⟩, hq74⟩ : ∃ z, z = mm_RG_writeShard i w ct_64 th_64 wr_64 fl_64 := ⟨_, rfl⟩
            try rw [← hq74] at hM
            try dsimp only at hM
            refine ly_cV_v (n := 3) (z := (ct_74, th_74, wr_74, fl_74)) (rest := []) (wn := (ws_LJ K ah ac ar ap aq ax au ak a0 aw af az n fn lf rb gr ro sr sv up ct_74 al th_74 wr_74 fl_74 sf t1 t2 t3 t4 t5 t6)) C (cc_RG_writeShard D K ah ac ar ap aq ax au ak a0 aw af az i w n fn lf rb gr ro sr sv up ct_64 al th_64 wr_64 fl_64 (by omega) (by omega) (by omega) (by omega)) hq74 wa_143 wa_76 wa_62 wa_77 wa_78 (by decide) (Nat.le_trans (by decide) hRf) (Nat.le_trans (by decide) hRl) rfl hl.1 rfl (Nat.le_of_ble_eq_true rfl) dd_RG_put_74 hcs [0, 1, 2, 3, 4, 5, 6, 7, 8, 9, 10] [11, 12, 13, 14, 15, 16, 17] [7, 8, 9, 10, 11, 12, 13, 14, 15, 16, 17, 0, 1, 2, 3, 4, 5, 6] hP hD hS rfl rfl (by decide) rfl rfl rfl (fun H locs hP hD hS => ?_)
            refine W.eq (g2 := F0 m 77 ls []) rfl ?_
            refine lv_iload hx hb dd_RG_put_77 (lv_at hl 0 rfl) ?_
            exact ret (r_64, ct_74, th_74, wr_74, fl_74) H locs 79 ls hM rfl hS hP hD dd_RG_put_79
          · rw [if_pos h46] at hM
            refine lv_bipush (v := (-3 : Int32)) hx hb dd_RG_put_49 (by decide) ?_
            exact ret ((-3 : Int32), ct_43, th_43, wr, fl) H locs 51 ls hM rfl hS hP hD dd_RG_put_51
        · rw [if_pos h33] at hM
          refine lv_bipush (v := (-2 : Int32)) hx hb dd_RG_put_36 (by decide) ?_
          exact ret ((-2 : Int32), ct, th, wr, fl) H locs 38 ls hM rfl hS hP hD dd_RG_put_38
      · rw [if_neg h14] at hM
        refine lv_iconst (v := (-1 : Int32)) hx hb dd_RG_put_17 (by decide) ?_
        exact ret ((-1 : Int32), ct, th, wr, fl) H locs 18 ls hM rfl hS hP hD dd_RG_put_18

def mm_RG_fetch (x : Int32) (y : Int32) (n : Nat) (fn : Nat) (lf : Int64) (rb : Int64) (gr : Int32) (ro : Nat → Int64) (sr : Nat → Int64) (sv : Nat → Int64) (ct : Nat → Int32) (al : Int32) (th : Int32) (wr : Nat → Int64) (fl : Nat → Int64) : Int32 × (Int64) × (Int64) × (Nat → Int64) × (Nat → Int64) × (Nat → Int32) × (Int32) := (if (mm_RG_isShard x y n) = (0 : Int32) then ((-1 : Int32), lf, rb, sr, sv, ct, th) else (if (mm_Sq_isThere (y.toNatClampNeg) th) = (0 : Int32) then (match mm_RG_followPlans (y.toNatClampNeg) n fn rb gr ro sr sv ct al th wr fl with | (r_49, rb_49, sr_49, sv_49, ct_49, th_49) => (if r_49 < (0 : Int32) then (r_49, lf, rb_49, sr_49, sv_49, ct_49, th_49) else (r_49, rb_49, rb_49, sr_49, sv_49, ct_49, th_49))) else (match mm_RG_readShard (y.toNatClampNeg) ct th fl with | (r_29, ct_29, th_29) => (if r_29 = (0 : Int32) then (match mm_RG_followPlans (y.toNatClampNeg) n fn rb gr ro sr sv ct_29 al th_29 wr fl with | (r_49, rb_49, sr_49, sv_49, ct_49, th_49) => (if r_49 < (0 : Int32) then (r_49, lf, rb_49, sr_49, sv_49, ct_49, th_49) else (r_49, rb_49, rb_49, sr_49, sv_49, ct_49, th_49))) else ((0 : Int32), (mm_Sq_held (y.toNatClampNeg) wr fl), rb, sr, sv, ct_29, th_29)))))
set_option maxHeartbeats 4000000 in
set_option maxRecDepth 100000 in
theorem cc_RG_fetch {l : Launch} (D : va_G) (K : Nat → ClassId) (ah ac ar ap aq ax au ak a0 aw af az : Nat) (x : Int32) (y : Int32) (n : Nat) (fn : Nat) (lf : Int64) (rb : Int64) (gr : Int32) (ro : Nat → Int64) (sr : Nat → Int64) (sv : Nat → Int64) (up : Nat → Int32) (ct : Nat → Int32) (al : Int32) (th : Int32) (wr : Nat → Int64) (fl : Nat → Int64) (sf : Nat → Option Nat) (t1 : Nat × va_E) (t2 : Nat × va_E) (t3 : Nat × va_E) (t4 : Nat × va_E) (t5 : Nat × va_E) (t6 : Nat × va_E) (hn : n ≤ 11) (hn6 : 6 ≤ n) (hfn : fn ≤ 10) (hsf : ∀ j, j < 3 → x = nI j → sf j = some a0) : ly_i l yy_RG_fetch bb_RG_fetch 5 (some .int) 6 155 D K [.ref ah, .int x, .int y] (ws_LJ K ah ac ar ap aq ax au ak a0 aw af az n fn lf rb gr ro sr sv up ct al th wr fl sf t1 t2 t3 t4 t5 t6) (fun z => z.1) (fun z => (ws_LJ K ah ac ar ap aq ax au ak a0 aw af az n fn (z.2.1) (z.2.2.1) gr ro (z.2.2.2.1) (z.2.2.2.2.1) up (z.2.2.2.2.2.1) al (z.2.2.2.2.2.2) wr fl sf t1 t2 t3 t4 t5 t6)) (mm_RG_fetch x y n fn lf rb gr ro sr sv ct al th wr fl) := by
  refine ly_entI (by decide) (Nat.le_of_ble_eq_true rfl) ?_
  intro p e s m av below meth c A ls R Q H locs res hM C hRf hRl hS hP hD hl ret
  obtain ⟨hx, hb, -⟩ := id C
  have hcs : 0 ≤ R.cells ∧ 0 ≤ R.slots := ⟨Nat.zero_le _, Nat.zero_le _⟩
  have hl : lv_has ls 5 [(0, .ref ah), (1, .int x), (2, .int y)] := hl
  rw [mm_RG_fetch] at hM
  refine lv_aload_n hx hb dd_RG_fetch_0 rfl (lv_at hl 0 rfl) ?_
  refine lv_iload_n hx hb dd_RG_fetch_1 rfl (lv_at hl 1 rfl) ?_
  refine lv_iload_n hx hb dd_RG_fetch_2 rfl (lv_at hl 2 rfl) ?_
  obtain ⟨r_3, hq3⟩ : ∃ z, z = mm_RG_isShard x y n := ⟨_, rfl⟩
  try rw [← hq3] at hM
  refine ly_cV_i (n := 2) (z := r_3) (rest := []) (wn := (ws_LJ K ah ac ar ap aq ax au ak a0 aw af az n fn lf rb gr ro sr sv up ct al th wr fl sf t1 t2 t3 t4 t5 t6)) C (cc_RG_isShard D K ah ac ap az au ak ar x y n lf rb gr (by omega)) hq3 wa_133 wa_80 wa_62 wa_81 wa_82 (by decide) (Nat.le_trans (by decide) hRf) (Nat.le_trans (by decide) hRl) rfl hl.1 rfl (Nat.le_of_ble_eq_true rfl) dd_RG_fetch_3 hcs [0, 1] [2, 3, 4, 5, 6, 7, 8, 9, 10, 11, 12, 13, 14, 15, 16, 17] [16, 17, 0, 1, 2, 3, 4, 5, 6, 7, 8, 9, 10, 11, 12, 13, 14, 15] hP hD hS rfl rfl (by decide) rfl rfl rfl (fun H locs hP hD hS => ?_)
  refine W.eq (g2 := F0 m 6 ls [.int r_3]) rfl ?_
  refine lv_if_ne (tgt := 11) hx hb dd_RG_fetch_6 (by decide) (fun h6 => ?_) (fun h6 => ?_)
  · rw [if_neg h6] at hM
    obtain ⟨sj, hsj, hse, i, hi, rfl⟩ := in_isShard hn hq3 h6
    try rw [nI_clamp (n := i) (by omega)] at hM
    refine lv_aload_n hx hb dd_RG_fetch_11 rfl (lv_at hl 0 rfl) ?_
    refine ly_get (v := .ref az) C hP 0 rfl uw_RG rfl 2 (by decide) wa_51 rfl dd_RG_fetch_12 ?_
    refine lv_iload_n hx hb dd_RG_fetch_15 rfl (lv_at hl 1 rfl) ?_
    refine ly_aldq (b := a0) C hP 11 rfl rfl sj hse hsj (by omega) (hsf sj hsj hse) dd_RG_fetch_16 ?_
    refine lv_astore_n (lv' := [(3, .ref a0), (0, .ref ah), (1, .int x), (2, .int (nI i))]) hx hb dd_RG_fetch_17 rfl hl (by decide) rfl (fun ls hl => ?_)
    refine lv_aload_n hx hb dd_RG_fetch_18 rfl (lv_at hl 0 rfl) ?_
    refine lv_iload_n hx hb dd_RG_fetch_19 rfl (lv_at hl 3 rfl) ?_
    obtain ⟨r_20, hq20⟩ : ∃ z, z = mm_Sq_isThere i th := ⟨_, rfl⟩
    try rw [← hq20] at hM
    refine ly_cV_i (n := 1) (z := r_20) (rest := []) (wn := (ws_LJ K ah ac ar ap aq ax au ak a0 aw af az n fn lf rb gr ro sr sv up ct al th wr fl sf t1 t2 t3 t4 t5 t6)) C (cc_Sq_isThere D K a0 aw af i n fn al th wr fl (by omega) (by omega)) hq20 wa_244 wa_64 wa_53 wa_65 wa_66 (by decide) (Nat.le_trans (by decide) hRf) (Nat.le_trans (by decide) hRl) rfl hl.1 rfl (Nat.le_of_ble_eq_true rfl) dd_RG_fetch_20 hcs [8, 9, 10] [0, 1, 2, 3, 4, 5, 6, 7, 11, 12, 13, 14, 15, 16, 17] [0, 1, 2, 3, 4, 5, 6, 7, 15, 16, 17, 8, 9, 10, 11, 12, 13, 14] hP hD hS rfl rfl (by decide) rfl rfl rfl (fun H locs hP hD hS => ?_)
    refine W.eq (g2 := F0 m 23 ls [.int r_20]) rfl ?_
    refine lv_if_eq (tgt := 46) hx hb dd_RG_fetch_23 (by decide) (fun h23 => ?_) (fun h23 => ?_)
    · rw [if_pos h23] at hM
      refine lv_aload_n hx hb dd_RG_fetch_46 rfl (lv_at hl 1 rfl) ?_
      refine lv_aload_n hx hb dd_RG_fetch_47 rfl (lv_at hl 0 rfl) ?_
      refine lv_iload_n hx hb dd_RG_fetch_48 rfl (lv_at hl 3 rfl) ?_
      obtain ⟨⟨r_49, rb_49, sr_49, sv_49, ct_49, th_49⟩, hq49⟩ : ∃ z, z = mm_RG_followPlans i n fn rb gr ro sr sv ct al th wr fl := ⟨_, rfl⟩
      try rw [← hq49] at hM
      try dsimp only at hM
      refine ly_cV_i (n := 2) (z := (r_49, rb_49, sr_49, sv_49, ct_49, th_49)) (rest := []) (wn := (ws_LJ K ah ac ar ap aq ax au ak a0 aw af az n fn lf rb_49 gr ro sr_49 sv_49 up ct_49 al th_49 wr fl sf t1 t2 t3 t4 t5 t6)) C (cc_RG_followPlans D K ah ac ar ap aq ax au ak a0 aw af az i n fn lf rb gr ro sr sv up ct al th wr fl (by omega) (by omega) (by omega) (by omega)) hq49 wa_158 wa_84 wa_62 wa_85 wa_86 (by decide) (Nat.le_trans (by decide) hRf) (Nat.le_trans (by decide) hRl) rfl hl.1 rfl (Nat.le_of_ble_eq_true rfl) dd_RG_fetch_49 hcs [0, 1, 2, 3, 4, 5, 6, 7, 8, 9, 10] [11, 12, 13, 14, 15, 16, 17] [7, 8, 9, 10, 11, 12, 13, 14, 15, 16, 17, 0, 1, 2, 3, 4, 5, 6] hP hD hS rfl rfl (by decide) rfl rfl rfl (fun H locs hP hD hS => ?_)
      refine W.eq (g2 := F0 m 52 ls [.int r_49]) rfl ?_
      refine lv_istore (lv' := [(4, .int r_49), (3, .ref a0), (0, .ref ah), (1, .int x), (2, .int (nI i))]) hx hb dd_RG_fetch_52 hl (by decide) rfl (fun ls hl => ?_)
      refine lv_iload hx hb dd_RG_fetch_54 (lv_at hl 0 rfl) ?_
      refine lv_if_lt (tgt := 67) hx hb dd_RG_fetch_56 (by decide) (fun h56 => ?_) (fun h56 => ?_)
      · rw [if_pos h56] at hM
        refine lv_iload hx hb dd_RG_fetch_67 (lv_at hl 0 rfl) ?_
        exact ret (r_49, lf, rb_49, sr_49, sv_49, ct_49, th_49) H locs 69 ls hM rfl hS hP hD dd_RG_fetch_69
      · rw [if_neg h56] at hM
        refine lv_aload_n hx hb dd_RG_fetch_59 rfl (lv_at hl 2 rfl) ?_
        refine lv_aload_n hx hb dd_RG_fetch_60 rfl (lv_at hl 2 rfl) ?_
        refine ly_get (v := .long rb_49) C hP 0 rfl uw_RG rfl 6 (by decide) wa_87 rfl dd_RG_fetch_61 ?_
        refine ly_put (ws' := (ws_LJ K ah ac ar ap aq ax au ak a0 aw af az n fn rb_49 rb_49 gr ro sr_49 sv_49 up ct_49 al th_49 wr fl sf t1 t2 t3 t4 t5 t6)) C hP hD hS 0 rfl uw_RG tt_RG nn_RG rfl 5 (by decide) wa_83 rfl rfl rfl (Nat.le_of_ble_eq_true rfl) dd_RG_fetch_64 rfl (fun H locs hP hD hS => ?_)
        refine lv_iload hx hb dd_RG_fetch_67 (lv_at hl 0 rfl) ?_
        exact ret (r_49, rb_49, rb_49, sr_49, sv_49, ct_49, th_49) H locs 69 ls hM rfl hS hP hD dd_RG_fetch_69
    · rw [if_neg h23] at hM
      refine lv_aload_n hx hb dd_RG_fetch_26 rfl (lv_at hl 1 rfl) ?_
      refine lv_aload_n hx hb dd_RG_fetch_27 rfl (lv_at hl 0 rfl) ?_
      refine lv_iload_n hx hb dd_RG_fetch_28 rfl (lv_at hl 3 rfl) ?_
      obtain ⟨⟨r_29, ct_29, th_29⟩, hq29⟩ : ∃ z, z = mm_RG_readShard i ct th fl := ⟨_, rfl⟩
      try rw [← hq29] at hM
      try dsimp only at hM
      refine ly_cV_i (n := 2) (z := (r_29, ct_29, th_29)) (rest := []) (wn := (ws_LJ K ah ac ar ap aq ax au ak a0 aw af az n fn lf rb gr ro sr sv up ct_29 al th_29 wr fl sf t1 t2 t3 t4 t5 t6)) C (cc_RG_readShard D K ah ac ar ap aq ax au ak a0 aw af az i n fn lf rb gr ro sr sv up ct al th wr fl (by omega) (by omega) (by omega) (by omega)) hq29 wa_135 wa_67 wa_62 wa_68 wa_69 (by decide) (Nat.le_trans (by decide) hRf) (Nat.le_trans (by decide) hRl) rfl hl.1 rfl (Nat.le_of_ble_eq_true rfl) dd_RG_fetch_29 hcs [0, 1, 2, 3, 4, 5, 6, 7, 8, 9, 10] [11, 12, 13, 14, 15, 16, 17] [7, 8, 9, 10, 11, 12, 13, 14, 15, 16, 17, 0, 1, 2, 3, 4, 5, 6] hP hD hS rfl rfl (by decide) rfl rfl rfl (fun H locs hP hD hS => ?_)
      refine W.eq (g2 := F0 m 32 ls [.int r_29]) rfl ?_
      refine lv_if_eq (tgt := 46) hx hb dd_RG_fetch_32 (by decide) (fun h32 => ?_) (fun h32 => ?_)
      · rw [if_pos h32] at hM
        refine lv_aload_n hx hb dd_RG_fetch_46 rfl (lv_at hl 1 rfl) ?_
        refine lv_aload_n hx hb dd_RG_fetch_47 rfl (lv_at hl 0 rfl) ?_
        refine lv_iload_n hx hb dd_RG_fetch_48 rfl (lv_at hl 3 rfl) ?_
        obtain ⟨⟨r_49, rb_49, sr_49, sv_49, ct_49, th_49⟩, hq49⟩ : ∃ z, z = mm_RG_followPlans i n fn rb gr ro sr sv ct_29 al th_29 wr fl := ⟨_, rfl⟩
        try rw [← hq49] at hM
        try dsimp only at hM
        refine ly_cV_i (n := 2) (z := (r_49, rb_49, sr_49, sv_49, ct_49, th_49)) (rest := []) (wn := (ws_LJ K ah ac ar ap aq ax au ak a0 aw af az n fn lf rb_49 gr ro sr_49 sv_49 up ct_49 al th_49 wr fl sf t1 t2 t3 t4 t5 t6)) C (cc_RG_followPlans D K ah ac ar ap aq ax au ak a0 aw af az i n fn lf rb gr ro sr sv up ct_29 al th_29 wr fl (by omega) (by omega) (by omega) (by omega)) hq49 wa_158 wa_84 wa_62 wa_85 wa_86 (by decide) (Nat.le_trans (by decide) hRf) (Nat.le_trans (by decide) hRl) rfl hl.1 rfl (Nat.le_of_ble_eq_true rfl) dd_RG_fetch_49 hcs [0, 1, 2, 3, 4, 5, 6, 7, 8, 9, 10] [11, 12, 13, 14, 15, 16, 17] [7, 8, 9, 10, 11, 12, 13, 14, 15, 16, 17, 0, 1, 2, 3, 4, 5, 6] hP hD hS rfl rfl (by decide) rfl rfl rfl (fun H locs hP hD hS => ?_)
        refine W.eq (g2 := F0 m 52 ls [.int r_49]) rfl ?_
        refine lv_istore (lv' := [(4, .int r_49), (3, .ref a0), (0, .ref ah), (1, .int x), (2, .int (nI i))]) hx hb dd_RG_fetch_52 hl (by decide) rfl (fun ls hl => ?_)
        refine lv_iload hx hb dd_RG_fetch_54 (lv_at hl 0 rfl) ?_
        refine lv_if_lt (tgt := 67) hx hb dd_RG_fetch_56 (by decide) (fun h56 => ?_) (fun h56 => ?_)
        · rw [if_pos h56] at hM
          refine lv_iload hx hb dd_RG_fetch_67 (lv_at hl 0 rfl) ?_
          exact ret (r_49, lf, rb_49, sr_49, sv_49, ct_49, th_49) H locs 69 ls hM rfl hS hP hD dd_RG_fetch_69
        · rw [if_neg h56] at hM
          refine lv_aload_n hx hb dd_RG_fetch_59 rfl (lv_at hl 2 rfl) ?_
          refine lv_aload_n hx hb dd_RG_fetch_60 rfl (lv_at hl 2 rfl) ?_
          refine ly_get (v := .long rb_49) C hP 0 rfl uw_RG rfl 6 (by decide) wa_87 rfl dd_RG_fetch_61 ?_
          refine ly_put (ws' := (ws_LJ K ah ac ar ap aq ax au ak a0 aw af az n fn rb_49 rb_49 gr ro sr_49 sv_49 up ct_49 al th_49 wr fl sf t1 t2 t3 t4 t5 t6)) C hP hD hS 0 rfl uw_RG tt_RG nn_RG rfl 5 (by decide) wa_83 rfl rfl rfl (Nat.le_of_ble_eq_true rfl) dd_RG_fetch_64 rfl (fun H locs hP hD hS => ?_)
          refine lv_iload hx hb dd_RG_fetch_67 (lv_at hl 0 rfl) ?_
          exact ret (r_49, rb_49, rb_49, sr_49, sv_49, ct_49, th_49) H locs 69 ls hM rfl hS hP hD dd_RG_fetch_69
      · rw [if_neg h32] at hM
        refine lv_aload_n hx hb dd_RG_fetch_35 rfl (lv_at hl 1 rfl) ?_
        refine lv_aload_n hx hb dd_RG_fetch_36 rfl (lv_at hl 0 rfl) ?_
        refine lv_iload_n hx hb dd_RG_fetch_37 rfl (lv_at hl 3 rfl) ?_
        obtain ⟨r_38, hq38⟩ : ∃ z, z = mm_Sq_held i wr fl := ⟨_, rfl⟩
        try rw [← hq38] at hM
        refine ly_cV_l (n := 1) (z := r_38) (rest := [.ref ah]) (wn := (ws_LJ K ah ac ar ap aq ax au ak a0 aw af az n fn lf rb gr ro sr sv up ct_29 al th_29 wr fl sf t1 t2 t3 t4 t5 t6)) C (cc_Sq_held D K a0 aw af i n fn al th_29 wr fl (by omega) (by omega) (by omega)) hq38 wa_247 wa_70 wa_53 wa_71 wa_72 (by decide) (Nat.le_trans (by decide) hRf) (Nat.le_trans (by decide) hRl) rfl hl.1 rfl (Nat.le_of_ble_eq_true rfl) dd_RG_fetch_38 hcs [8, 9, 10] [0, 1, 2, 3, 4, 5, 6, 7, 11, 12, 13, 14, 15, 16, 17] [0, 1, 2, 3, 4, 5, 6, 7, 15, 16, 17, 8, 9, 10, 11, 12, 13, 14] hP hD hS rfl rfl (by decide) rfl rfl rfl (fun H locs hP hD hS => ?_)
        refine W.eq (g2 := F0 m 41 ls [.long r_38, .ref ah]) rfl ?_
        refine ly_put (ws' := (ws_LJ K ah ac ar ap aq ax au ak a0 aw af az n fn r_38 rb gr ro sr sv up ct_29 al th_29 wr fl sf t1 t2 t3 t4 t5 t6)) C hP hD hS 0 rfl uw_RG tt_RG nn_RG rfl 5 (by decide) wa_83 rfl rfl rfl (Nat.le_of_ble_eq_true rfl) dd_RG_fetch_41 rfl (fun H locs hP hD hS => ?_)
        refine lv_iconst (v := (0 : Int32)) hx hb dd_RG_fetch_44 (by decide) ?_
        exact ret ((0 : Int32), r_38, rb, sr, sv, ct_29, th_29) H locs 45 ls hM rfl hS hP hD dd_RG_fetch_45
  · rw [if_pos h6] at hM
    refine lv_iconst (v := (-1 : Int32)) hx hb dd_RG_fetch_9 (by decide) ?_
    exact ret ((-1 : Int32), lf, rb, sr, sv, ct, th) H locs 10 ls hM rfl hS hP hD dd_RG_fetch_10

def mm_RG_fetched (lf : Int64) : Int64 := lf
set_option maxHeartbeats 4000000 in
set_option maxRecDepth 100000 in
theorem cc_RG_fetched {l : Launch} (D : va_G) (K : Nat → ClassId) (ah ac ar ap aq ax au ak a0 aw af az : Nat) (n : Nat) (fn : Nat) (lf : Int64) (rb : Int64) (gr : Int32) (ro : Nat → Int64) (sr : Nat → Int64) (sv : Nat → Int64) (up : Nat → Int32) (ct : Nat → Int32) (al : Int32) (th : Int32) (wr : Nat → Int64) (fl : Nat → Int64) (sf : Nat → Option Nat) (t1 : Nat × va_E) (t2 : Nat × va_E) (t3 : Nat × va_E) (t4 : Nat × va_E) (t5 : Nat × va_E) (t6 : Nat × va_E) (hn : n ≤ 11) (hn6 : 6 ≤ n) (hfn : fn ≤ 10) : ly_l l yy_RG_fetched bb_RG_fetched 1 (some .long) 0 0 D K [.ref ah] (ws_LJ K ah ac ar ap aq ax au ak a0 aw af az n fn lf rb gr ro sr sv up ct al th wr fl sf t1 t2 t3 t4 t5 t6) (fun z => z) (fun _ => (ws_LJ K ah ac ar ap aq ax au ak a0 aw af az n fn lf rb gr ro sr sv up ct al th wr fl sf t1 t2 t3 t4 t5 t6)) (mm_RG_fetched lf) := by
  refine ly_entL (by decide) (Nat.le_of_ble_eq_true rfl) ?_
  intro p e s m av below meth c A ls R Q H locs res hM C hRf hRl hS hP hD hl ret
  obtain ⟨hx, hb, -⟩ := id C
  have hcs : 0 ≤ R.cells ∧ 0 ≤ R.slots := ⟨Nat.zero_le _, Nat.zero_le _⟩
  have hl : lv_has ls 1 [(0, .ref ah)] := hl
  rw [mm_RG_fetched] at hM
  refine lv_aload_n hx hb dd_RG_fetched_0 rfl (lv_at hl 0 rfl) ?_
  refine ly_get (v := .long lf) C hP 0 rfl uw_RG rfl 5 (by decide) wa_83 rfl dd_RG_fetched_1 ?_
  exact ret lf H locs 4 ls hM hS hP hD dd_RG_fetched_4

def mm_RG_revive (x : Int32) (up : Nat → Int32) : Int32 × (Nat → Int32) := (if (mm_RG_isNode x) = (0 : Int32) then ((0 : Int32), up) else (if (up (x.toNatClampNeg)) = (0 : Int32) then ((1 : Int32), (upd up (x.toNatClampNeg) (1 : Int32))) else ((0 : Int32), up)))
set_option maxHeartbeats 4000000 in
set_option maxRecDepth 100000 in
theorem cc_RG_revive {l : Launch} (D : va_G) (K : Nat → ClassId) (ah ac ar ap aq ax au ak a0 aw af az : Nat) (x : Int32) (n : Nat) (fn : Nat) (lf : Int64) (rb : Int64) (gr : Int32) (ro : Nat → Int64) (sr : Nat → Int64) (sv : Nat → Int64) (up : Nat → Int32) (ct : Nat → Int32) (al : Int32) (th : Int32) (wr : Nat → Int64) (fl : Nat → Int64) (sf : Nat → Option Nat) (t1 : Nat × va_E) (t2 : Nat × va_E) (t3 : Nat × va_E) (t4 : Nat × va_E) (t5 : Nat × va_E) (t6 : Nat × va_E) (hn : n ≤ 11) (hn6 : 6 ≤ n) (hfn : fn ≤ 10) : ly_i l yy_RG_revive bb_RG_revive 2 (some .boolean) 1 20 D K [.ref ah, .int x] (ws_LJ K ah ac ar ap aq ax au ak a0 aw af az n fn lf rb gr ro sr sv up ct al th wr fl sf t1 t2 t3 t4 t5 t6) (fun z => z.1) (fun z => (ws_LJ K ah ac ar ap aq ax au ak a0 aw af az n fn lf rb gr ro sr sv (z.2) ct al th wr fl sf t1 t2 t3 t4 t5 t6)) (mm_RG_revive x up) := by
  refine ly_entI (by decide) (Nat.le_of_ble_eq_true rfl) ?_
  intro p e s m av below meth c A ls R Q H locs res hM C hRf hRl hS hP hD hl ret
  obtain ⟨hx, hb, -⟩ := id C
  have hcs : 0 ≤ R.cells ∧ 0 ≤ R.slots := ⟨Nat.zero_le _, Nat.zero_le _⟩
  have hl : lv_has ls 2 [(0, .ref ah), (1, .int x)] := hl
  rw [mm_RG_revive] at hM
  refine lv_iload_n hx hb dd_RG_revive_0 rfl (lv_at hl 1 rfl) ?_
  obtain ⟨r_1, hq1⟩ : ∃ z, z = mm_RG_isNode x := ⟨_, rfl⟩
  try rw [← hq1] at hM
  refine ly_cS_i (n := 1) (z := r_1) (rest := []) (wn := (ws_LJ K ah ac ar ap aq ax au ak a0 aw af az n fn lf rb gr ro sr sv up ct al th wr fl sf t1 t2 t3 t4 t5 t6)) C (cc_RG_isNode D K x) hq1 wa_134 wa_90 wa_62 wa_91 (by decide) (Nat.le_trans (by decide) hRf) (Nat.le_trans (by decide) hRl) rfl hl.1 rfl (Nat.le_of_ble_eq_true rfl) dd_RG_revive_1 hcs [] [0, 1, 2, 3, 4, 5, 6, 7, 8, 9, 10, 11, 12, 13, 14, 15, 16, 17] [0, 1, 2, 3, 4, 5, 6, 7, 8, 9, 10, 11, 12, 13, 14, 15, 16, 17] hP hD hS rfl rfl (by decide) rfl (fun H locs hP hD hS => ?_)
  refine W.eq (g2 := F0 m 4 ls [.int r_1]) rfl ?_
  refine lv_if_eq (tgt := 16) hx hb dd_RG_revive_4 (by decide) (fun h4 => ?_) (fun h4 => ?_)
  · rw [if_pos h4] at hM
    refine lv_iconst (v := (0 : Int32)) hx hb dd_RG_revive_16 (by decide) ?_
    exact ret ((0 : Int32), up) H locs 17 ls hM ly_z0 hS hP hD dd_RG_revive_17
  · rw [if_neg h4] at hM
    obtain ⟨q, hq0, rfl⟩ := in_isNode hq1 h4
    try rw [nI_clamp (n := q) (by omega)] at hM
    refine lv_aload_n hx hb dd_RG_revive_7 rfl (lv_at hl 0 rfl) ?_
    refine ly_get (v := .ref au) C hP 0 rfl uw_RG rfl 3 (by decide) wa_57 rfl dd_RG_revive_8 ?_
    refine lv_iload_n hx hb dd_RG_revive_11 rfl (lv_at hl 1 rfl) ?_
    refine ly_zald C hP 6 rfl q rfl (by omega) (by omega) dd_RG_revive_12 ?_
    refine lv_if_eq (tgt := 18) hx hb dd_RG_revive_13 (by decide) (fun h13 => ?_) (fun h13 => ?_)
    · rw [if_pos h13] at hM
      refine lv_aload_n hx hb dd_RG_revive_18 rfl (lv_at hl 0 rfl) ?_
      refine ly_get (v := .ref au) C hP 0 rfl uw_RG rfl 3 (by decide) wa_57 rfl dd_RG_revive_19 ?_
      refine lv_iload_n hx hb dd_RG_revive_22 rfl (lv_at hl 1 rfl) ?_
      refine lv_iconst (v := (1 : Int32)) hx hb dd_RG_revive_23 (by decide) ?_
      refine ly_zast (ws' := (ws_LJ K ah ac ar ap aq ax au ak a0 aw af az n fn lf rb gr ro sr sv (upd up q (1 : Int32)) ct al th wr fl sf t1 t2 t3 t4 t5 t6)) C hP hD hS 6 rfl (by decide) q rfl (by omega) (by omega) dd_RG_revive_24 rfl (fun H locs hP hD hS => ?_)
      refine lv_iconst (v := (1 : Int32)) hx hb dd_RG_revive_25 (by decide) ?_
      exact ret ((1 : Int32), (upd up q (1 : Int32))) H locs 26 ls hM ly_z1 hS hP hD dd_RG_revive_26
    · rw [if_neg h13] at hM
      refine lv_iconst (v := (0 : Int32)) hx hb dd_RG_revive_16 (by decide) ?_
      exact ret ((0 : Int32), up) H locs 17 ls hM ly_z0 hS hP hD dd_RG_revive_17

def mm_RG_damage (x : Int32) (y : Int32) (w : Int32) (n : Nat) (th : Int32) (fl : Nat → Int64) : Int32 × (Nat → Int64) := (if (mm_RG_isShard x y n) = (0 : Int32) then ((0 : Int32), fl) else (if w < (0 : Int32) then ((0 : Int32), fl) else (if (64 : Int32) ≤ w then ((0 : Int32), fl) else (if (mm_Sq_isThere (y.toNatClampNeg) th) = (0 : Int32) then ((0 : Int32), fl) else ((1 : Int32), (mm_Sq_flip (y.toNatClampNeg) w fl))))))
set_option maxHeartbeats 4000000 in
set_option maxRecDepth 100000 in
theorem cc_RG_damage {l : Launch} (D : va_G) (K : Nat → ClassId) (ah ac ar ap aq ax au ak a0 aw af az : Nat) (x : Int32) (y : Int32) (w : Int32) (n : Nat) (fn : Nat) (lf : Int64) (rb : Int64) (gr : Int32) (ro : Nat → Int64) (sr : Nat → Int64) (sv : Nat → Int64) (up : Nat → Int32) (ct : Nat → Int32) (al : Int32) (th : Int32) (wr : Nat → Int64) (fl : Nat → Int64) (sf : Nat → Option Nat) (t1 : Nat × va_E) (t2 : Nat × va_E) (t3 : Nat × va_E) (t4 : Nat × va_E) (t5 : Nat × va_E) (t6 : Nat × va_E) (hn : n ≤ 11) (hn6 : 6 ≤ n) (hfn : fn ≤ 10) (hsf : ∀ j, j < 3 → x = nI j → sf j = some a0) : ly_i l yy_RG_damage bb_RG_damage 4 (some .boolean) 2 42 D K [.ref ah, .int x, .int y, .int w] (ws_LJ K ah ac ar ap aq ax au ak a0 aw af az n fn lf rb gr ro sr sv up ct al th wr fl sf t1 t2 t3 t4 t5 t6) (fun z => z.1) (fun z => (ws_LJ K ah ac ar ap aq ax au ak a0 aw af az n fn lf rb gr ro sr sv up ct al th wr (z.2) sf t1 t2 t3 t4 t5 t6)) (mm_RG_damage x y w n th fl) := by
  refine ly_entI (by decide) (Nat.le_of_ble_eq_true rfl) ?_
  intro p e s m av below meth c A ls R Q H locs res hM C hRf hRl hS hP hD hl ret
  obtain ⟨hx, hb, -⟩ := id C
  have hcs : 0 ≤ R.cells ∧ 0 ≤ R.slots := ⟨Nat.zero_le _, Nat.zero_le _⟩
  have hl : lv_has ls 4 [(0, .ref ah), (1, .int x), (2, .int y), (3, .int w)] := hl
  rw [mm_RG_damage] at hM
  refine lv_aload_n hx hb dd_RG_damage_0 rfl (lv_at hl 0 rfl) ?_
  refine lv_iload_n hx hb dd_RG_damage_1 rfl (lv_at hl 1 rfl) ?_
  refine lv_iload_n hx hb dd_RG_damage_2 rfl (lv_at hl 2 rfl) ?_
  obtain ⟨r_3, hq3⟩ : ∃ z, z = mm_RG_isShard x y n := ⟨_, rfl⟩
  try rw [← hq3] at hM
  refine ly_cV_i (n := 2) (z := r_3) (rest := []) (wn := (ws_LJ K ah ac ar ap aq ax au ak a0 aw af az n fn lf rb gr ro sr sv up ct al th wr fl sf t1 t2 t3 t4 t5 t6)) C (cc_RG_isShard D K ah ac ap az au ak ar x y n lf rb gr (by omega)) hq3 wa_133 wa_80 wa_62 wa_81 wa_82 (by decide) (Nat.le_trans (by decide) hRf) (Nat.le_trans (by decide) hRl) rfl hl.1 rfl (Nat.le_of_ble_eq_true rfl) dd_RG_damage_3 hcs [0, 1] [2, 3, 4, 5, 6, 7, 8, 9, 10, 11, 12, 13, 14, 15, 16, 17] [16, 17, 0, 1, 2, 3, 4, 5, 6, 7, 8, 9, 10, 11, 12, 13, 14, 15] hP hD hS rfl rfl (by decide) rfl rfl rfl (fun H locs hP hD hS => ?_)
  refine W.eq (g2 := F0 m 6 ls [.int r_3]) rfl ?_
  refine lv_if_eq (tgt := 32) hx hb dd_RG_damage_6 (by decide) (fun h6 => ?_) (fun h6 => ?_)
  · rw [if_pos h6] at hM
    refine lv_iconst (v := (0 : Int32)) hx hb dd_RG_damage_32 (by decide) ?_
    exact ret ((0 : Int32), fl) H locs 33 ls hM ly_z0 hS hP hD dd_RG_damage_33
  · rw [if_neg h6] at hM
    refine lv_iload_n hx hb dd_RG_damage_9 rfl (lv_at hl 3 rfl) ?_
    refine lv_if_lt (tgt := 32) hx hb dd_RG_damage_10 (by decide) (fun h10 => ?_) (fun h10 => ?_)
    · rw [if_pos h10] at hM
      refine lv_iconst (v := (0 : Int32)) hx hb dd_RG_damage_32 (by decide) ?_
      exact ret ((0 : Int32), fl) H locs 33 ls hM ly_z0 hS hP hD dd_RG_damage_33
    · rw [if_neg h10] at hM
      refine lv_iload_n hx hb dd_RG_damage_13 rfl (lv_at hl 3 rfl) ?_
      refine lv_bipush (v := (64 : Int32)) hx hb dd_RG_damage_14 (by decide) ?_
      refine lv_icmp_ge (tgt := 32) hx hb dd_RG_damage_16 (by decide) (fun h16 => ?_) (fun h16 => ?_)
      · rw [if_pos h16] at hM
        refine lv_iconst (v := (0 : Int32)) hx hb dd_RG_damage_32 (by decide) ?_
        exact ret ((0 : Int32), fl) H locs 33 ls hM ly_z0 hS hP hD dd_RG_damage_33
      · rw [if_neg h16] at hM
        obtain ⟨sj, hsj, hse, i, hi, rfl⟩ := in_isShard hn hq3 h6
        try rw [nI_clamp (n := i) (by omega)] at hM
        refine lv_aload_n hx hb dd_RG_damage_19 rfl (lv_at hl 0 rfl) ?_
        refine ly_get (v := .ref az) C hP 0 rfl uw_RG rfl 2 (by decide) wa_51 rfl dd_RG_damage_20 ?_
        refine lv_iload_n hx hb dd_RG_damage_23 rfl (lv_at hl 1 rfl) ?_
        refine ly_aldq (b := a0) C hP 11 rfl rfl sj hse hsj (by omega) (hsf sj hsj hse) dd_RG_damage_24 ?_
        refine lv_iload_n hx hb dd_RG_damage_25 rfl (lv_at hl 2 rfl) ?_
        obtain ⟨r_26, hq26⟩ : ∃ z, z = mm_Sq_isThere i th := ⟨_, rfl⟩
        try rw [← hq26] at hM
        refine ly_cV_i (n := 1) (z := r_26) (rest := []) (wn := (ws_LJ K ah ac ar ap aq ax au ak a0 aw af az n fn lf rb gr ro sr sv up ct al th wr fl sf t1 t2 t3 t4 t5 t6)) C (cc_Sq_isThere D K a0 aw af i n fn al th wr fl (by omega) (by omega)) hq26 wa_244 wa_64 wa_53 wa_65 wa_66 (by decide) (Nat.le_trans (by decide) hRf) (Nat.le_trans (by decide) hRl) rfl hl.1 rfl (Nat.le_of_ble_eq_true rfl) dd_RG_damage_26 hcs [8, 9, 10] [0, 1, 2, 3, 4, 5, 6, 7, 11, 12, 13, 14, 15, 16, 17] [0, 1, 2, 3, 4, 5, 6, 7, 15, 16, 17, 8, 9, 10, 11, 12, 13, 14] hP hD hS rfl rfl (by decide) rfl rfl rfl (fun H locs hP hD hS => ?_)
        refine W.eq (g2 := F0 m 29 ls [.int r_26]) rfl ?_
        refine lv_if_ne (tgt := 34) hx hb dd_RG_damage_29 (by decide) (fun h29 => ?_) (fun h29 => ?_)
        · rw [if_neg h29] at hM
          refine lv_aload_n hx hb dd_RG_damage_34 rfl (lv_at hl 0 rfl) ?_
          refine ly_get (v := .ref az) C hP 0 rfl uw_RG rfl 2 (by decide) wa_51 rfl dd_RG_damage_35 ?_
          refine lv_iload_n hx hb dd_RG_damage_38 rfl (lv_at hl 1 rfl) ?_
          refine ly_aldq (b := a0) C hP 11 rfl rfl sj hse hsj (by omega) (hsf sj hsj hse) dd_RG_damage_39 ?_
          refine lv_iload_n hx hb dd_RG_damage_40 rfl (lv_at hl 2 rfl) ?_
          refine lv_iload_n hx hb dd_RG_damage_41 rfl (lv_at hl 3 rfl) ?_
          obtain ⟨fl_42, hq42⟩ : ∃ z, z = mm_Sq_flip i w fl := ⟨_, rfl⟩
          try rw [← hq42] at hM
          refine ly_cV_v (n := 2) (z := fl_42) (rest := []) (wn := (ws_LJ K ah ac ar ap aq ax au ak a0 aw af az n fn lf rb gr ro sr sv up ct al th wr fl_42 sf t1 t2 t3 t4 t5 t6)) C (cc_Sq_flip D K a0 aw af i w n fn al th wr fl (by omega) (by omega) (by omega)) hq42 wa_248 wa_97 wa_53 wa_98 wa_99 (by decide) (Nat.le_trans (by decide) hRf) (Nat.le_trans (by decide) hRl) rfl hl.1 rfl (Nat.le_of_ble_eq_true rfl) dd_RG_damage_42 hcs [8, 9, 10] [0, 1, 2, 3, 4, 5, 6, 7, 11, 12, 13, 14, 15, 16, 17] [0, 1, 2, 3, 4, 5, 6, 7, 15, 16, 17, 8, 9, 10, 11, 12, 13, 14] hP hD hS rfl rfl (by decide) rfl rfl rfl (fun H locs hP hD hS => ?_)
          refine W.eq (g2 := F0 m 45 ls []) rfl ?_
          refine lv_iconst (v := (1 : Int32)) hx hb dd_RG_damage_45 (by decide) ?_
          exact ret ((1 : Int32), fl_42) H locs 46 ls hM ly_z1 hS hP hD dd_RG_damage_46
        · rw [if_pos h29] at hM
          refine lv_iconst (v := (0 : Int32)) hx hb dd_RG_damage_32 (by decide) ?_
          exact ret ((0 : Int32), fl) H locs 33 ls hM ly_z0 hS hP hD dd_RG_damage_33

def mm_RG_repair (x : Int32) (y : Int32) (n : Nat) (fn : Nat) (rb : Int64) (gr : Int32) (ro : Nat → Int64) (sr : Nat → Int64) (sv : Nat → Int64) (up : Nat → Int32) (ct : Nat → Int32) (al : Int32) (th : Int32) (wr : Nat → Int64) (fl : Nat → Int64) : Int32 × (Int64) × (Nat → Int64) × (Nat → Int64) × (Nat → Int32) × (Int32) × (Nat → Int64) × (Nat → Int64) := (if (mm_RG_isShard x y n) = (0 : Int32) then ((-1 : Int32), rb, sr, sv, ct, th, wr, fl) else (if (mm_Sq_isThere (y.toNatClampNeg) th) = (0 : Int32) then (if (up ((fn + (y.toNatClampNeg)) % 12)) = (0 : Int32) then ((-3 : Int32), rb, sr, sv, ct, th, wr, fl) else (match mm_RG_rebuild (y.toNatClampNeg) n fn rb gr ro sr sv ct al th wr fl with | (r_48, rb_48, sr_48, sv_48, ct_48, th_48, wr_48, fl_48) => (r_48, rb_48, sr_48, sv_48, ct_48, th_48, wr_48, fl_48))) else ((-2 : Int32), rb, sr, sv, ct, th, wr, fl)))
set_option maxHeartbeats 4000000 in
set_option maxRecDepth 100000 in
theorem cc_RG_repair {l : Launch} (D : va_G) (K : Nat → ClassId) (ah ac ar ap aq ax au ak a0 aw af az : Nat) (x : Int32) (y : Int32) (n : Nat) (fn : Nat) (lf : Int64) (rb : Int64) (gr : Int32) (ro : Nat → Int64) (sr : Nat → Int64) (sv : Nat → Int64) (up : Nat → Int32) (ct : Nat → Int32) (al : Int32) (th : Int32) (wr : Nat → Int64) (fl : Nat → Int64) (sf : Nat → Option Nat) (t1 : Nat × va_E) (t2 : Nat × va_E) (t3 : Nat × va_E) (t4 : Nat × va_E) (t5 : Nat × va_E) (t6 : Nat × va_E) (hn : n ≤ 11) (hn6 : 6 ≤ n) (hfn : fn ≤ 10) (hsf : ∀ j, j < 3 → x = nI j → sf j = some a0) : ly_i l yy_RG_repair bb_RG_repair 4 (some .int) 7 178 D K [.ref ah, .int x, .int y] (ws_LJ K ah ac ar ap aq ax au ak a0 aw af az n fn lf rb gr ro sr sv up ct al th wr fl sf t1 t2 t3 t4 t5 t6) (fun z => z.1) (fun z => (ws_LJ K ah ac ar ap aq ax au ak a0 aw af az n fn lf (z.2.1) gr ro (z.2.2.1) (z.2.2.2.1) up (z.2.2.2.2.1) al (z.2.2.2.2.2.1) (z.2.2.2.2.2.2.1) (z.2.2.2.2.2.2.2) sf t1 t2 t3 t4 t5 t6)) (mm_RG_repair x y n fn rb gr ro sr sv up ct al th wr fl) := by
  refine ly_entI (by decide) (Nat.le_of_ble_eq_true rfl) ?_
  intro p e s m av below meth c A ls R Q H locs res hM C hRf hRl hS hP hD hl ret
  obtain ⟨hx, hb, -⟩ := id C
  have hcs : 0 ≤ R.cells ∧ 0 ≤ R.slots := ⟨Nat.zero_le _, Nat.zero_le _⟩
  have hl : lv_has ls 4 [(0, .ref ah), (1, .int x), (2, .int y)] := hl
  rw [mm_RG_repair] at hM
  refine lv_aload_n hx hb dd_RG_repair_0 rfl (lv_at hl 0 rfl) ?_
  refine lv_iload_n hx hb dd_RG_repair_1 rfl (lv_at hl 1 rfl) ?_
  refine lv_iload_n hx hb dd_RG_repair_2 rfl (lv_at hl 2 rfl) ?_
  obtain ⟨r_3, hq3⟩ : ∃ z, z = mm_RG_isShard x y n := ⟨_, rfl⟩
  try rw [← hq3] at hM
  refine ly_cV_i (n := 2) (z := r_3) (rest := []) (wn := (ws_LJ K ah ac ar ap aq ax au ak a0 aw af az n fn lf rb gr ro sr sv up ct al th wr fl sf t1 t2 t3 t4 t5 t6)) C (cc_RG_isShard D K ah ac ap az au ak ar x y n lf rb gr (by omega)) hq3 wa_133 wa_80 wa_62 wa_81 wa_82 (by decide) (Nat.le_trans (by decide) hRf) (Nat.le_trans (by decide) hRl) rfl hl.1 rfl (Nat.le_of_ble_eq_true rfl) dd_RG_repair_3 hcs [0, 1] [2, 3, 4, 5, 6, 7, 8, 9, 10, 11, 12, 13, 14, 15, 16, 17] [16, 17, 0, 1, 2, 3, 4, 5, 6, 7, 8, 9, 10, 11, 12, 13, 14, 15] hP hD hS rfl rfl (by decide) rfl rfl rfl (fun H locs hP hD hS => ?_)
  refine W.eq (g2 := F0 m 6 ls [.int r_3]) rfl ?_
  refine lv_if_ne (tgt := 11) hx hb dd_RG_repair_6 (by decide) (fun h6 => ?_) (fun h6 => ?_)
  · rw [if_neg h6] at hM
    obtain ⟨sj, hsj, hse, i, hi, rfl⟩ := in_isShard hn hq3 h6
    try rw [nI_clamp (n := i) (by omega)] at hM
    refine lv_aload_n hx hb dd_RG_repair_11 rfl (lv_at hl 0 rfl) ?_
    refine ly_get (v := .ref az) C hP 0 rfl uw_RG rfl 2 (by decide) wa_51 rfl dd_RG_repair_12 ?_
    refine lv_iload_n hx hb dd_RG_repair_15 rfl (lv_at hl 1 rfl) ?_
    refine ly_aldq (b := a0) C hP 11 rfl rfl sj hse hsj (by omega) (hsf sj hsj hse) dd_RG_repair_16 ?_
    refine lv_astore_n (lv' := [(3, .ref a0), (0, .ref ah), (1, .int x), (2, .int (nI i))]) hx hb dd_RG_repair_17 rfl hl (by decide) rfl (fun ls hl => ?_)
    refine lv_aload_n hx hb dd_RG_repair_18 rfl (lv_at hl 0 rfl) ?_
    refine lv_iload_n hx hb dd_RG_repair_19 rfl (lv_at hl 3 rfl) ?_
    obtain ⟨r_20, hq20⟩ : ∃ z, z = mm_Sq_isThere i th := ⟨_, rfl⟩
    try rw [← hq20] at hM
    refine ly_cV_i (n := 1) (z := r_20) (rest := []) (wn := (ws_LJ K ah ac ar ap aq ax au ak a0 aw af az n fn lf rb gr ro sr sv up ct al th wr fl sf t1 t2 t3 t4 t5 t6)) C (cc_Sq_isThere D K a0 aw af i n fn al th wr fl (by omega) (by omega)) hq20 wa_244 wa_64 wa_53 wa_65 wa_66 (by decide) (Nat.le_trans (by decide) hRf) (Nat.le_trans (by decide) hRl) rfl hl.1 rfl (Nat.le_of_ble_eq_true rfl) dd_RG_repair_20 hcs [8, 9, 10] [0, 1, 2, 3, 4, 5, 6, 7, 11, 12, 13, 14, 15, 16, 17] [0, 1, 2, 3, 4, 5, 6, 7, 15, 16, 17, 8, 9, 10, 11, 12, 13, 14] hP hD hS rfl rfl (by decide) rfl rfl rfl (fun H locs hP hD hS => ?_)
    refine W.eq (g2 := F0 m 23 ls [.int r_20]) rfl ?_
    refine lv_if_eq (tgt := 29) hx hb dd_RG_repair_23 (by decide) (fun h23 => ?_) (fun h23 => ?_)
    · rw [if_pos h23] at hM
      refine lv_aload_n hx hb dd_RG_repair_29 rfl (lv_at hl 1 rfl) ?_
      refine ly_get (v := .ref au) C hP 0 rfl uw_RG rfl 3 (by decide) wa_57 rfl dd_RG_repair_30 ?_
      refine lv_aload_n hx hb dd_RG_repair_33 rfl (lv_at hl 0 rfl) ?_
      refine lv_iload_n hx hb dd_RG_repair_34 rfl (lv_at hl 3 rfl) ?_
      refine ly_cV_i (n := 1) (z := (nI ((fn + i) % 12))) (rest := [.ref au]) (wn := (ws_LJ K ah ac ar ap aq ax au ak a0 aw af az n fn lf rb gr ro sr sv up ct al th wr fl sf t1 t2 t3 t4 t5 t6)) C (cc_Sq_nodeOf D K a0 aw af i n fn al th wr fl (by omega) (by omega) (by omega)) rfl wa_243 wa_101 wa_53 wa_102 wa_103 (by decide) (Nat.le_trans (by decide) hRf) (Nat.le_trans (by decide) hRl) rfl hl.1 rfl (Nat.le_of_ble_eq_true rfl) dd_RG_repair_35 hcs [8, 9, 10] [0, 1, 2, 3, 4, 5, 6, 7, 11, 12, 13, 14, 15, 16, 17] [0, 1, 2, 3, 4, 5, 6, 7, 15, 16, 17, 8, 9, 10, 11, 12, 13, 14] hP hD hS rfl rfl (by decide) rfl rfl rfl (fun H locs hP hD hS => ?_)
      refine W.eq (g2 := F0 m 38 ls [.int (nI ((fn + i) % 12)), .ref au]) rfl ?_
      refine ly_zald C hP 6 rfl ((fn + i) % 12) rfl (by omega) (by omega) dd_RG_repair_38 ?_
      refine lv_if_ne (tgt := 45) hx hb dd_RG_repair_39 (by decide) (fun h39 => ?_) (fun h39 => ?_)
      · rw [if_neg h39] at hM
        refine lv_aload_n hx hb dd_RG_repair_45 rfl (lv_at hl 1 rfl) ?_
        refine lv_aload_n hx hb dd_RG_repair_46 rfl (lv_at hl 0 rfl) ?_
        refine lv_iload_n hx hb dd_RG_repair_47 rfl (lv_at hl 3 rfl) ?_
        obtain ⟨⟨r_48, rb_48, sr_48, sv_48, ct_48, th_48, wr_48, fl_48⟩, hq48⟩ : ∃ z, z = mm_RG_rebuild i n fn rb gr ro sr sv ct al th wr fl := ⟨_, rfl⟩
        try rw [← hq48] at hM
        try dsimp only at hM
        refine ly_cV_i (n := 2) (z := (r_48, rb_48, sr_48, sv_48, ct_48, th_48, wr_48, fl_48)) (rest := []) (wn := (ws_LJ K ah ac ar ap aq ax au ak a0 aw af az n fn lf rb_48 gr ro sr_48 sv_48 up ct_48 al th_48 wr_48 fl_48 sf t1 t2 t3 t4 t5 t6)) C (cc_RG_rebuild D K ah ac ar ap aq ax au ak a0 aw af az i n fn lf rb gr ro sr sv up ct al th wr fl (by omega) (by omega) (by omega) (by omega)) hq48 wa_157 wa_104 wa_62 wa_105 wa_106 (by decide) (Nat.le_trans (by decide) hRf) (Nat.le_trans (by decide) hRl) rfl hl.1 rfl (Nat.le_of_ble_eq_true rfl) dd_RG_repair_48 hcs [0, 1, 2, 3, 4, 5, 6, 7, 8, 9, 10] [11, 12, 13, 14, 15, 16, 17] [7, 8, 9, 10, 11, 12, 13, 14, 15, 16, 17, 0, 1, 2, 3, 4, 5, 6] hP hD hS rfl rfl (by decide) rfl rfl rfl (fun H locs hP hD hS => ?_)
        refine W.eq (g2 := F0 m 51 ls [.int r_48]) rfl ?_
        exact ret (r_48, rb_48, sr_48, sv_48, ct_48, th_48, wr_48, fl_48) H locs 51 ls hM rfl hS hP hD dd_RG_repair_51
      · rw [if_pos h39] at hM
        refine lv_bipush (v := (-3 : Int32)) hx hb dd_RG_repair_42 (by decide) ?_
        exact ret ((-3 : Int32), rb, sr, sv, ct, th, wr, fl) H locs 44 ls hM rfl hS hP hD dd_RG_repair_44
    · rw [if_neg h23] at hM
      refine lv_bipush (v := (-2 : Int32)) hx hb dd_RG_repair_26 (by decide) ?_
      exact ret ((-2 : Int32), rb, sr, sv, ct, th, wr, fl) H locs 28 ls hM rfl hS hP hD dd_RG_repair_28
  · rw [if_pos h6] at hM
    refine lv_iconst (v := (-1 : Int32)) hx hb dd_RG_repair_9 (by decide) ?_
    exact ret ((-1 : Int32), rb, sr, sv, ct, th, wr, fl) H locs 10 ls hM rfl hS hP hD dd_RG_repair_10

def mm_RG_mend_L21 (n : Nat) (fn : Nat) (gr : Int32) (ro : Nat → Int64) (up : Nat → Int32) (al : Int32) : Nat → Nat → (Int32) → (Int64) → (Nat → Int64) → (Nat → Int64) → (Nat → Int32) → (Int32) → (Nat → Int64) → (Nat → Int64) → Int32 × (Int64) × (Nat → Int64) × (Nat → Int64) × (Nat → Int32) × (Int32) × (Nat → Int64) × (Nat → Int64)
  | 0, j, v3, rb, sr, sv, ct, th, wr, fl => (v3, rb, sr, sv, ct, th, wr, fl)
  | k + 1, j, v3, rb, sr, sv, ct, th, wr, fl => (match mm_RG_nextToMend n fn gr ro sr sv up al th with | (r_30, sr_30, sv_30) => (if r_30 = (-1 : Int32) then (v3, rb, sr_30, sv_30, ct, th, wr, fl) else (match mm_RG_rebuild (r_30.toNatClampNeg) n fn rb gr ro sr_30 sv_30 ct al th wr fl with | (r_48, rb_48, sr_48, sv_48, ct_48, th_48, wr_48, fl_48) => (if r_48 < (0 : Int32) then (mm_RG_mend_L21 n fn gr ro up al k (j + 1) v3 rb_48 sr_48 sv_48 ct_48 th_48 wr_48 fl_48) else (mm_RG_mend_L21 n fn gr ro up al k (j + 1) (v3 + 1) rb_48 sr_48 sv_48 ct_48 th_48 wr_48 fl_48)))))
def mm_RG_mend (x : Int32) (n : Nat) (fn : Nat) (rb : Int64) (gr : Int32) (ro : Nat → Int64) (sr : Nat → Int64) (sv : Nat → Int64) (up : Nat → Int32) (ct : Nat → Int32) (al : Int32) (th : Int32) (wr : Nat → Int64) (fl : Nat → Int64) : Int32 × (Int64) × (Nat → Int64) × (Nat → Int64) × (Nat → Int32) × (Int32) × (Nat → Int64) × (Nat → Int64) := (if (mm_RG_isStripe x) = (0 : Int32) then ((-1 : Int32), rb, sr, sv, ct, th, wr, fl) else (mm_RG_mend_L21 n fn gr ro up al 64 0 (0 : Int32) rb sr sv ct th wr fl))
set_option maxHeartbeats 4000000 in
set_option maxRecDepth 100000 in
theorem cc_RG_mend {l : Launch} (D : va_G) (K : Nat → ClassId) (ah ac ar ap aq ax au ak a0 aw af az : Nat) (x : Int32) (n : Nat) (fn : Nat) (lf : Int64) (rb : Int64) (gr : Int32) (ro : Nat → Int64) (sr : Nat → Int64) (sv : Nat → Int64) (up : Nat → Int32) (ct : Nat → Int32) (al : Int32) (th : Int32) (wr : Nat → Int64) (fl : Nat → Int64) (sf : Nat → Option Nat) (t1 : Nat × va_E) (t2 : Nat × va_E) (t3 : Nat × va_E) (t4 : Nat × va_E) (t5 : Nat × va_E) (t6 : Nat × va_E) (hn : n ≤ 11) (hn6 : 6 ≤ n) (hfn : fn ≤ 10) (hsf : ∀ j, j < 3 → x = nI j → sf j = some a0) : ly_i l yy_RG_mend bb_RG_mend 6 (some .int) 7 178 D K [.ref ah, .int x] (ws_LJ K ah ac ar ap aq ax au ak a0 aw af az n fn lf rb gr ro sr sv up ct al th wr fl sf t1 t2 t3 t4 t5 t6) (fun z => z.1) (fun z => (ws_LJ K ah ac ar ap aq ax au ak a0 aw af az n fn lf (z.2.1) gr ro (z.2.2.1) (z.2.2.2.1) up (z.2.2.2.2.1) al (z.2.2.2.2.2.1) (z.2.2.2.2.2.2.1) (z.2.2.2.2.2.2.2) sf t1 t2 t3 t4 t5 t6)) (mm_RG_mend x n fn rb gr ro sr sv up ct al th wr fl) := by
  refine ly_entI (by decide) (Nat.le_of_ble_eq_true rfl) ?_
  intro p e s m av below meth c A ls R Q H locs res hM C hRf hRl hS hP hD hl ret
  obtain ⟨hx, hb, -⟩ := id C
  have hcs : 0 ≤ R.cells ∧ 0 ≤ R.slots := ⟨Nat.zero_le _, Nat.zero_le _⟩
  have hl : lv_has ls 6 [(0, .ref ah), (1, .int x)] := hl
  rw [mm_RG_mend] at hM
  refine lv_iload_n hx hb dd_RG_mend_0 rfl (lv_at hl 1 rfl) ?_
  obtain ⟨r_1, hq1⟩ : ∃ z, z = mm_RG_isStripe x := ⟨_, rfl⟩
  try rw [← hq1] at hM
  refine ly_cS_i (n := 1) (z := r_1) (rest := []) (wn := (ws_LJ K ah ac ar ap aq ax au ak a0 aw af az n fn lf rb gr ro sr sv up ct al th wr fl sf t1 t2 t3 t4 t5 t6)) C (cc_RG_isStripe D K x) hq1 wa_132 wa_61 wa_62 wa_63 (by decide) (Nat.le_trans (by decide) hRf) (Nat.le_trans (by decide) hRl) rfl hl.1 rfl (Nat.le_of_ble_eq_true rfl) dd_RG_mend_1 hcs [] [0, 1, 2, 3, 4, 5, 6, 7, 8, 9, 10, 11, 12, 13, 14, 15, 16, 17] [0, 1, 2, 3, 4, 5, 6, 7, 8, 9, 10, 11, 12, 13, 14, 15, 16, 17] hP hD hS rfl rfl (by decide) rfl (fun H locs hP hD hS => ?_)
  refine W.eq (g2 := F0 m 4 ls [.int r_1]) rfl ?_
  refine lv_if_ne (tgt := 9) hx hb dd_RG_mend_4 (by decide) (fun h4 => ?_) (fun h4 => ?_)
  · rw [if_neg h4] at hM
    obtain ⟨sj, hsj, hse⟩ := in_isStripe hq1 h4
    refine lv_aload_n hx hb dd_RG_mend_9 rfl (lv_at hl 0 rfl) ?_
    refine ly_get (v := .ref az) C hP 0 rfl uw_RG rfl 2 (by decide) wa_51 rfl dd_RG_mend_10 ?_
    refine lv_iload_n hx hb dd_RG_mend_13 rfl (lv_at hl 1 rfl) ?_
    refine ly_aldq (b := a0) C hP 11 rfl rfl sj hse hsj (by omega) (hsf sj hsj hse) dd_RG_mend_14 ?_
    refine lv_astore_n (lv' := [(2, .ref a0), (0, .ref ah), (1, .int x)]) hx hb dd_RG_mend_15 rfl hl (by decide) rfl (fun ls hl => ?_)
    refine lv_iconst (v := (0 : Int32)) hx hb dd_RG_mend_16 (by decide) ?_
    refine lv_istore_n (lv' := [(3, .int (0 : Int32)), (2, .ref a0), (0, .ref ah), (1, .int x)]) hx hb dd_RG_mend_17 rfl hl (by decide) rfl (fun ls hl => ?_)
    refine lv_iconst (v := (0 : Int32)) hx hb dd_RG_mend_18 (by decide) ?_
    refine lv_istore (lv' := [(4, .int (0 : Int32)), (3, .int (0 : Int32)), (2, .ref a0), (0, .ref ah), (1, .int x)]) hx hb dd_RG_mend_19 hl (by decide) rfl (fun ls hl => ?_)
    have lp21 : ∀ (k : Nat) (j : Nat) (v3 : Int32) (rb : Int64) (sr : Nat → Int64) (sv : Nat → Int64) (ct : Nat → Int32) (th : Int32) (wr : Nat → Int64) (fl : Nat → Int64) (ls : Array Slot) (H : Heap) (locs : List Loc), j + k = 64 → mm_RG_mend_L21 n fn gr ro up al k j v3 rb sr sv ct th wr fl = res → lv_has ls 6 [(4, .int (nI j)), (3, .int v3), (2, .ref a0), (0, .ref ah), (1, .int x)] → va_P D cl_all (ws_LJ K ah ac ar ap aq ax au ak a0 aw af az n fn lf rb gr ro sr sv up ct al th wr fl sf t1 t2 t3 t4 t5 t6) H → va_D A (ws_LJ K ah ac ar ap aq ax au ak a0 aw af az n fn lf rb gr ro sr sv up ct al th wr fl sf t1 t2 t3 t4 t5 t6) → va_S A s.heap H locs → W p l e R s m av below meth c H locs 0 0 Q (F0 m 21 ls []) := by
      intro k
      induction k with
      | zero =>
        intro j v3 rb sr sv ct th wr fl ls H locs hjk21 hM hl hP hD hS
        have hj0 : j = 64 := by omega
        subst j
        rw [mm_RG_mend_L21] at hM
        refine lv_iload hx hb dd_RG_mend_21 (lv_at hl 0 rfl) ?_
        refine lv_bipush (v := (64 : Int32)) hx hb dd_RG_mend_23 (by decide) ?_
        refine lv_icmp_ge (tgt := 63) hx hb dd_RG_mend_25 (by decide) (fun _ => ?_) (fun h => absurd (nI_le (a := 64) (b := 64) (by omega) (by omega)) h)
        refine lv_iload_n hx hb dd_RG_mend_63 rfl (lv_at hl 1 rfl) ?_
        exact ret (v3, rb, sr, sv, ct, th, wr, fl) H locs 64 ls hM rfl hS hP hD dd_RG_mend_64
      | succ k ih21 =>
        intro j v3 rb sr sv ct th wr fl ls H locs hjk21 hM hl hP hD hS
        rw [mm_RG_mend_L21] at hM
        refine lv_iload hx hb dd_RG_mend_21 (lv_at hl 0 rfl) ?_
        refine lv_bipush (v := (64 : Int32)) hx hb dd_RG_mend_23 (by decide) ?_
        refine lv_icmp_ge (tgt := 63) hx hb dd_RG_mend_25 (by decide) (fun h => absurd h (nI_ge (a := j) (b := 64) (by omega) (by omega))) (fun _ => ?_)
        refine lv_aload_n hx hb dd_RG_mend_28 rfl (lv_at hl 3 rfl) ?_
        refine lv_aload_n hx hb dd_RG_mend_29 rfl (lv_at hl 2 rfl) ?_
        obtain ⟨⟨r_30, sr_30, sv_30⟩, hq30⟩ : ∃ z, z = mm_RG_nextToMend n fn gr ro sr sv up al th := ⟨_, rfl⟩
        try rw [← hq30] at hM
        try dsimp only at hM
        refine ly_cV_i (n := 1) (z := (r_30, sr_30, sv_30)) (rest := []) (wn := (ws_LJ K ah ac ar ap aq ax au ak a0 aw af az n fn lf rb gr ro sr_30 sv_30 up ct al th wr fl sf t1 t2 t3 t4 t5 t6)) C (cc_RG_nextToMend D K ah ac ar ap aq ax au ak a0 aw af az n fn lf rb gr ro sr sv up ct al th wr fl (by omega) (by omega) (by omega)) hq30 wa_190 wa_108 wa_62 wa_109 wa_110 (by decide) (Nat.le_trans (by decide) hRf) (Nat.le_trans (by decide) hRl) rfl hl.1 rfl (Nat.le_of_ble_eq_true rfl) dd_RG_mend_30 hcs [0, 1, 2, 3, 4, 5, 6, 7, 8, 9, 10] [11, 12, 13, 14, 15, 16, 17] [7, 8, 9, 10, 11, 12, 13, 14, 15, 16, 17, 0, 1, 2, 3, 4, 5, 6] hP hD hS rfl rfl (by decide) rfl rfl rfl (fun H locs hP hD hS => ?_)
        refine W.eq (g2 := F0 m 33 ls [.int r_30]) rfl ?_
        refine lv_istore (lv' := [(5, .int r_30), (4, .int (nI j)), (3, .int v3), (2, .ref a0), (0, .ref ah), (1, .int x)]) hx hb dd_RG_mend_33 hl (by decide) rfl (fun ls hl => ?_)
        refine lv_iload hx hb dd_RG_mend_35 (lv_at hl 0 rfl) ?_
        refine lv_iconst (v := (-1 : Int32)) hx hb dd_RG_mend_37 (by decide) ?_
        refine lv_icmp_ne (tgt := 44) hx hb dd_RG_mend_38 (by decide) (fun h38 => ?_) (fun h38 => ?_)
        · rw [if_neg h38] at hM
          obtain ⟨i, hi, rfl⟩ := in_nextToMend hq30 h38
          try rw [nI_clamp (n := i) (by omega)] at hM
          refine lv_aload_n hx hb dd_RG_mend_44 rfl (lv_at hl 4 rfl) ?_
          refine lv_aload_n hx hb dd_RG_mend_45 rfl (lv_at hl 3 rfl) ?_
          refine lv_iload hx hb dd_RG_mend_46 (lv_at hl 0 rfl) ?_
          obtain ⟨⟨r_48, rb_48, sr_48, sv_48, ct_48, th_48, wr_48, fl_48⟩, hq48⟩ : ∃ z, z = mm_RG_rebuild i n fn rb gr ro sr_30 sv_30 ct al th wr fl := ⟨_, rfl⟩
          try rw [← hq48] at hM
          try dsimp only at hM
          refine ly_cV_i (n := 2) (z := (r_48, rb_48, sr_48, sv_48, ct_48, th_48, wr_48, fl_48)) (rest := []) (wn := (ws_LJ K ah ac ar ap aq ax au ak a0 aw af az n fn lf rb_48 gr ro sr_48 sv_48 up ct_48 al th_48 wr_48 fl_48 sf t1 t2 t3 t4 t5 t6)) C (cc_RG_rebuild D K ah ac ar ap aq ax au ak a0 aw af az i n fn lf rb gr ro sr_30 sv_30 up ct al th wr fl (by omega) (by omega) (by omega) (by omega)) hq48 wa_157 wa_104 wa_62 wa_105 wa_106 (by decide) (Nat.le_trans (by decide) hRf) (Nat.le_trans (by decide) hRl) rfl hl.1 rfl (Nat.le_of_ble_eq_true rfl) dd_RG_mend_48 hcs [0, 1, 2, 3, 4, 5, 6, 7, 8, 9, 10] [11, 12, 13, 14, 15, 16, 17] [7, 8, 9, 10, 11, 12, 13, 14, 15, 16, 17, 0, 1, 2, 3, 4, 5, 6] hP hD hS rfl rfl (by decide) rfl rfl rfl (fun H locs hP hD hS => ?_)
          refine W.eq (g2 := F0 m 51 ls [.int r_48]) rfl ?_
          refine lv_if_lt (tgt := 57) hx hb dd_RG_mend_51 (by decide) (fun h51 => ?_) (fun h51 => ?_)
          · rw [if_pos h51] at hM
            refine lv_iinc (k := 1) (v := (nI (j + 1))) (lv' := [(4, .int (nI (j + 1))), (5, .int (nI i)), (3, .int v3), (2, .ref a0), (0, .ref ah), (1, .int x)]) hx hb dd_RG_mend_57 hl rfl (ly_incN _) (by decide) rfl (fun ls hl => ?_)
            refine lv_goto (tgt := 21) hx hb dd_RG_mend_60 (by decide) ?_
            exact ih21 (j + 1) v3 rb_48 sr_48 sv_48 ct_48 th_48 wr_48 fl_48 ls H locs (by omega) hM (lv_sub hl [0, 2, 3, 4, 5] rfl) hP hD hS
          · rw [if_neg h51] at hM
            refine lv_iinc (k := 2) (v := (v3 + 1)) (lv' := [(3, .int (v3 + 1)), (5, .int (nI i)), (4, .int (nI j)), (2, .ref a0), (0, .ref ah), (1, .int x)]) hx hb dd_RG_mend_54 hl rfl (ly_inc _) (by decide) rfl (fun ls hl => ?_)
            refine lv_iinc (k := 2) (v := (nI (j + 1))) (lv' := [(4, .int (nI (j + 1))), (3, .int (v3 + 1)), (5, .int (nI i)), (2, .ref a0), (0, .ref ah), (1, .int x)]) hx hb dd_RG_mend_57 hl rfl (ly_incN _) (by decide) rfl (fun ls hl => ?_)
            refine lv_goto (tgt := 21) hx hb dd_RG_mend_60 (by decide) ?_
            exact ih21 (j + 1) (v3 + 1) rb_48 sr_48 sv_48 ct_48 th_48 wr_48 fl_48 ls H locs (by omega) hM (lv_sub hl [0, 1, 3, 4, 5] rfl) hP hD hS
        · rw [if_pos h38] at hM
          refine lv_goto (tgt := 63) hx hb dd_RG_mend_41 (by decide) ?_
          refine lv_iload_n hx hb dd_RG_mend_63 rfl (lv_at hl 2 rfl) ?_
          exact ret (v3, rb, sr_30, sv_30, ct, th, wr, fl) H locs 64 ls hM rfl hS hP hD dd_RG_mend_64
    exact lp21 64 0 (0 : Int32) rb sr sv ct th wr fl ls H locs (by omega) hM (lv_sub hl [0, 1, 2, 3, 4] rfl) hP hD hS
  · rw [if_pos h4] at hM
    refine lv_iconst (v := (-1 : Int32)) hx hb dd_RG_mend_7 (by decide) ?_
    exact ret ((-1 : Int32), rb, sr, sv, ct, th, wr, fl) H locs 8 ls hM rfl hS hP hD dd_RG_mend_8

def mm_RG_scrub_L21 (fl : Nat → Int64) : Nat → Nat → (Int32) → (Nat → Int32) → (Int32) → Int32 × (Nat → Int32) × (Int32)
  | 0, j, v3, ct, th => (v3, ct, th)
  | k + 1, j, v3, ct, th => (if (mm_Sq_isThere j th) = (0 : Int32) then (mm_RG_scrub_L21 fl k (j + 1) v3 ct th) else (match mm_RG_readShard j ct th fl with | (r_46, ct_46, th_46) => (if r_46 = (0 : Int32) then (mm_RG_scrub_L21 fl k (j + 1) (v3 + 1) ct_46 th_46) else (mm_RG_scrub_L21 fl k (j + 1) v3 ct_46 th_46))))
def mm_RG_scrub (x : Int32) (n : Nat) (ct : Nat → Int32) (th : Int32) (fl : Nat → Int64) : Int32 × (Nat → Int32) × (Int32) := (if (mm_RG_isStripe x) = (0 : Int32) then ((-1 : Int32), ct, th) else (mm_RG_scrub_L21 fl n 0 (0 : Int32) ct th))
set_option maxHeartbeats 4000000 in
set_option maxRecDepth 100000 in
theorem cc_RG_scrub {l : Launch} (D : va_G) (K : Nat → ClassId) (ah ac ar ap aq ax au ak a0 aw af az : Nat) (x : Int32) (n : Nat) (fn : Nat) (lf : Int64) (rb : Int64) (gr : Int32) (ro : Nat → Int64) (sr : Nat → Int64) (sv : Nat → Int64) (up : Nat → Int32) (ct : Nat → Int32) (al : Int32) (th : Int32) (wr : Nat → Int64) (fl : Nat → Int64) (sf : Nat → Option Nat) (t1 : Nat × va_E) (t2 : Nat × va_E) (t3 : Nat × va_E) (t4 : Nat × va_E) (t5 : Nat × va_E) (t6 : Nat × va_E) (hn : n ≤ 11) (hn6 : 6 ≤ n) (hfn : fn ≤ 10) (hsf : ∀ j, j < 3 → x = nI j → sf j = some a0) : ly_i l yy_RG_scrub bb_RG_scrub 5 (some .int) 2 43 D K [.ref ah, .int x] (ws_LJ K ah ac ar ap aq ax au ak a0 aw af az n fn lf rb gr ro sr sv up ct al th wr fl sf t1 t2 t3 t4 t5 t6) (fun z => z.1) (fun z => (ws_LJ K ah ac ar ap aq ax au ak a0 aw af az n fn lf rb gr ro sr sv up (z.2.1) al (z.2.2) wr fl sf t1 t2 t3 t4 t5 t6)) (mm_RG_scrub x n ct th fl) := by
  refine ly_entI (by decide) (Nat.le_of_ble_eq_true rfl) ?_
  intro p e s m av below meth c A ls R Q H locs res hM C hRf hRl hS hP hD hl ret
  obtain ⟨hx, hb, -⟩ := id C
  have hcs : 0 ≤ R.cells ∧ 0 ≤ R.slots := ⟨Nat.zero_le _, Nat.zero_le _⟩
  have hl : lv_has ls 5 [(0, .ref ah), (1, .int x)] := hl
  rw [mm_RG_scrub] at hM
  refine lv_iload_n hx hb dd_RG_scrub_0 rfl (lv_at hl 1 rfl) ?_
  obtain ⟨r_1, hq1⟩ : ∃ z, z = mm_RG_isStripe x := ⟨_, rfl⟩
  try rw [← hq1] at hM
  refine ly_cS_i (n := 1) (z := r_1) (rest := []) (wn := (ws_LJ K ah ac ar ap aq ax au ak a0 aw af az n fn lf rb gr ro sr sv up ct al th wr fl sf t1 t2 t3 t4 t5 t6)) C (cc_RG_isStripe D K x) hq1 wa_132 wa_61 wa_62 wa_63 (by decide) (Nat.le_trans (by decide) hRf) (Nat.le_trans (by decide) hRl) rfl hl.1 rfl (Nat.le_of_ble_eq_true rfl) dd_RG_scrub_1 hcs [] [0, 1, 2, 3, 4, 5, 6, 7, 8, 9, 10, 11, 12, 13, 14, 15, 16, 17] [0, 1, 2, 3, 4, 5, 6, 7, 8, 9, 10, 11, 12, 13, 14, 15, 16, 17] hP hD hS rfl rfl (by decide) rfl (fun H locs hP hD hS => ?_)
  refine W.eq (g2 := F0 m 4 ls [.int r_1]) rfl ?_
  refine lv_if_ne (tgt := 9) hx hb dd_RG_scrub_4 (by decide) (fun h4 => ?_) (fun h4 => ?_)
  · rw [if_neg h4] at hM
    obtain ⟨sj, hsj, hse⟩ := in_isStripe hq1 h4
    refine lv_aload_n hx hb dd_RG_scrub_9 rfl (lv_at hl 0 rfl) ?_
    refine ly_get (v := .ref az) C hP 0 rfl uw_RG rfl 2 (by decide) wa_51 rfl dd_RG_scrub_10 ?_
    refine lv_iload_n hx hb dd_RG_scrub_13 rfl (lv_at hl 1 rfl) ?_
    refine ly_aldq (b := a0) C hP 11 rfl rfl sj hse hsj (by omega) (hsf sj hsj hse) dd_RG_scrub_14 ?_
    refine lv_astore_n (lv' := [(2, .ref a0), (0, .ref ah), (1, .int x)]) hx hb dd_RG_scrub_15 rfl hl (by decide) rfl (fun ls hl => ?_)
    refine lv_iconst (v := (0 : Int32)) hx hb dd_RG_scrub_16 (by decide) ?_
    refine lv_istore_n (lv' := [(3, .int (0 : Int32)), (2, .ref a0), (0, .ref ah), (1, .int x)]) hx hb dd_RG_scrub_17 rfl hl (by decide) rfl (fun ls hl => ?_)
    refine lv_iconst (v := (0 : Int32)) hx hb dd_RG_scrub_18 (by decide) ?_
    refine lv_istore (lv' := [(4, .int (0 : Int32)), (3, .int (0 : Int32)), (2, .ref a0), (0, .ref ah), (1, .int x)]) hx hb dd_RG_scrub_19 hl (by decide) rfl (fun ls hl => ?_)
    have lp21 : ∀ (k : Nat) (j : Nat) (v3 : Int32) (ct : Nat → Int32) (th : Int32) (ls : Array Slot) (H : Heap) (locs : List Loc), j + k = n → mm_RG_scrub_L21 fl k j v3 ct th = res → lv_has ls 5 [(4, .int (nI j)), (3, .int v3), (2, .ref a0), (0, .ref ah), (1, .int x)] → va_P D cl_all (ws_LJ K ah ac ar ap aq ax au ak a0 aw af az n fn lf rb gr ro sr sv up ct al th wr fl sf t1 t2 t3 t4 t5 t6) H → va_D A (ws_LJ K ah ac ar ap aq ax au ak a0 aw af az n fn lf rb gr ro sr sv up ct al th wr fl sf t1 t2 t3 t4 t5 t6) → va_S A s.heap H locs → W p l e R s m av below meth c H locs 0 0 Q (F0 m 21 ls []) := by
      intro k
      induction k with
      | zero =>
        intro j v3 ct th ls H locs hjk21 hM hl hP hD hS
        have hj0 : j = n := by omega
        subst j
        rw [mm_RG_scrub_L21] at hM
        refine lv_iload hx hb dd_RG_scrub_21 (lv_at hl 0 rfl) ?_
        refine lv_aload_n hx hb dd_RG_scrub_23 rfl (lv_at hl 3 rfl) ?_
        refine ly_get (v := .ref ac) C hP 0 rfl uw_RG rfl 0 (by decide) wa_44 rfl dd_RG_scrub_24 ?_
        refine ly_getN (v := .int (nI n)) C hP 1 rfl uw_Co rfl 0 (by decide) nw_1 rfl dd_RG_scrub_27 ?_
        refine lv_icmp_ge (tgt := 61) hx hb dd_RG_scrub_30 (by decide) (fun _ => ?_) (fun h => absurd (nI_le (a := n) (b := n) (by omega) (by omega)) h)
        refine lv_iload_n hx hb dd_RG_scrub_61 rfl (lv_at hl 1 rfl) ?_
        exact ret (v3, ct, th) H locs 62 ls hM rfl hS hP hD dd_RG_scrub_62
      | succ k ih21 =>
        intro j v3 ct th ls H locs hjk21 hM hl hP hD hS
        rw [mm_RG_scrub_L21] at hM
        refine lv_iload hx hb dd_RG_scrub_21 (lv_at hl 0 rfl) ?_
        refine lv_aload_n hx hb dd_RG_scrub_23 rfl (lv_at hl 3 rfl) ?_
        refine ly_get (v := .ref ac) C hP 0 rfl uw_RG rfl 0 (by decide) wa_44 rfl dd_RG_scrub_24 ?_
        refine ly_getN (v := .int (nI n)) C hP 1 rfl uw_Co rfl 0 (by decide) nw_1 rfl dd_RG_scrub_27 ?_
        refine lv_icmp_ge (tgt := 61) hx hb dd_RG_scrub_30 (by decide) (fun h => absurd h (nI_ge (a := j) (b := n) (by omega) (by omega))) (fun _ => ?_)
        refine lv_aload_n hx hb dd_RG_scrub_33 rfl (lv_at hl 2 rfl) ?_
        refine lv_iload hx hb dd_RG_scrub_34 (lv_at hl 0 rfl) ?_
        obtain ⟨r_36, hq36⟩ : ∃ z, z = mm_Sq_isThere j th := ⟨_, rfl⟩
        try rw [← hq36] at hM
        refine ly_cV_i (n := 1) (z := r_36) (rest := []) (wn := (ws_LJ K ah ac ar ap aq ax au ak a0 aw af az n fn lf rb gr ro sr sv up ct al th wr fl sf t1 t2 t3 t4 t5 t6)) C (cc_Sq_isThere D K a0 aw af j n fn al th wr fl (by omega) (by omega)) hq36 wa_244 wa_64 wa_53 wa_65 wa_66 (by decide) (Nat.le_trans (by decide) hRf) (Nat.le_trans (by decide) hRl) rfl hl.1 rfl (Nat.le_of_ble_eq_true rfl) dd_RG_scrub_36 hcs [8, 9, 10] [0, 1, 2, 3, 4, 5, 6, 7, 11, 12, 13, 14, 15, 16, 17] [0, 1, 2, 3, 4, 5, 6, 7, 15, 16, 17, 8, 9, 10, 11, 12, 13, 14] hP hD hS rfl rfl (by decide) rfl rfl rfl (fun H locs hP hD hS => ?_)
        refine W.eq (g2 := F0 m 39 ls [.int r_36]) rfl ?_
        refine lv_if_eq (tgt := 55) hx hb dd_RG_scrub_39 (by decide) (fun h39 => ?_) (fun h39 => ?_)
        · rw [if_pos h39] at hM
          refine lv_iinc (k := 0) (v := (nI (j + 1))) (lv' := [(4, .int (nI (j + 1))), (3, .int v3), (2, .ref a0), (0, .ref ah), (1, .int x)]) hx hb dd_RG_scrub_55 hl rfl (ly_incN _) (by decide) rfl (fun ls hl => ?_)
          refine lv_goto (tgt := 21) hx hb dd_RG_scrub_58 (by decide) ?_
          exact ih21 (j + 1) v3 ct th ls H locs (by omega) hM (lv_sub hl [0, 1, 2, 3, 4] rfl) hP hD hS
        · rw [if_neg h39] at hM
          refine lv_aload_n hx hb dd_RG_scrub_42 rfl (lv_at hl 3 rfl) ?_
          refine lv_aload_n hx hb dd_RG_scrub_43 rfl (lv_at hl 2 rfl) ?_
          refine lv_iload hx hb dd_RG_scrub_44 (lv_at hl 0 rfl) ?_
          obtain ⟨⟨r_46, ct_46, th_46⟩, hq46⟩ : ∃ z, z = mm_RG_readShard j ct th fl := ⟨_, rfl⟩
          try rw [← hq46] at hM
          try dsimp only at hM
          refine ly_cV_i (n := 2) (z := (r_46, ct_46, th_46)) (rest := []) (wn := (ws_LJ K ah ac ar ap aq ax au ak a0 aw af az n fn lf rb gr ro sr sv up ct_46 al th_46 wr fl sf t1 t2 t3 t4 t5 t6)) C (cc_RG_readShard D K ah ac ar ap aq ax au ak a0 aw af az j n fn lf rb gr ro sr sv up ct al th wr fl (by omega) (by omega) (by omega) (by omega)) hq46 wa_135 wa_67 wa_62 wa_68 wa_69 (by decide) (Nat.le_trans (by decide) hRf) (Nat.le_trans (by decide) hRl) rfl hl.1 rfl (Nat.le_of_ble_eq_true rfl) dd_RG_scrub_46 hcs [0, 1, 2, 3, 4, 5, 6, 7, 8, 9, 10] [11, 12, 13, 14, 15, 16, 17] [7, 8, 9, 10, 11, 12, 13, 14, 15, 16, 17, 0, 1, 2, 3, 4, 5, 6] hP hD hS rfl rfl (by decide) rfl rfl rfl (fun H locs hP hD hS => ?_)
          refine W.eq (g2 := F0 m 49 ls [.int r_46]) rfl ?_
          refine lv_if_ne (tgt := 55) hx hb dd_RG_scrub_49 (by decide) (fun h49 => ?_) (fun h49 => ?_)
          · rw [if_neg h49] at hM
            refine lv_iinc (k := 0) (v := (nI (j + 1))) (lv' := [(4, .int (nI (j + 1))), (3, .int v3), (2, .ref a0), (0, .ref ah), (1, .int x)]) hx hb dd_RG_scrub_55 hl rfl (ly_incN _) (by decide) rfl (fun ls hl => ?_)
            refine lv_goto (tgt := 21) hx hb dd_RG_scrub_58 (by decide) ?_
            exact ih21 (j + 1) v3 ct_46 th_46 ls H locs (by omega) hM (lv_sub hl [0, 1, 2, 3, 4] rfl) hP hD hS
          · rw [if_pos h49] at hM
            refine lv_iinc (k := 1) (v := (v3 + 1)) (lv' := [(3, .int (v3 + 1)), (4, .int (nI j)), (2, .ref a0), (0, .ref ah), (1, .int x)]) hx hb dd_RG_scrub_52 hl rfl (ly_inc _) (by decide) rfl (fun ls hl => ?_)
            refine lv_iinc (k := 1) (v := (nI (j + 1))) (lv' := [(4, .int (nI (j + 1))), (3, .int (v3 + 1)), (2, .ref a0), (0, .ref ah), (1, .int x)]) hx hb dd_RG_scrub_55 hl rfl (ly_incN _) (by decide) rfl (fun ls hl => ?_)
            refine lv_goto (tgt := 21) hx hb dd_RG_scrub_58 (by decide) ?_
            exact ih21 (j + 1) (v3 + 1) ct_46 th_46 ls H locs (by omega) hM (lv_sub hl [0, 1, 2, 3, 4] rfl) hP hD hS
    exact lp21 n 0 (0 : Int32) ct th ls H locs (by omega) hM (lv_sub hl [0, 1, 2, 3, 4] rfl) hP hD hS
  · rw [if_pos h4] at hM
    refine lv_iconst (v := (-1 : Int32)) hx hb dd_RG_scrub_7 (by decide) ?_
    exact ret ((-1 : Int32), ct, th) H locs 8 ls hM rfl hS hP hD dd_RG_scrub_8

def mm_RG_cost (x : Int32) (y : Int32) (n : Nat) (gr : Int32) (ro : Nat → Int64) (sr : Nat → Int64) (sv : Nat → Int64) (al : Int32) (th : Int32) : Int32 × (Nat → Int64) × (Nat → Int64) := (if (mm_RG_isShard x y n) = (0 : Int32) then ((-1 : Int32), sr, sv) else (if (mm_Sq_isThere (y.toNatClampNeg) th) = (0 : Int32) then (match mm_RG_choosePlan (y.toNatClampNeg) n gr ro sr sv al th with | (r_34, sr_34, sv_34) => (if r_34 = (0 : Int32) then ((-4 : Int32), sr_34, sv_34) else ((mm_In_bitCount r_34), sr_34, sv_34))) else ((0 : Int32), sr, sv)))
set_option maxHeartbeats 4000000 in
set_option maxRecDepth 100000 in
theorem cc_RG_cost {l : Launch} (D : va_G) (K : Nat → ClassId) (ah ac ar ap aq ax au ak a0 aw af az : Nat) (x : Int32) (y : Int32) (n : Nat) (fn : Nat) (lf : Int64) (rb : Int64) (gr : Int32) (ro : Nat → Int64) (sr : Nat → Int64) (sv : Nat → Int64) (up : Nat → Int32) (ct : Nat → Int32) (al : Int32) (th : Int32) (wr : Nat → Int64) (fl : Nat → Int64) (sf : Nat → Option Nat) (t1 : Nat × va_E) (t2 : Nat × va_E) (t3 : Nat × va_E) (t4 : Nat × va_E) (t5 : Nat × va_E) (t6 : Nat × va_E) (hn : n ≤ 11) (hn6 : 6 ≤ n) (hfn : fn ≤ 10) (hsf : ∀ j, j < 3 → x = nI j → sf j = some a0) : ly_i l yy_RG_cost bb_RG_cost 4 (some .int) 5 131 D K [.ref ah, .int x, .int y] (ws_LJ K ah ac ar ap aq ax au ak a0 aw af az n fn lf rb gr ro sr sv up ct al th wr fl sf t1 t2 t3 t4 t5 t6) (fun z => z.1) (fun z => (ws_LJ K ah ac ar ap aq ax au ak a0 aw af az n fn lf rb gr ro (z.2.1) (z.2.2) up ct al th wr fl sf t1 t2 t3 t4 t5 t6)) (mm_RG_cost x y n gr ro sr sv al th) := by
  refine ly_entI (by decide) (Nat.le_of_ble_eq_true rfl) ?_
  intro p e s m av below meth c A ls R Q H locs res hM C hRf hRl hS hP hD hl ret
  obtain ⟨hx, hb, -⟩ := id C
  have hcs : 0 ≤ R.cells ∧ 0 ≤ R.slots := ⟨Nat.zero_le _, Nat.zero_le _⟩
  have hl : lv_has ls 4 [(0, .ref ah), (1, .int x), (2, .int y)] := hl
  rw [mm_RG_cost] at hM
  refine lv_aload_n hx hb dd_RG_cost_0 rfl (lv_at hl 0 rfl) ?_
  refine lv_iload_n hx hb dd_RG_cost_1 rfl (lv_at hl 1 rfl) ?_
  refine lv_iload_n hx hb dd_RG_cost_2 rfl (lv_at hl 2 rfl) ?_
  obtain ⟨r_3, hq3⟩ : ∃ z, z = mm_RG_isShard x y n := ⟨_, rfl⟩
  try rw [← hq3] at hM
  refine ly_cV_i (n := 2) (z := r_3) (rest := []) (wn := (ws_LJ K ah ac ar ap aq ax au ak a0 aw af az n fn lf rb gr ro sr sv up ct al th wr fl sf t1 t2 t3 t4 t5 t6)) C (cc_RG_isShard D K ah ac ap az au ak ar x y n lf rb gr (by omega)) hq3 wa_133 wa_80 wa_62 wa_81 wa_82 (by decide) (Nat.le_trans (by decide) hRf) (Nat.le_trans (by decide) hRl) rfl hl.1 rfl (Nat.le_of_ble_eq_true rfl) dd_RG_cost_3 hcs [0, 1] [2, 3, 4, 5, 6, 7, 8, 9, 10, 11, 12, 13, 14, 15, 16, 17] [16, 17, 0, 1, 2, 3, 4, 5, 6, 7, 8, 9, 10, 11, 12, 13, 14, 15] hP hD hS rfl rfl (by decide) rfl rfl rfl (fun H locs hP hD hS => ?_)
  refine W.eq (g2 := F0 m 6 ls [.int r_3]) rfl ?_
  refine lv_if_ne (tgt := 11) hx hb dd_RG_cost_6 (by decide) (fun h6 => ?_) (fun h6 => ?_)
  · rw [if_neg h6] at hM
    obtain ⟨sj, hsj, hse, i, hi, rfl⟩ := in_isShard hn hq3 h6
    try rw [nI_clamp (n := i) (by omega)] at hM
    refine lv_aload_n hx hb dd_RG_cost_11 rfl (lv_at hl 0 rfl) ?_
    refine ly_get (v := .ref az) C hP 0 rfl uw_RG rfl 2 (by decide) wa_51 rfl dd_RG_cost_12 ?_
    refine lv_iload_n hx hb dd_RG_cost_15 rfl (lv_at hl 1 rfl) ?_
    refine ly_aldq (b := a0) C hP 11 rfl rfl sj hse hsj (by omega) (hsf sj hsj hse) dd_RG_cost_16 ?_
    refine lv_iload_n hx hb dd_RG_cost_17 rfl (lv_at hl 2 rfl) ?_
    obtain ⟨r_18, hq18⟩ : ∃ z, z = mm_Sq_isThere i th := ⟨_, rfl⟩
    try rw [← hq18] at hM
    refine ly_cV_i (n := 1) (z := r_18) (rest := []) (wn := (ws_LJ K ah ac ar ap aq ax au ak a0 aw af az n fn lf rb gr ro sr sv up ct al th wr fl sf t1 t2 t3 t4 t5 t6)) C (cc_Sq_isThere D K a0 aw af i n fn al th wr fl (by omega) (by omega)) hq18 wa_244 wa_64 wa_53 wa_65 wa_66 (by decide) (Nat.le_trans (by decide) hRf) (Nat.le_trans (by decide) hRl) rfl hl.1 rfl (Nat.le_of_ble_eq_true rfl) dd_RG_cost_18 hcs [8, 9, 10] [0, 1, 2, 3, 4, 5, 6, 7, 11, 12, 13, 14, 15, 16, 17] [0, 1, 2, 3, 4, 5, 6, 7, 15, 16, 17, 8, 9, 10, 11, 12, 13, 14] hP hD hS rfl rfl (by decide) rfl rfl rfl (fun H locs hP hD hS => ?_)
    refine W.eq (g2 := F0 m 21 ls [.int r_18]) rfl ?_
    refine lv_if_eq (tgt := 26) hx hb dd_RG_cost_21 (by decide) (fun h21 => ?_) (fun h21 => ?_)
    · rw [if_pos h21] at hM
      refine lv_aload_n hx hb dd_RG_cost_26 rfl (lv_at hl 0 rfl) ?_
      refine lv_aload_n hx hb dd_RG_cost_27 rfl (lv_at hl 0 rfl) ?_
      refine ly_get (v := .ref az) C hP 0 rfl uw_RG rfl 2 (by decide) wa_51 rfl dd_RG_cost_28 ?_
      refine lv_iload_n hx hb dd_RG_cost_31 rfl (lv_at hl 1 rfl) ?_
      refine ly_aldq (b := a0) C hP 11 rfl rfl sj hse hsj (by omega) (hsf sj hsj hse) dd_RG_cost_32 ?_
      refine lv_iload_n hx hb dd_RG_cost_33 rfl (lv_at hl 2 rfl) ?_
      obtain ⟨⟨r_34, sr_34, sv_34⟩, hq34⟩ : ∃ z, z = mm_RG_choosePlan i n gr ro sr sv al th := ⟨_, rfl⟩
      try rw [← hq34] at hM
      try dsimp only at hM
      refine ly_cV_i (n := 2) (z := (r_34, sr_34, sv_34)) (rest := []) (wn := (ws_LJ K ah ac ar ap aq ax au ak a0 aw af az n fn lf rb gr ro sr_34 sv_34 up ct al th wr fl sf t1 t2 t3 t4 t5 t6)) C (cc_RG_choosePlan D K ah ac ar ap aq ax au ak a0 aw af az i n fn lf rb gr ro sr sv up ct al th wr fl (by omega) (by omega) (by omega) (by omega)) hq34 wa_178 wa_113 wa_62 wa_114 wa_115 (by decide) (Nat.le_trans (by decide) hRf) (Nat.le_trans (by decide) hRl) rfl hl.1 rfl (Nat.le_of_ble_eq_true rfl) dd_RG_cost_34 hcs [0, 1, 2, 3, 4, 5, 6, 7, 8, 9, 10] [11, 12, 13, 14, 15, 16, 17] [7, 8, 9, 10, 11, 12, 13, 14, 15, 16, 17, 0, 1, 2, 3, 4, 5, 6] hP hD hS rfl rfl (by decide) rfl rfl rfl (fun H locs hP hD hS => ?_)
      refine W.eq (g2 := F0 m 37 ls [.int r_34]) rfl ?_
      refine lv_istore_n (lv' := [(3, .int r_34), (0, .ref ah), (1, .int x), (2, .int (nI i))]) hx hb dd_RG_cost_37 rfl hl (by decide) rfl (fun ls hl => ?_)
      refine lv_iload_n hx hb dd_RG_cost_38 rfl (lv_at hl 0 rfl) ?_
      refine lv_if_ne (tgt := 47) hx hb dd_RG_cost_39 (by decide) (fun h39 => ?_) (fun h39 => ?_)
      · rw [if_neg h39] at hM
        refine lv_iload_n hx hb dd_RG_cost_47 rfl (lv_at hl 0 rfl) ?_
        obtain ⟨r_48, hq48⟩ : ∃ z, z = mm_In_bitCount r_34 := ⟨_, rfl⟩
        try rw [← hq48] at hM
        refine ly_cS_i (n := 1) (z := r_48) (rest := []) (wn := (ws_LJ K ah ac ar ap aq ax au ak a0 aw af az n fn lf rb gr ro sr_34 sv_34 up ct al th wr fl sf t1 t2 t3 t4 t5 t6)) C (cc_In_bitCount D K r_34) hq48 wa_486 wa_116 wa_117 wa_118 (by decide) (Nat.le_trans (by decide) hRf) (Nat.le_trans (by decide) hRl) rfl hl.1 rfl (Nat.le_of_ble_eq_true rfl) dd_RG_cost_48 hcs [] [0, 1, 2, 3, 4, 5, 6, 7, 8, 9, 10, 11, 12, 13, 14, 15, 16, 17] [0, 1, 2, 3, 4, 5, 6, 7, 8, 9, 10, 11, 12, 13, 14, 15, 16, 17] hP hD hS rfl rfl (by decide) rfl (fun H locs hP hD hS => ?_)
        refine W.eq (g2 := F0 m 51 ls [.int r_48]) rfl ?_
        exact ret (r_48, sr_34, sv_34) H locs 51 ls hM rfl hS hP hD dd_RG_cost_51
      · rw [if_pos h39] at hM
        refine lv_bipush (v := (-4 : Int32)) hx hb dd_RG_cost_42 (by decide) ?_
        refine lv_goto (tgt := 51) hx hb dd_RG_cost_44 (by decide) ?_
        exact ret ((-4 : Int32), sr_34, sv_34) H locs 51 ls hM rfl hS hP hD dd_RG_cost_51
    · rw [if_neg h21] at hM
      refine lv_iconst (v := (0 : Int32)) hx hb dd_RG_cost_24 (by decide) ?_
      exact ret ((0 : Int32), sr, sv) H locs 25 ls hM rfl hS hP hD dd_RG_cost_25
  · rw [if_pos h6] at hM
    refine lv_iconst (v := (-1 : Int32)) hx hb dd_RG_cost_9 (by decide) ?_
    exact ret ((-1 : Int32), sr, sv) H locs 10 ls hM rfl hS hP hD dd_RG_cost_10

def mm_RG_rank (x : Int32) (n : Nat) (ro : Nat → Int64) (sr : Nat → Int64) (sv : Nat → Int64) (th : Int32) : Int32 × (Nat → Int64) × (Nat → Int64) := (if (mm_RG_isStripe x) = (0 : Int32) then ((-1 : Int32), sr, sv) else (match mm_RG_independentShards n ro sr sv th with | (r_16, sr_16, sv_16) => ((mm_In_bitCount r_16), sr_16, sv_16)))
set_option maxHeartbeats 4000000 in
set_option maxRecDepth 100000 in
theorem cc_RG_rank {l : Launch} (D : va_G) (K : Nat → ClassId) (ah ac ar ap aq ax au ak a0 aw af az : Nat) (x : Int32) (n : Nat) (fn : Nat) (lf : Int64) (rb : Int64) (gr : Int32) (ro : Nat → Int64) (sr : Nat → Int64) (sv : Nat → Int64) (up : Nat → Int32) (ct : Nat → Int32) (al : Int32) (th : Int32) (wr : Nat → Int64) (fl : Nat → Int64) (sf : Nat → Option Nat) (t1 : Nat × va_E) (t2 : Nat × va_E) (t3 : Nat × va_E) (t4 : Nat × va_E) (t5 : Nat × va_E) (t6 : Nat × va_E) (hn : n ≤ 11) (hn6 : 6 ≤ n) (hfn : fn ≤ 10) (hsf : ∀ j, j < 3 → x = nI j → sf j = some a0) : ly_i l yy_RG_rank bb_RG_rank 2 (some .int) 4 108 D K [.ref ah, .int x] (ws_LJ K ah ac ar ap aq ax au ak a0 aw af az n fn lf rb gr ro sr sv up ct al th wr fl sf t1 t2 t3 t4 t5 t6) (fun z => z.1) (fun z => (ws_LJ K ah ac ar ap aq ax au ak a0 aw af az n fn lf rb gr ro (z.2.1) (z.2.2) up ct al th wr fl sf t1 t2 t3 t4 t5 t6)) (mm_RG_rank x n ro sr sv th) := by
  refine ly_entI (by decide) (Nat.le_of_ble_eq_true rfl) ?_
  intro p e s m av below meth c A ls R Q H locs res hM C hRf hRl hS hP hD hl ret
  obtain ⟨hx, hb, -⟩ := id C
  have hcs : 0 ≤ R.cells ∧ 0 ≤ R.slots := ⟨Nat.zero_le _, Nat.zero_le _⟩
  have hl : lv_has ls 2 [(0, .ref ah), (1, .int x)] := hl
  rw [mm_RG_rank] at hM
  refine lv_iload_n hx hb dd_RG_rank_0 rfl (lv_at hl 1 rfl) ?_
  obtain ⟨r_1, hq1⟩ : ∃ z, z = mm_RG_isStripe x := ⟨_, rfl⟩
  try rw [← hq1] at hM
  refine ly_cS_i (n := 1) (z := r_1) (rest := []) (wn := (ws_LJ K ah ac ar ap aq ax au ak a0 aw af az n fn lf rb gr ro sr sv up ct al th wr fl sf t1 t2 t3 t4 t5 t6)) C (cc_RG_isStripe D K x) hq1 wa_132 wa_61 wa_62 wa_63 (by decide) (Nat.le_trans (by decide) hRf) (Nat.le_trans (by decide) hRl) rfl hl.1 rfl (Nat.le_of_ble_eq_true rfl) dd_RG_rank_1 hcs [] [0, 1, 2, 3, 4, 5, 6, 7, 8, 9, 10, 11, 12, 13, 14, 15, 16, 17] [0, 1, 2, 3, 4, 5, 6, 7, 8, 9, 10, 11, 12, 13, 14, 15, 16, 17] hP hD hS rfl rfl (by decide) rfl (fun H locs hP hD hS => ?_)
  refine W.eq (g2 := F0 m 4 ls [.int r_1]) rfl ?_
  refine lv_if_ne (tgt := 9) hx hb dd_RG_rank_4 (by decide) (fun h4 => ?_) (fun h4 => ?_)
  · rw [if_neg h4] at hM
    obtain ⟨sj, hsj, hse⟩ := in_isStripe hq1 h4
    refine lv_aload_n hx hb dd_RG_rank_9 rfl (lv_at hl 0 rfl) ?_
    refine lv_aload_n hx hb dd_RG_rank_10 rfl (lv_at hl 0 rfl) ?_
    refine ly_get (v := .ref az) C hP 0 rfl uw_RG rfl 2 (by decide) wa_51 rfl dd_RG_rank_11 ?_
    refine lv_iload_n hx hb dd_RG_rank_14 rfl (lv_at hl 1 rfl) ?_
    refine ly_aldq (b := a0) C hP 11 rfl rfl sj hse hsj (by omega) (hsf sj hsj hse) dd_RG_rank_15 ?_
    obtain ⟨⟨r_16, sr_16, sv_16⟩, hq16⟩ : ∃ z, z = mm_RG_independentShards n ro sr sv th := ⟨_, rfl⟩
    try rw [← hq16] at hM
    try dsimp only at hM
    refine ly_cV_i (n := 1) (z := (r_16, sr_16, sv_16)) (rest := []) (wn := (ws_LJ K ah ac ar ap aq ax au ak a0 aw af az n fn lf rb gr ro sr_16 sv_16 up ct al th wr fl sf t1 t2 t3 t4 t5 t6)) C (cc_RG_independentShards D K ah ac ar ap aq ax au ak a0 aw af az n fn lf rb gr ro sr sv up ct al th wr fl (by omega) (by omega) (by omega)) hq16 wa_189 wa_120 wa_62 wa_121 wa_122 (by decide) (Nat.le_trans (by decide) hRf) (Nat.le_trans (by decide) hRl) rfl hl.1 rfl (Nat.le_of_ble_eq_true rfl) dd_RG_rank_16 hcs [0, 1, 2, 3, 4, 5, 6, 7, 8, 9, 10] [11, 12, 13, 14, 15, 16, 17] [7, 8, 9, 10, 11, 12, 13, 14, 15, 16, 17, 0, 1, 2, 3, 4, 5, 6] hP hD hS rfl rfl (by decide) rfl rfl rfl (fun H locs hP hD hS => ?_)
    refine W.eq (g2 := F0 m 19 ls [.int r_16]) rfl ?_
    obtain ⟨r_19, hq19⟩ : ∃ z, z = mm_In_bitCount r_16 := ⟨_, rfl⟩
    try rw [← hq19] at hM
    refine ly_cS_i (n := 1) (z := r_19) (rest := []) (wn := (ws_LJ K ah ac ar ap aq ax au ak a0 aw af az n fn lf rb gr ro sr_16 sv_16 up ct al th wr fl sf t1 t2 t3 t4 t5 t6)) C (cc_In_bitCount D K r_16) hq19 wa_486 wa_116 wa_117 wa_118 (by decide) (Nat.le_trans (by decide) hRf) (Nat.le_trans (by decide) hRl) rfl hl.1 rfl (Nat.le_of_ble_eq_true rfl) dd_RG_rank_19 hcs [] [0, 1, 2, 3, 4, 5, 6, 7, 8, 9, 10, 11, 12, 13, 14, 15, 16, 17] [0, 1, 2, 3, 4, 5, 6, 7, 8, 9, 10, 11, 12, 13, 14, 15, 16, 17] hP hD hS rfl rfl (by decide) rfl (fun H locs hP hD hS => ?_)
    refine W.eq (g2 := F0 m 22 ls [.int r_19]) rfl ?_
    exact ret (r_19, sr_16, sv_16) H locs 22 ls hM rfl hS hP hD dd_RG_rank_22
  · rw [if_pos h4] at hM
    refine lv_iconst (v := (-1 : Int32)) hx hb dd_RG_rank_7 (by decide) ?_
    exact ret ((-1 : Int32), sr, sv) H locs 8 ls hM rfl hS hP hD dd_RG_rank_8

def mm_RG_lost (x : Int32) (al : Int32) (th : Int32) : Int32 := (if (mm_RG_isStripe x) = (0 : Int32) then (-1 : Int32) else (mm_Sq_lostMask al th))
set_option maxHeartbeats 4000000 in
set_option maxRecDepth 100000 in
theorem cc_RG_lost {l : Launch} (D : va_G) (K : Nat → ClassId) (ah ac ar ap aq ax au ak a0 aw af az : Nat) (x : Int32) (n : Nat) (fn : Nat) (lf : Int64) (rb : Int64) (gr : Int32) (ro : Nat → Int64) (sr : Nat → Int64) (sv : Nat → Int64) (up : Nat → Int32) (ct : Nat → Int32) (al : Int32) (th : Int32) (wr : Nat → Int64) (fl : Nat → Int64) (sf : Nat → Option Nat) (t1 : Nat × va_E) (t2 : Nat × va_E) (t3 : Nat × va_E) (t4 : Nat × va_E) (t5 : Nat × va_E) (t6 : Nat × va_E) (hn : n ≤ 11) (hn6 : 6 ≤ n) (hfn : fn ≤ 10) (hsf : ∀ j, j < 3 → x = nI j → sf j = some a0) : ly_i l yy_RG_lost bb_RG_lost 2 (some .int) 1 20 D K [.ref ah, .int x] (ws_LJ K ah ac ar ap aq ax au ak a0 aw af az n fn lf rb gr ro sr sv up ct al th wr fl sf t1 t2 t3 t4 t5 t6) (fun z => z) (fun _ => (ws_LJ K ah ac ar ap aq ax au ak a0 aw af az n fn lf rb gr ro sr sv up ct al th wr fl sf t1 t2 t3 t4 t5 t6)) (mm_RG_lost x al th) := by
  refine ly_entI (by decide) (Nat.le_of_ble_eq_true rfl) ?_
  intro p e s m av below meth c A ls R Q H locs res hM C hRf hRl hS hP hD hl ret
  obtain ⟨hx, hb, -⟩ := id C
  have hcs : 0 ≤ R.cells ∧ 0 ≤ R.slots := ⟨Nat.zero_le _, Nat.zero_le _⟩
  have hl : lv_has ls 2 [(0, .ref ah), (1, .int x)] := hl
  rw [mm_RG_lost] at hM
  refine lv_iload_n hx hb dd_RG_lost_0 rfl (lv_at hl 1 rfl) ?_
  obtain ⟨r_1, hq1⟩ : ∃ z, z = mm_RG_isStripe x := ⟨_, rfl⟩
  try rw [← hq1] at hM
  refine ly_cS_i (n := 1) (z := r_1) (rest := []) (wn := (ws_LJ K ah ac ar ap aq ax au ak a0 aw af az n fn lf rb gr ro sr sv up ct al th wr fl sf t1 t2 t3 t4 t5 t6)) C (cc_RG_isStripe D K x) hq1 wa_132 wa_61 wa_62 wa_63 (by decide) (Nat.le_trans (by decide) hRf) (Nat.le_trans (by decide) hRl) rfl hl.1 rfl (Nat.le_of_ble_eq_true rfl) dd_RG_lost_1 hcs [] [0, 1, 2, 3, 4, 5, 6, 7, 8, 9, 10, 11, 12, 13, 14, 15, 16, 17] [0, 1, 2, 3, 4, 5, 6, 7, 8, 9, 10, 11, 12, 13, 14, 15, 16, 17] hP hD hS rfl rfl (by decide) rfl (fun H locs hP hD hS => ?_)
  refine W.eq (g2 := F0 m 4 ls [.int r_1]) rfl ?_
  refine lv_if_eq (tgt := 19) hx hb dd_RG_lost_4 (by decide) (fun h4 => ?_) (fun h4 => ?_)
  · rw [if_pos h4] at hM
    refine lv_iconst (v := (-1 : Int32)) hx hb dd_RG_lost_19 (by decide) ?_
    exact ret (-1 : Int32) H locs 20 ls hM rfl hS hP hD dd_RG_lost_20
  · rw [if_neg h4] at hM
    obtain ⟨sj, hsj, hse⟩ := in_isStripe hq1 h4
    refine lv_aload_n hx hb dd_RG_lost_7 rfl (lv_at hl 0 rfl) ?_
    refine ly_get (v := .ref az) C hP 0 rfl uw_RG rfl 2 (by decide) wa_51 rfl dd_RG_lost_8 ?_
    refine lv_iload_n hx hb dd_RG_lost_11 rfl (lv_at hl 1 rfl) ?_
    refine ly_aldq (b := a0) C hP 11 rfl rfl sj hse hsj (by omega) (hsf sj hsj hse) dd_RG_lost_12 ?_
    obtain ⟨r_13, hq13⟩ : ∃ z, z = mm_Sq_lostMask al th := ⟨_, rfl⟩
    try rw [← hq13] at hM
    refine ly_cV_i (n := 0) (z := r_13) (rest := []) (wn := (ws_LJ K ah ac ar ap aq ax au ak a0 aw af az n fn lf rb gr ro sr sv up ct al th wr fl sf t1 t2 t3 t4 t5 t6)) C (cc_Sq_lostMask D K a0 aw af n fn al th wr fl (by omega) (by omega)) hq13 wa_245 wa_124 wa_53 wa_125 wa_126 (by decide) (Nat.le_trans (by decide) hRf) (Nat.le_trans (by decide) hRl) rfl hl.1 rfl (Nat.le_of_ble_eq_true rfl) dd_RG_lost_13 hcs [8, 9, 10] [0, 1, 2, 3, 4, 5, 6, 7, 11, 12, 13, 14, 15, 16, 17] [0, 1, 2, 3, 4, 5, 6, 7, 15, 16, 17, 8, 9, 10, 11, 12, 13, 14] hP hD hS rfl rfl (by decide) rfl rfl rfl (fun H locs hP hD hS => ?_)
    refine W.eq (g2 := F0 m 16 ls [.int r_13]) rfl ?_
    refine lv_goto (tgt := 20) hx hb dd_RG_lost_16 (by decide) ?_
    exact ret r_13 H locs 20 ls hM rfl hS hP hD dd_RG_lost_20

def mm_RG_content (x : Int32) (y : Int32) (n : Nat) (th : Int32) (wr : Nat → Int64) (fl : Nat → Int64) : Int64 := (if (mm_RG_isShard x y n) = (0 : Int32) then (0 : Int64) else (if (mm_Sq_isThere (y.toNatClampNeg) th) = (0 : Int32) then (0 : Int64) else (mm_Sq_held (y.toNatClampNeg) wr fl)))
set_option maxHeartbeats 4000000 in
set_option maxRecDepth 100000 in
theorem cc_RG_content {l : Launch} (D : va_G) (K : Nat → ClassId) (ah ac ar ap aq ax au ak a0 aw af az : Nat) (x : Int32) (y : Int32) (n : Nat) (fn : Nat) (lf : Int64) (rb : Int64) (gr : Int32) (ro : Nat → Int64) (sr : Nat → Int64) (sv : Nat → Int64) (up : Nat → Int32) (ct : Nat → Int32) (al : Int32) (th : Int32) (wr : Nat → Int64) (fl : Nat → Int64) (sf : Nat → Option Nat) (t1 : Nat × va_E) (t2 : Nat × va_E) (t3 : Nat × va_E) (t4 : Nat × va_E) (t5 : Nat × va_E) (t6 : Nat × va_E) (hn : n ≤ 11) (hn6 : 6 ≤ n) (hfn : fn ≤ 10) (hsf : ∀ j, j < 3 → x = nI j → sf j = some a0) : ly_l l yy_RG_content bb_RG_content 3 (some .long) 2 42 D K [.ref ah, .int x, .int y] (ws_LJ K ah ac ar ap aq ax au ak a0 aw af az n fn lf rb gr ro sr sv up ct al th wr fl sf t1 t2 t3 t4 t5 t6) (fun z => z) (fun _ => (ws_LJ K ah ac ar ap aq ax au ak a0 aw af az n fn lf rb gr ro sr sv up ct al th wr fl sf t1 t2 t3 t4 t5 t6)) (mm_RG_content x y n th wr fl) := by
  refine ly_entL (by decide) (Nat.le_of_ble_eq_true rfl) ?_
  intro p e s m av below meth c A ls R Q H locs res hM C hRf hRl hS hP hD hl ret
  obtain ⟨hx, hb, -⟩ := id C
  have hcs : 0 ≤ R.cells ∧ 0 ≤ R.slots := ⟨Nat.zero_le _, Nat.zero_le _⟩
  have hl : lv_has ls 3 [(0, .ref ah), (1, .int x), (2, .int y)] := hl
  rw [mm_RG_content] at hM
  refine lv_aload_n hx hb dd_RG_content_0 rfl (lv_at hl 0 rfl) ?_
  refine lv_iload_n hx hb dd_RG_content_1 rfl (lv_at hl 1 rfl) ?_
  refine lv_iload_n hx hb dd_RG_content_2 rfl (lv_at hl 2 rfl) ?_
  obtain ⟨r_3, hq3⟩ : ∃ z, z = mm_RG_isShard x y n := ⟨_, rfl⟩
  try rw [← hq3] at hM
  refine ly_cV_i (n := 2) (z := r_3) (rest := []) (wn := (ws_LJ K ah ac ar ap aq ax au ak a0 aw af az n fn lf rb gr ro sr sv up ct al th wr fl sf t1 t2 t3 t4 t5 t6)) C (cc_RG_isShard D K ah ac ap az au ak ar x y n lf rb gr (by omega)) hq3 wa_133 wa_80 wa_62 wa_81 wa_82 (by decide) (Nat.le_trans (by decide) hRf) (Nat.le_trans (by decide) hRl) rfl hl.1 rfl (Nat.le_of_ble_eq_true rfl) dd_RG_content_3 hcs [0, 1] [2, 3, 4, 5, 6, 7, 8, 9, 10, 11, 12, 13, 14, 15, 16, 17] [16, 17, 0, 1, 2, 3, 4, 5, 6, 7, 8, 9, 10, 11, 12, 13, 14, 15] hP hD hS rfl rfl (by decide) rfl rfl rfl (fun H locs hP hD hS => ?_)
  refine W.eq (g2 := F0 m 6 ls [.int r_3]) rfl ?_
  refine lv_if_eq (tgt := 35) hx hb dd_RG_content_6 (by decide) (fun h6 => ?_) (fun h6 => ?_)
  · rw [if_pos h6] at hM
    refine lv_lconst (v := (0 : Int64)) hx hb dd_RG_content_35 (by decide) ?_
    exact ret (0 : Int64) H locs 36 ls hM hS hP hD dd_RG_content_36
  · rw [if_neg h6] at hM
    obtain ⟨sj, hsj, hse, i, hi, rfl⟩ := in_isShard hn hq3 h6
    try rw [nI_clamp (n := i) (by omega)] at hM
    refine lv_aload_n hx hb dd_RG_content_9 rfl (lv_at hl 0 rfl) ?_
    refine ly_get (v := .ref az) C hP 0 rfl uw_RG rfl 2 (by decide) wa_51 rfl dd_RG_content_10 ?_
    refine lv_iload_n hx hb dd_RG_content_13 rfl (lv_at hl 1 rfl) ?_
    refine ly_aldq (b := a0) C hP 11 rfl rfl sj hse hsj (by omega) (hsf sj hsj hse) dd_RG_content_14 ?_
    refine lv_iload_n hx hb dd_RG_content_15 rfl (lv_at hl 2 rfl) ?_
    obtain ⟨r_16, hq16⟩ : ∃ z, z = mm_Sq_isThere i th := ⟨_, rfl⟩
    try rw [← hq16] at hM
    refine ly_cV_i (n := 1) (z := r_16) (rest := []) (wn := (ws_LJ K ah ac ar ap aq ax au ak a0 aw af az n fn lf rb gr ro sr sv up ct al th wr fl sf t1 t2 t3 t4 t5 t6)) C (cc_Sq_isThere D K a0 aw af i n fn al th wr fl (by omega) (by omega)) hq16 wa_244 wa_64 wa_53 wa_65 wa_66 (by decide) (Nat.le_trans (by decide) hRf) (Nat.le_trans (by decide) hRl) rfl hl.1 rfl (Nat.le_of_ble_eq_true rfl) dd_RG_content_16 hcs [8, 9, 10] [0, 1, 2, 3, 4, 5, 6, 7, 11, 12, 13, 14, 15, 16, 17] [0, 1, 2, 3, 4, 5, 6, 7, 15, 16, 17, 8, 9, 10, 11, 12, 13, 14] hP hD hS rfl rfl (by decide) rfl rfl rfl (fun H locs hP hD hS => ?_)
    refine W.eq (g2 := F0 m 19 ls [.int r_16]) rfl ?_
    refine lv_if_eq (tgt := 35) hx hb dd_RG_content_19 (by decide) (fun h19 => ?_) (fun h19 => ?_)
    · rw [if_pos h19] at hM
      refine lv_lconst (v := (0 : Int64)) hx hb dd_RG_content_35 (by decide) ?_
      exact ret (0 : Int64) H locs 36 ls hM hS hP hD dd_RG_content_36
    · rw [if_neg h19] at hM
      refine lv_aload_n hx hb dd_RG_content_22 rfl (lv_at hl 0 rfl) ?_
      refine ly_get (v := .ref az) C hP 0 rfl uw_RG rfl 2 (by decide) wa_51 rfl dd_RG_content_23 ?_
      refine lv_iload_n hx hb dd_RG_content_26 rfl (lv_at hl 1 rfl) ?_
      refine ly_aldq (b := a0) C hP 11 rfl rfl sj hse hsj (by omega) (hsf sj hsj hse) dd_RG_content_27 ?_
      refine lv_iload_n hx hb dd_RG_content_28 rfl (lv_at hl 2 rfl) ?_
      obtain ⟨r_29, hq29⟩ : ∃ z, z = mm_Sq_held i wr fl := ⟨_, rfl⟩
      try rw [← hq29] at hM
      refine ly_cV_l (n := 1) (z := r_29) (rest := []) (wn := (ws_LJ K ah ac ar ap aq ax au ak a0 aw af az n fn lf rb gr ro sr sv up ct al th wr fl sf t1 t2 t3 t4 t5 t6)) C (cc_Sq_held D K a0 aw af i n fn al th wr fl (by omega) (by omega) (by omega)) hq29 wa_247 wa_70 wa_53 wa_71 wa_72 (by decide) (Nat.le_trans (by decide) hRf) (Nat.le_trans (by decide) hRl) rfl hl.1 rfl (Nat.le_of_ble_eq_true rfl) dd_RG_content_29 hcs [8, 9, 10] [0, 1, 2, 3, 4, 5, 6, 7, 11, 12, 13, 14, 15, 16, 17] [0, 1, 2, 3, 4, 5, 6, 7, 15, 16, 17, 8, 9, 10, 11, 12, 13, 14] hP hD hS rfl rfl (by decide) rfl rfl rfl (fun H locs hP hD hS => ?_)
      refine W.eq (g2 := F0 m 32 ls [.long r_29]) rfl ?_
      refine lv_goto (tgt := 36) hx hb dd_RG_content_32 (by decide) ?_
      exact ret r_29 H locs 36 ls hM hS hP hD dd_RG_content_36

def mm_RG_node (x : Int32) (y : Int32) (n : Nat) (fn : Nat) : Int32 := (if (mm_RG_isShard x y n) = (0 : Int32) then (-1 : Int32) else (nI ((fn + (y.toNatClampNeg)) % 12)))
set_option maxHeartbeats 4000000 in
set_option maxRecDepth 100000 in
theorem cc_RG_node {l : Launch} (D : va_G) (K : Nat → ClassId) (ah ac ar ap aq ax au ak a0 aw af az : Nat) (x : Int32) (y : Int32) (n : Nat) (fn : Nat) (lf : Int64) (rb : Int64) (gr : Int32) (ro : Nat → Int64) (sr : Nat → Int64) (sv : Nat → Int64) (up : Nat → Int32) (ct : Nat → Int32) (al : Int32) (th : Int32) (wr : Nat → Int64) (fl : Nat → Int64) (sf : Nat → Option Nat) (t1 : Nat × va_E) (t2 : Nat × va_E) (t3 : Nat × va_E) (t4 : Nat × va_E) (t5 : Nat × va_E) (t6 : Nat × va_E) (hn : n ≤ 11) (hn6 : 6 ≤ n) (hfn : fn ≤ 10) (hsf : ∀ j, j < 3 → x = nI j → sf j = some a0) : ly_i l yy_RG_node bb_RG_node 3 (some .int) 2 42 D K [.ref ah, .int x, .int y] (ws_LJ K ah ac ar ap aq ax au ak a0 aw af az n fn lf rb gr ro sr sv up ct al th wr fl sf t1 t2 t3 t4 t5 t6) (fun z => z) (fun _ => (ws_LJ K ah ac ar ap aq ax au ak a0 aw af az n fn lf rb gr ro sr sv up ct al th wr fl sf t1 t2 t3 t4 t5 t6)) (mm_RG_node x y n fn) := by
  refine ly_entI (by decide) (Nat.le_of_ble_eq_true rfl) ?_
  intro p e s m av below meth c A ls R Q H locs res hM C hRf hRl hS hP hD hl ret
  obtain ⟨hx, hb, -⟩ := id C
  have hcs : 0 ≤ R.cells ∧ 0 ≤ R.slots := ⟨Nat.zero_le _, Nat.zero_le _⟩
  have hl : lv_has ls 3 [(0, .ref ah), (1, .int x), (2, .int y)] := hl
  rw [mm_RG_node] at hM
  refine lv_aload_n hx hb dd_RG_node_0 rfl (lv_at hl 0 rfl) ?_
  refine lv_iload_n hx hb dd_RG_node_1 rfl (lv_at hl 1 rfl) ?_
  refine lv_iload_n hx hb dd_RG_node_2 rfl (lv_at hl 2 rfl) ?_
  obtain ⟨r_3, hq3⟩ : ∃ z, z = mm_RG_isShard x y n := ⟨_, rfl⟩
  try rw [← hq3] at hM
  refine ly_cV_i (n := 2) (z := r_3) (rest := []) (wn := (ws_LJ K ah ac ar ap aq ax au ak a0 aw af az n fn lf rb gr ro sr sv up ct al th wr fl sf t1 t2 t3 t4 t5 t6)) C (cc_RG_isShard D K ah ac ap az au ak ar x y n lf rb gr (by omega)) hq3 wa_133 wa_80 wa_62 wa_81 wa_82 (by decide) (Nat.le_trans (by decide) hRf) (Nat.le_trans (by decide) hRl) rfl hl.1 rfl (Nat.le_of_ble_eq_true rfl) dd_RG_node_3 hcs [0, 1] [2, 3, 4, 5, 6, 7, 8, 9, 10, 11, 12, 13, 14, 15, 16, 17] [16, 17, 0, 1, 2, 3, 4, 5, 6, 7, 8, 9, 10, 11, 12, 13, 14, 15] hP hD hS rfl rfl (by decide) rfl rfl rfl (fun H locs hP hD hS => ?_)
  refine W.eq (g2 := F0 m 6 ls [.int r_3]) rfl ?_
  refine lv_if_eq (tgt := 22) hx hb dd_RG_node_6 (by decide) (fun h6 => ?_) (fun h6 => ?_)
  · rw [if_pos h6] at hM
    refine lv_iconst (v := (-1 : Int32)) hx hb dd_RG_node_22 (by decide) ?_
    exact ret (-1 : Int32) H locs 23 ls hM rfl hS hP hD dd_RG_node_23
  · rw [if_neg h6] at hM
    obtain ⟨sj, hsj, hse, i, hi, rfl⟩ := in_isShard hn hq3 h6
    try rw [nI_clamp (n := i) (by omega)] at hM
    refine lv_aload_n hx hb dd_RG_node_9 rfl (lv_at hl 0 rfl) ?_
    refine ly_get (v := .ref az) C hP 0 rfl uw_RG rfl 2 (by decide) wa_51 rfl dd_RG_node_10 ?_
    refine lv_iload_n hx hb dd_RG_node_13 rfl (lv_at hl 1 rfl) ?_
    refine ly_aldq (b := a0) C hP 11 rfl rfl sj hse hsj (by omega) (hsf sj hsj hse) dd_RG_node_14 ?_
    refine lv_iload_n hx hb dd_RG_node_15 rfl (lv_at hl 2 rfl) ?_
    refine ly_cV_i (n := 1) (z := (nI ((fn + i) % 12))) (rest := []) (wn := (ws_LJ K ah ac ar ap aq ax au ak a0 aw af az n fn lf rb gr ro sr sv up ct al th wr fl sf t1 t2 t3 t4 t5 t6)) C (cc_Sq_nodeOf D K a0 aw af i n fn al th wr fl (by omega) (by omega) (by omega)) rfl wa_243 wa_101 wa_53 wa_102 wa_103 (by decide) (Nat.le_trans (by decide) hRf) (Nat.le_trans (by decide) hRl) rfl hl.1 rfl (Nat.le_of_ble_eq_true rfl) dd_RG_node_16 hcs [8, 9, 10] [0, 1, 2, 3, 4, 5, 6, 7, 11, 12, 13, 14, 15, 16, 17] [0, 1, 2, 3, 4, 5, 6, 7, 15, 16, 17, 8, 9, 10, 11, 12, 13, 14] hP hD hS rfl rfl (by decide) rfl rfl rfl (fun H locs hP hD hS => ?_)
    refine W.eq (g2 := F0 m 19 ls [.int (nI ((fn + i) % 12))]) rfl ?_
    refine lv_goto (tgt := 23) hx hb dd_RG_node_19 (by decide) ?_
    exact ret (nI ((fn + i) % 12)) H locs 23 ls hM rfl hS hP hD dd_RG_node_23

def mm_RG_up (x : Int32) (up : Nat → Int32) : Int32 := (if (mm_RG_isNode x) = (0 : Int32) then (0 : Int32) else (if (up (x.toNatClampNeg)) = (0 : Int32) then (0 : Int32) else (1 : Int32)))
set_option maxHeartbeats 4000000 in
set_option maxRecDepth 100000 in
theorem cc_RG_up {l : Launch} (D : va_G) (K : Nat → ClassId) (ah ac ar ap aq ax au ak a0 aw af az : Nat) (x : Int32) (n : Nat) (fn : Nat) (lf : Int64) (rb : Int64) (gr : Int32) (ro : Nat → Int64) (sr : Nat → Int64) (sv : Nat → Int64) (up : Nat → Int32) (ct : Nat → Int32) (al : Int32) (th : Int32) (wr : Nat → Int64) (fl : Nat → Int64) (sf : Nat → Option Nat) (t1 : Nat × va_E) (t2 : Nat × va_E) (t3 : Nat × va_E) (t4 : Nat × va_E) (t5 : Nat × va_E) (t6 : Nat × va_E) (hn : n ≤ 11) (hn6 : 6 ≤ n) (hfn : fn ≤ 10) : ly_i l yy_RG_up bb_RG_up 2 (some .boolean) 1 20 D K [.ref ah, .int x] (ws_LJ K ah ac ar ap aq ax au ak a0 aw af az n fn lf rb gr ro sr sv up ct al th wr fl sf t1 t2 t3 t4 t5 t6) (fun z => z) (fun _ => (ws_LJ K ah ac ar ap aq ax au ak a0 aw af az n fn lf rb gr ro sr sv up ct al th wr fl sf t1 t2 t3 t4 t5 t6)) (mm_RG_up x up) := by
  refine ly_entI (by decide) (Nat.le_of_ble_eq_true rfl) ?_
  intro p e s m av below meth c A ls R Q H locs res hM C hRf hRl hS hP hD hl ret
  obtain ⟨hx, hb, -⟩ := id C
  have hcs : 0 ≤ R.cells ∧ 0 ≤ R.slots := ⟨Nat.zero_le _, Nat.zero_le _⟩
  have hl : lv_has ls 2 [(0, .ref ah), (1, .int x)] := hl
  rw [mm_RG_up] at hM
  refine lv_iload_n hx hb dd_RG_up_0 rfl (lv_at hl 1 rfl) ?_
  obtain ⟨r_1, hq1⟩ : ∃ z, z = mm_RG_isNode x := ⟨_, rfl⟩
  try rw [← hq1] at hM
  refine ly_cS_i (n := 1) (z := r_1) (rest := []) (wn := (ws_LJ K ah ac ar ap aq ax au ak a0 aw af az n fn lf rb gr ro sr sv up ct al th wr fl sf t1 t2 t3 t4 t5 t6)) C (cc_RG_isNode D K x) hq1 wa_134 wa_90 wa_62 wa_91 (by decide) (Nat.le_trans (by decide) hRf) (Nat.le_trans (by decide) hRl) rfl hl.1 rfl (Nat.le_of_ble_eq_true rfl) dd_RG_up_1 hcs [] [0, 1, 2, 3, 4, 5, 6, 7, 8, 9, 10, 11, 12, 13, 14, 15, 16, 17] [0, 1, 2, 3, 4, 5, 6, 7, 8, 9, 10, 11, 12, 13, 14, 15, 16, 17] hP hD hS rfl rfl (by decide) rfl (fun H locs hP hD hS => ?_)
  refine W.eq (g2 := F0 m 4 ls [.int r_1]) rfl ?_
  refine lv_if_eq (tgt := 20) hx hb dd_RG_up_4 (by decide) (fun h4 => ?_) (fun h4 => ?_)
  · rw [if_pos h4] at hM
    refine lv_iconst (v := (0 : Int32)) hx hb dd_RG_up_20 (by decide) ?_
    exact ret (0 : Int32) H locs 21 ls hM ly_z0 hS hP hD dd_RG_up_21
  · rw [if_neg h4] at hM
    obtain ⟨q, hq0, rfl⟩ := in_isNode hq1 h4
    try rw [nI_clamp (n := q) (by omega)] at hM
    refine lv_aload_n hx hb dd_RG_up_7 rfl (lv_at hl 0 rfl) ?_
    refine ly_get (v := .ref au) C hP 0 rfl uw_RG rfl 3 (by decide) wa_57 rfl dd_RG_up_8 ?_
    refine lv_iload_n hx hb dd_RG_up_11 rfl (lv_at hl 1 rfl) ?_
    refine ly_zald C hP 6 rfl q rfl (by omega) (by omega) dd_RG_up_12 ?_
    refine lv_if_eq (tgt := 20) hx hb dd_RG_up_13 (by decide) (fun h13 => ?_) (fun h13 => ?_)
    · rw [if_pos h13] at hM
      refine lv_iconst (v := (0 : Int32)) hx hb dd_RG_up_20 (by decide) ?_
      exact ret (0 : Int32) H locs 21 ls hM ly_z0 hS hP hD dd_RG_up_21
    · rw [if_neg h13] at hM
      refine lv_iconst (v := (1 : Int32)) hx hb dd_RG_up_16 (by decide) ?_
      refine lv_goto (tgt := 21) hx hb dd_RG_up_17 (by decide) ?_
      exact ret (1 : Int32) H locs 21 ls hM ly_z1 hS hP hD dd_RG_up_21

def mm_RG_count (x : Int32) (ct : Nat → Int32) : Int32 := (if x < (0 : Int32) then (-1 : Int32) else (if (4 : Int32) ≤ x then (-1 : Int32) else (ct (x.toNatClampNeg))))
set_option maxHeartbeats 4000000 in
set_option maxRecDepth 100000 in
theorem cc_RG_count {l : Launch} (D : va_G) (K : Nat → ClassId) (ah ac ar ap aq ax au ak a0 aw af az : Nat) (x : Int32) (n : Nat) (fn : Nat) (lf : Int64) (rb : Int64) (gr : Int32) (ro : Nat → Int64) (sr : Nat → Int64) (sv : Nat → Int64) (up : Nat → Int32) (ct : Nat → Int32) (al : Int32) (th : Int32) (wr : Nat → Int64) (fl : Nat → Int64) (sf : Nat → Option Nat) (t1 : Nat × va_E) (t2 : Nat × va_E) (t3 : Nat × va_E) (t4 : Nat × va_E) (t5 : Nat × va_E) (t6 : Nat × va_E) (hn : n ≤ 11) (hn6 : 6 ≤ n) (hfn : fn ≤ 10) : ly_i l yy_RG_count bb_RG_count 2 (some .int) 0 0 D K [.ref ah, .int x] (ws_LJ K ah ac ar ap aq ax au ak a0 aw af az n fn lf rb gr ro sr sv up ct al th wr fl sf t1 t2 t3 t4 t5 t6) (fun z => z) (fun _ => (ws_LJ K ah ac ar ap aq ax au ak a0 aw af az n fn lf rb gr ro sr sv up ct al th wr fl sf t1 t2 t3 t4 t5 t6)) (mm_RG_count x ct) := by
  refine ly_entI (by decide) (Nat.le_of_ble_eq_true rfl) ?_
  intro p e s m av below meth c A ls R Q H locs res hM C hRf hRl hS hP hD hl ret
  obtain ⟨hx, hb, -⟩ := id C
  have hcs : 0 ≤ R.cells ∧ 0 ≤ R.slots := ⟨Nat.zero_le _, Nat.zero_le _⟩
  have hl : lv_has ls 2 [(0, .ref ah), (1, .int x)] := hl
  rw [mm_RG_count] at hM
  refine lv_iload_n hx hb dd_RG_count_0 rfl (lv_at hl 1 rfl) ?_
  refine lv_if_lt (tgt := 18) hx hb dd_RG_count_1 (by decide) (fun h1 => ?_) (fun h1 => ?_)
  · rw [if_pos h1] at hM
    refine lv_iconst (v := (-1 : Int32)) hx hb dd_RG_count_18 (by decide) ?_
    exact ret (-1 : Int32) H locs 19 ls hM rfl hS hP hD dd_RG_count_19
  · rw [if_neg h1] at hM
    refine lv_iload_n hx hb dd_RG_count_4 rfl (lv_at hl 1 rfl) ?_
    refine lv_iconst (v := (4 : Int32)) hx hb dd_RG_count_5 (by decide) ?_
    refine lv_icmp_ge (tgt := 18) hx hb dd_RG_count_6 (by decide) (fun h6 => ?_) (fun h6 => ?_)
    · rw [if_pos h6] at hM
      refine lv_iconst (v := (-1 : Int32)) hx hb dd_RG_count_18 (by decide) ?_
      exact ret (-1 : Int32) H locs 19 ls hM rfl hS hP hD dd_RG_count_19
    · rw [if_neg h6] at hM
      obtain ⟨q, hq0, rfl⟩ := ly_rng2 (N := 4) h1 h6 (by decide)
      try rw [nI_clamp (n := q) (by omega)] at hM
      refine lv_aload_n hx hb dd_RG_count_9 rfl (lv_at hl 0 rfl) ?_
      refine ly_get (v := .ref ak) C hP 0 rfl uw_RG rfl 4 (by decide) wa_59 rfl dd_RG_count_10 ?_
      refine lv_iload_n hx hb dd_RG_count_13 rfl (lv_at hl 1 rfl) ?_
      refine ly_iald C hP 7 rfl q rfl (by omega) (by omega) dd_RG_count_14 ?_
      refine lv_goto (tgt := 19) hx hb dd_RG_count_15 (by decide) ?_
      exact ret (ct q) H locs 19 ls hM rfl hS hP hD dd_RG_count_19

def mm_RG_size (n : Nat) : Int32 := (nI n)
set_option maxHeartbeats 4000000 in
set_option maxRecDepth 100000 in
theorem cc_RG_size {l : Launch} (D : va_G) (K : Nat → ClassId) (ah ac ar ap aq ax au ak a0 aw af az : Nat) (n : Nat) (fn : Nat) (lf : Int64) (rb : Int64) (gr : Int32) (ro : Nat → Int64) (sr : Nat → Int64) (sv : Nat → Int64) (up : Nat → Int32) (ct : Nat → Int32) (al : Int32) (th : Int32) (wr : Nat → Int64) (fl : Nat → Int64) (sf : Nat → Option Nat) (t1 : Nat × va_E) (t2 : Nat × va_E) (t3 : Nat × va_E) (t4 : Nat × va_E) (t5 : Nat × va_E) (t6 : Nat × va_E) (hn : n ≤ 11) (hn6 : 6 ≤ n) (hfn : fn ≤ 10) : ly_i l yy_RG_size bb_RG_size 1 (some .int) 0 0 D K [.ref ah] (ws_LJ K ah ac ar ap aq ax au ak a0 aw af az n fn lf rb gr ro sr sv up ct al th wr fl sf t1 t2 t3 t4 t5 t6) (fun z => z) (fun _ => (ws_LJ K ah ac ar ap aq ax au ak a0 aw af az n fn lf rb gr ro sr sv up ct al th wr fl sf t1 t2 t3 t4 t5 t6)) (mm_RG_size n) := by
  refine ly_entI (by decide) (Nat.le_of_ble_eq_true rfl) ?_
  intro p e s m av below meth c A ls R Q H locs res hM C hRf hRl hS hP hD hl ret
  obtain ⟨hx, hb, -⟩ := id C
  have hcs : 0 ≤ R.cells ∧ 0 ≤ R.slots := ⟨Nat.zero_le _, Nat.zero_le _⟩
  have hl : lv_has ls 1 [(0, .ref ah)] := hl
  rw [mm_RG_size] at hM
  refine lv_aload_n hx hb dd_RG_size_0 rfl (lv_at hl 0 rfl) ?_
  refine ly_get (v := .ref ac) C hP 0 rfl uw_RG rfl 0 (by decide) wa_44 rfl dd_RG_size_1 ?_
  refine ly_getN (v := .int (nI n)) C hP 1 rfl uw_Co rfl 0 (by decide) nw_1 rfl dd_RG_size_4 ?_
  exact ret (nI n) H locs 7 ls hM rfl hS hP hD dd_RG_size_7

def mm_RG_fail (x : Int32) (n : Nat) (up : Nat → Int32) (th0 : Int32) (th1 : Int32) (th2 : Int32) : Int32 × (Nat → Int32) × (Int32) × (Int32) × (Int32) := (if (mm_RG_isNode x) = (0 : Int32) then ((-1 : Int32), up, th0, th1, th2) else (if (up (x.toNatClampNeg)) = (0 : Int32) then ((-2 : Int32), up, th0, th1, th2) else (match mm_RG_dropShardsOn (nI (x.toNatClampNeg)) n 0 th0 with | (r_46, th_46) => (match mm_RG_dropShardsOn (nI (x.toNatClampNeg)) n 5 th1 with | (r_46b, th_46b) => (match mm_RG_dropShardsOn (nI (x.toNatClampNeg)) n 10 th2 with | (r_46c, th_46c) => (((((0 : Int32) + r_46) + r_46b) + r_46c), (upd up (x.toNatClampNeg) (0 : Int32)), th_46, th_46b, th_46c))))))
set_option maxHeartbeats 4000000 in
set_option maxRecDepth 100000 in
theorem cc_RG_fail {l : Launch} (D : va_G) (K : Nat → ClassId) (ah ac ar ap aq ax au ak az b0 c0 d0 b1 c1 d1 b2 c2 d2 : Nat) (x : Int32) (n : Nat) (lf : Int64) (rb : Int64) (gr : Int32) (ro : Nat → Int64) (sr : Nat → Int64) (sv : Nat → Int64) (up : Nat → Int32) (ct : Nat → Int32) (sf : Nat → Option Nat) (al : Int32) (th0 : Int32) (wr0 : Nat → Int64) (fl0 : Nat → Int64) (th1 : Int32) (wr1 : Nat → Int64) (fl1 : Nat → Int64) (th2 : Int32) (wr2 : Nat → Int64) (fl2 : Nat → Int64) (hn : n ≤ 11) (hn6 : 6 ≤ n) (hs0 : sf 0 = some b0) (hs1 : sf 1 = some b1) (hs2 : sf 2 = some b2) : ly_i l yy_RG_fail bb_RG_fail 4 (some .int) 3 66 D K [.ref ah, .int x] (ws_L3x K ah ac ar ap aq ax au ak az b0 c0 d0 b1 c1 d1 b2 c2 d2 n lf rb gr ro sr sv up ct sf al th0 wr0 fl0 th1 wr1 fl1 th2 wr2 fl2) (fun z => z.1) (fun z => (ws_L3x K ah ac ar ap aq ax au ak az b0 c0 d0 b1 c1 d1 b2 c2 d2 n lf rb gr ro sr sv (z.2.1) ct sf al (z.2.2.1) wr0 fl0 (z.2.2.2.1) wr1 fl1 (z.2.2.2.2) wr2 fl2)) (mm_RG_fail x n up th0 th1 th2) := by
  refine ly_entI (by decide) (Nat.le_of_ble_eq_true rfl) ?_
  intro p e s m av below meth c A ls R Q H locs res hM C hRf hRl hS hP hD hl ret
  obtain ⟨hx, hb, -⟩ := id C
  have hcs : 0 ≤ R.cells ∧ 0 ≤ R.slots := ⟨Nat.zero_le _, Nat.zero_le _⟩
  have hl : lv_has ls 4 [(0, .ref ah), (1, .int x)] := hl
  rw [mm_RG_fail] at hM
  refine lv_iload_n hx hb dd_RG_fail_0 rfl (lv_at hl 1 rfl) ?_
  obtain ⟨r_1, hq1⟩ : ∃ z, z = mm_RG_isNode x := ⟨_, rfl⟩
  try rw [← hq1] at hM
  refine ly_cS_i (n := 1) (z := r_1) (rest := []) (wn := (ws_L3x K ah ac ar ap aq ax au ak az b0 c0 d0 b1 c1 d1 b2 c2 d2 n lf rb gr ro sr sv up ct sf al th0 wr0 fl0 th1 wr1 fl1 th2 wr2 fl2)) C (cc_RG_isNode D K x) hq1 wa_134 wa_90 wa_62 wa_91 (by decide) (Nat.le_trans (by decide) hRf) (Nat.le_trans (by decide) hRl) rfl hl.1 rfl (Nat.le_of_ble_eq_true rfl) dd_RG_fail_1 hcs [] [0, 1, 2, 3, 4, 5, 6, 7, 8, 9, 10, 11, 12, 13, 14, 15, 16, 17] [0, 1, 2, 3, 4, 5, 6, 7, 8, 9, 10, 11, 12, 13, 14, 15, 16, 17] hP hD hS rfl rfl (by decide) rfl (fun H locs hP hD hS => ?_)
  refine W.eq (g2 := F0 m 4 ls [.int r_1]) rfl ?_
  refine lv_if_ne (tgt := 9) hx hb dd_RG_fail_4 (by decide) (fun h4 => ?_) (fun h4 => ?_)
  · rw [if_neg h4] at hM
    obtain ⟨q, hq0, rfl⟩ := in_isNode hq1 h4
    try rw [nI_clamp (n := q) (by omega)] at hM
    refine lv_aload_n hx hb dd_RG_fail_9 rfl (lv_at hl 0 rfl) ?_
    refine ly_get (v := .ref au) C hP 0 rfl uw_RG rfl 3 (by decide) wa_57 rfl dd_RG_fail_10 ?_
    refine lv_iload_n hx hb dd_RG_fail_13 rfl (lv_at hl 1 rfl) ?_
    refine ly_zald C hP 6 rfl q rfl (by omega) (by omega) dd_RG_fail_14 ?_
    refine lv_if_ne (tgt := 21) hx hb dd_RG_fail_15 (by decide) (fun h15 => ?_) (fun h15 => ?_)
    · rw [if_neg h15] at hM
      refine lv_aload_n hx hb dd_RG_fail_21 rfl (lv_at hl 0 rfl) ?_
      refine ly_get (v := .ref au) C hP 0 rfl uw_RG rfl 3 (by decide) wa_57 rfl dd_RG_fail_22 ?_
      refine lv_iload_n hx hb dd_RG_fail_25 rfl (lv_at hl 1 rfl) ?_
      refine lv_iconst (v := (0 : Int32)) hx hb dd_RG_fail_26 (by decide) ?_
      refine ly_zast (ws' := (ws_L3x K ah ac ar ap aq ax au ak az b0 c0 d0 b1 c1 d1 b2 c2 d2 n lf rb gr ro sr sv (upd up q (0 : Int32)) ct sf al th0 wr0 fl0 th1 wr1 fl1 th2 wr2 fl2)) C hP hD hS 6 rfl (by decide) q rfl (by omega) (by omega) dd_RG_fail_27 rfl (fun H locs hP hD hS => ?_)
      refine lv_iconst (v := (0 : Int32)) hx hb dd_RG_fail_28 (by decide) ?_
      refine lv_istore_n (lv' := [(2, .int (0 : Int32)), (0, .ref ah), (1, .int (nI q))]) hx hb dd_RG_fail_29 rfl hl (by decide) rfl (fun ls hl => ?_)
      refine lv_iconst (v := (0 : Int32)) hx hb dd_RG_fail_30 (by decide) ?_
      refine lv_istore_n (lv' := [(3, .int (0 : Int32)), (2, .int (0 : Int32)), (0, .ref ah), (1, .int (nI q))]) hx hb dd_RG_fail_31 rfl hl (by decide) rfl (fun ls hl => ?_)
      refine lv_iload_n hx hb dd_RG_fail_32 rfl (lv_at hl 0 rfl) ?_
      refine lv_iconst (v := (3 : Int32)) hx hb dd_RG_fail_33 (by decide) ?_
      refine lv_icmp_ge (tgt := 57) hx hb dd_RG_fail_34 (by decide) (fun h => absurd h (by decide)) (fun _ => ?_)
      refine lv_iload_n hx hb dd_RG_fail_37 rfl (lv_at hl 1 rfl) ?_
      refine lv_aload_n hx hb dd_RG_fail_38 rfl (lv_at hl 2 rfl) ?_
      refine lv_aload_n hx hb dd_RG_fail_39 rfl (lv_at hl 2 rfl) ?_
      refine ly_get (v := .ref az) C hP 0 rfl uw_RG rfl 2 (by decide) wa_51 rfl dd_RG_fail_40 ?_
      refine lv_iload_n hx hb dd_RG_fail_43 rfl (lv_at hl 0 rfl) ?_
      refine ly_aldq (b := b0) C hP 8 rfl rfl 0 rfl (by decide) (by omega) hs0 dd_RG_fail_44 ?_
      refine lv_iload_n hx hb dd_RG_fail_45 rfl (lv_at hl 3 rfl) ?_
      obtain ⟨⟨r_46, th_46⟩, hq46⟩ : ∃ z, z = mm_RG_dropShardsOn (nI q) n 0 th0 := ⟨_, rfl⟩
      try rw [← hq46] at hM
      try dsimp only at hM
      refine ly_cV_i (n := 2) (z := (r_46, th_46)) (rest := [.int (0 : Int32)]) (wn := (ws_L3x K ah ac ar ap aq ax au ak az b0 c0 d0 b1 c1 d1 b2 c2 d2 n lf rb gr ro sr sv (upd up q (0 : Int32)) ct sf al th_46 wr0 fl0 th1 wr1 fl1 th2 wr2 fl2)) C (cc_RG_dropShardsOn D K ah ac ar ap aq ax au ak b0 c0 d0 az (nI q) n 0 lf rb gr ro sr sv (upd up q (0 : Int32)) ct al th0 wr0 fl0 (by omega) (by omega) (by omega)) hq46 wa_156 wa_92 wa_62 wa_93 wa_94 (by decide) (Nat.le_trans (by decide) hRf) (Nat.le_trans (by decide) hRl) rfl hl.1 rfl (Nat.le_of_ble_eq_true rfl) dd_RG_fail_46 hcs [0, 1, 2, 3, 4, 5, 6, 7, 9, 10, 11] [8, 12, 13, 14, 15, 16, 17] [7, 8, 9, 10, 11, 12, 13, 14, 0, 15, 16, 17, 1, 2, 3, 4, 5, 6] hP hD hS rfl rfl (by decide) rfl rfl rfl (fun H locs hP hD hS => ?_)
      refine W.eq (g2 := F0 m 49 ls [.int r_46, .int (0 : Int32)]) rfl ?_
      refine lv_iadd hx hb dd_RG_fail_49 ?_
      refine lv_istore_n (lv' := [(2, .int ((0 : Int32) + r_46)), (3, .int (0 : Int32)), (0, .ref ah), (1, .int (nI q))]) hx hb dd_RG_fail_50 rfl hl (by decide) rfl (fun ls hl => ?_)
      refine lv_iinc (k := 1) (v := (1 : Int32)) (lv' := [(3, .int (1 : Int32)), (2, .int ((0 : Int32) + r_46)), (0, .ref ah), (1, .int (nI q))]) hx hb dd_RG_fail_51 hl rfl (by decide) (by decide) rfl (fun ls hl => ?_)
      refine lv_goto (tgt := 32) hx hb dd_RG_fail_54 (by decide) ?_
      refine lv_iload_n hx hb dd_RG_fail_32 rfl (lv_at hl 0 rfl) ?_
      refine lv_iconst (v := (3 : Int32)) hx hb dd_RG_fail_33 (by decide) ?_
      refine lv_icmp_ge (tgt := 57) hx hb dd_RG_fail_34 (by decide) (fun h => absurd h (by decide)) (fun _ => ?_)
      refine lv_iload_n hx hb dd_RG_fail_37 rfl (lv_at hl 1 rfl) ?_
      refine lv_aload_n hx hb dd_RG_fail_38 rfl (lv_at hl 2 rfl) ?_
      refine lv_aload_n hx hb dd_RG_fail_39 rfl (lv_at hl 2 rfl) ?_
      refine ly_get (v := .ref az) C hP 0 rfl uw_RG rfl 2 (by decide) wa_51 rfl dd_RG_fail_40 ?_
      refine lv_iload_n hx hb dd_RG_fail_43 rfl (lv_at hl 0 rfl) ?_
      refine ly_aldq (b := b1) C hP 8 rfl rfl 1 rfl (by decide) (by omega) hs1 dd_RG_fail_44 ?_
      refine lv_iload_n hx hb dd_RG_fail_45 rfl (lv_at hl 3 rfl) ?_
      obtain ⟨⟨r_46b, th_46b⟩, hq46b⟩ : ∃ z, z = mm_RG_dropShardsOn (nI q) n 5 th1 := ⟨_, rfl⟩
      try rw [← hq46b] at hM
      try dsimp only at hM
      refine ly_cV_i (n := 2) (z := (r_46b, th_46b)) (rest := [.int ((0 : Int32) + r_46)]) (wn := (ws_L3x K ah ac ar ap aq ax au ak az b0 c0 d0 b1 c1 d1 b2 c2 d2 n lf rb gr ro sr sv (upd up q (0 : Int32)) ct sf al th_46 wr0 fl0 th_46b wr1 fl1 th2 wr2 fl2)) C (cc_RG_dropShardsOn D K ah ac ar ap aq ax au ak b1 c1 d1 az (nI q) n 5 lf rb gr ro sr sv (upd up q (0 : Int32)) ct al th1 wr1 fl1 (by omega) (by omega) (by omega)) hq46b wa_156 wa_92 wa_62 wa_93 wa_94 (by decide) (Nat.le_trans (by decide) hRf) (Nat.le_trans (by decide) hRl) rfl hl.1 rfl (Nat.le_of_ble_eq_true rfl) dd_RG_fail_46 hcs [0, 1, 2, 3, 4, 5, 6, 7, 12, 13, 14] [8, 9, 10, 11, 15, 16, 17] [7, 8, 9, 10, 11, 12, 13, 14, 0, 1, 2, 3, 15, 16, 17, 4, 5, 6] hP hD hS rfl rfl (by decide) rfl rfl rfl (fun H locs hP hD hS => ?_)
      refine W.eq (g2 := F0 m 49 ls [.int r_46b, .int ((0 : Int32) + r_46)]) rfl ?_
      refine lv_iadd hx hb dd_RG_fail_49 ?_
      refine lv_istore_n (lv' := [(2, .int (((0 : Int32) + r_46) + r_46b)), (3, .int (1 : Int32)), (0, .ref ah), (1, .int (nI q))]) hx hb dd_RG_fail_50 rfl hl (by decide) rfl (fun ls hl => ?_)
      refine lv_iinc (k := 1) (v := (2 : Int32)) (lv' := [(3, .int (2 : Int32)), (2, .int (((0 : Int32) + r_46) + r_46b)), (0, .ref ah), (1, .int (nI q))]) hx hb dd_RG_fail_51 hl rfl (by decide) (by decide) rfl (fun ls hl => ?_)
      refine lv_goto (tgt := 32) hx hb dd_RG_fail_54 (by decide) ?_
      refine lv_iload_n hx hb dd_RG_fail_32 rfl (lv_at hl 0 rfl) ?_
      refine lv_iconst (v := (3 : Int32)) hx hb dd_RG_fail_33 (by decide) ?_
      refine lv_icmp_ge (tgt := 57) hx hb dd_RG_fail_34 (by decide) (fun h => absurd h (by decide)) (fun _ => ?_)
      refine lv_iload_n hx hb dd_RG_fail_37 rfl (lv_at hl 1 rfl) ?_
      refine lv_aload_n hx hb dd_RG_fail_38 rfl (lv_at hl 2 rfl) ?_
      refine lv_aload_n hx hb dd_RG_fail_39 rfl (lv_at hl 2 rfl) ?_
      refine ly_get (v := .ref az) C hP 0 rfl uw_RG rfl 2 (by decide) wa_51 rfl dd_RG_fail_40 ?_
      refine lv_iload_n hx hb dd_RG_fail_43 rfl (lv_at hl 0 rfl) ?_
      refine ly_aldq (b := b2) C hP 8 rfl rfl 2 rfl (by decide) (by omega) hs2 dd_RG_fail_44 ?_
      refine lv_iload_n hx hb dd_RG_fail_45 rfl (lv_at hl 3 rfl) ?_
      obtain ⟨⟨r_46c, th_46c⟩, hq46c⟩ : ∃ z, z = mm_RG_dropShardsOn (nI q) n 10 th2 := ⟨_, rfl⟩
      try rw [← hq46c] at hM
      try dsimp only at hM
      refine ly_cV_i (n := 2) (z := (r_46c, th_46c)) (rest := [.int (((0 : Int32) + r_46) + r_46b)]) (wn := (ws_L3x K ah ac ar ap aq ax au ak az b0 c0 d0 b1 c1 d1 b2 c2 d2 n lf rb gr ro sr sv (upd up q (0 : Int32)) ct sf al th_46 wr0 fl0 th_46b wr1 fl1 th_46c wr2 fl2)) C (cc_RG_dropShardsOn D K ah ac ar ap aq ax au ak b2 c2 d2 az (nI q) n 10 lf rb gr ro sr sv (upd up q (0 : Int32)) ct al th2 wr2 fl2 (by omega) (by omega) (by omega)) hq46c wa_156 wa_92 wa_62 wa_93 wa_94 (by decide) (Nat.le_trans (by decide) hRf) (Nat.le_trans (by decide) hRl) rfl hl.1 rfl (Nat.le_of_ble_eq_true rfl) dd_RG_fail_46 hcs [0, 1, 2, 3, 4, 5, 6, 7, 15, 16, 17] [8, 9, 10, 11, 12, 13, 14] [7, 8, 9, 10, 11, 12, 13, 14, 0, 1, 2, 3, 4, 5, 6, 15, 16, 17] hP hD hS rfl rfl (by decide) rfl rfl rfl (fun H locs hP hD hS => ?_)
      refine W.eq (g2 := F0 m 49 ls [.int r_46c, .int (((0 : Int32) + r_46) + r_46b)]) rfl ?_
      refine lv_iadd hx hb dd_RG_fail_49 ?_
      refine lv_istore_n (lv' := [(2, .int ((((0 : Int32) + r_46) + r_46b) + r_46c)), (3, .int (2 : Int32)), (0, .ref ah), (1, .int (nI q))]) hx hb dd_RG_fail_50 rfl hl (by decide) rfl (fun ls hl => ?_)
      refine lv_iinc (k := 1) (v := (3 : Int32)) (lv' := [(3, .int (3 : Int32)), (2, .int ((((0 : Int32) + r_46) + r_46b) + r_46c)), (0, .ref ah), (1, .int (nI q))]) hx hb dd_RG_fail_51 hl rfl (by decide) (by decide) rfl (fun ls hl => ?_)
      refine lv_goto (tgt := 32) hx hb dd_RG_fail_54 (by decide) ?_
      refine lv_iload_n hx hb dd_RG_fail_32 rfl (lv_at hl 0 rfl) ?_
      refine lv_iconst (v := (3 : Int32)) hx hb dd_RG_fail_33 (by decide) ?_
      refine lv_icmp_ge (tgt := 57) hx hb dd_RG_fail_34 (by decide) (fun _ => ?_) (fun h => absurd (by decide) h)
      refine lv_iload_n hx hb dd_RG_fail_57 rfl (lv_at hl 1 rfl) ?_
      exact ret (((((0 : Int32) + r_46) + r_46b) + r_46c), (upd up q (0 : Int32)), th_46, th_46b, th_46c) H locs 58 ls hM rfl hS hP hD dd_RG_fail_58
    · rw [if_pos h15] at hM
      refine lv_bipush (v := (-2 : Int32)) hx hb dd_RG_fail_18 (by decide) ?_
      exact ret ((-2 : Int32), up, th0, th1, th2) H locs 20 ls hM rfl hS hP hD dd_RG_fail_20
  · rw [if_pos h4] at hM
    refine lv_iconst (v := (-1 : Int32)) hx hb dd_RG_fail_7 (by decide) ?_
    exact ret ((-1 : Int32), up, th0, th1, th2) H locs 8 ls hM rfl hS hP hD dd_RG_fail_8
