set_option maxHeartbeats 8000000 in
set_option maxRecDepth 100000 in
theorem lw_loop {p : Program} {e : Env} {s : State} {m : MethodId} {below : List Frame} {meth : Method} {c : Code} {l : Launch} {b L : Nat} {xs : Nat → Int32} {A : Nat → Prop} {D : va_G} {K : Nat → ClassId} (ah ac ar ap aq ax au ak az b0 c0 d0 b1 c1 d1 b2 c2 d2 mh m1 m2 m3 m4 m5 m6 m7 m8 m9 : Nat) (n : Nat) (gr al xk : Int32) (ro : Nat → Int64) (xr : Nat → Int32) (sf : Nat → Option Nat) (hL : L ≤ 2561) (hr : meth.sig.returnType = ret) (hlocks : meth.locks = false) (C : ly_C p m c code 4 "RepairGroupsLaw" s #[Value.ref b] A D K) (hAA : ∀ q, A q → s.heap.size ≤ q) (hX : va_X b L xs s s.heap) (hbl : b < s.heap.size) (hbA : ¬ A b) (hn : n ≤ 11) (hn6 : 6 ≤ n) (hs0 : sf 0 = some b0) (hs1 : sf 1 = some b1) (hs2 : sf 2 = some b2) : ∀ (k j : Nat) (lf : Int64) (rb : Int64) (sr : Nat → Int64) (sv : Nat → Int64) (up : Nat → Int32) (ct : Nat → Int32) (th : Nat → Int32) (wr : Nat → Nat → Int64) (fl : Nat → Nat → Int64) (xa : Int32) (xb : Int32) (xc : Int32) (xe : Int32) (xl : Int64) (ys : Nat) (xg : Nat) (xd : Nat → Int64) (xt : Nat → Int32) (xf : Nat → Int64) (xw : Nat → Int32) (xp : Nat → Nat) (xq : Nat → Int32) (xv : Nat → Nat) (xo : Nat → Int32) (ls : Array Slot) (H : Heap) (locs : List Loc), L < j + 5 + 5 * k → j ≤ L + 5 → (rl n gr ro al xk xr lf up ct th wr fl xa xb xc xe xl xd xt xf xw) → lv_has ls 4 [(3, .int (nI j)), (2, .ref mh), (1, .ref ah), (0, .ref b)] → va_P D cl_all ((ws_L3 K ah ac ar ap aq ax au ak az b0 c0 d0 b1 c1 d1 b2 c2 d2 n lf rb gr ro sr sv up ct al sf th wr fl) ++ (ws_Mo K mh m1 m2 m3 m4 m5 m6 m7 m8 m9 n xk xa xb xc xe xl ys xg xr xd xt xf xw xp xq xv xo)) H → va_D A ((ws_L3 K ah ac ar ap aq ax au ak az b0 c0 d0 b1 c1 d1 b2 c2 d2 n lf rb gr ro sr sv up ct al sf th wr fl) ++ (ws_Mo K mh m1 m2 m3 m4 m5 m6 m7 m8 m9 n xk xa xb xc xe xl ys xg xr xd xt xf xw xp xq xv xo)) → va_S A s.heap H locs → W p l e room_1 s m #[Value.ref b] below meth c H locs 28 374 (lw_Z below #[Value.ref b] s) (F0 m 28 ls []) := by
  obtain ⟨hx, hb, -⟩ := id C
  have hcs : 28 ≤ room_1.cells ∧ 374 ≤ room_1.slots := by decide
  intro k
  induction k with
  | zero =>
    intro j lf rb sr sv up ct th wr fl xa xb xc xe xl ys xg xd xt xf xw xp xq xv xo ls H locs hk hj hrl hl hP hD hS
    refine lv_iload_n hx hb dd_La_law_28 rfl (lv_at hl 0 rfl) ?_
    refine lv_aload_n hx hb dd_La_law_29 rfl (lv_at hl 3 rfl) ?_
    refine va_slen hx hb hX hbl hbA hS dd_La_law_30 ?_
    refine lv_iconst (v := (5 : Int32)) hx hb dd_La_law_31 (by decide) ?_
    refine lv_isub hx hb dd_La_law_32 ?_
    have hc := ly_lt5 (L := L) (j := j) (by omega) (by omega)
    refine lv_icmp_gt (tgt := 623) hx hb dd_La_law_33 (by decide) (fun _ => ?_) (fun h => absurd (hc.mpr (by omega)) h)
    refine lv_iconst (v := (1 : Int32)) hx hb dd_La_law_623 (by decide) ?_
    refine va_forget (fun q hq => hAA _ (hS.2.2 q hq)) ?_
    refine W.widen (k := 600000) (n := 7302250) (by decide) (by decide) ?_
    exact lw_ret hx hb hr hlocks dd_La_law_624
  | succ k ih =>
    intro j lf rb sr sv up ct th wr fl xa xb xc xe xl ys xg xd xt xf xw xp xq xv xo ls H locs hk hj hrl hl hP hD hS
    refine lv_iload_n hx hb dd_La_law_28 rfl (lv_at hl 0 rfl) ?_
    refine lv_aload_n hx hb dd_La_law_29 rfl (lv_at hl 3 rfl) ?_
    refine va_slen hx hb hX hbl hbA hS dd_La_law_30 ?_
    refine lv_iconst (v := (5 : Int32)) hx hb dd_La_law_31 (by decide) ?_
    refine lv_isub hx hb dd_La_law_32 ?_
    have hc := ly_lt5 (L := L) (j := j) (by omega) (by omega)
    refine lv_icmp_gt (tgt := 623) hx hb dd_La_law_33 (by decide) (fun _ => ?_) (fun h33 => ?_)
    · refine lv_iconst (v := (1 : Int32)) hx hb dd_La_law_623 (by decide) ?_
      refine va_forget (fun q hq => hAA _ (hS.2.2 q hq)) ?_
      refine W.widen (k := 600000) (n := 7302250) (by decide) (by decide) ?_
      exact lw_ret hx hb hr hlocks dd_La_law_624
    · have hjL : j + 5 ≤ L := Nat.le_of_not_lt (fun h => h33 (hc.mpr h))
      have nx : ∀ (lf : Int64) (rb : Int64) (sr : Nat → Int64) (sv : Nat → Int64) (up : Nat → Int32) (ct : Nat → Int32) (th : Nat → Int32) (wr : Nat → Nat → Int64) (fl : Nat → Nat → Int64) (xa : Int32) (xb : Int32) (xc : Int32) (xe : Int32) (xl : Int64) (ys : Nat) (xg : Nat) (xd : Nat → Int64) (xt : Nat → Int32) (xf : Nat → Int64) (xw : Nat → Int32) (xp : Nat → Nat) (xq : Nat → Int32) (xv : Nat → Nat) (xo : Nat → Int32) (ls : Array Slot) (H : Heap) (locs : List Loc), (rl n gr ro al xk xr lf up ct th wr fl xa xb xc xe xl xd xt xf xw) → lv_has ls 4 [(3, .int (nI j)), (2, .ref mh), (1, .ref ah), (0, .ref b)] → va_P D cl_all ((ws_L3 K ah ac ar ap aq ax au ak az b0 c0 d0 b1 c1 d1 b2 c2 d2 n lf rb gr ro sr sv up ct al sf th wr fl) ++ (ws_Mo K mh m1 m2 m3 m4 m5 m6 m7 m8 m9 n xk xa xb xc xe xl ys xg xr xd xt xf xw xp xq xv xo)) H → va_D A ((ws_L3 K ah ac ar ap aq ax au ak az b0 c0 d0 b1 c1 d1 b2 c2 d2 n lf rb gr ro sr sv up ct al sf th wr fl) ++ (ws_Mo K mh m1 m2 m3 m4 m5 m6 m7 m8 m9 n xk xa xb xc xe xl ys xg xr xd xt xf xw xp xq xv xo)) → va_S A s.heap H locs → W p l e room_1 s m #[Value.ref b] below meth c H locs 28 374 (lw_Z below #[Value.ref b] s) (F0 m 617 ls []) := by
        intro lf rb sr sv up ct th wr fl xa xb xc xe xl ys xg xd xt xf xw xp xq xv xo ls H locs hrl hl hP hD hS
        refine lv_iinc (k := 0) (v := (nI (j + 5))) (lv' := [(3, .int (nI (j + 5))), (2, .ref mh), (1, .ref ah), (0, .ref b)]) hx hb dd_La_law_617 hl rfl (ly_inc5 j) (by decide) rfl (fun ls hl => ?_)
        refine lv_goto (tgt := 28) hx hb dd_La_law_620 (by decide) ?_
        exact ih (j + 5) lf rb sr sv up ct th wr fl xa xb xc xe xl ys xg xd xt xf xw xp xq xv xo ls H locs (by omega) (by omega) hrl hl hP hD hS
      refine lv_aload_n hx hb dd_La_law_36 rfl (lv_at hl 3 rfl) ?_
      refine lv_iload_n hx hb dd_La_law_37 rfl (lv_at hl 0 rfl) ?_
      refine ly_sld hx hb hX hbl hbA hS j (by omega) (by omega) dd_La_law_38 ?_
      refine lv_bipush (v := (31 : Int32)) hx hb dd_La_law_39 (by decide) ?_
      refine lv_iand hx hb dd_La_law_41 ?_
      obtain ⟨t, ht, et⟩ := pk_andE (xs j) (m := (31 : Int32)) 5 (by decide)
      rw [et]
      rcases (by omega : t = 0 ∨ t = 1 ∨ t = 2 ∨ t = 3 ∨ t = 4 ∨ t = 5 ∨ t = 6 ∨ t = 7 ∨ t = 8 ∨ t = 9 ∨ t = 10 ∨ t = 11 ∨ t = 12 ∨ t = 13 ∨ t = 14 ∨ t = 15 ∨ t = 16 ∨ 17 ≤ t) with rfl | rfl | rfl | rfl | rfl | rfl | rfl | rfl | rfl | rfl | rfl | rfl | rfl | rfl | rfl | rfl | rfl | h17
      · refine lv_tableIn (tgt := 124) hx hb dd_La_law_42 (by decide) (by decide) rfl (by decide) ?_
        refine lv_aload_n hx hb dd_La_law_124 rfl (lv_at hl 2 rfl) ?_
        refine lv_aload_n hx hb dd_La_law_125 rfl (lv_at hl 3 rfl) ?_
        refine lv_iload_n hx hb dd_La_law_126 rfl (lv_at hl 0 rfl) ?_
        refine lv_iconst (v := (1 : Int32)) hx hb dd_La_law_127 (by decide) ?_
        refine ly_iaddN C j 1 rfl rfl dd_La_law_128 ?_
        refine ly_sld hx hb hX hbl hbA hS (j + 1) (by omega) (by omega) dd_La_law_129 ?_
        refine lv_aload_n hx hb dd_La_law_130 rfl (lv_at hl 3 rfl) ?_
        refine lv_iload_n hx hb dd_La_law_131 rfl (lv_at hl 0 rfl) ?_
        refine lv_iconst (v := (2 : Int32)) hx hb dd_La_law_132 (by decide) ?_
        refine ly_iaddN C j 2 rfl rfl dd_La_law_133 ?_
        refine ly_sld hx hb hX hbl hbA hS (j + 2) (by omega) (by omega) dd_La_law_134 ?_
        refine lv_aload_n hx hb dd_La_law_135 rfl (lv_at hl 3 rfl) ?_
        refine lv_iload_n hx hb dd_La_law_136 rfl (lv_at hl 0 rfl) ?_
        refine lv_iconst (v := (3 : Int32)) hx hb dd_La_law_137 (by decide) ?_
        refine ly_iaddN C j 3 rfl rfl dd_La_law_138 ?_
        refine ly_sld hx hb hX hbl hbA hS (j + 3) (by omega) (by omega) dd_La_law_139 ?_
        refine lv_i2l (v := (xs (j + 3)).toInt64) hx hb dd_La_law_140 rfl ?_
        refine lv_bipush (v := (32 : Int32)) hx hb dd_La_law_141 (by decide) ?_
        refine lv_lshl (v := ((xs (j + 3)).toInt64 <<< ((32 : Int32).toInt64 &&& 63))) hx hb dd_La_law_143 rfl ?_
        refine lv_aload_n hx hb dd_La_law_144 rfl (lv_at hl 3 rfl) ?_
        refine lv_iload_n hx hb dd_La_law_145 rfl (lv_at hl 0 rfl) ?_
        refine lv_iconst (v := (4 : Int32)) hx hb dd_La_law_146 (by decide) ?_
        refine ly_iaddN C j 4 rfl rfl dd_La_law_147 ?_
        refine ly_sld hx hb hX hbl hbA hS (j + 4) (by omega) (by omega) dd_La_law_148 ?_
        refine lv_i2l (v := (xs (j + 4)).toInt64) hx hb dd_La_law_149 rfl ?_
        refine ly_ldc2 (x := (4294967295 : Int64)) C wa_385 dd_La_law_150 ?_
        refine lv_land hx hb dd_La_law_153 ?_
        refine lv_lor hx hb dd_La_law_154 ?_
        obtain ⟨⟨r_155, ct_155, th_155, wr_155, fl_155⟩, hq155⟩ : ∃ z, z = m3_RG_put (xs (j + 1)) (xs (j + 2)) (((xs (j + 3)).toInt64 <<< ((32 : Int32).toInt64 &&& 63)) ||| ((xs (j + 4)).toInt64 &&& (4294967295 : Int64))) n ro ct th wr fl := ⟨_, rfl⟩
        refine ly_cV_i (n := 3) (z := (r_155, ct_155, th_155, wr_155, fl_155)) (rest := []) (wn := ((ws_L3 K ah ac ar ap aq ax au ak az b0 c0 d0 b1 c1 d1 b2 c2 d2 n lf rb gr ro sr sv up ct_155 al sf th_155 wr_155 fl_155) ++ (ws_Mo K mh m1 m2 m3 m4 m5 m6 m7 m8 m9 n xk xa xb xc xe xl ys xg xr xd xt xf xw xp xq xv xo))) C (c3_RG_put D K ah ac ar ap aq ax au ak az b0 c0 d0 b1 c1 d1 b2 c2 d2 (xs (j + 1)) (xs (j + 2)) (((xs (j + 3)).toInt64 <<< ((32 : Int32).toInt64 &&& 63)) ||| ((xs (j + 4)).toInt64 &&& (4294967295 : Int64))) n lf rb gr ro sr sv up ct al sf th wr fl hn hn6 hs0 hs1 hs2) hq155 wa_60 wa_386 wa_62 wa_387 wa_388 (by decide) (by decide) (by decide) rfl hl.1 rfl (Nat.le_of_ble_eq_true rfl) dd_La_law_155 hcs [0, 1, 2, 3, 4, 5, 6, 7, 8, 9, 10, 11, 12, 13, 14, 15, 16, 17] [18, 19, 20, 21, 22, 23, 24, 25, 26, 27] [10, 11, 12, 13, 14, 15, 16, 17, 18, 19, 20, 21, 22, 23, 24, 25, 26, 27, 0, 1, 2, 3, 4, 5, 6, 7, 8, 9] hP hD hS rfl rfl (by decide) rfl rfl rfl (fun H locs hP hD hS => ?_)
        refine W.eq (g2 := F0 m 158 ls [.int r_155]) rfl ?_
        refine lv_aload_n hx hb dd_La_law_158 rfl (lv_at hl 1 rfl) ?_
        refine lv_aload_n hx hb dd_La_law_159 rfl (lv_at hl 3 rfl) ?_
        refine lv_iload_n hx hb dd_La_law_160 rfl (lv_at hl 0 rfl) ?_
        refine lv_iconst (v := (1 : Int32)) hx hb dd_La_law_161 (by decide) ?_
        refine ly_iaddN C j 1 rfl rfl dd_La_law_162 ?_
        refine ly_sld hx hb hX hbl hbA hS (j + 1) (by omega) (by omega) dd_La_law_163 ?_
        refine lv_aload_n hx hb dd_La_law_164 rfl (lv_at hl 3 rfl) ?_
        refine lv_iload_n hx hb dd_La_law_165 rfl (lv_at hl 0 rfl) ?_
        refine lv_iconst (v := (2 : Int32)) hx hb dd_La_law_166 (by decide) ?_
        refine ly_iaddN C j 2 rfl rfl dd_La_law_167 ?_
        refine ly_sld hx hb hX hbl hbA hS (j + 2) (by omega) (by omega) dd_La_law_168 ?_
        refine lv_aload_n hx hb dd_La_law_169 rfl (lv_at hl 3 rfl) ?_
        refine lv_iload_n hx hb dd_La_law_170 rfl (lv_at hl 0 rfl) ?_
        refine lv_iconst (v := (3 : Int32)) hx hb dd_La_law_171 (by decide) ?_
        refine ly_iaddN C j 3 rfl rfl dd_La_law_172 ?_
        refine ly_sld hx hb hX hbl hbA hS (j + 3) (by omega) (by omega) dd_La_law_173 ?_
        refine lv_i2l (v := (xs (j + 3)).toInt64) hx hb dd_La_law_174 rfl ?_
        refine lv_bipush (v := (32 : Int32)) hx hb dd_La_law_175 (by decide) ?_
        refine lv_lshl (v := ((xs (j + 3)).toInt64 <<< ((32 : Int32).toInt64 &&& 63))) hx hb dd_La_law_177 rfl ?_
        refine lv_aload_n hx hb dd_La_law_178 rfl (lv_at hl 3 rfl) ?_
        refine lv_iload_n hx hb dd_La_law_179 rfl (lv_at hl 0 rfl) ?_
        refine lv_iconst (v := (4 : Int32)) hx hb dd_La_law_180 (by decide) ?_
        refine ly_iaddN C j 4 rfl rfl dd_La_law_181 ?_
        refine ly_sld hx hb hX hbl hbA hS (j + 4) (by omega) (by omega) dd_La_law_182 ?_
        refine lv_i2l (v := (xs (j + 4)).toInt64) hx hb dd_La_law_183 rfl ?_
        refine ly_ldc2 (x := (4294967295 : Int64)) C wa_385 dd_La_law_184 ?_
        refine lv_land hx hb dd_La_law_187 ?_
        refine lv_lor hx hb dd_La_law_188 ?_
        obtain ⟨⟨r_189, xa_189, xb_189, xc_189, xd_189, xt_189, xf_189⟩, hq189⟩ : ∃ z, z = mm_Mo_put (xs (j + 1)) (xs (j + 2)) (((xs (j + 3)).toInt64 <<< ((32 : Int32).toInt64 &&& 63)) ||| ((xs (j + 4)).toInt64 &&& (4294967295 : Int64))) n xa xb xc xr xd xt xf := ⟨_, rfl⟩
        refine ly_cV_i (n := 3) (z := (r_189, xa_189, xb_189, xc_189, xd_189, xt_189, xf_189)) (rest := [.int r_155]) (wn := ((ws_L3 K ah ac ar ap aq ax au ak az b0 c0 d0 b1 c1 d1 b2 c2 d2 n lf rb gr ro sr sv up ct_155 al sf th_155 wr_155 fl_155) ++ (ws_Mo K mh m1 m2 m3 m4 m5 m6 m7 m8 m9 n xk xa_189 xb_189 xc_189 xe xl ys xg xr xd_189 xt_189 xf_189 xw xp xq xv xo))) C (cc_Mo_put D K mh m1 m2 m3 m4 m5 m6 m7 m8 m9 (xs (j + 1)) (xs (j + 2)) (((xs (j + 3)).toInt64 <<< ((32 : Int32).toInt64 &&& 63)) ||| ((xs (j + 4)).toInt64 &&& (4294967295 : Int64))) n xk xa xb xc xe xl ys xg xr xd xt xf xw xp xq xv xo hn hn6) hq189 wa_336 wa_389 wa_265 wa_390 wa_391 (by decide) (by decide) (by decide) rfl hl.1 rfl (Nat.le_of_ble_eq_true rfl) dd_La_law_189 hcs [18, 19, 20, 21, 22, 23, 24, 25, 26, 27] [0, 1, 2, 3, 4, 5, 6, 7, 8, 9, 10, 11, 12, 13, 14, 15, 16, 17] [0, 1, 2, 3, 4, 5, 6, 7, 8, 9, 10, 11, 12, 13, 14, 15, 16, 17, 18, 19, 20, 21, 22, 23, 24, 25, 26, 27] hP hD hS rfl rfl (by decide) rfl rfl rfl (fun H locs hP hD hS => ?_)
        refine W.eq (g2 := F0 m 192 ls [.int r_189, .int r_155]) rfl ?_
        obtain ⟨he, hrl⟩ := e_put hrl hq155 hq189
        refine lv_icmp_eq (tgt := 617) hx hb dd_La_law_192 (by decide) (fun _ => ?_) (fun h => absurd he h)
        exact nx lf rb sr sv up ct_155 th_155 wr_155 fl_155 xa_189 xb_189 xc_189 xe xl ys xg xd_189 xt_189 xf_189 xw xp xq xv xo ls H locs hrl hl hP hD hS
      · refine lv_tableIn (tgt := 197) hx hb dd_La_law_42 (by decide) (by decide) rfl (by decide) ?_
        refine lv_aload_n hx hb dd_La_law_197 rfl (lv_at hl 2 rfl) ?_
        refine lv_aload_n hx hb dd_La_law_198 rfl (lv_at hl 3 rfl) ?_
        refine lv_iload_n hx hb dd_La_law_199 rfl (lv_at hl 0 rfl) ?_
        refine lv_iconst (v := (1 : Int32)) hx hb dd_La_law_200 (by decide) ?_
        refine ly_iaddN C j 1 rfl rfl dd_La_law_201 ?_
        refine ly_sld hx hb hX hbl hbA hS (j + 1) (by omega) (by omega) dd_La_law_202 ?_
        refine lv_aload_n hx hb dd_La_law_203 rfl (lv_at hl 3 rfl) ?_
        refine lv_iload_n hx hb dd_La_law_204 rfl (lv_at hl 0 rfl) ?_
        refine lv_iconst (v := (2 : Int32)) hx hb dd_La_law_205 (by decide) ?_
        refine ly_iaddN C j 2 rfl rfl dd_La_law_206 ?_
        refine ly_sld hx hb hX hbl hbA hS (j + 2) (by omega) (by omega) dd_La_law_207 ?_
        obtain ⟨⟨r_208, lf_208, rb_208, sr_208, sv_208, ct_208, th_208⟩, hq208⟩ : ∃ z, z = m3_RG_fetch (xs (j + 1)) (xs (j + 2)) n lf rb gr ro sr sv ct al th wr fl := ⟨_, rfl⟩
        refine ly_cV_i (n := 2) (z := (r_208, lf_208, rb_208, sr_208, sv_208, ct_208, th_208)) (rest := []) (wn := ((ws_L3 K ah ac ar ap aq ax au ak az b0 c0 d0 b1 c1 d1 b2 c2 d2 n lf_208 rb_208 gr ro sr_208 sv_208 up ct_208 al sf th_208 wr fl) ++ (ws_Mo K mh m1 m2 m3 m4 m5 m6 m7 m8 m9 n xk xa xb xc xe xl ys xg xr xd xt xf xw xp xq xv xo))) C (c3_RG_fetch D K ah ac ar ap aq ax au ak az b0 c0 d0 b1 c1 d1 b2 c2 d2 (xs (j + 1)) (xs (j + 2)) n lf rb gr ro sr sv up ct al sf th wr fl hn hn6 hs0 hs1 hs2) hq208 wa_79 wa_392 wa_62 wa_393 wa_394 (by decide) (by decide) (by decide) rfl hl.1 rfl (Nat.le_of_ble_eq_true rfl) dd_La_law_208 hcs [0, 1, 2, 3, 4, 5, 6, 7, 8, 9, 10, 11, 12, 13, 14, 15, 16, 17] [18, 19, 20, 21, 22, 23, 24, 25, 26, 27] [10, 11, 12, 13, 14, 15, 16, 17, 18, 19, 20, 21, 22, 23, 24, 25, 26, 27, 0, 1, 2, 3, 4, 5, 6, 7, 8, 9] hP hD hS rfl rfl (by decide) rfl rfl rfl (fun H locs hP hD hS => ?_)
        refine W.eq (g2 := F0 m 211 ls [.int r_208]) rfl ?_
        refine lv_aload_n hx hb dd_La_law_211 rfl (lv_at hl 1 rfl) ?_
        refine lv_aload_n hx hb dd_La_law_212 rfl (lv_at hl 3 rfl) ?_
        refine lv_iload_n hx hb dd_La_law_213 rfl (lv_at hl 0 rfl) ?_
        refine lv_iconst (v := (1 : Int32)) hx hb dd_La_law_214 (by decide) ?_
        refine ly_iaddN C j 1 rfl rfl dd_La_law_215 ?_
        refine ly_sld hx hb hX hbl hbA hS (j + 1) (by omega) (by omega) dd_La_law_216 ?_
        refine lv_aload_n hx hb dd_La_law_217 rfl (lv_at hl 3 rfl) ?_
        refine lv_iload_n hx hb dd_La_law_218 rfl (lv_at hl 0 rfl) ?_
        refine lv_iconst (v := (2 : Int32)) hx hb dd_La_law_219 (by decide) ?_
        refine ly_iaddN C j 2 rfl rfl dd_La_law_220 ?_
        refine ly_sld hx hb hX hbl hbA hS (j + 2) (by omega) (by omega) dd_La_law_221 ?_
        obtain ⟨⟨r_222, xa_222, xc_222, xe_222, xl_222, ys_222, xg_222, xt_222, xf_222, xp_222, xq_222, xv_222, xo_222⟩, hq222⟩ : ∃ z, z = mm_Mo_fetch (xs (j + 1)) (xs (j + 2)) n xk xa xc xe xl ys xg xr xd xt xf xp xq xv xo := ⟨_, rfl⟩
        refine ly_cV_i (n := 2) (z := (r_222, xa_222, xc_222, xe_222, xl_222, ys_222, xg_222, xt_222, xf_222, xp_222, xq_222, xv_222, xo_222)) (rest := [.int r_208]) (wn := ((ws_L3 K ah ac ar ap aq ax au ak az b0 c0 d0 b1 c1 d1 b2 c2 d2 n lf_208 rb_208 gr ro sr_208 sv_208 up ct_208 al sf th_208 wr fl) ++ (ws_Mo K mh m1 m2 m3 m4 m5 m6 m7 m8 m9 n xk xa_222 xb xc_222 xe_222 xl_222 ys_222 xg_222 xr xd xt_222 xf_222 xw xp_222 xq_222 xv_222 xo_222))) C (cc_Mo_fetch D K mh m1 m2 m3 m4 m5 m6 m7 m8 m9 (xs (j + 1)) (xs (j + 2)) n xk xa xb xc xe xl ys xg xr xd xt xf xw xp xq xv xo hn hn6) hq222 wa_340 wa_395 wa_265 wa_396 wa_397 (by decide) (by decide) (by decide) rfl hl.1 rfl (Nat.le_of_ble_eq_true rfl) dd_La_law_222 hcs [18, 19, 20, 21, 22, 23, 24, 25, 26, 27] [0, 1, 2, 3, 4, 5, 6, 7, 8, 9, 10, 11, 12, 13, 14, 15, 16, 17] [0, 1, 2, 3, 4, 5, 6, 7, 8, 9, 10, 11, 12, 13, 14, 15, 16, 17, 18, 19, 20, 21, 22, 23, 24, 25, 26, 27] hP hD hS rfl rfl (by decide) rfl rfl rfl (fun H locs hP hD hS => ?_)
        refine W.eq (g2 := F0 m 225 ls [.int r_222, .int r_208]) rfl ?_
        obtain ⟨he, hrl⟩ := e_fetch hrl hq208 hq222
        refine lv_icmp_eq (tgt := 617) hx hb dd_La_law_225 (by decide) (fun _ => ?_) (fun h => absurd he h)
        exact nx lf_208 rb_208 sr_208 sv_208 up ct_208 th_208 wr fl xa_222 xb xc_222 xe_222 xl_222 ys_222 xg_222 xd xt_222 xf_222 xw xp_222 xq_222 xv_222 xo_222 ls H locs hrl hl hP hD hS
      · refine lv_tableIn (tgt := 230) hx hb dd_La_law_42 (by decide) (by decide) rfl (by decide) ?_
        refine lv_aload_n hx hb dd_La_law_230 rfl (lv_at hl 2 rfl) ?_
        obtain ⟨r_231, hq231⟩ : ∃ z, z = m3_RG_fetched lf := ⟨_, rfl⟩
        refine ly_cV_l (n := 0) (z := r_231) (rest := []) (wn := ((ws_L3 K ah ac ar ap aq ax au ak az b0 c0 d0 b1 c1 d1 b2 c2 d2 n lf rb gr ro sr sv up ct al sf th wr fl) ++ (ws_Mo K mh m1 m2 m3 m4 m5 m6 m7 m8 m9 n xk xa xb xc xe xl ys xg xr xd xt xf xw xp xq xv xo))) C (c3_RG_fetched D K ah ac ar ap aq ax au ak az b0 c0 d0 b1 c1 d1 b2 c2 d2 n lf rb gr ro sr sv up ct al sf th wr fl hn hn6) hq231 wa_88 wa_398 wa_62 wa_399 wa_400 (by decide) (by decide) (by decide) rfl hl.1 rfl (Nat.le_of_ble_eq_true rfl) dd_La_law_231 hcs [0, 1, 2, 3, 4, 5, 6, 7, 8, 9, 10, 11, 12, 13, 14, 15, 16, 17] [18, 19, 20, 21, 22, 23, 24, 25, 26, 27] [10, 11, 12, 13, 14, 15, 16, 17, 18, 19, 20, 21, 22, 23, 24, 25, 26, 27, 0, 1, 2, 3, 4, 5, 6, 7, 8, 9] hP hD hS rfl rfl (by decide) rfl rfl rfl (fun H locs hP hD hS => ?_)
        refine W.eq (g2 := F0 m 234 ls [.long r_231]) rfl ?_
        refine lv_aload_n hx hb dd_La_law_234 rfl (lv_at hl 1 rfl) ?_
        obtain ⟨r_235, hq235⟩ : ∃ z, z = mm_Mo_fetched xl := ⟨_, rfl⟩
        refine ly_cV_l (n := 0) (z := r_235) (rest := [.long r_231]) (wn := ((ws_L3 K ah ac ar ap aq ax au ak az b0 c0 d0 b1 c1 d1 b2 c2 d2 n lf rb gr ro sr sv up ct al sf th wr fl) ++ (ws_Mo K mh m1 m2 m3 m4 m5 m6 m7 m8 m9 n xk xa xb xc xe xl ys xg xr xd xt xf xw xp xq xv xo))) C (cc_Mo_fetched D K mh m1 m2 m3 m4 m5 m6 m7 m8 m9 n xk xa xb xc xe xl ys xg xr xd xt xf xw xp xq xv xo hn hn6) hq235 wa_351 wa_401 wa_265 wa_402 wa_403 (by decide) (by decide) (by decide) rfl hl.1 rfl (Nat.le_of_ble_eq_true rfl) dd_La_law_235 hcs [18, 19, 20, 21, 22, 23, 24, 25, 26, 27] [0, 1, 2, 3, 4, 5, 6, 7, 8, 9, 10, 11, 12, 13, 14, 15, 16, 17] [0, 1, 2, 3, 4, 5, 6, 7, 8, 9, 10, 11, 12, 13, 14, 15, 16, 17, 18, 19, 20, 21, 22, 23, 24, 25, 26, 27] hP hD hS rfl rfl (by decide) rfl rfl rfl (fun H locs hP hD hS => ?_)
        refine W.eq (g2 := F0 m 238 ls [.long r_235, .long r_231]) rfl ?_
        obtain ⟨he, hrl⟩ := e_fetched hrl hq231 hq235
        refine W.lcmp hx hb dd_La_law_238 ?_
        refine lv_if_eq (tgt := 617) hx hb dd_La_law_239 (by decide) (fun _ => ?_) (fun h => absurd ((lg_cmp_eq _ _).mpr he) h)
        exact nx lf rb sr sv up ct th wr fl xa xb xc xe xl ys xg xd xt xf xw xp xq xv xo ls H locs hrl hl hP hD hS
      · refine lv_tableIn (tgt := 244) hx hb dd_La_law_42 (by decide) (by decide) rfl (by decide) ?_
        refine lv_aload_n hx hb dd_La_law_244 rfl (lv_at hl 2 rfl) ?_
        refine lv_aload_n hx hb dd_La_law_245 rfl (lv_at hl 3 rfl) ?_
        refine lv_iload_n hx hb dd_La_law_246 rfl (lv_at hl 0 rfl) ?_
        refine lv_iconst (v := (1 : Int32)) hx hb dd_La_law_247 (by decide) ?_
        refine ly_iaddN C j 1 rfl rfl dd_La_law_248 ?_
        refine ly_sld hx hb hX hbl hbA hS (j + 1) (by omega) (by omega) dd_La_law_249 ?_
        obtain ⟨⟨r_250, up_250, th_250⟩, hq250⟩ : ∃ z, z = m3_RG_fail (xs (j + 1)) n up th := ⟨_, rfl⟩
        refine ly_cV_i (n := 1) (z := (r_250, up_250, th_250)) (rest := []) (wn := ((ws_L3 K ah ac ar ap aq ax au ak az b0 c0 d0 b1 c1 d1 b2 c2 d2 n lf rb gr ro sr sv up_250 ct al sf th_250 wr fl) ++ (ws_Mo K mh m1 m2 m3 m4 m5 m6 m7 m8 m9 n xk xa xb xc xe xl ys xg xr xd xt xf xw xp xq xv xo))) C (c3_RG_fail D K ah ac ar ap aq ax au ak az b0 c0 d0 b1 c1 d1 b2 c2 d2 (xs (j + 1)) n lf rb gr ro sr sv up ct al sf th wr fl hn hn6 hs0 hs1 hs2) hq250 wa_89 wa_404 wa_62 wa_405 wa_406 (by decide) (by decide) (by decide) rfl hl.1 rfl (Nat.le_of_ble_eq_true rfl) dd_La_law_250 hcs [0, 1, 2, 3, 4, 5, 6, 7, 8, 9, 10, 11, 12, 13, 14, 15, 16, 17] [18, 19, 20, 21, 22, 23, 24, 25, 26, 27] [10, 11, 12, 13, 14, 15, 16, 17, 18, 19, 20, 21, 22, 23, 24, 25, 26, 27, 0, 1, 2, 3, 4, 5, 6, 7, 8, 9] hP hD hS rfl rfl (by decide) rfl rfl rfl (fun H locs hP hD hS => ?_)
        refine W.eq (g2 := F0 m 253 ls [.int r_250]) rfl ?_
        refine lv_aload_n hx hb dd_La_law_253 rfl (lv_at hl 1 rfl) ?_
        refine lv_aload_n hx hb dd_La_law_254 rfl (lv_at hl 3 rfl) ?_
        refine lv_iload_n hx hb dd_La_law_255 rfl (lv_at hl 0 rfl) ?_
        refine lv_iconst (v := (1 : Int32)) hx hb dd_La_law_256 (by decide) ?_
        refine ly_iaddN C j 1 rfl rfl dd_La_law_257 ?_
        refine ly_sld hx hb hX hbl hbA hS (j + 1) (by omega) (by omega) dd_La_law_258 ?_
        obtain ⟨⟨r_259, xt_259, xf_259, xw_259⟩, hq259⟩ : ∃ z, z = mm_Mo_fail (xs (j + 1)) n xt xf xw := ⟨_, rfl⟩
        refine ly_cV_i (n := 1) (z := (r_259, xt_259, xf_259, xw_259)) (rest := [.int r_250]) (wn := ((ws_L3 K ah ac ar ap aq ax au ak az b0 c0 d0 b1 c1 d1 b2 c2 d2 n lf rb gr ro sr sv up_250 ct al sf th_250 wr fl) ++ (ws_Mo K mh m1 m2 m3 m4 m5 m6 m7 m8 m9 n xk xa xb xc xe xl ys xg xr xd xt_259 xf_259 xw_259 xp xq xv xo))) C (cc_Mo_fail D K mh m1 m2 m3 m4 m5 m6 m7 m8 m9 (xs (j + 1)) n xk xa xb xc xe xl ys xg xr xd xt xf xw xp xq xv xo hn hn6) hq259 wa_352 wa_407 wa_265 wa_408 wa_409 (by decide) (by decide) (by decide) rfl hl.1 rfl (Nat.le_of_ble_eq_true rfl) dd_La_law_259 hcs [18, 19, 20, 21, 22, 23, 24, 25, 26, 27] [0, 1, 2, 3, 4, 5, 6, 7, 8, 9, 10, 11, 12, 13, 14, 15, 16, 17] [0, 1, 2, 3, 4, 5, 6, 7, 8, 9, 10, 11, 12, 13, 14, 15, 16, 17, 18, 19, 20, 21, 22, 23, 24, 25, 26, 27] hP hD hS rfl rfl (by decide) rfl rfl rfl (fun H locs hP hD hS => ?_)
        refine W.eq (g2 := F0 m 262 ls [.int r_259, .int r_250]) rfl ?_
        obtain ⟨he, hrl⟩ := e_fail hrl hq250 hq259
        refine lv_icmp_eq (tgt := 617) hx hb dd_La_law_262 (by decide) (fun _ => ?_) (fun h => absurd he h)
        exact nx lf rb sr sv up_250 ct th_250 wr fl xa xb xc xe xl ys xg xd xt_259 xf_259 xw_259 xp xq xv xo ls H locs hrl hl hP hD hS
      · refine lv_tableIn (tgt := 267) hx hb dd_La_law_42 (by decide) (by decide) rfl (by decide) ?_
        refine lv_aload_n hx hb dd_La_law_267 rfl (lv_at hl 2 rfl) ?_
        refine lv_aload_n hx hb dd_La_law_268 rfl (lv_at hl 3 rfl) ?_
        refine lv_iload_n hx hb dd_La_law_269 rfl (lv_at hl 0 rfl) ?_
        refine lv_iconst (v := (1 : Int32)) hx hb dd_La_law_270 (by decide) ?_
        refine ly_iaddN C j 1 rfl rfl dd_La_law_271 ?_
        refine ly_sld hx hb hX hbl hbA hS (j + 1) (by omega) (by omega) dd_La_law_272 ?_
        obtain ⟨⟨r_273, up_273⟩, hq273⟩ : ∃ z, z = m3_RG_revive (xs (j + 1)) up := ⟨_, rfl⟩
        refine ly_cV_i (n := 1) (z := (r_273, up_273)) (rest := []) (wn := ((ws_L3 K ah ac ar ap aq ax au ak az b0 c0 d0 b1 c1 d1 b2 c2 d2 n lf rb gr ro sr sv up_273 ct al sf th wr fl) ++ (ws_Mo K mh m1 m2 m3 m4 m5 m6 m7 m8 m9 n xk xa xb xc xe xl ys xg xr xd xt xf xw xp xq xv xo))) C (c3_RG_revive D K ah ac ar ap aq ax au ak az b0 c0 d0 b1 c1 d1 b2 c2 d2 (xs (j + 1)) n lf rb gr ro sr sv up ct al sf th wr fl hn hn6) hq273 wa_95 wa_410 wa_62 wa_411 wa_412 (by decide) (by decide) (by decide) rfl hl.1 rfl (Nat.le_of_ble_eq_true rfl) dd_La_law_273 hcs [0, 1, 2, 3, 4, 5, 6, 7, 8, 9, 10, 11, 12, 13, 14, 15, 16, 17] [18, 19, 20, 21, 22, 23, 24, 25, 26, 27] [10, 11, 12, 13, 14, 15, 16, 17, 18, 19, 20, 21, 22, 23, 24, 25, 26, 27, 0, 1, 2, 3, 4, 5, 6, 7, 8, 9] hP hD hS rfl rfl (by decide) rfl rfl rfl (fun H locs hP hD hS => ?_)
        refine W.eq (g2 := F0 m 276 ls [.int r_273]) rfl ?_
        refine lv_aload_n hx hb dd_La_law_276 rfl (lv_at hl 1 rfl) ?_
        refine lv_aload_n hx hb dd_La_law_277 rfl (lv_at hl 3 rfl) ?_
        refine lv_iload_n hx hb dd_La_law_278 rfl (lv_at hl 0 rfl) ?_
        refine lv_iconst (v := (1 : Int32)) hx hb dd_La_law_279 (by decide) ?_
        refine ly_iaddN C j 1 rfl rfl dd_La_law_280 ?_
        refine ly_sld hx hb hX hbl hbA hS (j + 1) (by omega) (by omega) dd_La_law_281 ?_
        obtain ⟨⟨r_282, xw_282⟩, hq282⟩ : ∃ z, z = mm_Mo_revive (xs (j + 1)) xw := ⟨_, rfl⟩
        refine ly_cV_i (n := 1) (z := (r_282, xw_282)) (rest := [.int r_273]) (wn := ((ws_L3 K ah ac ar ap aq ax au ak az b0 c0 d0 b1 c1 d1 b2 c2 d2 n lf rb gr ro sr sv up_273 ct al sf th wr fl) ++ (ws_Mo K mh m1 m2 m3 m4 m5 m6 m7 m8 m9 n xk xa xb xc xe xl ys xg xr xd xt xf xw_282 xp xq xv xo))) C (cc_Mo_revive D K mh m1 m2 m3 m4 m5 m6 m7 m8 m9 (xs (j + 1)) n xk xa xb xc xe xl ys xg xr xd xt xf xw xp xq xv xo hn hn6) hq282 wa_353 wa_413 wa_265 wa_414 wa_415 (by decide) (by decide) (by decide) rfl hl.1 rfl (Nat.le_of_ble_eq_true rfl) dd_La_law_282 hcs [18, 19, 20, 21, 22, 23, 24, 25, 26, 27] [0, 1, 2, 3, 4, 5, 6, 7, 8, 9, 10, 11, 12, 13, 14, 15, 16, 17] [0, 1, 2, 3, 4, 5, 6, 7, 8, 9, 10, 11, 12, 13, 14, 15, 16, 17, 18, 19, 20, 21, 22, 23, 24, 25, 26, 27] hP hD hS rfl rfl (by decide) rfl rfl rfl (fun H locs hP hD hS => ?_)
        refine W.eq (g2 := F0 m 285 ls [.int r_282, .int r_273]) rfl ?_
        obtain ⟨he, hrl⟩ := e_revive hrl hq273 hq282
        refine lv_icmp_eq (tgt := 617) hx hb dd_La_law_285 (by decide) (fun _ => ?_) (fun h => absurd he h)
        exact nx lf rb sr sv up_273 ct th wr fl xa xb xc xe xl ys xg xd xt xf xw_282 xp xq xv xo ls H locs hrl hl hP hD hS
      · refine lv_tableIn (tgt := 290) hx hb dd_La_law_42 (by decide) (by decide) rfl (by decide) ?_
        refine lv_aload_n hx hb dd_La_law_290 rfl (lv_at hl 2 rfl) ?_
        refine lv_aload_n hx hb dd_La_law_291 rfl (lv_at hl 3 rfl) ?_
        refine lv_iload_n hx hb dd_La_law_292 rfl (lv_at hl 0 rfl) ?_
        refine lv_iconst (v := (1 : Int32)) hx hb dd_La_law_293 (by decide) ?_
        refine ly_iaddN C j 1 rfl rfl dd_La_law_294 ?_
        refine ly_sld hx hb hX hbl hbA hS (j + 1) (by omega) (by omega) dd_La_law_295 ?_
        refine lv_aload_n hx hb dd_La_law_296 rfl (lv_at hl 3 rfl) ?_
        refine lv_iload_n hx hb dd_La_law_297 rfl (lv_at hl 0 rfl) ?_
        refine lv_iconst (v := (2 : Int32)) hx hb dd_La_law_298 (by decide) ?_
        refine ly_iaddN C j 2 rfl rfl dd_La_law_299 ?_
        refine ly_sld hx hb hX hbl hbA hS (j + 2) (by omega) (by omega) dd_La_law_300 ?_
        refine lv_aload_n hx hb dd_La_law_301 rfl (lv_at hl 3 rfl) ?_
        refine lv_iload_n hx hb dd_La_law_302 rfl (lv_at hl 0 rfl) ?_
        refine lv_iconst (v := (3 : Int32)) hx hb dd_La_law_303 (by decide) ?_
        refine ly_iaddN C j 3 rfl rfl dd_La_law_304 ?_
        refine ly_sld hx hb hX hbl hbA hS (j + 3) (by omega) (by omega) dd_La_law_305 ?_
        obtain ⟨⟨r_306, fl_306⟩, hq306⟩ : ∃ z, z = m3_RG_damage (xs (j + 1)) (xs (j + 2)) (xs (j + 3)) n th fl := ⟨_, rfl⟩
        refine ly_cV_i (n := 3) (z := (r_306, fl_306)) (rest := []) (wn := ((ws_L3 K ah ac ar ap aq ax au ak az b0 c0 d0 b1 c1 d1 b2 c2 d2 n lf rb gr ro sr sv up ct al sf th wr fl_306) ++ (ws_Mo K mh m1 m2 m3 m4 m5 m6 m7 m8 m9 n xk xa xb xc xe xl ys xg xr xd xt xf xw xp xq xv xo))) C (c3_RG_damage D K ah ac ar ap aq ax au ak az b0 c0 d0 b1 c1 d1 b2 c2 d2 (xs (j + 1)) (xs (j + 2)) (xs (j + 3)) n lf rb gr ro sr sv up ct al sf th wr fl hn hn6 hs0 hs1 hs2) hq306 wa_96 wa_416 wa_62 wa_417 wa_418 (by decide) (by decide) (by decide) rfl hl.1 rfl (Nat.le_of_ble_eq_true rfl) dd_La_law_306 hcs [0, 1, 2, 3, 4, 5, 6, 7, 8, 9, 10, 11, 12, 13, 14, 15, 16, 17] [18, 19, 20, 21, 22, 23, 24, 25, 26, 27] [10, 11, 12, 13, 14, 15, 16, 17, 18, 19, 20, 21, 22, 23, 24, 25, 26, 27, 0, 1, 2, 3, 4, 5, 6, 7, 8, 9] hP hD hS rfl rfl (by decide) rfl rfl rfl (fun H locs hP hD hS => ?_)
        refine W.eq (g2 := F0 m 309 ls [.int r_306]) rfl ?_
        refine lv_aload_n hx hb dd_La_law_309 rfl (lv_at hl 1 rfl) ?_
        refine lv_aload_n hx hb dd_La_law_310 rfl (lv_at hl 3 rfl) ?_
        refine lv_iload_n hx hb dd_La_law_311 rfl (lv_at hl 0 rfl) ?_
        refine lv_iconst (v := (1 : Int32)) hx hb dd_La_law_312 (by decide) ?_
        refine ly_iaddN C j 1 rfl rfl dd_La_law_313 ?_
        refine ly_sld hx hb hX hbl hbA hS (j + 1) (by omega) (by omega) dd_La_law_314 ?_
        refine lv_aload_n hx hb dd_La_law_315 rfl (lv_at hl 3 rfl) ?_
        refine lv_iload_n hx hb dd_La_law_316 rfl (lv_at hl 0 rfl) ?_
        refine lv_iconst (v := (2 : Int32)) hx hb dd_La_law_317 (by decide) ?_
        refine ly_iaddN C j 2 rfl rfl dd_La_law_318 ?_
        refine ly_sld hx hb hX hbl hbA hS (j + 2) (by omega) (by omega) dd_La_law_319 ?_
        refine lv_aload_n hx hb dd_La_law_320 rfl (lv_at hl 3 rfl) ?_
        refine lv_iload_n hx hb dd_La_law_321 rfl (lv_at hl 0 rfl) ?_
        refine lv_iconst (v := (3 : Int32)) hx hb dd_La_law_322 (by decide) ?_
        refine ly_iaddN C j 3 rfl rfl dd_La_law_323 ?_
        refine ly_sld hx hb hX hbl hbA hS (j + 3) (by omega) (by omega) dd_La_law_324 ?_
        obtain ⟨⟨r_325, xf_325⟩, hq325⟩ : ∃ z, z = mm_Mo_damage (xs (j + 1)) (xs (j + 2)) (xs (j + 3)) n xt xf := ⟨_, rfl⟩
        refine ly_cV_i (n := 3) (z := (r_325, xf_325)) (rest := [.int r_306]) (wn := ((ws_L3 K ah ac ar ap aq ax au ak az b0 c0 d0 b1 c1 d1 b2 c2 d2 n lf rb gr ro sr sv up ct al sf th wr fl_306) ++ (ws_Mo K mh m1 m2 m3 m4 m5 m6 m7 m8 m9 n xk xa xb xc xe xl ys xg xr xd xt xf_325 xw xp xq xv xo))) C (cc_Mo_damage D K mh m1 m2 m3 m4 m5 m6 m7 m8 m9 (xs (j + 1)) (xs (j + 2)) (xs (j + 3)) n xk xa xb xc xe xl ys xg xr xd xt xf xw xp xq xv xo hn hn6) hq325 wa_354 wa_419 wa_265 wa_420 wa_421 (by decide) (by decide) (by decide) rfl hl.1 rfl (Nat.le_of_ble_eq_true rfl) dd_La_law_325 hcs [18, 19, 20, 21, 22, 23, 24, 25, 26, 27] [0, 1, 2, 3, 4, 5, 6, 7, 8, 9, 10, 11, 12, 13, 14, 15, 16, 17] [0, 1, 2, 3, 4, 5, 6, 7, 8, 9, 10, 11, 12, 13, 14, 15, 16, 17, 18, 19, 20, 21, 22, 23, 24, 25, 26, 27] hP hD hS rfl rfl (by decide) rfl rfl rfl (fun H locs hP hD hS => ?_)
        refine W.eq (g2 := F0 m 328 ls [.int r_325, .int r_306]) rfl ?_
        obtain ⟨he, hrl⟩ := e_damage hrl hq306 hq325
        refine lv_icmp_eq (tgt := 617) hx hb dd_La_law_328 (by decide) (fun _ => ?_) (fun h => absurd he h)
        exact nx lf rb sr sv up ct th wr fl_306 xa xb xc xe xl ys xg xd xt xf_325 xw xp xq xv xo ls H locs hrl hl hP hD hS
      · refine lv_tableIn (tgt := 333) hx hb dd_La_law_42 (by decide) (by decide) rfl (by decide) ?_
        refine lv_aload_n hx hb dd_La_law_333 rfl (lv_at hl 2 rfl) ?_
        refine lv_aload_n hx hb dd_La_law_334 rfl (lv_at hl 3 rfl) ?_
        refine lv_iload_n hx hb dd_La_law_335 rfl (lv_at hl 0 rfl) ?_
        refine lv_iconst (v := (1 : Int32)) hx hb dd_La_law_336 (by decide) ?_
        refine ly_iaddN C j 1 rfl rfl dd_La_law_337 ?_
        refine ly_sld hx hb hX hbl hbA hS (j + 1) (by omega) (by omega) dd_La_law_338 ?_
        refine lv_aload_n hx hb dd_La_law_339 rfl (lv_at hl 3 rfl) ?_
        refine lv_iload_n hx hb dd_La_law_340 rfl (lv_at hl 0 rfl) ?_
        refine lv_iconst (v := (2 : Int32)) hx hb dd_La_law_341 (by decide) ?_
        refine ly_iaddN C j 2 rfl rfl dd_La_law_342 ?_
        refine ly_sld hx hb hX hbl hbA hS (j + 2) (by omega) (by omega) dd_La_law_343 ?_
        obtain ⟨⟨r_344, rb_344, sr_344, sv_344, ct_344, th_344, wr_344, fl_344⟩, hq344⟩ : ∃ z, z = m3_RG_repair (xs (j + 1)) (xs (j + 2)) n rb gr ro sr sv up ct al th wr fl := ⟨_, rfl⟩
        refine ly_cV_i (n := 2) (z := (r_344, rb_344, sr_344, sv_344, ct_344, th_344, wr_344, fl_344)) (rest := []) (wn := ((ws_L3 K ah ac ar ap aq ax au ak az b0 c0 d0 b1 c1 d1 b2 c2 d2 n lf rb_344 gr ro sr_344 sv_344 up ct_344 al sf th_344 wr_344 fl_344) ++ (ws_Mo K mh m1 m2 m3 m4 m5 m6 m7 m8 m9 n xk xa xb xc xe xl ys xg xr xd xt xf xw xp xq xv xo))) C (c3_RG_repair D K ah ac ar ap aq ax au ak az b0 c0 d0 b1 c1 d1 b2 c2 d2 (xs (j + 1)) (xs (j + 2)) n lf rb gr ro sr sv up ct al sf th wr fl hn hn6 hs0 hs1 hs2) hq344 wa_100 wa_422 wa_62 wa_423 wa_424 (by decide) (by decide) (by decide) rfl hl.1 rfl (Nat.le_of_ble_eq_true rfl) dd_La_law_344 hcs [0, 1, 2, 3, 4, 5, 6, 7, 8, 9, 10, 11, 12, 13, 14, 15, 16, 17] [18, 19, 20, 21, 22, 23, 24, 25, 26, 27] [10, 11, 12, 13, 14, 15, 16, 17, 18, 19, 20, 21, 22, 23, 24, 25, 26, 27, 0, 1, 2, 3, 4, 5, 6, 7, 8, 9] hP hD hS rfl rfl (by decide) rfl rfl rfl (fun H locs hP hD hS => ?_)
        refine W.eq (g2 := F0 m 347 ls [.int r_344]) rfl ?_
        refine lv_aload_n hx hb dd_La_law_347 rfl (lv_at hl 1 rfl) ?_
        refine lv_aload_n hx hb dd_La_law_348 rfl (lv_at hl 3 rfl) ?_
        refine lv_iload_n hx hb dd_La_law_349 rfl (lv_at hl 0 rfl) ?_
        refine lv_iconst (v := (1 : Int32)) hx hb dd_La_law_350 (by decide) ?_
        refine ly_iaddN C j 1 rfl rfl dd_La_law_351 ?_
        refine ly_sld hx hb hX hbl hbA hS (j + 1) (by omega) (by omega) dd_La_law_352 ?_
        refine lv_aload_n hx hb dd_La_law_353 rfl (lv_at hl 3 rfl) ?_
        refine lv_iload_n hx hb dd_La_law_354 rfl (lv_at hl 0 rfl) ?_
        refine lv_iconst (v := (2 : Int32)) hx hb dd_La_law_355 (by decide) ?_
        refine ly_iaddN C j 2 rfl rfl dd_La_law_356 ?_
        refine ly_sld hx hb hX hbl hbA hS (j + 2) (by omega) (by omega) dd_La_law_357 ?_
        obtain ⟨⟨r_358, xa_358, xb_358, xc_358, xe_358, ys_358, xg_358, xt_358, xf_358, xp_358, xq_358, xv_358, xo_358⟩, hq358⟩ : ∃ z, z = mm_Mo_repair (xs (j + 1)) (xs (j + 2)) n xk xa xb xc xe ys xg xr xt xf xw xp xq xv xo := ⟨_, rfl⟩
        refine ly_cV_i (n := 2) (z := (r_358, xa_358, xb_358, xc_358, xe_358, ys_358, xg_358, xt_358, xf_358, xp_358, xq_358, xv_358, xo_358)) (rest := [.int r_344]) (wn := ((ws_L3 K ah ac ar ap aq ax au ak az b0 c0 d0 b1 c1 d1 b2 c2 d2 n lf rb_344 gr ro sr_344 sv_344 up ct_344 al sf th_344 wr_344 fl_344) ++ (ws_Mo K mh m1 m2 m3 m4 m5 m6 m7 m8 m9 n xk xa_358 xb_358 xc_358 xe_358 xl ys_358 xg_358 xr xd xt_358 xf_358 xw xp_358 xq_358 xv_358 xo_358))) C (cc_Mo_repair D K mh m1 m2 m3 m4 m5 m6 m7 m8 m9 (xs (j + 1)) (xs (j + 2)) n xk xa xb xc xe xl ys xg xr xd xt xf xw xp xq xv xo hn hn6) hq358 wa_355 wa_425 wa_265 wa_362 wa_363 (by decide) (by decide) (by decide) rfl hl.1 rfl (Nat.le_of_ble_eq_true rfl) dd_La_law_358 hcs [18, 19, 20, 21, 22, 23, 24, 25, 26, 27] [0, 1, 2, 3, 4, 5, 6, 7, 8, 9, 10, 11, 12, 13, 14, 15, 16, 17] [0, 1, 2, 3, 4, 5, 6, 7, 8, 9, 10, 11, 12, 13, 14, 15, 16, 17, 18, 19, 20, 21, 22, 23, 24, 25, 26, 27] hP hD hS rfl rfl (by decide) rfl rfl rfl (fun H locs hP hD hS => ?_)
        refine W.eq (g2 := F0 m 361 ls [.int r_358, .int r_344]) rfl ?_
        obtain ⟨he, hrl⟩ := e_repair hrl hq344 hq358
        refine lv_icmp_eq (tgt := 617) hx hb dd_La_law_361 (by decide) (fun _ => ?_) (fun h => absurd he h)
        exact nx lf rb_344 sr_344 sv_344 up ct_344 th_344 wr_344 fl_344 xa_358 xb_358 xc_358 xe_358 xl ys_358 xg_358 xd xt_358 xf_358 xw xp_358 xq_358 xv_358 xo_358 ls H locs hrl hl hP hD hS
      · refine lv_tableIn (tgt := 366) hx hb dd_La_law_42 (by decide) (by decide) rfl (by decide) ?_
        refine lv_aload_n hx hb dd_La_law_366 rfl (lv_at hl 2 rfl) ?_
        refine lv_aload_n hx hb dd_La_law_367 rfl (lv_at hl 3 rfl) ?_
        refine lv_iload_n hx hb dd_La_law_368 rfl (lv_at hl 0 rfl) ?_
        refine lv_iconst (v := (1 : Int32)) hx hb dd_La_law_369 (by decide) ?_
        refine ly_iaddN C j 1 rfl rfl dd_La_law_370 ?_
        refine ly_sld hx hb hX hbl hbA hS (j + 1) (by omega) (by omega) dd_La_law_371 ?_
        obtain ⟨⟨r_372, rb_372, sr_372, sv_372, ct_372, th_372, wr_372, fl_372⟩, hq372⟩ : ∃ z, z = m3_RG_mend (xs (j + 1)) n rb gr ro sr sv up ct al th wr fl := ⟨_, rfl⟩
        refine ly_cV_i (n := 1) (z := (r_372, rb_372, sr_372, sv_372, ct_372, th_372, wr_372, fl_372)) (rest := []) (wn := ((ws_L3 K ah ac ar ap aq ax au ak az b0 c0 d0 b1 c1 d1 b2 c2 d2 n lf rb_372 gr ro sr_372 sv_372 up ct_372 al sf th_372 wr_372 fl_372) ++ (ws_Mo K mh m1 m2 m3 m4 m5 m6 m7 m8 m9 n xk xa xb xc xe xl ys xg xr xd xt xf xw xp xq xv xo))) C (c3_RG_mend D K ah ac ar ap aq ax au ak az b0 c0 d0 b1 c1 d1 b2 c2 d2 (xs (j + 1)) n lf rb gr ro sr sv up ct al sf th wr fl hn hn6 hs0 hs1 hs2) hq372 wa_107 wa_426 wa_62 wa_427 wa_428 (by decide) (by decide) (by decide) rfl hl.1 rfl (Nat.le_of_ble_eq_true rfl) dd_La_law_372 hcs [0, 1, 2, 3, 4, 5, 6, 7, 8, 9, 10, 11, 12, 13, 14, 15, 16, 17] [18, 19, 20, 21, 22, 23, 24, 25, 26, 27] [10, 11, 12, 13, 14, 15, 16, 17, 18, 19, 20, 21, 22, 23, 24, 25, 26, 27, 0, 1, 2, 3, 4, 5, 6, 7, 8, 9] hP hD hS rfl rfl (by decide) rfl rfl rfl (fun H locs hP hD hS => ?_)
        refine W.eq (g2 := F0 m 375 ls [.int r_372]) rfl ?_
        refine lv_aload_n hx hb dd_La_law_375 rfl (lv_at hl 1 rfl) ?_
        refine lv_aload_n hx hb dd_La_law_376 rfl (lv_at hl 3 rfl) ?_
        refine lv_iload_n hx hb dd_La_law_377 rfl (lv_at hl 0 rfl) ?_
        refine lv_iconst (v := (1 : Int32)) hx hb dd_La_law_378 (by decide) ?_
        refine ly_iaddN C j 1 rfl rfl dd_La_law_379 ?_
        refine ly_sld hx hb hX hbl hbA hS (j + 1) (by omega) (by omega) dd_La_law_380 ?_
        obtain ⟨⟨r_381, xa_381, xb_381, xc_381, xe_381, ys_381, xg_381, xt_381, xf_381, xp_381, xq_381, xv_381, xo_381⟩, hq381⟩ : ∃ z, z = mm_Mo_mend (xs (j + 1)) n xk xa xb xc xe ys xg xr xt xf xw xp xq xv xo := ⟨_, rfl⟩
        refine ly_cV_i (n := 1) (z := (r_381, xa_381, xb_381, xc_381, xe_381, ys_381, xg_381, xt_381, xf_381, xp_381, xq_381, xv_381, xo_381)) (rest := [.int r_372]) (wn := ((ws_L3 K ah ac ar ap aq ax au ak az b0 c0 d0 b1 c1 d1 b2 c2 d2 n lf rb_372 gr ro sr_372 sv_372 up ct_372 al sf th_372 wr_372 fl_372) ++ (ws_Mo K mh m1 m2 m3 m4 m5 m6 m7 m8 m9 n xk xa_381 xb_381 xc_381 xe_381 xl ys_381 xg_381 xr xd xt_381 xf_381 xw xp_381 xq_381 xv_381 xo_381))) C (cc_Mo_mend D K mh m1 m2 m3 m4 m5 m6 m7 m8 m9 (xs (j + 1)) n xk xa xb xc xe xl ys xg xr xd xt xf xw xp xq xv xo hn hn6) hq381 wa_357 wa_429 wa_265 wa_430 wa_431 (by decide) (by decide) (by decide) rfl hl.1 rfl (Nat.le_of_ble_eq_true rfl) dd_La_law_381 hcs [18, 19, 20, 21, 22, 23, 24, 25, 26, 27] [0, 1, 2, 3, 4, 5, 6, 7, 8, 9, 10, 11, 12, 13, 14, 15, 16, 17] [0, 1, 2, 3, 4, 5, 6, 7, 8, 9, 10, 11, 12, 13, 14, 15, 16, 17, 18, 19, 20, 21, 22, 23, 24, 25, 26, 27] hP hD hS rfl rfl (by decide) rfl rfl rfl (fun H locs hP hD hS => ?_)
        refine W.eq (g2 := F0 m 384 ls [.int r_381, .int r_372]) rfl ?_
        obtain ⟨he, hrl⟩ := e_mend hrl hq372 hq381
        refine lv_icmp_eq (tgt := 617) hx hb dd_La_law_384 (by decide) (fun _ => ?_) (fun h => absurd he h)
        exact nx lf rb_372 sr_372 sv_372 up ct_372 th_372 wr_372 fl_372 xa_381 xb_381 xc_381 xe_381 xl ys_381 xg_381 xd xt_381 xf_381 xw xp_381 xq_381 xv_381 xo_381 ls H locs hrl hl hP hD hS
      · refine lv_tableIn (tgt := 389) hx hb dd_La_law_42 (by decide) (by decide) rfl (by decide) ?_
        refine lv_aload_n hx hb dd_La_law_389 rfl (lv_at hl 2 rfl) ?_
        refine lv_aload_n hx hb dd_La_law_390 rfl (lv_at hl 3 rfl) ?_
        refine lv_iload_n hx hb dd_La_law_391 rfl (lv_at hl 0 rfl) ?_
        refine lv_iconst (v := (1 : Int32)) hx hb dd_La_law_392 (by decide) ?_
        refine ly_iaddN C j 1 rfl rfl dd_La_law_393 ?_
        refine ly_sld hx hb hX hbl hbA hS (j + 1) (by omega) (by omega) dd_La_law_394 ?_
        obtain ⟨⟨r_395, ct_395, th_395⟩, hq395⟩ : ∃ z, z = m3_RG_scrub (xs (j + 1)) n ct th fl := ⟨_, rfl⟩
        refine ly_cV_i (n := 1) (z := (r_395, ct_395, th_395)) (rest := []) (wn := ((ws_L3 K ah ac ar ap aq ax au ak az b0 c0 d0 b1 c1 d1 b2 c2 d2 n lf rb gr ro sr sv up ct_395 al sf th_395 wr fl) ++ (ws_Mo K mh m1 m2 m3 m4 m5 m6 m7 m8 m9 n xk xa xb xc xe xl ys xg xr xd xt xf xw xp xq xv xo))) C (c3_RG_scrub D K ah ac ar ap aq ax au ak az b0 c0 d0 b1 c1 d1 b2 c2 d2 (xs (j + 1)) n lf rb gr ro sr sv up ct al sf th wr fl hn hn6 hs0 hs1 hs2) hq395 wa_111 wa_432 wa_62 wa_433 wa_434 (by decide) (by decide) (by decide) rfl hl.1 rfl (Nat.le_of_ble_eq_true rfl) dd_La_law_395 hcs [0, 1, 2, 3, 4, 5, 6, 7, 8, 9, 10, 11, 12, 13, 14, 15, 16, 17] [18, 19, 20, 21, 22, 23, 24, 25, 26, 27] [10, 11, 12, 13, 14, 15, 16, 17, 18, 19, 20, 21, 22, 23, 24, 25, 26, 27, 0, 1, 2, 3, 4, 5, 6, 7, 8, 9] hP hD hS rfl rfl (by decide) rfl rfl rfl (fun H locs hP hD hS => ?_)
        refine W.eq (g2 := F0 m 398 ls [.int r_395]) rfl ?_
        refine lv_aload_n hx hb dd_La_law_398 rfl (lv_at hl 1 rfl) ?_
        refine lv_aload_n hx hb dd_La_law_399 rfl (lv_at hl 3 rfl) ?_
        refine lv_iload_n hx hb dd_La_law_400 rfl (lv_at hl 0 rfl) ?_
        refine lv_iconst (v := (1 : Int32)) hx hb dd_La_law_401 (by decide) ?_
        refine ly_iaddN C j 1 rfl rfl dd_La_law_402 ?_
        refine ly_sld hx hb hX hbl hbA hS (j + 1) (by omega) (by omega) dd_La_law_403 ?_
        obtain ⟨⟨r_404, xa_404, xt_404, xf_404⟩, hq404⟩ : ∃ z, z = mm_Mo_scrub (xs (j + 1)) n xa xt xf := ⟨_, rfl⟩
        refine ly_cV_i (n := 1) (z := (r_404, xa_404, xt_404, xf_404)) (rest := [.int r_395]) (wn := ((ws_L3 K ah ac ar ap aq ax au ak az b0 c0 d0 b1 c1 d1 b2 c2 d2 n lf rb gr ro sr sv up ct_395 al sf th_395 wr fl) ++ (ws_Mo K mh m1 m2 m3 m4 m5 m6 m7 m8 m9 n xk xa_404 xb xc xe xl ys xg xr xd xt_404 xf_404 xw xp xq xv xo))) C (cc_Mo_scrub D K mh m1 m2 m3 m4 m5 m6 m7 m8 m9 (xs (j + 1)) n xk xa xb xc xe xl ys xg xr xd xt xf xw xp xq xv xo hn hn6) hq404 wa_364 wa_435 wa_265 wa_436 wa_437 (by decide) (by decide) (by decide) rfl hl.1 rfl (Nat.le_of_ble_eq_true rfl) dd_La_law_404 hcs [18, 19, 20, 21, 22, 23, 24, 25, 26, 27] [0, 1, 2, 3, 4, 5, 6, 7, 8, 9, 10, 11, 12, 13, 14, 15, 16, 17] [0, 1, 2, 3, 4, 5, 6, 7, 8, 9, 10, 11, 12, 13, 14, 15, 16, 17, 18, 19, 20, 21, 22, 23, 24, 25, 26, 27] hP hD hS rfl rfl (by decide) rfl rfl rfl (fun H locs hP hD hS => ?_)
        refine W.eq (g2 := F0 m 407 ls [.int r_404, .int r_395]) rfl ?_
        obtain ⟨he, hrl⟩ := e_scrub hrl hq395 hq404
        refine lv_icmp_eq (tgt := 617) hx hb dd_La_law_407 (by decide) (fun _ => ?_) (fun h => absurd he h)
        exact nx lf rb sr sv up ct_395 th_395 wr fl xa_404 xb xc xe xl ys xg xd xt_404 xf_404 xw xp xq xv xo ls H locs hrl hl hP hD hS
      · refine lv_tableIn (tgt := 412) hx hb dd_La_law_42 (by decide) (by decide) rfl (by decide) ?_
        refine lv_aload_n hx hb dd_La_law_412 rfl (lv_at hl 2 rfl) ?_
        refine lv_aload_n hx hb dd_La_law_413 rfl (lv_at hl 3 rfl) ?_
        refine lv_iload_n hx hb dd_La_law_414 rfl (lv_at hl 0 rfl) ?_
        refine lv_iconst (v := (1 : Int32)) hx hb dd_La_law_415 (by decide) ?_
        refine ly_iaddN C j 1 rfl rfl dd_La_law_416 ?_
        refine ly_sld hx hb hX hbl hbA hS (j + 1) (by omega) (by omega) dd_La_law_417 ?_
        refine lv_aload_n hx hb dd_La_law_418 rfl (lv_at hl 3 rfl) ?_
        refine lv_iload_n hx hb dd_La_law_419 rfl (lv_at hl 0 rfl) ?_
        refine lv_iconst (v := (2 : Int32)) hx hb dd_La_law_420 (by decide) ?_
        refine ly_iaddN C j 2 rfl rfl dd_La_law_421 ?_
        refine ly_sld hx hb hX hbl hbA hS (j + 2) (by omega) (by omega) dd_La_law_422 ?_
        obtain ⟨⟨r_423, sr_423, sv_423⟩, hq423⟩ : ∃ z, z = m3_RG_cost (xs (j + 1)) (xs (j + 2)) n gr ro sr sv al th := ⟨_, rfl⟩
        refine ly_cV_i (n := 2) (z := (r_423, sr_423, sv_423)) (rest := []) (wn := ((ws_L3 K ah ac ar ap aq ax au ak az b0 c0 d0 b1 c1 d1 b2 c2 d2 n lf rb gr ro sr_423 sv_423 up ct al sf th wr fl) ++ (ws_Mo K mh m1 m2 m3 m4 m5 m6 m7 m8 m9 n xk xa xb xc xe xl ys xg xr xd xt xf xw xp xq xv xo))) C (c3_RG_cost D K ah ac ar ap aq ax au ak az b0 c0 d0 b1 c1 d1 b2 c2 d2 (xs (j + 1)) (xs (j + 2)) n lf rb gr ro sr sv up ct al sf th wr fl hn hn6 hs0 hs1 hs2) hq423 wa_112 wa_438 wa_62 wa_439 wa_440 (by decide) (by decide) (by decide) rfl hl.1 rfl (Nat.le_of_ble_eq_true rfl) dd_La_law_423 hcs [0, 1, 2, 3, 4, 5, 6, 7, 8, 9, 10, 11, 12, 13, 14, 15, 16, 17] [18, 19, 20, 21, 22, 23, 24, 25, 26, 27] [10, 11, 12, 13, 14, 15, 16, 17, 18, 19, 20, 21, 22, 23, 24, 25, 26, 27, 0, 1, 2, 3, 4, 5, 6, 7, 8, 9] hP hD hS rfl rfl (by decide) rfl rfl rfl (fun H locs hP hD hS => ?_)
        refine W.eq (g2 := F0 m 426 ls [.int r_423]) rfl ?_
        refine lv_aload_n hx hb dd_La_law_426 rfl (lv_at hl 1 rfl) ?_
        refine lv_aload_n hx hb dd_La_law_427 rfl (lv_at hl 3 rfl) ?_
        refine lv_iload_n hx hb dd_La_law_428 rfl (lv_at hl 0 rfl) ?_
        refine lv_iconst (v := (1 : Int32)) hx hb dd_La_law_429 (by decide) ?_
        refine ly_iaddN C j 1 rfl rfl dd_La_law_430 ?_
        refine ly_sld hx hb hX hbl hbA hS (j + 1) (by omega) (by omega) dd_La_law_431 ?_
        refine lv_aload_n hx hb dd_La_law_432 rfl (lv_at hl 3 rfl) ?_
        refine lv_iload_n hx hb dd_La_law_433 rfl (lv_at hl 0 rfl) ?_
        refine lv_iconst (v := (2 : Int32)) hx hb dd_La_law_434 (by decide) ?_
        refine ly_iaddN C j 2 rfl rfl dd_La_law_435 ?_
        refine ly_sld hx hb hX hbl hbA hS (j + 2) (by omega) (by omega) dd_La_law_436 ?_
        obtain ⟨⟨r_437, ys_437, xg_437, xp_437, xq_437, xv_437, xo_437⟩, hq437⟩ : ∃ z, z = mm_Mo_cost (xs (j + 1)) (xs (j + 2)) n xk ys xg xr xt xp xq xv xo := ⟨_, rfl⟩
        refine ly_cV_i (n := 2) (z := (r_437, ys_437, xg_437, xp_437, xq_437, xv_437, xo_437)) (rest := [.int r_423]) (wn := ((ws_L3 K ah ac ar ap aq ax au ak az b0 c0 d0 b1 c1 d1 b2 c2 d2 n lf rb gr ro sr_423 sv_423 up ct al sf th wr fl) ++ (ws_Mo K mh m1 m2 m3 m4 m5 m6 m7 m8 m9 n xk xa xb xc xe xl ys_437 xg_437 xr xd xt xf xw xp_437 xq_437 xv_437 xo_437))) C (cc_Mo_cost D K mh m1 m2 m3 m4 m5 m6 m7 m8 m9 (xs (j + 1)) (xs (j + 2)) n xk xa xb xc xe xl ys xg xr xd xt xf xw xp xq xv xo hn hn6) hq437 wa_365 wa_441 wa_265 wa_442 wa_443 (by decide) (by decide) (by decide) rfl hl.1 rfl (Nat.le_of_ble_eq_true rfl) dd_La_law_437 hcs [18, 19, 20, 21, 22, 23, 24, 25, 26, 27] [0, 1, 2, 3, 4, 5, 6, 7, 8, 9, 10, 11, 12, 13, 14, 15, 16, 17] [0, 1, 2, 3, 4, 5, 6, 7, 8, 9, 10, 11, 12, 13, 14, 15, 16, 17, 18, 19, 20, 21, 22, 23, 24, 25, 26, 27] hP hD hS rfl rfl (by decide) rfl rfl rfl (fun H locs hP hD hS => ?_)
        refine W.eq (g2 := F0 m 440 ls [.int r_437, .int r_423]) rfl ?_
        obtain ⟨he, hrl⟩ := e_cost hrl hq423 hq437
        refine lv_icmp_eq (tgt := 617) hx hb dd_La_law_440 (by decide) (fun _ => ?_) (fun h => absurd he h)
        exact nx lf rb sr_423 sv_423 up ct th wr fl xa xb xc xe xl ys_437 xg_437 xd xt xf xw xp_437 xq_437 xv_437 xo_437 ls H locs hrl hl hP hD hS
      · refine lv_tableIn (tgt := 445) hx hb dd_La_law_42 (by decide) (by decide) rfl (by decide) ?_
        refine lv_aload_n hx hb dd_La_law_445 rfl (lv_at hl 2 rfl) ?_
        refine lv_aload_n hx hb dd_La_law_446 rfl (lv_at hl 3 rfl) ?_
        refine lv_iload_n hx hb dd_La_law_447 rfl (lv_at hl 0 rfl) ?_
        refine lv_iconst (v := (1 : Int32)) hx hb dd_La_law_448 (by decide) ?_
        refine ly_iaddN C j 1 rfl rfl dd_La_law_449 ?_
        refine ly_sld hx hb hX hbl hbA hS (j + 1) (by omega) (by omega) dd_La_law_450 ?_
        obtain ⟨⟨r_451, sr_451, sv_451⟩, hq451⟩ : ∃ z, z = m3_RG_rank (xs (j + 1)) n ro sr sv th := ⟨_, rfl⟩
        refine ly_cV_i (n := 1) (z := (r_451, sr_451, sv_451)) (rest := []) (wn := ((ws_L3 K ah ac ar ap aq ax au ak az b0 c0 d0 b1 c1 d1 b2 c2 d2 n lf rb gr ro sr_451 sv_451 up ct al sf th wr fl) ++ (ws_Mo K mh m1 m2 m3 m4 m5 m6 m7 m8 m9 n xk xa xb xc xe xl ys xg xr xd xt xf xw xp xq xv xo))) C (c3_RG_rank D K ah ac ar ap aq ax au ak az b0 c0 d0 b1 c1 d1 b2 c2 d2 (xs (j + 1)) n lf rb gr ro sr sv up ct al sf th wr fl hn hn6 hs0 hs1 hs2) hq451 wa_119 wa_444 wa_62 wa_445 wa_446 (by decide) (by decide) (by decide) rfl hl.1 rfl (Nat.le_of_ble_eq_true rfl) dd_La_law_451 hcs [0, 1, 2, 3, 4, 5, 6, 7, 8, 9, 10, 11, 12, 13, 14, 15, 16, 17] [18, 19, 20, 21, 22, 23, 24, 25, 26, 27] [10, 11, 12, 13, 14, 15, 16, 17, 18, 19, 20, 21, 22, 23, 24, 25, 26, 27, 0, 1, 2, 3, 4, 5, 6, 7, 8, 9] hP hD hS rfl rfl (by decide) rfl rfl rfl (fun H locs hP hD hS => ?_)
        refine W.eq (g2 := F0 m 454 ls [.int r_451]) rfl ?_
        refine lv_aload_n hx hb dd_La_law_454 rfl (lv_at hl 1 rfl) ?_
        refine lv_aload_n hx hb dd_La_law_455 rfl (lv_at hl 3 rfl) ?_
        refine lv_iload_n hx hb dd_La_law_456 rfl (lv_at hl 0 rfl) ?_
        refine lv_iconst (v := (1 : Int32)) hx hb dd_La_law_457 (by decide) ?_
        refine ly_iaddN C j 1 rfl rfl dd_La_law_458 ?_
        refine ly_sld hx hb hX hbl hbA hS (j + 1) (by omega) (by omega) dd_La_law_459 ?_
        obtain ⟨⟨r_460, ys_460, xg_460, xp_460, xq_460, xv_460, xo_460⟩, hq460⟩ : ∃ z, z = mm_Mo_rank (xs (j + 1)) n ys xg xr xt xp xq xv xo := ⟨_, rfl⟩
        refine ly_cV_i (n := 1) (z := (r_460, ys_460, xg_460, xp_460, xq_460, xv_460, xo_460)) (rest := [.int r_451]) (wn := ((ws_L3 K ah ac ar ap aq ax au ak az b0 c0 d0 b1 c1 d1 b2 c2 d2 n lf rb gr ro sr_451 sv_451 up ct al sf th wr fl) ++ (ws_Mo K mh m1 m2 m3 m4 m5 m6 m7 m8 m9 n xk xa xb xc xe xl ys_460 xg_460 xr xd xt xf xw xp_460 xq_460 xv_460 xo_460))) C (cc_Mo_rank D K mh m1 m2 m3 m4 m5 m6 m7 m8 m9 (xs (j + 1)) n xk xa xb xc xe xl ys xg xr xd xt xf xw xp xq xv xo hn hn6) hq460 wa_366 wa_447 wa_265 wa_448 wa_449 (by decide) (by decide) (by decide) rfl hl.1 rfl (Nat.le_of_ble_eq_true rfl) dd_La_law_460 hcs [18, 19, 20, 21, 22, 23, 24, 25, 26, 27] [0, 1, 2, 3, 4, 5, 6, 7, 8, 9, 10, 11, 12, 13, 14, 15, 16, 17] [0, 1, 2, 3, 4, 5, 6, 7, 8, 9, 10, 11, 12, 13, 14, 15, 16, 17, 18, 19, 20, 21, 22, 23, 24, 25, 26, 27] hP hD hS rfl rfl (by decide) rfl rfl rfl (fun H locs hP hD hS => ?_)
        refine W.eq (g2 := F0 m 463 ls [.int r_460, .int r_451]) rfl ?_
        obtain ⟨he, hrl⟩ := e_rank hrl hq451 hq460
        refine lv_icmp_eq (tgt := 617) hx hb dd_La_law_463 (by decide) (fun _ => ?_) (fun h => absurd he h)
        exact nx lf rb sr_451 sv_451 up ct th wr fl xa xb xc xe xl ys_460 xg_460 xd xt xf xw xp_460 xq_460 xv_460 xo_460 ls H locs hrl hl hP hD hS
      · refine lv_tableIn (tgt := 468) hx hb dd_La_law_42 (by decide) (by decide) rfl (by decide) ?_
        refine lv_aload_n hx hb dd_La_law_468 rfl (lv_at hl 2 rfl) ?_
        refine lv_aload_n hx hb dd_La_law_469 rfl (lv_at hl 3 rfl) ?_
        refine lv_iload_n hx hb dd_La_law_470 rfl (lv_at hl 0 rfl) ?_
        refine lv_iconst (v := (1 : Int32)) hx hb dd_La_law_471 (by decide) ?_
        refine ly_iaddN C j 1 rfl rfl dd_La_law_472 ?_
        refine ly_sld hx hb hX hbl hbA hS (j + 1) (by omega) (by omega) dd_La_law_473 ?_
        obtain ⟨r_474, hq474⟩ : ∃ z, z = m3_RG_lost (xs (j + 1)) al th := ⟨_, rfl⟩
        refine ly_cV_i (n := 1) (z := r_474) (rest := []) (wn := ((ws_L3 K ah ac ar ap aq ax au ak az b0 c0 d0 b1 c1 d1 b2 c2 d2 n lf rb gr ro sr sv up ct al sf th wr fl) ++ (ws_Mo K mh m1 m2 m3 m4 m5 m6 m7 m8 m9 n xk xa xb xc xe xl ys xg xr xd xt xf xw xp xq xv xo))) C (c3_RG_lost D K ah ac ar ap aq ax au ak az b0 c0 d0 b1 c1 d1 b2 c2 d2 (xs (j + 1)) n lf rb gr ro sr sv up ct al sf th wr fl hn hn6 hs0 hs1 hs2) hq474 wa_123 wa_450 wa_62 wa_451 wa_452 (by decide) (by decide) (by decide) rfl hl.1 rfl (Nat.le_of_ble_eq_true rfl) dd_La_law_474 hcs [0, 1, 2, 3, 4, 5, 6, 7, 8, 9, 10, 11, 12, 13, 14, 15, 16, 17] [18, 19, 20, 21, 22, 23, 24, 25, 26, 27] [10, 11, 12, 13, 14, 15, 16, 17, 18, 19, 20, 21, 22, 23, 24, 25, 26, 27, 0, 1, 2, 3, 4, 5, 6, 7, 8, 9] hP hD hS rfl rfl (by decide) rfl rfl rfl (fun H locs hP hD hS => ?_)
        refine W.eq (g2 := F0 m 477 ls [.int r_474]) rfl ?_
        refine lv_aload_n hx hb dd_La_law_477 rfl (lv_at hl 1 rfl) ?_
        refine lv_aload_n hx hb dd_La_law_478 rfl (lv_at hl 3 rfl) ?_
        refine lv_iload_n hx hb dd_La_law_479 rfl (lv_at hl 0 rfl) ?_
        refine lv_iconst (v := (1 : Int32)) hx hb dd_La_law_480 (by decide) ?_
        refine ly_iaddN C j 1 rfl rfl dd_La_law_481 ?_
        refine ly_sld hx hb hX hbl hbA hS (j + 1) (by omega) (by omega) dd_La_law_482 ?_
        obtain ⟨r_483, hq483⟩ : ∃ z, z = mm_Mo_lost (xs (j + 1)) n xt := ⟨_, rfl⟩
        refine ly_cV_i (n := 1) (z := r_483) (rest := [.int r_474]) (wn := ((ws_L3 K ah ac ar ap aq ax au ak az b0 c0 d0 b1 c1 d1 b2 c2 d2 n lf rb gr ro sr sv up ct al sf th wr fl) ++ (ws_Mo K mh m1 m2 m3 m4 m5 m6 m7 m8 m9 n xk xa xb xc xe xl ys xg xr xd xt xf xw xp xq xv xo))) C (cc_Mo_lost D K mh m1 m2 m3 m4 m5 m6 m7 m8 m9 (xs (j + 1)) n xk xa xb xc xe xl ys xg xr xd xt xf xw xp xq xv xo hn hn6) hq483 wa_367 wa_453 wa_265 wa_454 wa_455 (by decide) (by decide) (by decide) rfl hl.1 rfl (Nat.le_of_ble_eq_true rfl) dd_La_law_483 hcs [18, 19, 20, 21, 22, 23, 24, 25, 26, 27] [0, 1, 2, 3, 4, 5, 6, 7, 8, 9, 10, 11, 12, 13, 14, 15, 16, 17] [0, 1, 2, 3, 4, 5, 6, 7, 8, 9, 10, 11, 12, 13, 14, 15, 16, 17, 18, 19, 20, 21, 22, 23, 24, 25, 26, 27] hP hD hS rfl rfl (by decide) rfl rfl rfl (fun H locs hP hD hS => ?_)
        refine W.eq (g2 := F0 m 486 ls [.int r_483, .int r_474]) rfl ?_
        obtain ⟨he, hrl⟩ := e_lost hrl hq474 hq483
        refine lv_icmp_eq (tgt := 617) hx hb dd_La_law_486 (by decide) (fun _ => ?_) (fun h => absurd he h)
        exact nx lf rb sr sv up ct th wr fl xa xb xc xe xl ys xg xd xt xf xw xp xq xv xo ls H locs hrl hl hP hD hS
      · refine lv_tableIn (tgt := 491) hx hb dd_La_law_42 (by decide) (by decide) rfl (by decide) ?_
        refine lv_aload_n hx hb dd_La_law_491 rfl (lv_at hl 2 rfl) ?_
        refine lv_aload_n hx hb dd_La_law_492 rfl (lv_at hl 3 rfl) ?_
        refine lv_iload_n hx hb dd_La_law_493 rfl (lv_at hl 0 rfl) ?_
        refine lv_iconst (v := (1 : Int32)) hx hb dd_La_law_494 (by decide) ?_
        refine ly_iaddN C j 1 rfl rfl dd_La_law_495 ?_
        refine ly_sld hx hb hX hbl hbA hS (j + 1) (by omega) (by omega) dd_La_law_496 ?_
        refine lv_aload_n hx hb dd_La_law_497 rfl (lv_at hl 3 rfl) ?_
        refine lv_iload_n hx hb dd_La_law_498 rfl (lv_at hl 0 rfl) ?_
        refine lv_iconst (v := (2 : Int32)) hx hb dd_La_law_499 (by decide) ?_
        refine ly_iaddN C j 2 rfl rfl dd_La_law_500 ?_
        refine ly_sld hx hb hX hbl hbA hS (j + 2) (by omega) (by omega) dd_La_law_501 ?_
        obtain ⟨r_502, hq502⟩ : ∃ z, z = m3_RG_content (xs (j + 1)) (xs (j + 2)) n th wr fl := ⟨_, rfl⟩
        refine ly_cV_l (n := 2) (z := r_502) (rest := []) (wn := ((ws_L3 K ah ac ar ap aq ax au ak az b0 c0 d0 b1 c1 d1 b2 c2 d2 n lf rb gr ro sr sv up ct al sf th wr fl) ++ (ws_Mo K mh m1 m2 m3 m4 m5 m6 m7 m8 m9 n xk xa xb xc xe xl ys xg xr xd xt xf xw xp xq xv xo))) C (c3_RG_content D K ah ac ar ap aq ax au ak az b0 c0 d0 b1 c1 d1 b2 c2 d2 (xs (j + 1)) (xs (j + 2)) n lf rb gr ro sr sv up ct al sf th wr fl hn hn6 hs0 hs1 hs2) hq502 wa_127 wa_456 wa_62 wa_457 wa_458 (by decide) (by decide) (by decide) rfl hl.1 rfl (Nat.le_of_ble_eq_true rfl) dd_La_law_502 hcs [0, 1, 2, 3, 4, 5, 6, 7, 8, 9, 10, 11, 12, 13, 14, 15, 16, 17] [18, 19, 20, 21, 22, 23, 24, 25, 26, 27] [10, 11, 12, 13, 14, 15, 16, 17, 18, 19, 20, 21, 22, 23, 24, 25, 26, 27, 0, 1, 2, 3, 4, 5, 6, 7, 8, 9] hP hD hS rfl rfl (by decide) rfl rfl rfl (fun H locs hP hD hS => ?_)
        refine W.eq (g2 := F0 m 505 ls [.long r_502]) rfl ?_
        refine lv_aload_n hx hb dd_La_law_505 rfl (lv_at hl 1 rfl) ?_
        refine lv_aload_n hx hb dd_La_law_506 rfl (lv_at hl 3 rfl) ?_
        refine lv_iload_n hx hb dd_La_law_507 rfl (lv_at hl 0 rfl) ?_
        refine lv_iconst (v := (1 : Int32)) hx hb dd_La_law_508 (by decide) ?_
        refine ly_iaddN C j 1 rfl rfl dd_La_law_509 ?_
        refine ly_sld hx hb hX hbl hbA hS (j + 1) (by omega) (by omega) dd_La_law_510 ?_
        refine lv_aload_n hx hb dd_La_law_511 rfl (lv_at hl 3 rfl) ?_
        refine lv_iload_n hx hb dd_La_law_512 rfl (lv_at hl 0 rfl) ?_
        refine lv_iconst (v := (2 : Int32)) hx hb dd_La_law_513 (by decide) ?_
        refine ly_iaddN C j 2 rfl rfl dd_La_law_514 ?_
        refine ly_sld hx hb hX hbl hbA hS (j + 2) (by omega) (by omega) dd_La_law_515 ?_
        obtain ⟨r_516, hq516⟩ : ∃ z, z = mm_Mo_content (xs (j + 1)) (xs (j + 2)) n xr xd xt xf := ⟨_, rfl⟩
        refine ly_cV_l (n := 2) (z := r_516) (rest := [.long r_502]) (wn := ((ws_L3 K ah ac ar ap aq ax au ak az b0 c0 d0 b1 c1 d1 b2 c2 d2 n lf rb gr ro sr sv up ct al sf th wr fl) ++ (ws_Mo K mh m1 m2 m3 m4 m5 m6 m7 m8 m9 n xk xa xb xc xe xl ys xg xr xd xt xf xw xp xq xv xo))) C (cc_Mo_content D K mh m1 m2 m3 m4 m5 m6 m7 m8 m9 (xs (j + 1)) (xs (j + 2)) n xk xa xb xc xe xl ys xg xr xd xt xf xw xp xq xv xo hn hn6) hq516 wa_368 wa_459 wa_265 wa_460 wa_461 (by decide) (by decide) (by decide) rfl hl.1 rfl (Nat.le_of_ble_eq_true rfl) dd_La_law_516 hcs [18, 19, 20, 21, 22, 23, 24, 25, 26, 27] [0, 1, 2, 3, 4, 5, 6, 7, 8, 9, 10, 11, 12, 13, 14, 15, 16, 17] [0, 1, 2, 3, 4, 5, 6, 7, 8, 9, 10, 11, 12, 13, 14, 15, 16, 17, 18, 19, 20, 21, 22, 23, 24, 25, 26, 27] hP hD hS rfl rfl (by decide) rfl rfl rfl (fun H locs hP hD hS => ?_)
        refine W.eq (g2 := F0 m 519 ls [.long r_516, .long r_502]) rfl ?_
        obtain ⟨he, hrl⟩ := e_content hrl hq502 hq516
        refine W.lcmp hx hb dd_La_law_519 ?_
        refine lv_if_eq (tgt := 617) hx hb dd_La_law_520 (by decide) (fun _ => ?_) (fun h => absurd ((lg_cmp_eq _ _).mpr he) h)
        exact nx lf rb sr sv up ct th wr fl xa xb xc xe xl ys xg xd xt xf xw xp xq xv xo ls H locs hrl hl hP hD hS
      · refine lv_tableIn (tgt := 525) hx hb dd_La_law_42 (by decide) (by decide) rfl (by decide) ?_
        refine lv_aload_n hx hb dd_La_law_525 rfl (lv_at hl 2 rfl) ?_
        refine lv_aload_n hx hb dd_La_law_526 rfl (lv_at hl 3 rfl) ?_
        refine lv_iload_n hx hb dd_La_law_527 rfl (lv_at hl 0 rfl) ?_
        refine lv_iconst (v := (1 : Int32)) hx hb dd_La_law_528 (by decide) ?_
        refine ly_iaddN C j 1 rfl rfl dd_La_law_529 ?_
        refine ly_sld hx hb hX hbl hbA hS (j + 1) (by omega) (by omega) dd_La_law_530 ?_
        refine lv_aload_n hx hb dd_La_law_531 rfl (lv_at hl 3 rfl) ?_
        refine lv_iload_n hx hb dd_La_law_532 rfl (lv_at hl 0 rfl) ?_
        refine lv_iconst (v := (2 : Int32)) hx hb dd_La_law_533 (by decide) ?_
        refine ly_iaddN C j 2 rfl rfl dd_La_law_534 ?_
        refine ly_sld hx hb hX hbl hbA hS (j + 2) (by omega) (by omega) dd_La_law_535 ?_
        obtain ⟨r_536, hq536⟩ : ∃ z, z = m3_RG_node (xs (j + 1)) (xs (j + 2)) n := ⟨_, rfl⟩
        refine ly_cV_i (n := 2) (z := r_536) (rest := []) (wn := ((ws_L3 K ah ac ar ap aq ax au ak az b0 c0 d0 b1 c1 d1 b2 c2 d2 n lf rb gr ro sr sv up ct al sf th wr fl) ++ (ws_Mo K mh m1 m2 m3 m4 m5 m6 m7 m8 m9 n xk xa xb xc xe xl ys xg xr xd xt xf xw xp xq xv xo))) C (c3_RG_node D K ah ac ar ap aq ax au ak az b0 c0 d0 b1 c1 d1 b2 c2 d2 (xs (j + 1)) (xs (j + 2)) n lf rb gr ro sr sv up ct al sf th wr fl hn hn6 hs0 hs1 hs2) hq536 wa_128 wa_462 wa_62 wa_463 wa_464 (by decide) (by decide) (by decide) rfl hl.1 rfl (Nat.le_of_ble_eq_true rfl) dd_La_law_536 hcs [0, 1, 2, 3, 4, 5, 6, 7, 8, 9, 10, 11, 12, 13, 14, 15, 16, 17] [18, 19, 20, 21, 22, 23, 24, 25, 26, 27] [10, 11, 12, 13, 14, 15, 16, 17, 18, 19, 20, 21, 22, 23, 24, 25, 26, 27, 0, 1, 2, 3, 4, 5, 6, 7, 8, 9] hP hD hS rfl rfl (by decide) rfl rfl rfl (fun H locs hP hD hS => ?_)
        refine W.eq (g2 := F0 m 539 ls [.int r_536]) rfl ?_
        refine lv_aload_n hx hb dd_La_law_539 rfl (lv_at hl 1 rfl) ?_
        refine lv_aload_n hx hb dd_La_law_540 rfl (lv_at hl 3 rfl) ?_
        refine lv_iload_n hx hb dd_La_law_541 rfl (lv_at hl 0 rfl) ?_
        refine lv_iconst (v := (1 : Int32)) hx hb dd_La_law_542 (by decide) ?_
        refine ly_iaddN C j 1 rfl rfl dd_La_law_543 ?_
        refine ly_sld hx hb hX hbl hbA hS (j + 1) (by omega) (by omega) dd_La_law_544 ?_
        refine lv_aload_n hx hb dd_La_law_545 rfl (lv_at hl 3 rfl) ?_
        refine lv_iload_n hx hb dd_La_law_546 rfl (lv_at hl 0 rfl) ?_
        refine lv_iconst (v := (2 : Int32)) hx hb dd_La_law_547 (by decide) ?_
        refine ly_iaddN C j 2 rfl rfl dd_La_law_548 ?_
        refine ly_sld hx hb hX hbl hbA hS (j + 2) (by omega) (by omega) dd_La_law_549 ?_
        obtain ⟨r_550, hq550⟩ : ∃ z, z = mm_Mo_node (xs (j + 1)) (xs (j + 2)) n := ⟨_, rfl⟩
        refine ly_cV_i (n := 2) (z := r_550) (rest := [.int r_536]) (wn := ((ws_L3 K ah ac ar ap aq ax au ak az b0 c0 d0 b1 c1 d1 b2 c2 d2 n lf rb gr ro sr sv up ct al sf th wr fl) ++ (ws_Mo K mh m1 m2 m3 m4 m5 m6 m7 m8 m9 n xk xa xb xc xe xl ys xg xr xd xt xf xw xp xq xv xo))) C (cc_Mo_node D K mh m1 m2 m3 m4 m5 m6 m7 m8 m9 (xs (j + 1)) (xs (j + 2)) n xk xa xb xc xe xl ys xg xr xd xt xf xw xp xq xv xo hn hn6) hq550 wa_369 wa_465 wa_265 wa_466 wa_467 (by decide) (by decide) (by decide) rfl hl.1 rfl (Nat.le_of_ble_eq_true rfl) dd_La_law_550 hcs [18, 19, 20, 21, 22, 23, 24, 25, 26, 27] [0, 1, 2, 3, 4, 5, 6, 7, 8, 9, 10, 11, 12, 13, 14, 15, 16, 17] [0, 1, 2, 3, 4, 5, 6, 7, 8, 9, 10, 11, 12, 13, 14, 15, 16, 17, 18, 19, 20, 21, 22, 23, 24, 25, 26, 27] hP hD hS rfl rfl (by decide) rfl rfl rfl (fun H locs hP hD hS => ?_)
        refine W.eq (g2 := F0 m 553 ls [.int r_550, .int r_536]) rfl ?_
        obtain ⟨he, hrl⟩ := e_node hrl hq536 hq550
        refine lv_icmp_eq (tgt := 617) hx hb dd_La_law_553 (by decide) (fun _ => ?_) (fun h => absurd he h)
        exact nx lf rb sr sv up ct th wr fl xa xb xc xe xl ys xg xd xt xf xw xp xq xv xo ls H locs hrl hl hP hD hS
      · refine lv_tableIn (tgt := 558) hx hb dd_La_law_42 (by decide) (by decide) rfl (by decide) ?_
        refine lv_aload_n hx hb dd_La_law_558 rfl (lv_at hl 2 rfl) ?_
        refine lv_aload_n hx hb dd_La_law_559 rfl (lv_at hl 3 rfl) ?_
        refine lv_iload_n hx hb dd_La_law_560 rfl (lv_at hl 0 rfl) ?_
        refine lv_iconst (v := (1 : Int32)) hx hb dd_La_law_561 (by decide) ?_
        refine ly_iaddN C j 1 rfl rfl dd_La_law_562 ?_
        refine ly_sld hx hb hX hbl hbA hS (j + 1) (by omega) (by omega) dd_La_law_563 ?_
        obtain ⟨r_564, hq564⟩ : ∃ z, z = m3_RG_up (xs (j + 1)) up := ⟨_, rfl⟩
        refine ly_cV_i (n := 1) (z := r_564) (rest := []) (wn := ((ws_L3 K ah ac ar ap aq ax au ak az b0 c0 d0 b1 c1 d1 b2 c2 d2 n lf rb gr ro sr sv up ct al sf th wr fl) ++ (ws_Mo K mh m1 m2 m3 m4 m5 m6 m7 m8 m9 n xk xa xb xc xe xl ys xg xr xd xt xf xw xp xq xv xo))) C (c3_RG_up D K ah ac ar ap aq ax au ak az b0 c0 d0 b1 c1 d1 b2 c2 d2 (xs (j + 1)) n lf rb gr ro sr sv up ct al sf th wr fl hn hn6) hq564 wa_129 wa_468 wa_62 wa_469 wa_470 (by decide) (by decide) (by decide) rfl hl.1 rfl (Nat.le_of_ble_eq_true rfl) dd_La_law_564 hcs [0, 1, 2, 3, 4, 5, 6, 7, 8, 9, 10, 11, 12, 13, 14, 15, 16, 17] [18, 19, 20, 21, 22, 23, 24, 25, 26, 27] [10, 11, 12, 13, 14, 15, 16, 17, 18, 19, 20, 21, 22, 23, 24, 25, 26, 27, 0, 1, 2, 3, 4, 5, 6, 7, 8, 9] hP hD hS rfl rfl (by decide) rfl rfl rfl (fun H locs hP hD hS => ?_)
        refine W.eq (g2 := F0 m 567 ls [.int r_564]) rfl ?_
        refine lv_aload_n hx hb dd_La_law_567 rfl (lv_at hl 1 rfl) ?_
        refine lv_aload_n hx hb dd_La_law_568 rfl (lv_at hl 3 rfl) ?_
        refine lv_iload_n hx hb dd_La_law_569 rfl (lv_at hl 0 rfl) ?_
        refine lv_iconst (v := (1 : Int32)) hx hb dd_La_law_570 (by decide) ?_
        refine ly_iaddN C j 1 rfl rfl dd_La_law_571 ?_
        refine ly_sld hx hb hX hbl hbA hS (j + 1) (by omega) (by omega) dd_La_law_572 ?_
        obtain ⟨r_573, hq573⟩ : ∃ z, z = mm_Mo_up (xs (j + 1)) xw := ⟨_, rfl⟩
        refine ly_cV_i (n := 1) (z := r_573) (rest := [.int r_564]) (wn := ((ws_L3 K ah ac ar ap aq ax au ak az b0 c0 d0 b1 c1 d1 b2 c2 d2 n lf rb gr ro sr sv up ct al sf th wr fl) ++ (ws_Mo K mh m1 m2 m3 m4 m5 m6 m7 m8 m9 n xk xa xb xc xe xl ys xg xr xd xt xf xw xp xq xv xo))) C (cc_Mo_up D K mh m1 m2 m3 m4 m5 m6 m7 m8 m9 (xs (j + 1)) n xk xa xb xc xe xl ys xg xr xd xt xf xw xp xq xv xo hn hn6) hq573 wa_370 wa_471 wa_265 wa_472 wa_473 (by decide) (by decide) (by decide) rfl hl.1 rfl (Nat.le_of_ble_eq_true rfl) dd_La_law_573 hcs [18, 19, 20, 21, 22, 23, 24, 25, 26, 27] [0, 1, 2, 3, 4, 5, 6, 7, 8, 9, 10, 11, 12, 13, 14, 15, 16, 17] [0, 1, 2, 3, 4, 5, 6, 7, 8, 9, 10, 11, 12, 13, 14, 15, 16, 17, 18, 19, 20, 21, 22, 23, 24, 25, 26, 27] hP hD hS rfl rfl (by decide) rfl rfl rfl (fun H locs hP hD hS => ?_)
        refine W.eq (g2 := F0 m 576 ls [.int r_573, .int r_564]) rfl ?_
        obtain ⟨he, hrl⟩ := e_up hrl hq564 hq573
        refine lv_icmp_eq (tgt := 617) hx hb dd_La_law_576 (by decide) (fun _ => ?_) (fun h => absurd he h)
        exact nx lf rb sr sv up ct th wr fl xa xb xc xe xl ys xg xd xt xf xw xp xq xv xo ls H locs hrl hl hP hD hS
      · refine lv_tableIn (tgt := 581) hx hb dd_La_law_42 (by decide) (by decide) rfl (by decide) ?_
        refine lv_aload_n hx hb dd_La_law_581 rfl (lv_at hl 2 rfl) ?_
        refine lv_aload_n hx hb dd_La_law_582 rfl (lv_at hl 3 rfl) ?_
        refine lv_iload_n hx hb dd_La_law_583 rfl (lv_at hl 0 rfl) ?_
        refine lv_iconst (v := (1 : Int32)) hx hb dd_La_law_584 (by decide) ?_
        refine ly_iaddN C j 1 rfl rfl dd_La_law_585 ?_
        refine ly_sld hx hb hX hbl hbA hS (j + 1) (by omega) (by omega) dd_La_law_586 ?_
        obtain ⟨r_587, hq587⟩ : ∃ z, z = m3_RG_count (xs (j + 1)) ct := ⟨_, rfl⟩
        refine ly_cV_i (n := 1) (z := r_587) (rest := []) (wn := ((ws_L3 K ah ac ar ap aq ax au ak az b0 c0 d0 b1 c1 d1 b2 c2 d2 n lf rb gr ro sr sv up ct al sf th wr fl) ++ (ws_Mo K mh m1 m2 m3 m4 m5 m6 m7 m8 m9 n xk xa xb xc xe xl ys xg xr xd xt xf xw xp xq xv xo))) C (c3_RG_count D K ah ac ar ap aq ax au ak az b0 c0 d0 b1 c1 d1 b2 c2 d2 (xs (j + 1)) n lf rb gr ro sr sv up ct al sf th wr fl hn hn6) hq587 wa_130 wa_474 wa_62 wa_475 wa_476 (by decide) (by decide) (by decide) rfl hl.1 rfl (Nat.le_of_ble_eq_true rfl) dd_La_law_587 hcs [0, 1, 2, 3, 4, 5, 6, 7, 8, 9, 10, 11, 12, 13, 14, 15, 16, 17] [18, 19, 20, 21, 22, 23, 24, 25, 26, 27] [10, 11, 12, 13, 14, 15, 16, 17, 18, 19, 20, 21, 22, 23, 24, 25, 26, 27, 0, 1, 2, 3, 4, 5, 6, 7, 8, 9] hP hD hS rfl rfl (by decide) rfl rfl rfl (fun H locs hP hD hS => ?_)
        refine W.eq (g2 := F0 m 590 ls [.int r_587]) rfl ?_
        refine lv_aload_n hx hb dd_La_law_590 rfl (lv_at hl 1 rfl) ?_
        refine lv_aload_n hx hb dd_La_law_591 rfl (lv_at hl 3 rfl) ?_
        refine lv_iload_n hx hb dd_La_law_592 rfl (lv_at hl 0 rfl) ?_
        refine lv_iconst (v := (1 : Int32)) hx hb dd_La_law_593 (by decide) ?_
        refine ly_iaddN C j 1 rfl rfl dd_La_law_594 ?_
        refine ly_sld hx hb hX hbl hbA hS (j + 1) (by omega) (by omega) dd_La_law_595 ?_
        obtain ⟨r_596, hq596⟩ : ∃ z, z = mm_Mo_count (xs (j + 1)) xa xb xc xe := ⟨_, rfl⟩
        refine ly_cV_i (n := 1) (z := r_596) (rest := [.int r_587]) (wn := ((ws_L3 K ah ac ar ap aq ax au ak az b0 c0 d0 b1 c1 d1 b2 c2 d2 n lf rb gr ro sr sv up ct al sf th wr fl) ++ (ws_Mo K mh m1 m2 m3 m4 m5 m6 m7 m8 m9 n xk xa xb xc xe xl ys xg xr xd xt xf xw xp xq xv xo))) C (cc_Mo_count D K mh m1 m2 m3 m4 m5 m6 m7 m8 m9 (xs (j + 1)) n xk xa xb xc xe xl ys xg xr xd xt xf xw xp xq xv xo hn hn6) hq596 wa_371 wa_477 wa_265 wa_478 wa_479 (by decide) (by decide) (by decide) rfl hl.1 rfl (Nat.le_of_ble_eq_true rfl) dd_La_law_596 hcs [18, 19, 20, 21, 22, 23, 24, 25, 26, 27] [0, 1, 2, 3, 4, 5, 6, 7, 8, 9, 10, 11, 12, 13, 14, 15, 16, 17] [0, 1, 2, 3, 4, 5, 6, 7, 8, 9, 10, 11, 12, 13, 14, 15, 16, 17, 18, 19, 20, 21, 22, 23, 24, 25, 26, 27] hP hD hS rfl rfl (by decide) rfl rfl rfl (fun H locs hP hD hS => ?_)
        refine W.eq (g2 := F0 m 599 ls [.int r_596, .int r_587]) rfl ?_
        obtain ⟨he, hrl⟩ := e_count hrl hq587 hq596
        refine lv_icmp_eq (tgt := 617) hx hb dd_La_law_599 (by decide) (fun _ => ?_) (fun h => absurd he h)
        exact nx lf rb sr sv up ct th wr fl xa xb xc xe xl ys xg xd xt xf xw xp xq xv xo ls H locs hrl hl hP hD hS
      · refine lv_tableIn (tgt := 604) hx hb dd_La_law_42 (by decide) (by decide) rfl (by decide) ?_
        refine lv_aload_n hx hb dd_La_law_604 rfl (lv_at hl 2 rfl) ?_
        obtain ⟨r_605, hq605⟩ : ∃ z, z = m3_RG_size n := ⟨_, rfl⟩
        refine ly_cV_i (n := 0) (z := r_605) (rest := []) (wn := ((ws_L3 K ah ac ar ap aq ax au ak az b0 c0 d0 b1 c1 d1 b2 c2 d2 n lf rb gr ro sr sv up ct al sf th wr fl) ++ (ws_Mo K mh m1 m2 m3 m4 m5 m6 m7 m8 m9 n xk xa xb xc xe xl ys xg xr xd xt xf xw xp xq xv xo))) C (c3_RG_size D K ah ac ar ap aq ax au ak az b0 c0 d0 b1 c1 d1 b2 c2 d2 n lf rb gr ro sr sv up ct al sf th wr fl hn hn6) hq605 wa_131 wa_480 wa_62 wa_481 wa_482 (by decide) (by decide) (by decide) rfl hl.1 rfl (Nat.le_of_ble_eq_true rfl) dd_La_law_605 hcs [0, 1, 2, 3, 4, 5, 6, 7, 8, 9, 10, 11, 12, 13, 14, 15, 16, 17] [18, 19, 20, 21, 22, 23, 24, 25, 26, 27] [10, 11, 12, 13, 14, 15, 16, 17, 18, 19, 20, 21, 22, 23, 24, 25, 26, 27, 0, 1, 2, 3, 4, 5, 6, 7, 8, 9] hP hD hS rfl rfl (by decide) rfl rfl rfl (fun H locs hP hD hS => ?_)
        refine W.eq (g2 := F0 m 608 ls [.int r_605]) rfl ?_
        refine lv_aload_n hx hb dd_La_law_608 rfl (lv_at hl 1 rfl) ?_
        obtain ⟨r_609, hq609⟩ : ∃ z, z = mm_Mo_size n := ⟨_, rfl⟩
        refine ly_cV_i (n := 0) (z := r_609) (rest := [.int r_605]) (wn := ((ws_L3 K ah ac ar ap aq ax au ak az b0 c0 d0 b1 c1 d1 b2 c2 d2 n lf rb gr ro sr sv up ct al sf th wr fl) ++ (ws_Mo K mh m1 m2 m3 m4 m5 m6 m7 m8 m9 n xk xa xb xc xe xl ys xg xr xd xt xf xw xp xq xv xo))) C (cc_Mo_size D K mh m1 m2 m3 m4 m5 m6 m7 m8 m9 n xk xa xb xc xe xl ys xg xr xd xt xf xw xp xq xv xo hn hn6) hq609 wa_372 wa_483 wa_265 wa_484 wa_485 (by decide) (by decide) (by decide) rfl hl.1 rfl (Nat.le_of_ble_eq_true rfl) dd_La_law_609 hcs [18, 19, 20, 21, 22, 23, 24, 25, 26, 27] [0, 1, 2, 3, 4, 5, 6, 7, 8, 9, 10, 11, 12, 13, 14, 15, 16, 17] [0, 1, 2, 3, 4, 5, 6, 7, 8, 9, 10, 11, 12, 13, 14, 15, 16, 17, 18, 19, 20, 21, 22, 23, 24, 25, 26, 27] hP hD hS rfl rfl (by decide) rfl rfl rfl (fun H locs hP hD hS => ?_)
        refine W.eq (g2 := F0 m 612 ls [.int r_609, .int r_605]) rfl ?_
        obtain ⟨he, hrl⟩ := e_size hrl hq605 hq609
        refine lv_icmp_eq (tgt := 617) hx hb dd_La_law_612 (by decide) (fun _ => ?_) (fun h => absurd he h)
        exact nx lf rb sr sv up ct th wr fl xa xb xc xe xl ys xg xd xt xf xw xp xq xv xo ls H locs hrl hl hP hD hS
      · refine lv_tableOut (tgt := 617) hx hb dd_La_law_42 (Or.inr (by rw [nI_toInt (by omega)]; omega)) (by decide) ?_
        exact nx lf rb sr sv up ct th wr fl xa xb xc xe xl ys xg xd xt xf xw xp xq xv xo ls H locs hrl hl hP hD hS
