def mk_k (x : Int32) : Int32 := if x = (1 : Int32) then x else if x = (2 : Int32) then x else (0 : Int32)
def mm_Mo_init_L135 (xk : Int32) (j116 : Nat) : Nat → Nat → (Nat → Int32) → (Nat → Int32)
  | 0, j135, xrL135 => xrL135
  | k135 + 1, j135, xrL135 => (mm_Mo_init_L135 xk j116 k135 (j135 + 1) (upd xrL135 ((6 * j135) + j116) (mm_Mo_coefficient j135 j116 xk)))
def mm_Mo_init_L116 (n : Nat) (xk : Int32) : Nat → Nat → (Nat → Int32) → (Nat → Int32)
  | 0, j116, xrL116 => xrL116
  | k116 + 1, j116, xrL116 => (mm_Mo_init_L116 n xk k116 (j116 + 1) (mm_Mo_init_L135 xk j116 (n - 6) 6 (upd xrL116 (7 * j116) (1 : Int32))))
def mm_Mo_init_L174 : Nat → Nat → (Nat → Int32) → (Nat → Int32)
  | 0, j174, xtL174 => xtL174
  | k174 + 1, j174, xtL174 => (mm_Mo_init_L174 k174 (j174 + 1) (upd xtL174 j174 (1 : Int32)))
set_option maxHeartbeats 4000000 in
set_option maxRecDepth 100000 in
theorem cc_Mo_init {l : Launch} (D : va_G) (K : Nat → ClassId) (ah : Nat) (x : Int32) : ly_n l yy_Mo_init bb_Mo_init 4 3 69 9 221 D K [.ref ah, .int x] [(ah, .inr (4, [.int (0 : Int32), .int (0 : Int32), .null, .null, .null, .null, .null, .int (0 : Int32), .int (0 : Int32), .int (0 : Int32), .int (0 : Int32), .long (0 : Int64), .int (0 : Int32), .null, .int (0 : Int32), .null, .null, .null]))] (fun u => (ws_Mo K ah (u 0) (u 1) (u 2) (u 3) (u 4) (u 5) (u 6) (u 7) (u 8) (ck_n x) (mk_k x) (0 : Int32) (0 : Int32) (0 : Int32) (0 : Int32) (0 : Int64) 0 0 (mm_Mo_init_L116 (ck_n x) (mk_k x) 6 0 (fun _ => (0 : Int32))) (fun _ => (0 : Int64)) (mm_Mo_init_L174 33 0 (fun _ => (0 : Int32))) (fun _ => (0 : Int64)) (fun _ => (0 : Int32)) (fun _ => 0) (fun _ => (0 : Int32)) (fun _ => 0) (fun _ => (0 : Int32)))) := by
  refine ly_entN (by decide) (Nat.le_of_ble_eq_true rfl) rfl ?_
  intro p e s m av below meth c A ls R Q H locs C hin hRf hRl hRc hRs hS hP hD hl ret
  obtain ⟨hx, hb, hml, hown, ht, -⟩ := id C
  have hcs : 0 ≤ R.cells ∧ 0 ≤ R.slots := ⟨Nat.zero_le _, Nat.zero_le _⟩
  have hl : lv_has ls 4 [(0, .ref ah), (1, .int x)] := hl
  refine lv_aload_n hx hb dd_Mo_init_0 rfl (lv_at hl 0 rfl) ?_
  refine W.objInit hx hb hown (ht _ wa_252) (ht _ wa_37) (ht _ wa_38) rfl (by rw [hml]; exact hl.1) rfl dd_Mo_init_1 (Nat.le_trans (by decide) hRf) (show 12 ≤ R.locals from Nat.le_trans (by decide) hRl) ?_
  refine W.eq (g2 := F0 m 4 ls []) rfl ?_
  refine lv_aload_n hx hb dd_Mo_init_4 rfl (lv_at hl 0 rfl) ?_
  refine lv_bipush (v := (66 : Int32)) hx hb dd_Mo_init_5 (by decide) ?_
  refine ly_newa (ty := .int) (at0 := .int) (a0 := (66, .inl (fun _ => (0 : Int32)))) C 1 rfl rfl (fun _ h => h) wa_58 hP hD hS 66 (fun _ => rfl) rfl (by omega) (by decide) (by omega) (by omega) dd_Mo_init_7 (fun q7 H hP hD hS => ?_)
  refine W.widen (k := 1) (n := 66) (by omega) (by omega) ?_
  have hcs : 1 ≤ R.cells ∧ 66 ≤ R.slots := ⟨by omega, by omega⟩
  refine ly_put (ws' := [(ah, .inr (4, [.int (0 : Int32), .int (0 : Int32), .ref q7, .null, .null, .null, .null, .int (0 : Int32), .int (0 : Int32), .int (0 : Int32), .int (0 : Int32), .long (0 : Int64), .int (0 : Int32), .null, .int (0 : Int32), .null, .null, .null])), (q7, .inl (K 1, 66, .inl (fun _ => (0 : Int32))))]) C hP hD hS 0 rfl uw_Mo tt_Mo nn_Mo rfl 2 (by decide) wa_253 rfl rfl rfl (Nat.le_of_ble_eq_true rfl) dd_Mo_init_9 rfl (fun H locs hP hD hS => ?_)
  refine lv_aload_n hx hb dd_Mo_init_12 rfl (lv_at hl 0 rfl) ?_
  refine lv_bipush (v := (18 : Int32)) hx hb dd_Mo_init_13 (by decide) ?_
  refine ly_newa (ty := .long) (at0 := .long) (a0 := (18, .inr (.inl (fun _ => (0 : Int64))))) C 0 rfl rfl (fun _ h => h) wa_208 hP hD hS 18 (fun _ => rfl) rfl (by omega) (by decide) (by omega) (by omega) dd_Mo_init_15 (fun q15 H hP hD hS => ?_)
  refine W.widen (k := 2) (n := 84) (by omega) (by omega) ?_
  have hcs : 2 ≤ R.cells ∧ 84 ≤ R.slots := ⟨by omega, by omega⟩
  refine ly_put (ws' := [(ah, .inr (4, [.int (0 : Int32), .int (0 : Int32), .ref q7, .ref q15, .null, .null, .null, .int (0 : Int32), .int (0 : Int32), .int (0 : Int32), .int (0 : Int32), .long (0 : Int64), .int (0 : Int32), .null, .int (0 : Int32), .null, .null, .null])), (q7, .inl (K 1, 66, .inl (fun _ => (0 : Int32)))), (q15, .inl (K 0, 18, .inr (.inl (fun _ => (0 : Int64)))))]) C hP hD hS 0 rfl uw_Mo tt_Mo nn_Mo rfl 3 (by decide) wa_254 rfl rfl rfl (Nat.le_of_ble_eq_true rfl) dd_Mo_init_17 rfl (fun H locs hP hD hS => ?_)
  refine lv_aload_n hx hb dd_Mo_init_20 rfl (lv_at hl 0 rfl) ?_
  refine lv_bipush (v := (33 : Int32)) hx hb dd_Mo_init_21 (by decide) ?_
  refine ly_newa (ty := .boolean) (at0 := .boolean) (a0 := (33, .inl (fun _ => (0 : Int32)))) C 2 rfl rfl (fun _ h => h) wa_56 hP hD hS 33 (fun _ => rfl) rfl (by omega) (by decide) (by omega) (by omega) dd_Mo_init_23 (fun q23 H hP hD hS => ?_)
  refine W.widen (k := 3) (n := 117) (by omega) (by omega) ?_
  have hcs : 3 ≤ R.cells ∧ 117 ≤ R.slots := ⟨by omega, by omega⟩
  refine ly_put (ws' := [(ah, .inr (4, [.int (0 : Int32), .int (0 : Int32), .ref q7, .ref q15, .ref q23, .null, .null, .int (0 : Int32), .int (0 : Int32), .int (0 : Int32), .int (0 : Int32), .long (0 : Int64), .int (0 : Int32), .null, .int (0 : Int32), .null, .null, .null])), (q7, .inl (K 1, 66, .inl (fun _ => (0 : Int32)))), (q15, .inl (K 0, 18, .inr (.inl (fun _ => (0 : Int64))))), (q23, .inl (K 2, 33, .inl (fun _ => (0 : Int32))))]) C hP hD hS 0 rfl uw_Mo tt_Mo nn_Mo rfl 4 (by decide) wa_255 rfl rfl rfl (Nat.le_of_ble_eq_true rfl) dd_Mo_init_25 rfl (fun H locs hP hD hS => ?_)
  refine lv_aload_n hx hb dd_Mo_init_28 rfl (lv_at hl 0 rfl) ?_
  refine lv_bipush (v := (33 : Int32)) hx hb dd_Mo_init_29 (by decide) ?_
  refine ly_newa (ty := .long) (at0 := .long) (a0 := (33, .inr (.inl (fun _ => (0 : Int64))))) C 0 rfl rfl (fun _ h => h) wa_208 hP hD hS 33 (fun _ => rfl) rfl (by omega) (by decide) (by omega) (by omega) dd_Mo_init_31 (fun q31 H hP hD hS => ?_)
  refine W.widen (k := 4) (n := 150) (by omega) (by omega) ?_
  have hcs : 4 ≤ R.cells ∧ 150 ≤ R.slots := ⟨by omega, by omega⟩
  refine ly_put (ws' := [(ah, .inr (4, [.int (0 : Int32), .int (0 : Int32), .ref q7, .ref q15, .ref q23, .ref q31, .null, .int (0 : Int32), .int (0 : Int32), .int (0 : Int32), .int (0 : Int32), .long (0 : Int64), .int (0 : Int32), .null, .int (0 : Int32), .null, .null, .null])), (q7, .inl (K 1, 66, .inl (fun _ => (0 : Int32)))), (q15, .inl (K 0, 18, .inr (.inl (fun _ => (0 : Int64))))), (q23, .inl (K 2, 33, .inl (fun _ => (0 : Int32)))), (q31, .inl (K 0, 33, .inr (.inl (fun _ => (0 : Int64)))))]) C hP hD hS 0 rfl uw_Mo tt_Mo nn_Mo rfl 5 (by decide) wa_256 rfl rfl rfl (Nat.le_of_ble_eq_true rfl) dd_Mo_init_33 rfl (fun H locs hP hD hS => ?_)
  refine lv_aload_n hx hb dd_Mo_init_36 rfl (lv_at hl 0 rfl) ?_
  refine lv_bipush (v := (12 : Int32)) hx hb dd_Mo_init_37 (by decide) ?_
  refine ly_newa (ty := .boolean) (at0 := .boolean) (a0 := (12, .inl (fun _ => (0 : Int32)))) C 2 rfl rfl (fun _ h => h) wa_56 hP hD hS 12 (fun _ => rfl) rfl (by omega) (by decide) (by omega) (by omega) dd_Mo_init_39 (fun q39 H hP hD hS => ?_)
  refine W.widen (k := 5) (n := 162) (by omega) (by omega) ?_
  have hcs : 5 ≤ R.cells ∧ 162 ≤ R.slots := ⟨by omega, by omega⟩
  refine ly_put (ws' := [(ah, .inr (4, [.int (0 : Int32), .int (0 : Int32), .ref q7, .ref q15, .ref q23, .ref q31, .ref q39, .int (0 : Int32), .int (0 : Int32), .int (0 : Int32), .int (0 : Int32), .long (0 : Int64), .int (0 : Int32), .null, .int (0 : Int32), .null, .null, .null])), (q7, .inl (K 1, 66, .inl (fun _ => (0 : Int32)))), (q15, .inl (K 0, 18, .inr (.inl (fun _ => (0 : Int64))))), (q23, .inl (K 2, 33, .inl (fun _ => (0 : Int32)))), (q31, .inl (K 0, 33, .inr (.inl (fun _ => (0 : Int64))))), (q39, .inl (K 2, 12, .inl (fun _ => (0 : Int32))))]) C hP hD hS 0 rfl uw_Mo tt_Mo nn_Mo rfl 6 (by decide) wa_257 rfl rfl rfl (Nat.le_of_ble_eq_true rfl) dd_Mo_init_41 rfl (fun H locs hP hD hS => ?_)
  refine lv_aload_n hx hb dd_Mo_init_44 rfl (lv_at hl 0 rfl) ?_
  refine lv_bipush (v := (11 : Int32)) hx hb dd_Mo_init_45 (by decide) ?_
  refine ly_newa (ty := .int) (at0 := .int) (a0 := (11, .inl (fun _ => (0 : Int32)))) C 1 rfl rfl (fun _ h => h) wa_58 hP hD hS 11 (fun _ => rfl) rfl (by omega) (by decide) (by omega) (by omega) dd_Mo_init_47 (fun q47 H hP hD hS => ?_)
  refine W.widen (k := 6) (n := 173) (by omega) (by omega) ?_
  have hcs : 6 ≤ R.cells ∧ 173 ≤ R.slots := ⟨by omega, by omega⟩
  refine ly_put (ws' := [(ah, .inr (4, [.int (0 : Int32), .int (0 : Int32), .ref q7, .ref q15, .ref q23, .ref q31, .ref q39, .int (0 : Int32), .int (0 : Int32), .int (0 : Int32), .int (0 : Int32), .long (0 : Int64), .int (0 : Int32), .ref q47, .int (0 : Int32), .null, .null, .null])), (q7, .inl (K 1, 66, .inl (fun _ => (0 : Int32)))), (q15, .inl (K 0, 18, .inr (.inl (fun _ => (0 : Int64))))), (q23, .inl (K 2, 33, .inl (fun _ => (0 : Int32)))), (q31, .inl (K 0, 33, .inr (.inl (fun _ => (0 : Int64))))), (q39, .inl (K 2, 12, .inl (fun _ => (0 : Int32)))), (q47, .inl (K 1, 11, .inl (fun _ => (0 : Int32))))]) C hP hD hS 0 rfl uw_Mo tt_Mo nn_Mo rfl 13 (by decide) wa_258 rfl rfl rfl (Nat.le_of_ble_eq_true rfl) dd_Mo_init_49 rfl (fun H locs hP hD hS => ?_)
  refine lv_aload_n hx hb dd_Mo_init_52 rfl (lv_at hl 0 rfl) ?_
  refine lv_bipush (v := (36 : Int32)) hx hb dd_Mo_init_53 (by decide) ?_
  refine ly_newa (ty := .int) (at0 := .int) (a0 := (36, .inl (fun _ => (0 : Int32)))) C 1 rfl rfl (fun _ h => h) wa_58 hP hD hS 36 (fun _ => rfl) rfl (by omega) (by decide) (by omega) (by omega) dd_Mo_init_55 (fun q55 H hP hD hS => ?_)
  refine W.widen (k := 7) (n := 209) (by omega) (by omega) ?_
  have hcs : 7 ≤ R.cells ∧ 209 ≤ R.slots := ⟨by omega, by omega⟩
  refine ly_put (ws' := [(ah, .inr (4, [.int (0 : Int32), .int (0 : Int32), .ref q7, .ref q15, .ref q23, .ref q31, .ref q39, .int (0 : Int32), .int (0 : Int32), .int (0 : Int32), .int (0 : Int32), .long (0 : Int64), .int (0 : Int32), .ref q47, .int (0 : Int32), .ref q55, .null, .null])), (q7, .inl (K 1, 66, .inl (fun _ => (0 : Int32)))), (q15, .inl (K 0, 18, .inr (.inl (fun _ => (0 : Int64))))), (q23, .inl (K 2, 33, .inl (fun _ => (0 : Int32)))), (q31, .inl (K 0, 33, .inr (.inl (fun _ => (0 : Int64))))), (q39, .inl (K 2, 12, .inl (fun _ => (0 : Int32)))), (q47, .inl (K 1, 11, .inl (fun _ => (0 : Int32)))), (q55, .inl (K 1, 36, .inl (fun _ => (0 : Int32))))]) C hP hD hS 0 rfl uw_Mo tt_Mo nn_Mo rfl 15 (by decide) wa_259 rfl rfl rfl (Nat.le_of_ble_eq_true rfl) dd_Mo_init_57 rfl (fun H locs hP hD hS => ?_)
  refine lv_aload_n hx hb dd_Mo_init_60 rfl (lv_at hl 0 rfl) ?_
  refine lv_bipush (v := (6 : Int32)) hx hb dd_Mo_init_61 (by decide) ?_
  refine ly_newa (ty := .int) (at0 := .int) (a0 := (6, .inl (fun _ => (0 : Int32)))) C 1 rfl rfl (fun _ h => h) wa_58 hP hD hS 6 (fun _ => rfl) rfl (by omega) (by decide) (by omega) (by omega) dd_Mo_init_63 (fun q63 H hP hD hS => ?_)
  refine W.widen (k := 8) (n := 215) (by omega) (by omega) ?_
  have hcs : 8 ≤ R.cells ∧ 215 ≤ R.slots := ⟨by omega, by omega⟩
  refine ly_put (ws' := [(ah, .inr (4, [.int (0 : Int32), .int (0 : Int32), .ref q7, .ref q15, .ref q23, .ref q31, .ref q39, .int (0 : Int32), .int (0 : Int32), .int (0 : Int32), .int (0 : Int32), .long (0 : Int64), .int (0 : Int32), .ref q47, .int (0 : Int32), .ref q55, .ref q63, .null])), (q7, .inl (K 1, 66, .inl (fun _ => (0 : Int32)))), (q15, .inl (K 0, 18, .inr (.inl (fun _ => (0 : Int64))))), (q23, .inl (K 2, 33, .inl (fun _ => (0 : Int32)))), (q31, .inl (K 0, 33, .inr (.inl (fun _ => (0 : Int64))))), (q39, .inl (K 2, 12, .inl (fun _ => (0 : Int32)))), (q47, .inl (K 1, 11, .inl (fun _ => (0 : Int32)))), (q55, .inl (K 1, 36, .inl (fun _ => (0 : Int32)))), (q63, .inl (K 1, 6, .inl (fun _ => (0 : Int32))))]) C hP hD hS 0 rfl uw_Mo tt_Mo nn_Mo rfl 16 (by decide) wa_260 rfl rfl rfl (Nat.le_of_ble_eq_true rfl) dd_Mo_init_65 rfl (fun H locs hP hD hS => ?_)
  refine lv_aload_n hx hb dd_Mo_init_68 rfl (lv_at hl 0 rfl) ?_
  refine lv_bipush (v := (6 : Int32)) hx hb dd_Mo_init_69 (by decide) ?_
  refine ly_newa (ty := .int) (at0 := .int) (a0 := (6, .inl (fun _ => (0 : Int32)))) C 1 rfl rfl (fun _ h => h) wa_58 hP hD hS 6 (fun _ => rfl) rfl (by omega) (by decide) (by omega) (by omega) dd_Mo_init_71 (fun q71 H hP hD hS => ?_)
  refine W.widen (k := 9) (n := 221) (by omega) (by omega) ?_
  have hcs : 9 ≤ R.cells ∧ 221 ≤ R.slots := ⟨by omega, by omega⟩
  refine ly_put (ws' := [(ah, .inr (4, [.int (0 : Int32), .int (0 : Int32), .ref q7, .ref q15, .ref q23, .ref q31, .ref q39, .int (0 : Int32), .int (0 : Int32), .int (0 : Int32), .int (0 : Int32), .long (0 : Int64), .int (0 : Int32), .ref q47, .int (0 : Int32), .ref q55, .ref q63, .ref q71])), (q7, .inl (K 1, 66, .inl (fun _ => (0 : Int32)))), (q15, .inl (K 0, 18, .inr (.inl (fun _ => (0 : Int64))))), (q23, .inl (K 2, 33, .inl (fun _ => (0 : Int32)))), (q31, .inl (K 0, 33, .inr (.inl (fun _ => (0 : Int64))))), (q39, .inl (K 2, 12, .inl (fun _ => (0 : Int32)))), (q47, .inl (K 1, 11, .inl (fun _ => (0 : Int32)))), (q55, .inl (K 1, 36, .inl (fun _ => (0 : Int32)))), (q63, .inl (K 1, 6, .inl (fun _ => (0 : Int32)))), (q71, .inl (K 1, 6, .inl (fun _ => (0 : Int32))))]) C hP hD hS 0 rfl uw_Mo tt_Mo nn_Mo rfl 17 (by decide) wa_261 rfl rfl rfl (Nat.le_of_ble_eq_true rfl) dd_Mo_init_73 rfl (fun H locs hP hD hS => ?_)
  refine lv_aload_n hx hb dd_Mo_init_76 rfl (lv_at hl 0 rfl) ?_
  refine lv_iload_n hx hb dd_Mo_init_77 rfl (lv_at hl 1 rfl) ?_
  refine lv_iconst (v := (1 : Int32)) hx hb dd_Mo_init_78 (by decide) ?_
  refine lv_icmp_eq (tgt := 87) hx hb dd_Mo_init_79 (by decide) (fun h79 => ?_) (fun h79 => ?_)
  · skip
    refine lv_iload_n hx hb dd_Mo_init_87 rfl (lv_at hl 1 rfl) ?_
    refine lv_goto (tgt := 92) hx hb dd_Mo_init_88 (by decide) ?_
    refine ly_put (ws' := [(ah, .inr (4, [.int x, .int (0 : Int32), .ref q7, .ref q15, .ref q23, .ref q31, .ref q39, .int (0 : Int32), .int (0 : Int32), .int (0 : Int32), .int (0 : Int32), .long (0 : Int64), .int (0 : Int32), .ref q47, .int (0 : Int32), .ref q55, .ref q63, .ref q71])), (q7, .inl (K 1, 66, .inl (fun _ => (0 : Int32)))), (q15, .inl (K 0, 18, .inr (.inl (fun _ => (0 : Int64))))), (q23, .inl (K 2, 33, .inl (fun _ => (0 : Int32)))), (q31, .inl (K 0, 33, .inr (.inl (fun _ => (0 : Int64))))), (q39, .inl (K 2, 12, .inl (fun _ => (0 : Int32)))), (q47, .inl (K 1, 11, .inl (fun _ => (0 : Int32)))), (q55, .inl (K 1, 36, .inl (fun _ => (0 : Int32)))), (q63, .inl (K 1, 6, .inl (fun _ => (0 : Int32)))), (q71, .inl (K 1, 6, .inl (fun _ => (0 : Int32))))]) C hP hD hS 0 rfl uw_Mo tt_Mo nn_Mo rfl 0 (by decide) wa_262 rfl rfl rfl (Nat.le_of_ble_eq_true rfl) dd_Mo_init_92 rfl (fun H locs hP hD hS => ?_)
    refine lv_aload_n hx hb dd_Mo_init_95 rfl (lv_at hl 0 rfl) ?_
    refine lv_aload_n hx hb dd_Mo_init_96 rfl (lv_at hl 0 rfl) ?_
    refine ly_get (v := .int x) C hP 0 rfl uw_Mo rfl 0 (by decide) wa_262 rfl dd_Mo_init_97 ?_
    refine lv_iconst (v := (2 : Int32)) hx hb dd_Mo_init_100 (by decide) ?_
    refine lv_icmp_ne (tgt := 109) hx hb dd_Mo_init_101 (by decide) (fun h101 => ?_) (fun h101 => ?_)
    · skip
      refine lv_bipush (v := (10 : Int32)) hx hb dd_Mo_init_109 (by decide) ?_
      refine ly_put (ws' := [(ah, .inr (4, [.int x, .int (10 : Int32), .ref q7, .ref q15, .ref q23, .ref q31, .ref q39, .int (0 : Int32), .int (0 : Int32), .int (0 : Int32), .int (0 : Int32), .long (0 : Int64), .int (0 : Int32), .ref q47, .int (0 : Int32), .ref q55, .ref q63, .ref q71])), (q7, .inl (K 1, 66, .inl (fun _ => (0 : Int32)))), (q15, .inl (K 0, 18, .inr (.inl (fun _ => (0 : Int64))))), (q23, .inl (K 2, 33, .inl (fun _ => (0 : Int32)))), (q31, .inl (K 0, 33, .inr (.inl (fun _ => (0 : Int64))))), (q39, .inl (K 2, 12, .inl (fun _ => (0 : Int32)))), (q47, .inl (K 1, 11, .inl (fun _ => (0 : Int32)))), (q55, .inl (K 1, 36, .inl (fun _ => (0 : Int32)))), (q63, .inl (K 1, 6, .inl (fun _ => (0 : Int32)))), (q71, .inl (K 1, 6, .inl (fun _ => (0 : Int32))))]) C hP hD hS 0 rfl uw_Mo tt_Mo nn_Mo rfl 1 (by decide) wa_263 rfl rfl rfl (Nat.le_of_ble_eq_true rfl) dd_Mo_init_111 rfl (fun H locs hP hD hS => ?_)
      obtain ⟨n, en⟩ : ∃ z, z = ck_n x := ⟨_, rfl⟩
      obtain ⟨xk, ek⟩ : ∃ z, z = mk_k x := ⟨_, rfl⟩
      have e1 : n = 10 := by rw [en]; unfold ck_n; first | exact if_pos h101 | exact if_neg h101 | exact if_neg h84
      have e2 : xk = x := by rw [ek]; unfold mk_k; first | exact if_pos h79 | (rw [if_neg h79]; first | exact if_pos h84 | exact if_neg h84)
      have hn : n ≤ 11 := by rw [e1]; decide
      have hn6 : 6 ≤ n := by rw [e1]; decide
      have hP : va_P D cl_all (ws_Mo K ah q7 q15 q23 q31 q39 q47 q55 q63 q71 n xk (0 : Int32) (0 : Int32) (0 : Int32) (0 : Int32) (0 : Int64) 0 0 (fun _ => (0 : Int32)) (fun _ => (0 : Int64)) (fun _ => (0 : Int32)) (fun _ => (0 : Int64)) (fun _ => (0 : Int32)) (fun _ => 0) (fun _ => (0 : Int32)) (fun _ => 0) (fun _ => (0 : Int32))) H := by rw [e1, e2]; exact hP
      have hD : va_D A (ws_Mo K ah q7 q15 q23 q31 q39 q47 q55 q63 q71 n xk (0 : Int32) (0 : Int32) (0 : Int32) (0 : Int32) (0 : Int64) 0 0 (fun _ => (0 : Int32)) (fun _ => (0 : Int64)) (fun _ => (0 : Int32)) (fun _ => (0 : Int64)) (fun _ => (0 : Int32)) (fun _ => 0) (fun _ => (0 : Int32)) (fun _ => 0) (fun _ => (0 : Int32))) := by rw [e1, e2]; exact hD
      refine lv_iconst (v := (0 : Int32)) hx hb dd_Mo_init_114 (by decide) ?_
      refine lv_istore_n (lv' := [(2, .int (0 : Int32)), (0, .ref ah), (1, .int x)]) hx hb dd_Mo_init_115 rfl hl (by decide) rfl (fun ls hl => ?_)
      have lp116 : ∀ (k116 : Nat) (j116 : Nat) (xrL116 : Nat → Int32) (ls : Array Slot) (H : Heap) (locs : List Loc) (rs116 : (Nat → Int32)), j116 + k116 = 6 → mm_Mo_init_L116 n xk k116 j116 xrL116 = rs116 → lv_has ls 4 [(2, .int (nI j116)), (0, .ref ah), (1, .int x)] → va_P D cl_all (ws_Mo K ah q7 q15 q23 q31 q39 q47 q55 q63 q71 n xk (0 : Int32) (0 : Int32) (0 : Int32) (0 : Int32) (0 : Int64) 0 0 xrL116 (fun _ => (0 : Int64)) (fun _ => (0 : Int32)) (fun _ => (0 : Int64)) (fun _ => (0 : Int32)) (fun _ => 0) (fun _ => (0 : Int32)) (fun _ => 0) (fun _ => (0 : Int32))) H → va_D A (ws_Mo K ah q7 q15 q23 q31 q39 q47 q55 q63 q71 n xk (0 : Int32) (0 : Int32) (0 : Int32) (0 : Int32) (0 : Int64) 0 0 xrL116 (fun _ => (0 : Int64)) (fun _ => (0 : Int32)) (fun _ => (0 : Int64)) (fun _ => (0 : Int32)) (fun _ => 0) (fun _ => (0 : Int32)) (fun _ => 0) (fun _ => (0 : Int32))) → va_S A s.heap H locs → (∀ (xrL116 : Nat → Int32) (ls : Array Slot) (H : Heap) (locs : List Loc), xrL116 = rs116 → lv_has ls 4 [(0, .ref ah), (1, .int x)] → va_P D cl_all (ws_Mo K ah q7 q15 q23 q31 q39 q47 q55 q63 q71 n xk (0 : Int32) (0 : Int32) (0 : Int32) (0 : Int32) (0 : Int64) 0 0 xrL116 (fun _ => (0 : Int64)) (fun _ => (0 : Int32)) (fun _ => (0 : Int64)) (fun _ => (0 : Int32)) (fun _ => 0) (fun _ => (0 : Int32)) (fun _ => 0) (fun _ => (0 : Int32))) H → va_D A (ws_Mo K ah q7 q15 q23 q31 q39 q47 q55 q63 q71 n xk (0 : Int32) (0 : Int32) (0 : Int32) (0 : Int32) (0 : Int64) 0 0 xrL116 (fun _ => (0 : Int64)) (fun _ => (0 : Int32)) (fun _ => (0 : Int64)) (fun _ => (0 : Int32)) (fun _ => 0) (fun _ => (0 : Int32)) (fun _ => 0) (fun _ => (0 : Int32))) → va_S A s.heap H locs → W p l e R s m av below meth c H locs 9 221 Q (F0 m 172 ls [])) → W p l e R s m av below meth c H locs 9 221 Q (F0 m 116 ls []) := by
        intro k116
        induction k116 with
        | zero =>
          intro j116 xrL116 ls H locs rs116 hjk116 hM hl hP hD hS kap116
          have hj0 : j116 = 6 := by omega
          subst j116
          rw [mm_Mo_init_L116] at hM
          refine lv_iload_n hx hb dd_Mo_init_116 rfl (lv_at hl 0 rfl) ?_
          refine lv_bipush (v := (6 : Int32)) hx hb dd_Mo_init_117 (by decide) ?_
          refine lv_icmp_ge (tgt := 172) hx hb dd_Mo_init_119 (by decide) (fun _ => ?_) (fun h => absurd (nI_le (a := 6) (b := 6) (by omega) (by omega)) h)
          exact kap116 xrL116 ls H locs hM (lv_sub hl [1, 2] rfl) hP hD hS
        | succ k116 ih116 =>
          intro j116 xrL116 ls H locs rs116 hjk116 hM hl hP hD hS kap116
          rw [mm_Mo_init_L116] at hM
          refine lv_iload_n hx hb dd_Mo_init_116 rfl (lv_at hl 0 rfl) ?_
          refine lv_bipush (v := (6 : Int32)) hx hb dd_Mo_init_117 (by decide) ?_
          refine lv_icmp_ge (tgt := 172) hx hb dd_Mo_init_119 (by decide) (fun h => absurd h (nI_ge (a := j116) (b := 6) (by omega) (by omega))) (fun _ => ?_)
          refine lv_aload_n hx hb dd_Mo_init_122 rfl (lv_at hl 1 rfl) ?_
          refine ly_get (v := .ref q7) C hP 0 rfl uw_Mo rfl 2 (by decide) wa_253 rfl dd_Mo_init_123 ?_
          refine lv_bipush (v := (7 : Int32)) hx hb dd_Mo_init_126 (by decide) ?_
          refine lv_iload_n hx hb dd_Mo_init_128 rfl (lv_at hl 0 rfl) ?_
          refine ly_imulN C 7 j116 rfl rfl dd_Mo_init_129 ?_
          refine lv_iconst (v := (1 : Int32)) hx hb dd_Mo_init_130 (by decide) ?_
          refine ly_iast (ws' := (ws_Mo K ah q7 q15 q23 q31 q39 q47 q55 q63 q71 n xk (0 : Int32) (0 : Int32) (0 : Int32) (0 : Int32) (0 : Int64) 0 0 (upd xrL116 (7 * j116) (1 : Int32)) (fun _ => (0 : Int64)) (fun _ => (0 : Int32)) (fun _ => (0 : Int64)) (fun _ => (0 : Int32)) (fun _ => 0) (fun _ => (0 : Int32)) (fun _ => 0) (fun _ => (0 : Int32)))) C hP hD hS 1 rfl (7 * j116) rfl (by omega) (by omega) dd_Mo_init_131 rfl (fun H locs hP hD hS => ?_)
          refine lv_bipush (v := (6 : Int32)) hx hb dd_Mo_init_132 (by decide) ?_
          refine lv_istore_n (lv' := [(3, .int (6 : Int32)), (2, .int (nI j116)), (0, .ref ah), (1, .int x)]) hx hb dd_Mo_init_134 rfl hl (by decide) rfl (fun ls hl => ?_)
          have lp135 : ∀ (k135 : Nat) (j135 : Nat) (xrL135 : Nat → Int32) (ls : Array Slot) (H : Heap) (locs : List Loc) (rs135 : (Nat → Int32)), j135 + k135 = n → mm_Mo_init_L135 xk j116 k135 j135 xrL135 = rs135 → lv_has ls 4 [(3, .int (nI j135)), (2, .int (nI j116)), (0, .ref ah), (1, .int x)] → va_P D cl_all (ws_Mo K ah q7 q15 q23 q31 q39 q47 q55 q63 q71 n xk (0 : Int32) (0 : Int32) (0 : Int32) (0 : Int32) (0 : Int64) 0 0 xrL135 (fun _ => (0 : Int64)) (fun _ => (0 : Int32)) (fun _ => (0 : Int64)) (fun _ => (0 : Int32)) (fun _ => 0) (fun _ => (0 : Int32)) (fun _ => 0) (fun _ => (0 : Int32))) H → va_D A (ws_Mo K ah q7 q15 q23 q31 q39 q47 q55 q63 q71 n xk (0 : Int32) (0 : Int32) (0 : Int32) (0 : Int32) (0 : Int64) 0 0 xrL135 (fun _ => (0 : Int64)) (fun _ => (0 : Int32)) (fun _ => (0 : Int64)) (fun _ => (0 : Int32)) (fun _ => 0) (fun _ => (0 : Int32)) (fun _ => 0) (fun _ => (0 : Int32))) → va_S A s.heap H locs → (∀ (xrL135 : Nat → Int32) (ls : Array Slot) (H : Heap) (locs : List Loc), xrL135 = rs135 → lv_has ls 4 [(2, .int (nI j116)), (0, .ref ah), (1, .int x)] → va_P D cl_all (ws_Mo K ah q7 q15 q23 q31 q39 q47 q55 q63 q71 n xk (0 : Int32) (0 : Int32) (0 : Int32) (0 : Int32) (0 : Int64) 0 0 xrL135 (fun _ => (0 : Int64)) (fun _ => (0 : Int32)) (fun _ => (0 : Int64)) (fun _ => (0 : Int32)) (fun _ => 0) (fun _ => (0 : Int32)) (fun _ => 0) (fun _ => (0 : Int32))) H → va_D A (ws_Mo K ah q7 q15 q23 q31 q39 q47 q55 q63 q71 n xk (0 : Int32) (0 : Int32) (0 : Int32) (0 : Int32) (0 : Int64) 0 0 xrL135 (fun _ => (0 : Int64)) (fun _ => (0 : Int32)) (fun _ => (0 : Int64)) (fun _ => (0 : Int32)) (fun _ => 0) (fun _ => (0 : Int32)) (fun _ => 0) (fun _ => (0 : Int32))) → va_S A s.heap H locs → W p l e R s m av below meth c H locs 9 221 Q (F0 m 166 ls [])) → W p l e R s m av below meth c H locs 9 221 Q (F0 m 135 ls []) := by
            intro k135
            induction k135 with
            | zero =>
              intro j135 xrL135 ls H locs rs135 hjk135 hM hl hP hD hS kap135
              have hj0 : j135 = n := by omega
              subst j135
              rw [mm_Mo_init_L135] at hM
              refine lv_iload_n hx hb dd_Mo_init_135 rfl (lv_at hl 0 rfl) ?_
              refine lv_aload_n hx hb dd_Mo_init_136 rfl (lv_at hl 2 rfl) ?_
              refine ly_get (v := .int (nI n)) C hP 0 rfl uw_Mo rfl 1 (by decide) wa_263 rfl dd_Mo_init_137 ?_
              refine lv_icmp_ge (tgt := 166) hx hb dd_Mo_init_140 (by decide) (fun _ => ?_) (fun h => absurd (nI_le (a := n) (b := n) (by omega) (by omega)) h)
              exact kap135 xrL135 ls H locs hM (lv_sub hl [1, 2, 3] rfl) hP hD hS
            | succ k135 ih135 =>
              intro j135 xrL135 ls H locs rs135 hjk135 hM hl hP hD hS kap135
              rw [mm_Mo_init_L135] at hM
              refine lv_iload_n hx hb dd_Mo_init_135 rfl (lv_at hl 0 rfl) ?_
              refine lv_aload_n hx hb dd_Mo_init_136 rfl (lv_at hl 2 rfl) ?_
              refine ly_get (v := .int (nI n)) C hP 0 rfl uw_Mo rfl 1 (by decide) wa_263 rfl dd_Mo_init_137 ?_
              refine lv_icmp_ge (tgt := 166) hx hb dd_Mo_init_140 (by decide) (fun h => absurd h (nI_ge (a := j135) (b := n) (by omega) (by omega))) (fun _ => ?_)
              refine lv_aload_n hx hb dd_Mo_init_143 rfl (lv_at hl 2 rfl) ?_
              refine ly_get (v := .ref q7) C hP 0 rfl uw_Mo rfl 2 (by decide) wa_253 rfl dd_Mo_init_144 ?_
              refine lv_bipush (v := (6 : Int32)) hx hb dd_Mo_init_147 (by decide) ?_
              refine lv_iload_n hx hb dd_Mo_init_149 rfl (lv_at hl 0 rfl) ?_
              refine ly_imulN C 6 j135 rfl rfl dd_Mo_init_150 ?_
              refine lv_iload_n hx hb dd_Mo_init_151 rfl (lv_at hl 1 rfl) ?_
              refine ly_iaddN C (6 * j135) j116 rfl rfl dd_Mo_init_152 ?_
              refine lv_aload_n hx hb dd_Mo_init_153 rfl (lv_at hl 2 rfl) ?_
              refine lv_iload_n hx hb dd_Mo_init_154 rfl (lv_at hl 0 rfl) ?_
              refine lv_iload_n hx hb dd_Mo_init_155 rfl (lv_at hl 1 rfl) ?_
              obtain ⟨r_156, hq156⟩ : ∃ z, z = mm_Mo_coefficient j135 j116 xk := ⟨_, rfl⟩
              try rw [← hq156] at hM
              refine ly_cV_i (n := 2) (z := r_156) (rest := [.int (nI ((6 * j135) + j116)), .ref q7]) (wn := (ws_Mo K ah q7 q15 q23 q31 q39 q47 q55 q63 q71 n xk (0 : Int32) (0 : Int32) (0 : Int32) (0 : Int32) (0 : Int64) 0 0 xrL135 (fun _ => (0 : Int64)) (fun _ => (0 : Int32)) (fun _ => (0 : Int64)) (fun _ => (0 : Int32)) (fun _ => 0) (fun _ => (0 : Int32)) (fun _ => 0) (fun _ => (0 : Int32)))) C (cc_Mo_coefficient D K ah q7 q15 q23 q31 q39 q47 q55 q63 q71 j135 j116 n xk (0 : Int32) (0 : Int32) (0 : Int32) (0 : Int32) (0 : Int64) 0 0 xrL135 (fun _ => (0 : Int64)) (fun _ => (0 : Int32)) (fun _ => (0 : Int64)) (fun _ => (0 : Int32)) (fun _ => 0) (fun _ => (0 : Int32)) (fun _ => 0) (fun _ => (0 : Int32)) (by omega) (by omega) (by omega) (by omega)) hq156 wa_273 wa_264 wa_265 wa_266 wa_267 (by decide) (Nat.le_trans (by decide) hRf) (Nat.le_trans (by decide) hRl) rfl hl.1 rfl (Nat.le_of_ble_eq_true rfl) dd_Mo_init_156 hcs [0, 1, 2, 3, 4, 5, 6, 7, 8, 9] [] [0, 1, 2, 3, 4, 5, 6, 7, 8, 9] hP hD hS rfl rfl (by decide) rfl rfl rfl (fun H locs hP hD hS => ?_)
              refine W.eq (g2 := F0 m 159 ls [.int r_156, .int (nI ((6 * j135) + j116)), .ref q7]) rfl ?_
              refine ly_iast (ws' := (ws_Mo K ah q7 q15 q23 q31 q39 q47 q55 q63 q71 n xk (0 : Int32) (0 : Int32) (0 : Int32) (0 : Int32) (0 : Int64) 0 0 (upd xrL135 ((6 * j135) + j116) r_156) (fun _ => (0 : Int64)) (fun _ => (0 : Int32)) (fun _ => (0 : Int64)) (fun _ => (0 : Int32)) (fun _ => 0) (fun _ => (0 : Int32)) (fun _ => 0) (fun _ => (0 : Int32)))) C hP hD hS 1 rfl ((6 * j135) + j116) rfl (by omega) (by omega) dd_Mo_init_159 rfl (fun H locs hP hD hS => ?_)
              refine lv_iinc (k := 0) (v := (nI (j135 + 1))) (lv' := [(3, .int (nI (j135 + 1))), (2, .int (nI j116)), (0, .ref ah), (1, .int x)]) hx hb dd_Mo_init_160 hl rfl (ly_incN _) (by decide) rfl (fun ls hl => ?_)
              refine lv_goto (tgt := 135) hx hb dd_Mo_init_163 (by decide) ?_
              exact ih135 (j135 + 1) (upd xrL135 ((6 * j135) + j116) r_156) ls H locs rs135 (by omega) hM (lv_sub hl [0, 1, 2, 3] rfl) hP hD hS kap135
          refine lp135 (n - 6) 6 (upd xrL116 (7 * j116) (1 : Int32)) ls H locs _ (by omega) rfl (lv_sub hl [0, 1, 2, 3] rfl) hP hD hS (fun xr_135 ls H locs hqL135 hl hP hD hS => ?_)
          try rw [← hqL135] at hM
          refine lv_iinc (k := 0) (v := (nI (j116 + 1))) (lv' := [(2, .int (nI (j116 + 1))), (0, .ref ah), (1, .int x)]) hx hb dd_Mo_init_166 hl rfl (ly_incN _) (by decide) rfl (fun ls hl => ?_)
          refine lv_goto (tgt := 116) hx hb dd_Mo_init_169 (by decide) ?_
          exact ih116 (j116 + 1) xr_135 ls H locs rs116 (by omega) hM (lv_sub hl [0, 1, 2] rfl) hP hD hS kap116
      refine lp116 6 0 (fun _ => (0 : Int32)) ls H locs _ (by omega) rfl (lv_sub hl [0, 1, 2] rfl) hP hD hS (fun xr_116 ls H locs hqL116 hl hP hD hS => ?_)
      try rw [← hqL116] at hM
      refine lv_iconst (v := (0 : Int32)) hx hb dd_Mo_init_172 (by decide) ?_
      refine lv_istore_n (lv' := [(2, .int (0 : Int32)), (0, .ref ah), (1, .int x)]) hx hb dd_Mo_init_173 rfl hl (by decide) rfl (fun ls hl => ?_)
      have lp174 : ∀ (k174 : Nat) (j174 : Nat) (xtL174 : Nat → Int32) (ls : Array Slot) (H : Heap) (locs : List Loc) (rs174 : (Nat → Int32)), j174 + k174 = 33 → mm_Mo_init_L174 k174 j174 xtL174 = rs174 → lv_has ls 4 [(2, .int (nI j174)), (0, .ref ah), (1, .int x)] → va_P D cl_all (ws_Mo K ah q7 q15 q23 q31 q39 q47 q55 q63 q71 n xk (0 : Int32) (0 : Int32) (0 : Int32) (0 : Int32) (0 : Int64) 0 0 xr_116 (fun _ => (0 : Int64)) xtL174 (fun _ => (0 : Int64)) (fun _ => (0 : Int32)) (fun _ => 0) (fun _ => (0 : Int32)) (fun _ => 0) (fun _ => (0 : Int32))) H → va_D A (ws_Mo K ah q7 q15 q23 q31 q39 q47 q55 q63 q71 n xk (0 : Int32) (0 : Int32) (0 : Int32) (0 : Int32) (0 : Int64) 0 0 xr_116 (fun _ => (0 : Int64)) xtL174 (fun _ => (0 : Int64)) (fun _ => (0 : Int32)) (fun _ => 0) (fun _ => (0 : Int32)) (fun _ => 0) (fun _ => (0 : Int32))) → va_S A s.heap H locs → (∀ (xtL174 : Nat → Int32) (ls : Array Slot) (H : Heap) (locs : List Loc), xtL174 = rs174 → lv_has ls 4 [(0, .ref ah), (1, .int x)] → va_P D cl_all (ws_Mo K ah q7 q15 q23 q31 q39 q47 q55 q63 q71 n xk (0 : Int32) (0 : Int32) (0 : Int32) (0 : Int32) (0 : Int64) 0 0 xr_116 (fun _ => (0 : Int64)) xtL174 (fun _ => (0 : Int64)) (fun _ => (0 : Int32)) (fun _ => 0) (fun _ => (0 : Int32)) (fun _ => 0) (fun _ => (0 : Int32))) H → va_D A (ws_Mo K ah q7 q15 q23 q31 q39 q47 q55 q63 q71 n xk (0 : Int32) (0 : Int32) (0 : Int32) (0 : Int32) (0 : Int64) 0 0 xr_116 (fun _ => (0 : Int64)) xtL174 (fun _ => (0 : Int64)) (fun _ => (0 : Int32)) (fun _ => 0) (fun _ => (0 : Int32)) (fun _ => 0) (fun _ => (0 : Int32))) → va_S A s.heap H locs → W p l e R s m av below meth c H locs 9 221 Q (F0 m 193 ls [])) → W p l e R s m av below meth c H locs 9 221 Q (F0 m 174 ls []) := by
        intro k174
        induction k174 with
        | zero =>
          intro j174 xtL174 ls H locs rs174 hjk174 hM hl hP hD hS kap174
          have hj0 : j174 = 33 := by omega
          subst j174
          rw [mm_Mo_init_L174] at hM
          refine lv_iload_n hx hb dd_Mo_init_174 rfl (lv_at hl 0 rfl) ?_
          refine lv_bipush (v := (33 : Int32)) hx hb dd_Mo_init_175 (by decide) ?_
          refine lv_icmp_ge (tgt := 193) hx hb dd_Mo_init_177 (by decide) (fun _ => ?_) (fun h => absurd (nI_le (a := 33) (b := 33) (by omega) (by omega)) h)
          exact kap174 xtL174 ls H locs hM (lv_sub hl [1, 2] rfl) hP hD hS
        | succ k174 ih174 =>
          intro j174 xtL174 ls H locs rs174 hjk174 hM hl hP hD hS kap174
          rw [mm_Mo_init_L174] at hM
          refine lv_iload_n hx hb dd_Mo_init_174 rfl (lv_at hl 0 rfl) ?_
          refine lv_bipush (v := (33 : Int32)) hx hb dd_Mo_init_175 (by decide) ?_
          refine lv_icmp_ge (tgt := 193) hx hb dd_Mo_init_177 (by decide) (fun h => absurd h (nI_ge (a := j174) (b := 33) (by omega) (by omega))) (fun _ => ?_)
          refine lv_aload_n hx hb dd_Mo_init_180 rfl (lv_at hl 1 rfl) ?_
          refine ly_get (v := .ref q23) C hP 0 rfl uw_Mo rfl 4 (by decide) wa_255 rfl dd_Mo_init_181 ?_
          refine lv_iload_n hx hb dd_Mo_init_184 rfl (lv_at hl 0 rfl) ?_
          refine lv_iconst (v := (1 : Int32)) hx hb dd_Mo_init_185 (by decide) ?_
          refine ly_zast (ws' := (ws_Mo K ah q7 q15 q23 q31 q39 q47 q55 q63 q71 n xk (0 : Int32) (0 : Int32) (0 : Int32) (0 : Int32) (0 : Int64) 0 0 xr_116 (fun _ => (0 : Int64)) (upd xtL174 j174 (1 : Int32)) (fun _ => (0 : Int64)) (fun _ => (0 : Int32)) (fun _ => 0) (fun _ => (0 : Int32)) (fun _ => 0) (fun _ => (0 : Int32)))) C hP hD hS 3 rfl (by decide) j174 rfl (by omega) (by omega) dd_Mo_init_186 rfl (fun H locs hP hD hS => ?_)
          refine lv_iinc (k := 0) (v := (nI (j174 + 1))) (lv' := [(2, .int (nI (j174 + 1))), (0, .ref ah), (1, .int x)]) hx hb dd_Mo_init_187 hl rfl (ly_incN _) (by decide) rfl (fun ls hl => ?_)
          refine lv_goto (tgt := 174) hx hb dd_Mo_init_190 (by decide) ?_
          exact ih174 (j174 + 1) (upd xtL174 j174 (1 : Int32)) ls H locs rs174 (by omega) hM (lv_sub hl [0, 1, 2] rfl) hP hD hS kap174
      refine lp174 33 0 (fun _ => (0 : Int32)) ls H locs _ (by omega) rfl (lv_sub hl [0, 1, 2] rfl) hP hD hS (fun xt_174 ls H locs hqL174 hl hP hD hS => ?_)
      try rw [← hqL174] at hM
      subst en
      subst ek
      subst hqL116
      subst hqL174
      exact ret (fun k => match k with | 0 => q7 | 1 => q15 | 2 => q23 | 3 => q31 | 4 => q39 | 5 => q47 | 6 => q55 | 7 => q63 | _ => q71) H locs 193 ls hS hP hD dd_Mo_init_193
    · skip
      refine lv_bipush (v := (11 : Int32)) hx hb dd_Mo_init_104 (by decide) ?_
      refine lv_goto (tgt := 111) hx hb dd_Mo_init_106 (by decide) ?_
      refine ly_put (ws' := [(ah, .inr (4, [.int x, .int (11 : Int32), .ref q7, .ref q15, .ref q23, .ref q31, .ref q39, .int (0 : Int32), .int (0 : Int32), .int (0 : Int32), .int (0 : Int32), .long (0 : Int64), .int (0 : Int32), .ref q47, .int (0 : Int32), .ref q55, .ref q63, .ref q71])), (q7, .inl (K 1, 66, .inl (fun _ => (0 : Int32)))), (q15, .inl (K 0, 18, .inr (.inl (fun _ => (0 : Int64))))), (q23, .inl (K 2, 33, .inl (fun _ => (0 : Int32)))), (q31, .inl (K 0, 33, .inr (.inl (fun _ => (0 : Int64))))), (q39, .inl (K 2, 12, .inl (fun _ => (0 : Int32)))), (q47, .inl (K 1, 11, .inl (fun _ => (0 : Int32)))), (q55, .inl (K 1, 36, .inl (fun _ => (0 : Int32)))), (q63, .inl (K 1, 6, .inl (fun _ => (0 : Int32)))), (q71, .inl (K 1, 6, .inl (fun _ => (0 : Int32))))]) C hP hD hS 0 rfl uw_Mo tt_Mo nn_Mo rfl 1 (by decide) wa_263 rfl rfl rfl (Nat.le_of_ble_eq_true rfl) dd_Mo_init_111 rfl (fun H locs hP hD hS => ?_)
      obtain ⟨n, en⟩ : ∃ z, z = ck_n x := ⟨_, rfl⟩
      obtain ⟨xk, ek⟩ : ∃ z, z = mk_k x := ⟨_, rfl⟩
      have e1 : n = 11 := by rw [en]; unfold ck_n; first | exact if_pos h101 | exact if_neg h101 | exact if_neg h84
      have e2 : xk = x := by rw [ek]; unfold mk_k; first | exact if_pos h79 | (rw [if_neg h79]; first | exact if_pos h84 | exact if_neg h84)
      have hn : n ≤ 11 := by rw [e1]; decide
      have hn6 : 6 ≤ n := by rw [e1]; decide
      have hP : va_P D cl_all (ws_Mo K ah q7 q15 q23 q31 q39 q47 q55 q63 q71 n xk (0 : Int32) (0 : Int32) (0 : Int32) (0 : Int32) (0 : Int64) 0 0 (fun _ => (0 : Int32)) (fun _ => (0 : Int64)) (fun _ => (0 : Int32)) (fun _ => (0 : Int64)) (fun _ => (0 : Int32)) (fun _ => 0) (fun _ => (0 : Int32)) (fun _ => 0) (fun _ => (0 : Int32))) H := by rw [e1, e2]; exact hP
      have hD : va_D A (ws_Mo K ah q7 q15 q23 q31 q39 q47 q55 q63 q71 n xk (0 : Int32) (0 : Int32) (0 : Int32) (0 : Int32) (0 : Int64) 0 0 (fun _ => (0 : Int32)) (fun _ => (0 : Int64)) (fun _ => (0 : Int32)) (fun _ => (0 : Int64)) (fun _ => (0 : Int32)) (fun _ => 0) (fun _ => (0 : Int32)) (fun _ => 0) (fun _ => (0 : Int32))) := by rw [e1, e2]; exact hD
      refine lv_iconst (v := (0 : Int32)) hx hb dd_Mo_init_114 (by decide) ?_
      refine lv_istore_n (lv' := [(2, .int (0 : Int32)), (0, .ref ah), (1, .int x)]) hx hb dd_Mo_init_115 rfl hl (by decide) rfl (fun ls hl => ?_)
      have lp116 : ∀ (k116 : Nat) (j116 : Nat) (xrL116 : Nat → Int32) (ls : Array Slot) (H : Heap) (locs : List Loc) (rs116 : (Nat → Int32)), j116 + k116 = 6 → mm_Mo_init_L116 n xk k116 j116 xrL116 = rs116 → lv_has ls 4 [(2, .int (nI j116)), (0, .ref ah), (1, .int x)] → va_P D cl_all (ws_Mo K ah q7 q15 q23 q31 q39 q47 q55 q63 q71 n xk (0 : Int32) (0 : Int32) (0 : Int32) (0 : Int32) (0 : Int64) 0 0 xrL116 (fun _ => (0 : Int64)) (fun _ => (0 : Int32)) (fun _ => (0 : Int64)) (fun _ => (0 : Int32)) (fun _ => 0) (fun _ => (0 : Int32)) (fun _ => 0) (fun _ => (0 : Int32))) H → va_D A (ws_Mo K ah q7 q15 q23 q31 q39 q47 q55 q63 q71 n xk (0 : Int32) (0 : Int32) (0 : Int32) (0 : Int32) (0 : Int64) 0 0 xrL116 (fun _ => (0 : Int64)) (fun _ => (0 : Int32)) (fun _ => (0 : Int64)) (fun _ => (0 : Int32)) (fun _ => 0) (fun _ => (0 : Int32)) (fun _ => 0) (fun _ => (0 : Int32))) → va_S A s.heap H locs → (∀ (xrL116 : Nat → Int32) (ls : Array Slot) (H : Heap) (locs : List Loc), xrL116 = rs116 → lv_has ls 4 [(0, .ref ah), (1, .int x)] → va_P D cl_all (ws_Mo K ah q7 q15 q23 q31 q39 q47 q55 q63 q71 n xk (0 : Int32) (0 : Int32) (0 : Int32) (0 : Int32) (0 : Int64) 0 0 xrL116 (fun _ => (0 : Int64)) (fun _ => (0 : Int32)) (fun _ => (0 : Int64)) (fun _ => (0 : Int32)) (fun _ => 0) (fun _ => (0 : Int32)) (fun _ => 0) (fun _ => (0 : Int32))) H → va_D A (ws_Mo K ah q7 q15 q23 q31 q39 q47 q55 q63 q71 n xk (0 : Int32) (0 : Int32) (0 : Int32) (0 : Int32) (0 : Int64) 0 0 xrL116 (fun _ => (0 : Int64)) (fun _ => (0 : Int32)) (fun _ => (0 : Int64)) (fun _ => (0 : Int32)) (fun _ => 0) (fun _ => (0 : Int32)) (fun _ => 0) (fun _ => (0 : Int32))) → va_S A s.heap H locs → W p l e R s m av below meth c H locs 9 221 Q (F0 m 172 ls [])) → W p l e R s m av below meth c H locs 9 221 Q (F0 m 116 ls []) := by
        intro k116
        induction k116 with
        | zero =>
          intro j116 xrL116 ls H locs rs116 hjk116 hM hl hP hD hS kap116
          have hj0 : j116 = 6 := by omega
          subst j116
          rw [mm_Mo_init_L116] at hM
          refine lv_iload_n hx hb dd_Mo_init_116 rfl (lv_at hl 0 rfl) ?_
          refine lv_bipush (v := (6 : Int32)) hx hb dd_Mo_init_117 (by decide) ?_
          refine lv_icmp_ge (tgt := 172) hx hb dd_Mo_init_119 (by decide) (fun _ => ?_) (fun h => absurd (nI_le (a := 6) (b := 6) (by omega) (by omega)) h)
          exact kap116 xrL116 ls H locs hM (lv_sub hl [1, 2] rfl) hP hD hS
        | succ k116 ih116 =>
          intro j116 xrL116 ls H locs rs116 hjk116 hM hl hP hD hS kap116
          rw [mm_Mo_init_L116] at hM
          refine lv_iload_n hx hb dd_Mo_init_116 rfl (lv_at hl 0 rfl) ?_
          refine lv_bipush (v := (6 : Int32)) hx hb dd_Mo_init_117 (by decide) ?_
          refine lv_icmp_ge (tgt := 172) hx hb dd_Mo_init_119 (by decide) (fun h => absurd h (nI_ge (a := j116) (b := 6) (by omega) (by omega))) (fun _ => ?_)
          refine lv_aload_n hx hb dd_Mo_init_122 rfl (lv_at hl 1 rfl) ?_
          refine ly_get (v := .ref q7) C hP 0 rfl uw_Mo rfl 2 (by decide) wa_253 rfl dd_Mo_init_123 ?_
          refine lv_bipush (v := (7 : Int32)) hx hb dd_Mo_init_126 (by decide) ?_
          refine lv_iload_n hx hb dd_Mo_init_128 rfl (lv_at hl 0 rfl) ?_
          refine ly_imulN C 7 j116 rfl rfl dd_Mo_init_129 ?_
          refine lv_iconst (v := (1 : Int32)) hx hb dd_Mo_init_130 (by decide) ?_
          refine ly_iast (ws' := (ws_Mo K ah q7 q15 q23 q31 q39 q47 q55 q63 q71 n xk (0 : Int32) (0 : Int32) (0 : Int32) (0 : Int32) (0 : Int64) 0 0 (upd xrL116 (7 * j116) (1 : Int32)) (fun _ => (0 : Int64)) (fun _ => (0 : Int32)) (fun _ => (0 : Int64)) (fun _ => (0 : Int32)) (fun _ => 0) (fun _ => (0 : Int32)) (fun _ => 0) (fun _ => (0 : Int32)))) C hP hD hS 1 rfl (7 * j116) rfl (by omega) (by omega) dd_Mo_init_131 rfl (fun H locs hP hD hS => ?_)
          refine lv_bipush (v := (6 : Int32)) hx hb dd_Mo_init_132 (by decide) ?_
          refine lv_istore_n (lv' := [(3, .int (6 : Int32)), (2, .int (nI j116)), (0, .ref ah), (1, .int x)]) hx hb dd_Mo_init_134 rfl hl (by decide) rfl (fun ls hl => ?_)
          have lp135 : ∀ (k135 : Nat) (j135 : Nat) (xrL135 : Nat → Int32) (ls : Array Slot) (H : Heap) (locs : List Loc) (rs135 : (Nat → Int32)), j135 + k135 = n → mm_Mo_init_L135 xk j116 k135 j135 xrL135 = rs135 → lv_has ls 4 [(3, .int (nI j135)), (2, .int (nI j116)), (0, .ref ah), (1, .int x)] → va_P D cl_all (ws_Mo K ah q7 q15 q23 q31 q39 q47 q55 q63 q71 n xk (0 : Int32) (0 : Int32) (0 : Int32) (0 : Int32) (0 : Int64) 0 0 xrL135 (fun _ => (0 : Int64)) (fun _ => (0 : Int32)) (fun _ => (0 : Int64)) (fun _ => (0 : Int32)) (fun _ => 0) (fun _ => (0 : Int32)) (fun _ => 0) (fun _ => (0 : Int32))) H → va_D A (ws_Mo K ah q7 q15 q23 q31 q39 q47 q55 q63 q71 n xk (0 : Int32) (0 : Int32) (0 : Int32) (0 : Int32) (0 : Int64) 0 0 xrL135 (fun _ => (0 : Int64)) (fun _ => (0 : Int32)) (fun _ => (0 : Int64)) (fun _ => (0 : Int32)) (fun _ => 0) (fun _ => (0 : Int32)) (fun _ => 0) (fun _ => (0 : Int32))) → va_S A s.heap H locs → (∀ (xrL135 : Nat → Int32) (ls : Array Slot) (H : Heap) (locs : List Loc), xrL135 = rs135 → lv_has ls 4 [(2, .int (nI j116)), (0, .ref ah), (1, .int x)] → va_P D cl_all (ws_Mo K ah q7 q15 q23 q31 q39 q47 q55 q63 q71 n xk (0 : Int32) (0 : Int32) (0 : Int32) (0 : Int32) (0 : Int64) 0 0 xrL135 (fun _ => (0 : Int64)) (fun _ => (0 : Int32)) (fun _ => (0 : Int64)) (fun _ => (0 : Int32)) (fun _ => 0) (fun _ => (0 : Int32)) (fun _ => 0) (fun _ => (0 : Int32))) H → va_D A (ws_Mo K ah q7 q15 q23 q31 q39 q47 q55 q63 q71 n xk (0 : Int32) (0 : Int32) (0 : Int32) (0 : Int32) (0 : Int64) 0 0 xrL135 (fun _ => (0 : Int64)) (fun _ => (0 : Int32)) (fun _ => (0 : Int64)) (fun _ => (0 : Int32)) (fun _ => 0) (fun _ => (0 : Int32)) (fun _ => 0) (fun _ => (0 : Int32))) → va_S A s.heap H locs → W p l e R s m av below meth c H locs 9 221 Q (F0 m 166 ls [])) → W p l e R s m av below meth c H locs 9 221 Q (F0 m 135 ls []) := by
            intro k135
            induction k135 with
            | zero =>
              intro j135 xrL135 ls H locs rs135 hjk135 hM hl hP hD hS kap135
              have hj0 : j135 = n := by omega
              subst j135
              rw [mm_Mo_init_L135] at hM
              refine lv_iload_n hx hb dd_Mo_init_135 rfl (lv_at hl 0 rfl) ?_
              refine lv_aload_n hx hb dd_Mo_init_136 rfl (lv_at hl 2 rfl) ?_
              refine ly_get (v := .int (nI n)) C hP 0 rfl uw_Mo rfl 1 (by decide) wa_263 rfl dd_Mo_init_137 ?_
              refine lv_icmp_ge (tgt := 166) hx hb dd_Mo_init_140 (by decide) (fun _ => ?_) (fun h => absurd (nI_le (a := n) (b := n) (by omega) (by omega)) h)
              exact kap135 xrL135 ls H locs hM (lv_sub hl [1, 2, 3] rfl) hP hD hS
            | succ k135 ih135 =>
              intro j135 xrL135 ls H locs rs135 hjk135 hM hl hP hD hS kap135
              rw [mm_Mo_init_L135] at hM
              refine lv_iload_n hx hb dd_Mo_init_135 rfl (lv_at hl 0 rfl) ?_
              refine lv_aload_n hx hb dd_Mo_init_136 rfl (lv_at hl 2 rfl) ?_
              refine ly_get (v := .int (nI n)) C hP 0 rfl uw_Mo rfl 1 (by decide) wa_263 rfl dd_Mo_init_137 ?_
              refine lv_icmp_ge (tgt := 166) hx hb dd_Mo_init_140 (by decide) (fun h => absurd h (nI_ge (a := j135) (b := n) (by omega) (by omega))) (fun _ => ?_)
              refine lv_aload_n hx hb dd_Mo_init_143 rfl (lv_at hl 2 rfl) ?_
              refine ly_get (v := .ref q7) C hP 0 rfl uw_Mo rfl 2 (by decide) wa_253 rfl dd_Mo_init_144 ?_
              refine lv_bipush (v := (6 : Int32)) hx hb dd_Mo_init_147 (by decide) ?_
              refine lv_iload_n hx hb dd_Mo_init_149 rfl (lv_at hl 0 rfl) ?_
              refine ly_imulN C 6 j135 rfl rfl dd_Mo_init_150 ?_
              refine lv_iload_n hx hb dd_Mo_init_151 rfl (lv_at hl 1 rfl) ?_
              refine ly_iaddN C (6 * j135) j116 rfl rfl dd_Mo_init_152 ?_
              refine lv_aload_n hx hb dd_Mo_init_153 rfl (lv_at hl 2 rfl) ?_
              refine lv_iload_n hx hb dd_Mo_init_154 rfl (lv_at hl 0 rfl) ?_
              refine lv_iload_n hx hb dd_Mo_init_155 rfl (lv_at hl 1 rfl) ?_
              obtain ⟨r_156, hq156⟩ : ∃ z, z = mm_Mo_coefficient j135 j116 xk := ⟨_, rfl⟩
              try rw [← hq156] at hM
              refine ly_cV_i (n := 2) (z := r_156) (rest := [.int (nI ((6 * j135) + j116)), .ref q7]) (wn := (ws_Mo K ah q7 q15 q23 q31 q39 q47 q55 q63 q71 n xk (0 : Int32) (0 : Int32) (0 : Int32) (0 : Int32) (0 : Int64) 0 0 xrL135 (fun _ => (0 : Int64)) (fun _ => (0 : Int32)) (fun _ => (0 : Int64)) (fun _ => (0 : Int32)) (fun _ => 0) (fun _ => (0 : Int32)) (fun _ => 0) (fun _ => (0 : Int32)))) C (cc_Mo_coefficient D K ah q7 q15 q23 q31 q39 q47 q55 q63 q71 j135 j116 n xk (0 : Int32) (0 : Int32) (0 : Int32) (0 : Int32) (0 : Int64) 0 0 xrL135 (fun _ => (0 : Int64)) (fun _ => (0 : Int32)) (fun _ => (0 : Int64)) (fun _ => (0 : Int32)) (fun _ => 0) (fun _ => (0 : Int32)) (fun _ => 0) (fun _ => (0 : Int32)) (by omega) (by omega) (by omega) (by omega)) hq156 wa_273 wa_264 wa_265 wa_266 wa_267 (by decide) (Nat.le_trans (by decide) hRf) (Nat.le_trans (by decide) hRl) rfl hl.1 rfl (Nat.le_of_ble_eq_true rfl) dd_Mo_init_156 hcs [0, 1, 2, 3, 4, 5, 6, 7, 8, 9] [] [0, 1, 2, 3, 4, 5, 6, 7, 8, 9] hP hD hS rfl rfl (by decide) rfl rfl rfl (fun H locs hP hD hS => ?_)
              refine W.eq (g2 := F0 m 159 ls [.int r_156, .int (nI ((6 * j135) + j116)), .ref q7]) rfl ?_
              refine ly_iast (ws' := (ws_Mo K ah q7 q15 q23 q31 q39 q47 q55 q63 q71 n xk (0 : Int32) (0 : Int32) (0 : Int32) (0 : Int32) (0 : Int64) 0 0 (upd xrL135 ((6 * j135) + j116) r_156) (fun _ => (0 : Int64)) (fun _ => (0 : Int32)) (fun _ => (0 : Int64)) (fun _ => (0 : Int32)) (fun _ => 0) (fun _ => (0 : Int32)) (fun _ => 0) (fun _ => (0 : Int32)))) C hP hD hS 1 rfl ((6 * j135) + j116) rfl (by omega) (by omega) dd_Mo_init_159 rfl (fun H locs hP hD hS => ?_)
              refine lv_iinc (k := 0) (v := (nI (j135 + 1))) (lv' := [(3, .int (nI (j135 + 1))), (2, .int (nI j116)), (0, .ref ah), (1, .int x)]) hx hb dd_Mo_init_160 hl rfl (ly_incN _) (by decide) rfl (fun ls hl => ?_)
              refine lv_goto (tgt := 135) hx hb dd_Mo_init_163 (by decide) ?_
              exact ih135 (j135 + 1) (upd xrL135 ((6 * j135) + j116) r_156) ls H locs rs135 (by omega) hM (lv_sub hl [0, 1, 2, 3] rfl) hP hD hS kap135
          refine lp135 (n - 6) 6 (upd xrL116 (7 * j116) (1 : Int32)) ls H locs _ (by omega) rfl (lv_sub hl [0, 1, 2, 3] rfl) hP hD hS (fun xr_135 ls H locs hqL135 hl hP hD hS => ?_)
          try rw [← hqL135] at hM
          refine lv_iinc (k := 0) (v := (nI (j116 + 1))) (lv' := [(2, .int (nI (j116 + 1))), (0, .ref ah), (1, .int x)]) hx hb dd_Mo_init_166 hl rfl (ly_incN _) (by decide) rfl (fun ls hl => ?_)
          refine lv_goto (tgt := 116) hx hb dd_Mo_init_169 (by decide) ?_
          exact ih116 (j116 + 1) xr_135 ls H locs rs116 (by omega) hM (lv_sub hl [0, 1, 2] rfl) hP hD hS kap116
      refine lp116 6 0 (fun _ => (0 : Int32)) ls H locs _ (by omega) rfl (lv_sub hl [0, 1, 2] rfl) hP hD hS (fun xr_116 ls H locs hqL116 hl hP hD hS => ?_)
      try rw [← hqL116] at hM
      refine lv_iconst (v := (0 : Int32)) hx hb dd_Mo_init_172 (by decide) ?_
      refine lv_istore_n (lv' := [(2, .int (0 : Int32)), (0, .ref ah), (1, .int x)]) hx hb dd_Mo_init_173 rfl hl (by decide) rfl (fun ls hl => ?_)
      have lp174 : ∀ (k174 : Nat) (j174 : Nat) (xtL174 : Nat → Int32) (ls : Array Slot) (H : Heap) (locs : List Loc) (rs174 : (Nat → Int32)), j174 + k174 = 33 → mm_Mo_init_L174 k174 j174 xtL174 = rs174 → lv_has ls 4 [(2, .int (nI j174)), (0, .ref ah), (1, .int x)] → va_P D cl_all (ws_Mo K ah q7 q15 q23 q31 q39 q47 q55 q63 q71 n xk (0 : Int32) (0 : Int32) (0 : Int32) (0 : Int32) (0 : Int64) 0 0 xr_116 (fun _ => (0 : Int64)) xtL174 (fun _ => (0 : Int64)) (fun _ => (0 : Int32)) (fun _ => 0) (fun _ => (0 : Int32)) (fun _ => 0) (fun _ => (0 : Int32))) H → va_D A (ws_Mo K ah q7 q15 q23 q31 q39 q47 q55 q63 q71 n xk (0 : Int32) (0 : Int32) (0 : Int32) (0 : Int32) (0 : Int64) 0 0 xr_116 (fun _ => (0 : Int64)) xtL174 (fun _ => (0 : Int64)) (fun _ => (0 : Int32)) (fun _ => 0) (fun _ => (0 : Int32)) (fun _ => 0) (fun _ => (0 : Int32))) → va_S A s.heap H locs → (∀ (xtL174 : Nat → Int32) (ls : Array Slot) (H : Heap) (locs : List Loc), xtL174 = rs174 → lv_has ls 4 [(0, .ref ah), (1, .int x)] → va_P D cl_all (ws_Mo K ah q7 q15 q23 q31 q39 q47 q55 q63 q71 n xk (0 : Int32) (0 : Int32) (0 : Int32) (0 : Int32) (0 : Int64) 0 0 xr_116 (fun _ => (0 : Int64)) xtL174 (fun _ => (0 : Int64)) (fun _ => (0 : Int32)) (fun _ => 0) (fun _ => (0 : Int32)) (fun _ => 0) (fun _ => (0 : Int32))) H → va_D A (ws_Mo K ah q7 q15 q23 q31 q39 q47 q55 q63 q71 n xk (0 : Int32) (0 : Int32) (0 : Int32) (0 : Int32) (0 : Int64) 0 0 xr_116 (fun _ => (0 : Int64)) xtL174 (fun _ => (0 : Int64)) (fun _ => (0 : Int32)) (fun _ => 0) (fun _ => (0 : Int32)) (fun _ => 0) (fun _ => (0 : Int32))) → va_S A s.heap H locs → W p l e R s m av below meth c H locs 9 221 Q (F0 m 193 ls [])) → W p l e R s m av below meth c H locs 9 221 Q (F0 m 174 ls []) := by
        intro k174
        induction k174 with
        | zero =>
          intro j174 xtL174 ls H locs rs174 hjk174 hM hl hP hD hS kap174
          have hj0 : j174 = 33 := by omega
          subst j174
          rw [mm_Mo_init_L174] at hM
          refine lv_iload_n hx hb dd_Mo_init_174 rfl (lv_at hl 0 rfl) ?_
          refine lv_bipush (v := (33 : Int32)) hx hb dd_Mo_init_175 (by decide) ?_
          refine lv_icmp_ge (tgt := 193) hx hb dd_Mo_init_177 (by decide) (fun _ => ?_) (fun h => absurd (nI_le (a := 33) (b := 33) (by omega) (by omega)) h)
          exact kap174 xtL174 ls H locs hM (lv_sub hl [1, 2] rfl) hP hD hS
        | succ k174 ih174 =>
          intro j174 xtL174 ls H locs rs174 hjk174 hM hl hP hD hS kap174
          rw [mm_Mo_init_L174] at hM
          refine lv_iload_n hx hb dd_Mo_init_174 rfl (lv_at hl 0 rfl) ?_
          refine lv_bipush (v := (33 : Int32)) hx hb dd_Mo_init_175 (by decide) ?_
          refine lv_icmp_ge (tgt := 193) hx hb dd_Mo_init_177 (by decide) (fun h => absurd h (nI_ge (a := j174) (b := 33) (by omega) (by omega))) (fun _ => ?_)
          refine lv_aload_n hx hb dd_Mo_init_180 rfl (lv_at hl 1 rfl) ?_
          refine ly_get (v := .ref q23) C hP 0 rfl uw_Mo rfl 4 (by decide) wa_255 rfl dd_Mo_init_181 ?_
          refine lv_iload_n hx hb dd_Mo_init_184 rfl (lv_at hl 0 rfl) ?_
          refine lv_iconst (v := (1 : Int32)) hx hb dd_Mo_init_185 (by decide) ?_
          refine ly_zast (ws' := (ws_Mo K ah q7 q15 q23 q31 q39 q47 q55 q63 q71 n xk (0 : Int32) (0 : Int32) (0 : Int32) (0 : Int32) (0 : Int64) 0 0 xr_116 (fun _ => (0 : Int64)) (upd xtL174 j174 (1 : Int32)) (fun _ => (0 : Int64)) (fun _ => (0 : Int32)) (fun _ => 0) (fun _ => (0 : Int32)) (fun _ => 0) (fun _ => (0 : Int32)))) C hP hD hS 3 rfl (by decide) j174 rfl (by omega) (by omega) dd_Mo_init_186 rfl (fun H locs hP hD hS => ?_)
          refine lv_iinc (k := 0) (v := (nI (j174 + 1))) (lv' := [(2, .int (nI (j174 + 1))), (0, .ref ah), (1, .int x)]) hx hb dd_Mo_init_187 hl rfl (ly_incN _) (by decide) rfl (fun ls hl => ?_)
          refine lv_goto (tgt := 174) hx hb dd_Mo_init_190 (by decide) ?_
          exact ih174 (j174 + 1) (upd xtL174 j174 (1 : Int32)) ls H locs rs174 (by omega) hM (lv_sub hl [0, 1, 2] rfl) hP hD hS kap174
      refine lp174 33 0 (fun _ => (0 : Int32)) ls H locs _ (by omega) rfl (lv_sub hl [0, 1, 2] rfl) hP hD hS (fun xt_174 ls H locs hqL174 hl hP hD hS => ?_)
      try rw [← hqL174] at hM
      subst en
      subst ek
      subst hqL116
      subst hqL174
      exact ret (fun k => match k with | 0 => q7 | 1 => q15 | 2 => q23 | 3 => q31 | 4 => q39 | 5 => q47 | 6 => q55 | 7 => q63 | _ => q71) H locs 193 ls hS hP hD dd_Mo_init_193
  · skip
    refine lv_iload_n hx hb dd_Mo_init_82 rfl (lv_at hl 1 rfl) ?_
    refine lv_iconst (v := (2 : Int32)) hx hb dd_Mo_init_83 (by decide) ?_
    refine lv_icmp_ne (tgt := 91) hx hb dd_Mo_init_84 (by decide) (fun h84 => ?_) (fun h84 => ?_)
    · skip
      refine lv_iconst (v := (0 : Int32)) hx hb dd_Mo_init_91 (by decide) ?_
      refine ly_put (ws' := [(ah, .inr (4, [.int (0 : Int32), .int (0 : Int32), .ref q7, .ref q15, .ref q23, .ref q31, .ref q39, .int (0 : Int32), .int (0 : Int32), .int (0 : Int32), .int (0 : Int32), .long (0 : Int64), .int (0 : Int32), .ref q47, .int (0 : Int32), .ref q55, .ref q63, .ref q71])), (q7, .inl (K 1, 66, .inl (fun _ => (0 : Int32)))), (q15, .inl (K 0, 18, .inr (.inl (fun _ => (0 : Int64))))), (q23, .inl (K 2, 33, .inl (fun _ => (0 : Int32)))), (q31, .inl (K 0, 33, .inr (.inl (fun _ => (0 : Int64))))), (q39, .inl (K 2, 12, .inl (fun _ => (0 : Int32)))), (q47, .inl (K 1, 11, .inl (fun _ => (0 : Int32)))), (q55, .inl (K 1, 36, .inl (fun _ => (0 : Int32)))), (q63, .inl (K 1, 6, .inl (fun _ => (0 : Int32)))), (q71, .inl (K 1, 6, .inl (fun _ => (0 : Int32))))]) C hP hD hS 0 rfl uw_Mo tt_Mo nn_Mo rfl 0 (by decide) wa_262 rfl rfl rfl (Nat.le_of_ble_eq_true rfl) dd_Mo_init_92 rfl (fun H locs hP hD hS => ?_)
      refine lv_aload_n hx hb dd_Mo_init_95 rfl (lv_at hl 0 rfl) ?_
      refine lv_aload_n hx hb dd_Mo_init_96 rfl (lv_at hl 0 rfl) ?_
      refine ly_get (v := .int (0 : Int32)) C hP 0 rfl uw_Mo rfl 0 (by decide) wa_262 rfl dd_Mo_init_97 ?_
      refine lv_iconst (v := (2 : Int32)) hx hb dd_Mo_init_100 (by decide) ?_
      refine lv_icmp_ne (tgt := 109) hx hb dd_Mo_init_101 (by decide) (fun _ => ?_) (fun h => absurd h (by decide))
      refine lv_bipush (v := (10 : Int32)) hx hb dd_Mo_init_109 (by decide) ?_
      refine ly_put (ws' := [(ah, .inr (4, [.int (0 : Int32), .int (10 : Int32), .ref q7, .ref q15, .ref q23, .ref q31, .ref q39, .int (0 : Int32), .int (0 : Int32), .int (0 : Int32), .int (0 : Int32), .long (0 : Int64), .int (0 : Int32), .ref q47, .int (0 : Int32), .ref q55, .ref q63, .ref q71])), (q7, .inl (K 1, 66, .inl (fun _ => (0 : Int32)))), (q15, .inl (K 0, 18, .inr (.inl (fun _ => (0 : Int64))))), (q23, .inl (K 2, 33, .inl (fun _ => (0 : Int32)))), (q31, .inl (K 0, 33, .inr (.inl (fun _ => (0 : Int64))))), (q39, .inl (K 2, 12, .inl (fun _ => (0 : Int32)))), (q47, .inl (K 1, 11, .inl (fun _ => (0 : Int32)))), (q55, .inl (K 1, 36, .inl (fun _ => (0 : Int32)))), (q63, .inl (K 1, 6, .inl (fun _ => (0 : Int32)))), (q71, .inl (K 1, 6, .inl (fun _ => (0 : Int32))))]) C hP hD hS 0 rfl uw_Mo tt_Mo nn_Mo rfl 1 (by decide) wa_263 rfl rfl rfl (Nat.le_of_ble_eq_true rfl) dd_Mo_init_111 rfl (fun H locs hP hD hS => ?_)
      obtain ⟨n, en⟩ : ∃ z, z = ck_n x := ⟨_, rfl⟩
      obtain ⟨xk, ek⟩ : ∃ z, z = mk_k x := ⟨_, rfl⟩
      have e1 : n = 10 := by rw [en]; unfold ck_n; first | exact if_pos h101 | exact if_neg h101 | exact if_neg h84
      have e2 : xk = (0 : Int32) := by rw [ek]; unfold mk_k; first | exact if_pos h79 | (rw [if_neg h79]; first | exact if_pos h84 | exact if_neg h84)
      have hn : n ≤ 11 := by rw [e1]; decide
      have hn6 : 6 ≤ n := by rw [e1]; decide
      have hP : va_P D cl_all (ws_Mo K ah q7 q15 q23 q31 q39 q47 q55 q63 q71 n xk (0 : Int32) (0 : Int32) (0 : Int32) (0 : Int32) (0 : Int64) 0 0 (fun _ => (0 : Int32)) (fun _ => (0 : Int64)) (fun _ => (0 : Int32)) (fun _ => (0 : Int64)) (fun _ => (0 : Int32)) (fun _ => 0) (fun _ => (0 : Int32)) (fun _ => 0) (fun _ => (0 : Int32))) H := by rw [e1, e2]; exact hP
      have hD : va_D A (ws_Mo K ah q7 q15 q23 q31 q39 q47 q55 q63 q71 n xk (0 : Int32) (0 : Int32) (0 : Int32) (0 : Int32) (0 : Int64) 0 0 (fun _ => (0 : Int32)) (fun _ => (0 : Int64)) (fun _ => (0 : Int32)) (fun _ => (0 : Int64)) (fun _ => (0 : Int32)) (fun _ => 0) (fun _ => (0 : Int32)) (fun _ => 0) (fun _ => (0 : Int32))) := by rw [e1, e2]; exact hD
      refine lv_iconst (v := (0 : Int32)) hx hb dd_Mo_init_114 (by decide) ?_
      refine lv_istore_n (lv' := [(2, .int (0 : Int32)), (0, .ref ah), (1, .int x)]) hx hb dd_Mo_init_115 rfl hl (by decide) rfl (fun ls hl => ?_)
      have lp116 : ∀ (k116 : Nat) (j116 : Nat) (xrL116 : Nat → Int32) (ls : Array Slot) (H : Heap) (locs : List Loc) (rs116 : (Nat → Int32)), j116 + k116 = 6 → mm_Mo_init_L116 n xk k116 j116 xrL116 = rs116 → lv_has ls 4 [(2, .int (nI j116)), (0, .ref ah), (1, .int x)] → va_P D cl_all (ws_Mo K ah q7 q15 q23 q31 q39 q47 q55 q63 q71 n xk (0 : Int32) (0 : Int32) (0 : Int32) (0 : Int32) (0 : Int64) 0 0 xrL116 (fun _ => (0 : Int64)) (fun _ => (0 : Int32)) (fun _ => (0 : Int64)) (fun _ => (0 : Int32)) (fun _ => 0) (fun _ => (0 : Int32)) (fun _ => 0) (fun _ => (0 : Int32))) H → va_D A (ws_Mo K ah q7 q15 q23 q31 q39 q47 q55 q63 q71 n xk (0 : Int32) (0 : Int32) (0 : Int32) (0 : Int32) (0 : Int64) 0 0 xrL116 (fun _ => (0 : Int64)) (fun _ => (0 : Int32)) (fun _ => (0 : Int64)) (fun _ => (0 : Int32)) (fun _ => 0) (fun _ => (0 : Int32)) (fun _ => 0) (fun _ => (0 : Int32))) → va_S A s.heap H locs → (∀ (xrL116 : Nat → Int32) (ls : Array Slot) (H : Heap) (locs : List Loc), xrL116 = rs116 → lv_has ls 4 [(0, .ref ah), (1, .int x)] → va_P D cl_all (ws_Mo K ah q7 q15 q23 q31 q39 q47 q55 q63 q71 n xk (0 : Int32) (0 : Int32) (0 : Int32) (0 : Int32) (0 : Int64) 0 0 xrL116 (fun _ => (0 : Int64)) (fun _ => (0 : Int32)) (fun _ => (0 : Int64)) (fun _ => (0 : Int32)) (fun _ => 0) (fun _ => (0 : Int32)) (fun _ => 0) (fun _ => (0 : Int32))) H → va_D A (ws_Mo K ah q7 q15 q23 q31 q39 q47 q55 q63 q71 n xk (0 : Int32) (0 : Int32) (0 : Int32) (0 : Int32) (0 : Int64) 0 0 xrL116 (fun _ => (0 : Int64)) (fun _ => (0 : Int32)) (fun _ => (0 : Int64)) (fun _ => (0 : Int32)) (fun _ => 0) (fun _ => (0 : Int32)) (fun _ => 0) (fun _ => (0 : Int32))) → va_S A s.heap H locs → W p l e R s m av below meth c H locs 9 221 Q (F0 m 172 ls [])) → W p l e R s m av below meth c H locs 9 221 Q (F0 m 116 ls []) := by
        intro k116
        induction k116 with
        | zero =>
          intro j116 xrL116 ls H locs rs116 hjk116 hM hl hP hD hS kap116
          have hj0 : j116 = 6 := by omega
          subst j116
          rw [mm_Mo_init_L116] at hM
          refine lv_iload_n hx hb dd_Mo_init_116 rfl (lv_at hl 0 rfl) ?_
          refine lv_bipush (v := (6 : Int32)) hx hb dd_Mo_init_117 (by decide) ?_
          refine lv_icmp_ge (tgt := 172) hx hb dd_Mo_init_119 (by decide) (fun _ => ?_) (fun h => absurd (nI_le (a := 6) (b := 6) (by omega) (by omega)) h)
          exact kap116 xrL116 ls H locs hM (lv_sub hl [1, 2] rfl) hP hD hS
        | succ k116 ih116 =>
          intro j116 xrL116 ls H locs rs116 hjk116 hM hl hP hD hS kap116
          rw [mm_Mo_init_L116] at hM
          refine lv_iload_n hx hb dd_Mo_init_116 rfl (lv_at hl 0 rfl) ?_
          refine lv_bipush (v := (6 : Int32)) hx hb dd_Mo_init_117 (by decide) ?_
          refine lv_icmp_ge (tgt := 172) hx hb dd_Mo_init_119 (by decide) (fun h => absurd h (nI_ge (a := j116) (b := 6) (by omega) (by omega))) (fun _ => ?_)
          refine lv_aload_n hx hb dd_Mo_init_122 rfl (lv_at hl 1 rfl) ?_
          refine ly_get (v := .ref q7) C hP 0 rfl uw_Mo rfl 2 (by decide) wa_253 rfl dd_Mo_init_123 ?_
          refine lv_bipush (v := (7 : Int32)) hx hb dd_Mo_init_126 (by decide) ?_
          refine lv_iload_n hx hb dd_Mo_init_128 rfl (lv_at hl 0 rfl) ?_
          refine ly_imulN C 7 j116 rfl rfl dd_Mo_init_129 ?_
          refine lv_iconst (v := (1 : Int32)) hx hb dd_Mo_init_130 (by decide) ?_
          refine ly_iast (ws' := (ws_Mo K ah q7 q15 q23 q31 q39 q47 q55 q63 q71 n xk (0 : Int32) (0 : Int32) (0 : Int32) (0 : Int32) (0 : Int64) 0 0 (upd xrL116 (7 * j116) (1 : Int32)) (fun _ => (0 : Int64)) (fun _ => (0 : Int32)) (fun _ => (0 : Int64)) (fun _ => (0 : Int32)) (fun _ => 0) (fun _ => (0 : Int32)) (fun _ => 0) (fun _ => (0 : Int32)))) C hP hD hS 1 rfl (7 * j116) rfl (by omega) (by omega) dd_Mo_init_131 rfl (fun H locs hP hD hS => ?_)
          refine lv_bipush (v := (6 : Int32)) hx hb dd_Mo_init_132 (by decide) ?_
          refine lv_istore_n (lv' := [(3, .int (6 : Int32)), (2, .int (nI j116)), (0, .ref ah), (1, .int x)]) hx hb dd_Mo_init_134 rfl hl (by decide) rfl (fun ls hl => ?_)
          have lp135 : ∀ (k135 : Nat) (j135 : Nat) (xrL135 : Nat → Int32) (ls : Array Slot) (H : Heap) (locs : List Loc) (rs135 : (Nat → Int32)), j135 + k135 = n → mm_Mo_init_L135 xk j116 k135 j135 xrL135 = rs135 → lv_has ls 4 [(3, .int (nI j135)), (2, .int (nI j116)), (0, .ref ah), (1, .int x)] → va_P D cl_all (ws_Mo K ah q7 q15 q23 q31 q39 q47 q55 q63 q71 n xk (0 : Int32) (0 : Int32) (0 : Int32) (0 : Int32) (0 : Int64) 0 0 xrL135 (fun _ => (0 : Int64)) (fun _ => (0 : Int32)) (fun _ => (0 : Int64)) (fun _ => (0 : Int32)) (fun _ => 0) (fun _ => (0 : Int32)) (fun _ => 0) (fun _ => (0 : Int32))) H → va_D A (ws_Mo K ah q7 q15 q23 q31 q39 q47 q55 q63 q71 n xk (0 : Int32) (0 : Int32) (0 : Int32) (0 : Int32) (0 : Int64) 0 0 xrL135 (fun _ => (0 : Int64)) (fun _ => (0 : Int32)) (fun _ => (0 : Int64)) (fun _ => (0 : Int32)) (fun _ => 0) (fun _ => (0 : Int32)) (fun _ => 0) (fun _ => (0 : Int32))) → va_S A s.heap H locs → (∀ (xrL135 : Nat → Int32) (ls : Array Slot) (H : Heap) (locs : List Loc), xrL135 = rs135 → lv_has ls 4 [(2, .int (nI j116)), (0, .ref ah), (1, .int x)] → va_P D cl_all (ws_Mo K ah q7 q15 q23 q31 q39 q47 q55 q63 q71 n xk (0 : Int32) (0 : Int32) (0 : Int32) (0 : Int32) (0 : Int64) 0 0 xrL135 (fun _ => (0 : Int64)) (fun _ => (0 : Int32)) (fun _ => (0 : Int64)) (fun _ => (0 : Int32)) (fun _ => 0) (fun _ => (0 : Int32)) (fun _ => 0) (fun _ => (0 : Int32))) H → va_D A (ws_Mo K ah q7 q15 q23 q31 q39 q47 q55 q63 q71 n xk (0 : Int32) (0 : Int32) (0 : Int32) (0 : Int32) (0 : Int64) 0 0 xrL135 (fun _ => (0 : Int64)) (fun _ => (0 : Int32)) (fun _ => (0 : Int64)) (fun _ => (0 : Int32)) (fun _ => 0) (fun _ => (0 : Int32)) (fun _ => 0) (fun _ => (0 : Int32))) → va_S A s.heap H locs → W p l e R s m av below meth c H locs 9 221 Q (F0 m 166 ls [])) → W p l e R s m av below meth c H locs 9 221 Q (F0 m 135 ls []) := by
            intro k135
            induction k135 with
            | zero =>
              intro j135 xrL135 ls H locs rs135 hjk135 hM hl hP hD hS kap135
              have hj0 : j135 = n := by omega
              subst j135
              rw [mm_Mo_init_L135] at hM
              refine lv_iload_n hx hb dd_Mo_init_135 rfl (lv_at hl 0 rfl) ?_
              refine lv_aload_n hx hb dd_Mo_init_136 rfl (lv_at hl 2 rfl) ?_
              refine ly_get (v := .int (nI n)) C hP 0 rfl uw_Mo rfl 1 (by decide) wa_263 rfl dd_Mo_init_137 ?_
              refine lv_icmp_ge (tgt := 166) hx hb dd_Mo_init_140 (by decide) (fun _ => ?_) (fun h => absurd (nI_le (a := n) (b := n) (by omega) (by omega)) h)
              exact kap135 xrL135 ls H locs hM (lv_sub hl [1, 2, 3] rfl) hP hD hS
            | succ k135 ih135 =>
              intro j135 xrL135 ls H locs rs135 hjk135 hM hl hP hD hS kap135
              rw [mm_Mo_init_L135] at hM
              refine lv_iload_n hx hb dd_Mo_init_135 rfl (lv_at hl 0 rfl) ?_
              refine lv_aload_n hx hb dd_Mo_init_136 rfl (lv_at hl 2 rfl) ?_
              refine ly_get (v := .int (nI n)) C hP 0 rfl uw_Mo rfl 1 (by decide) wa_263 rfl dd_Mo_init_137 ?_
              refine lv_icmp_ge (tgt := 166) hx hb dd_Mo_init_140 (by decide) (fun h => absurd h (nI_ge (a := j135) (b := n) (by omega) (by omega))) (fun _ => ?_)
              refine lv_aload_n hx hb dd_Mo_init_143 rfl (lv_at hl 2 rfl) ?_
              refine ly_get (v := .ref q7) C hP 0 rfl uw_Mo rfl 2 (by decide) wa_253 rfl dd_Mo_init_144 ?_
              refine lv_bipush (v := (6 : Int32)) hx hb dd_Mo_init_147 (by decide) ?_
              refine lv_iload_n hx hb dd_Mo_init_149 rfl (lv_at hl 0 rfl) ?_
              refine ly_imulN C 6 j135 rfl rfl dd_Mo_init_150 ?_
              refine lv_iload_n hx hb dd_Mo_init_151 rfl (lv_at hl 1 rfl) ?_
              refine ly_iaddN C (6 * j135) j116 rfl rfl dd_Mo_init_152 ?_
              refine lv_aload_n hx hb dd_Mo_init_153 rfl (lv_at hl 2 rfl) ?_
              refine lv_iload_n hx hb dd_Mo_init_154 rfl (lv_at hl 0 rfl) ?_
              refine lv_iload_n hx hb dd_Mo_init_155 rfl (lv_at hl 1 rfl) ?_
              obtain ⟨r_156, hq156⟩ : ∃ z, z = mm_Mo_coefficient j135 j116 xk := ⟨_, rfl⟩
              try rw [← hq156] at hM
              refine ly_cV_i (n := 2) (z := r_156) (rest := [.int (nI ((6 * j135) + j116)), .ref q7]) (wn := (ws_Mo K ah q7 q15 q23 q31 q39 q47 q55 q63 q71 n xk (0 : Int32) (0 : Int32) (0 : Int32) (0 : Int32) (0 : Int64) 0 0 xrL135 (fun _ => (0 : Int64)) (fun _ => (0 : Int32)) (fun _ => (0 : Int64)) (fun _ => (0 : Int32)) (fun _ => 0) (fun _ => (0 : Int32)) (fun _ => 0) (fun _ => (0 : Int32)))) C (cc_Mo_coefficient D K ah q7 q15 q23 q31 q39 q47 q55 q63 q71 j135 j116 n xk (0 : Int32) (0 : Int32) (0 : Int32) (0 : Int32) (0 : Int64) 0 0 xrL135 (fun _ => (0 : Int64)) (fun _ => (0 : Int32)) (fun _ => (0 : Int64)) (fun _ => (0 : Int32)) (fun _ => 0) (fun _ => (0 : Int32)) (fun _ => 0) (fun _ => (0 : Int32)) (by omega) (by omega) (by omega) (by omega)) hq156 wa_273 wa_264 wa_265 wa_266 wa_267 (by decide) (Nat.le_trans (by decide) hRf) (Nat.le_trans (by decide) hRl) rfl hl.1 rfl (Nat.le_of_ble_eq_true rfl) dd_Mo_init_156 hcs [0, 1, 2, 3, 4, 5, 6, 7, 8, 9] [] [0, 1, 2, 3, 4, 5, 6, 7, 8, 9] hP hD hS rfl rfl (by decide) rfl rfl rfl (fun H locs hP hD hS => ?_)
              refine W.eq (g2 := F0 m 159 ls [.int r_156, .int (nI ((6 * j135) + j116)), .ref q7]) rfl ?_
              refine ly_iast (ws' := (ws_Mo K ah q7 q15 q23 q31 q39 q47 q55 q63 q71 n xk (0 : Int32) (0 : Int32) (0 : Int32) (0 : Int32) (0 : Int64) 0 0 (upd xrL135 ((6 * j135) + j116) r_156) (fun _ => (0 : Int64)) (fun _ => (0 : Int32)) (fun _ => (0 : Int64)) (fun _ => (0 : Int32)) (fun _ => 0) (fun _ => (0 : Int32)) (fun _ => 0) (fun _ => (0 : Int32)))) C hP hD hS 1 rfl ((6 * j135) + j116) rfl (by omega) (by omega) dd_Mo_init_159 rfl (fun H locs hP hD hS => ?_)
              refine lv_iinc (k := 0) (v := (nI (j135 + 1))) (lv' := [(3, .int (nI (j135 + 1))), (2, .int (nI j116)), (0, .ref ah), (1, .int x)]) hx hb dd_Mo_init_160 hl rfl (ly_incN _) (by decide) rfl (fun ls hl => ?_)
              refine lv_goto (tgt := 135) hx hb dd_Mo_init_163 (by decide) ?_
              exact ih135 (j135 + 1) (upd xrL135 ((6 * j135) + j116) r_156) ls H locs rs135 (by omega) hM (lv_sub hl [0, 1, 2, 3] rfl) hP hD hS kap135
          refine lp135 (n - 6) 6 (upd xrL116 (7 * j116) (1 : Int32)) ls H locs _ (by omega) rfl (lv_sub hl [0, 1, 2, 3] rfl) hP hD hS (fun xr_135 ls H locs hqL135 hl hP hD hS => ?_)
          try rw [← hqL135] at hM
          refine lv_iinc (k := 0) (v := (nI (j116 + 1))) (lv' := [(2, .int (nI (j116 + 1))), (0, .ref ah), (1, .int x)]) hx hb dd_Mo_init_166 hl rfl (ly_incN _) (by decide) rfl (fun ls hl => ?_)
          refine lv_goto (tgt := 116) hx hb dd_Mo_init_169 (by decide) ?_
          exact ih116 (j116 + 1) xr_135 ls H locs rs116 (by omega) hM (lv_sub hl [0, 1, 2] rfl) hP hD hS kap116
      refine lp116 6 0 (fun _ => (0 : Int32)) ls H locs _ (by omega) rfl (lv_sub hl [0, 1, 2] rfl) hP hD hS (fun xr_116 ls H locs hqL116 hl hP hD hS => ?_)
      try rw [← hqL116] at hM
      refine lv_iconst (v := (0 : Int32)) hx hb dd_Mo_init_172 (by decide) ?_
      refine lv_istore_n (lv' := [(2, .int (0 : Int32)), (0, .ref ah), (1, .int x)]) hx hb dd_Mo_init_173 rfl hl (by decide) rfl (fun ls hl => ?_)
      have lp174 : ∀ (k174 : Nat) (j174 : Nat) (xtL174 : Nat → Int32) (ls : Array Slot) (H : Heap) (locs : List Loc) (rs174 : (Nat → Int32)), j174 + k174 = 33 → mm_Mo_init_L174 k174 j174 xtL174 = rs174 → lv_has ls 4 [(2, .int (nI j174)), (0, .ref ah), (1, .int x)] → va_P D cl_all (ws_Mo K ah q7 q15 q23 q31 q39 q47 q55 q63 q71 n xk (0 : Int32) (0 : Int32) (0 : Int32) (0 : Int32) (0 : Int64) 0 0 xr_116 (fun _ => (0 : Int64)) xtL174 (fun _ => (0 : Int64)) (fun _ => (0 : Int32)) (fun _ => 0) (fun _ => (0 : Int32)) (fun _ => 0) (fun _ => (0 : Int32))) H → va_D A (ws_Mo K ah q7 q15 q23 q31 q39 q47 q55 q63 q71 n xk (0 : Int32) (0 : Int32) (0 : Int32) (0 : Int32) (0 : Int64) 0 0 xr_116 (fun _ => (0 : Int64)) xtL174 (fun _ => (0 : Int64)) (fun _ => (0 : Int32)) (fun _ => 0) (fun _ => (0 : Int32)) (fun _ => 0) (fun _ => (0 : Int32))) → va_S A s.heap H locs → (∀ (xtL174 : Nat → Int32) (ls : Array Slot) (H : Heap) (locs : List Loc), xtL174 = rs174 → lv_has ls 4 [(0, .ref ah), (1, .int x)] → va_P D cl_all (ws_Mo K ah q7 q15 q23 q31 q39 q47 q55 q63 q71 n xk (0 : Int32) (0 : Int32) (0 : Int32) (0 : Int32) (0 : Int64) 0 0 xr_116 (fun _ => (0 : Int64)) xtL174 (fun _ => (0 : Int64)) (fun _ => (0 : Int32)) (fun _ => 0) (fun _ => (0 : Int32)) (fun _ => 0) (fun _ => (0 : Int32))) H → va_D A (ws_Mo K ah q7 q15 q23 q31 q39 q47 q55 q63 q71 n xk (0 : Int32) (0 : Int32) (0 : Int32) (0 : Int32) (0 : Int64) 0 0 xr_116 (fun _ => (0 : Int64)) xtL174 (fun _ => (0 : Int64)) (fun _ => (0 : Int32)) (fun _ => 0) (fun _ => (0 : Int32)) (fun _ => 0) (fun _ => (0 : Int32))) → va_S A s.heap H locs → W p l e R s m av below meth c H locs 9 221 Q (F0 m 193 ls [])) → W p l e R s m av below meth c H locs 9 221 Q (F0 m 174 ls []) := by
        intro k174
        induction k174 with
        | zero =>
          intro j174 xtL174 ls H locs rs174 hjk174 hM hl hP hD hS kap174
          have hj0 : j174 = 33 := by omega
          subst j174
          rw [mm_Mo_init_L174] at hM
          refine lv_iload_n hx hb dd_Mo_init_174 rfl (lv_at hl 0 rfl) ?_
          refine lv_bipush (v := (33 : Int32)) hx hb dd_Mo_init_175 (by decide) ?_
          refine lv_icmp_ge (tgt := 193) hx hb dd_Mo_init_177 (by decide) (fun _ => ?_) (fun h => absurd (nI_le (a := 33) (b := 33) (by omega) (by omega)) h)
          exact kap174 xtL174 ls H locs hM (lv_sub hl [1, 2] rfl) hP hD hS
        | succ k174 ih174 =>
          intro j174 xtL174 ls H locs rs174 hjk174 hM hl hP hD hS kap174
          rw [mm_Mo_init_L174] at hM
          refine lv_iload_n hx hb dd_Mo_init_174 rfl (lv_at hl 0 rfl) ?_
          refine lv_bipush (v := (33 : Int32)) hx hb dd_Mo_init_175 (by decide) ?_
          refine lv_icmp_ge (tgt := 193) hx hb dd_Mo_init_177 (by decide) (fun h => absurd h (nI_ge (a := j174) (b := 33) (by omega) (by omega))) (fun _ => ?_)
          refine lv_aload_n hx hb dd_Mo_init_180 rfl (lv_at hl 1 rfl) ?_
          refine ly_get (v := .ref q23) C hP 0 rfl uw_Mo rfl 4 (by decide) wa_255 rfl dd_Mo_init_181 ?_
          refine lv_iload_n hx hb dd_Mo_init_184 rfl (lv_at hl 0 rfl) ?_
          refine lv_iconst (v := (1 : Int32)) hx hb dd_Mo_init_185 (by decide) ?_
          refine ly_zast (ws' := (ws_Mo K ah q7 q15 q23 q31 q39 q47 q55 q63 q71 n xk (0 : Int32) (0 : Int32) (0 : Int32) (0 : Int32) (0 : Int64) 0 0 xr_116 (fun _ => (0 : Int64)) (upd xtL174 j174 (1 : Int32)) (fun _ => (0 : Int64)) (fun _ => (0 : Int32)) (fun _ => 0) (fun _ => (0 : Int32)) (fun _ => 0) (fun _ => (0 : Int32)))) C hP hD hS 3 rfl (by decide) j174 rfl (by omega) (by omega) dd_Mo_init_186 rfl (fun H locs hP hD hS => ?_)
          refine lv_iinc (k := 0) (v := (nI (j174 + 1))) (lv' := [(2, .int (nI (j174 + 1))), (0, .ref ah), (1, .int x)]) hx hb dd_Mo_init_187 hl rfl (ly_incN _) (by decide) rfl (fun ls hl => ?_)
          refine lv_goto (tgt := 174) hx hb dd_Mo_init_190 (by decide) ?_
          exact ih174 (j174 + 1) (upd xtL174 j174 (1 : Int32)) ls H locs rs174 (by omega) hM (lv_sub hl [0, 1, 2] rfl) hP hD hS kap174
      refine lp174 33 0 (fun _ => (0 : Int32)) ls H locs _ (by omega) rfl (lv_sub hl [0, 1, 2] rfl) hP hD hS (fun xt_174 ls H locs hqL174 hl hP hD hS => ?_)
      try rw [← hqL174] at hM
      subst en
      subst ek
      subst hqL116
      subst hqL174
      exact ret (fun k => match k with | 0 => q7 | 1 => q15 | 2 => q23 | 3 => q31 | 4 => q39 | 5 => q47 | 6 => q55 | 7 => q63 | _ => q71) H locs 193 ls hS hP hD dd_Mo_init_193
    · skip
      refine lv_iload_n hx hb dd_Mo_init_87 rfl (lv_at hl 1 rfl) ?_
      refine lv_goto (tgt := 92) hx hb dd_Mo_init_88 (by decide) ?_
      refine ly_put (ws' := [(ah, .inr (4, [.int x, .int (0 : Int32), .ref q7, .ref q15, .ref q23, .ref q31, .ref q39, .int (0 : Int32), .int (0 : Int32), .int (0 : Int32), .int (0 : Int32), .long (0 : Int64), .int (0 : Int32), .ref q47, .int (0 : Int32), .ref q55, .ref q63, .ref q71])), (q7, .inl (K 1, 66, .inl (fun _ => (0 : Int32)))), (q15, .inl (K 0, 18, .inr (.inl (fun _ => (0 : Int64))))), (q23, .inl (K 2, 33, .inl (fun _ => (0 : Int32)))), (q31, .inl (K 0, 33, .inr (.inl (fun _ => (0 : Int64))))), (q39, .inl (K 2, 12, .inl (fun _ => (0 : Int32)))), (q47, .inl (K 1, 11, .inl (fun _ => (0 : Int32)))), (q55, .inl (K 1, 36, .inl (fun _ => (0 : Int32)))), (q63, .inl (K 1, 6, .inl (fun _ => (0 : Int32)))), (q71, .inl (K 1, 6, .inl (fun _ => (0 : Int32))))]) C hP hD hS 0 rfl uw_Mo tt_Mo nn_Mo rfl 0 (by decide) wa_262 rfl rfl rfl (Nat.le_of_ble_eq_true rfl) dd_Mo_init_92 rfl (fun H locs hP hD hS => ?_)
      refine lv_aload_n hx hb dd_Mo_init_95 rfl (lv_at hl 0 rfl) ?_
      refine lv_aload_n hx hb dd_Mo_init_96 rfl (lv_at hl 0 rfl) ?_
      refine ly_get (v := .int x) C hP 0 rfl uw_Mo rfl 0 (by decide) wa_262 rfl dd_Mo_init_97 ?_
      refine lv_iconst (v := (2 : Int32)) hx hb dd_Mo_init_100 (by decide) ?_
      refine lv_icmp_ne (tgt := 109) hx hb dd_Mo_init_101 (by decide) (fun h101 => ?_) (fun h101 => ?_)
      · skip
        refine lv_bipush (v := (10 : Int32)) hx hb dd_Mo_init_109 (by decide) ?_
        refine ly_put (ws' := [(ah, .inr (4, [.int x, .int (10 : Int32), .ref q7, .ref q15, .ref q23, .ref q31, .ref q39, .int (0 : Int32), .int (0 : Int32), .int (0 : Int32), .int (0 : Int32), .long (0 : Int64), .int (0 : Int32), .ref q47, .int (0 : Int32), .ref q55, .ref q63, .ref q71])), (q7, .inl (K 1, 66, .inl (fun _ => (0 : Int32)))), (q15, .inl (K 0, 18, .inr (.inl (fun _ => (0 : Int64))))), (q23, .inl (K 2, 33, .inl (fun _ => (0 : Int32)))), (q31, .inl (K 0, 33, .inr (.inl (fun _ => (0 : Int64))))), (q39, .inl (K 2, 12, .inl (fun _ => (0 : Int32)))), (q47, .inl (K 1, 11, .inl (fun _ => (0 : Int32)))), (q55, .inl (K 1, 36, .inl (fun _ => (0 : Int32)))), (q63, .inl (K 1, 6, .inl (fun _ => (0 : Int32)))), (q71, .inl (K 1, 6, .inl (fun _ => (0 : Int32))))]) C hP hD hS 0 rfl uw_Mo tt_Mo nn_Mo rfl 1 (by decide) wa_263 rfl rfl rfl (Nat.le_of_ble_eq_true rfl) dd_Mo_init_111 rfl (fun H locs hP hD hS => ?_)
        obtain ⟨n, en⟩ : ∃ z, z = ck_n x := ⟨_, rfl⟩
        obtain ⟨xk, ek⟩ : ∃ z, z = mk_k x := ⟨_, rfl⟩
        have e1 : n = 10 := by rw [en]; unfold ck_n; first | exact if_pos h101 | exact if_neg h101 | exact if_neg h84
        have e2 : xk = x := by rw [ek]; unfold mk_k; first | exact if_pos h79 | (rw [if_neg h79]; first | exact if_pos h84 | exact if_neg h84)
        have hn : n ≤ 11 := by rw [e1]; decide
        have hn6 : 6 ≤ n := by rw [e1]; decide
        have hP : va_P D cl_all (ws_Mo K ah q7 q15 q23 q31 q39 q47 q55 q63 q71 n xk (0 : Int32) (0 : Int32) (0 : Int32) (0 : Int32) (0 : Int64) 0 0 (fun _ => (0 : Int32)) (fun _ => (0 : Int64)) (fun _ => (0 : Int32)) (fun _ => (0 : Int64)) (fun _ => (0 : Int32)) (fun _ => 0) (fun _ => (0 : Int32)) (fun _ => 0) (fun _ => (0 : Int32))) H := by rw [e1, e2]; exact hP
        have hD : va_D A (ws_Mo K ah q7 q15 q23 q31 q39 q47 q55 q63 q71 n xk (0 : Int32) (0 : Int32) (0 : Int32) (0 : Int32) (0 : Int64) 0 0 (fun _ => (0 : Int32)) (fun _ => (0 : Int64)) (fun _ => (0 : Int32)) (fun _ => (0 : Int64)) (fun _ => (0 : Int32)) (fun _ => 0) (fun _ => (0 : Int32)) (fun _ => 0) (fun _ => (0 : Int32))) := by rw [e1, e2]; exact hD
        refine lv_iconst (v := (0 : Int32)) hx hb dd_Mo_init_114 (by decide) ?_
        refine lv_istore_n (lv' := [(2, .int (0 : Int32)), (0, .ref ah), (1, .int x)]) hx hb dd_Mo_init_115 rfl hl (by decide) rfl (fun ls hl => ?_)
        have lp116 : ∀ (k116 : Nat) (j116 : Nat) (xrL116 : Nat → Int32) (ls : Array Slot) (H : Heap) (locs : List Loc) (rs116 : (Nat → Int32)), j116 + k116 = 6 → mm_Mo_init_L116 n xk k116 j116 xrL116 = rs116 → lv_has ls 4 [(2, .int (nI j116)), (0, .ref ah), (1, .int x)] → va_P D cl_all (ws_Mo K ah q7 q15 q23 q31 q39 q47 q55 q63 q71 n xk (0 : Int32) (0 : Int32) (0 : Int32) (0 : Int32) (0 : Int64) 0 0 xrL116 (fun _ => (0 : Int64)) (fun _ => (0 : Int32)) (fun _ => (0 : Int64)) (fun _ => (0 : Int32)) (fun _ => 0) (fun _ => (0 : Int32)) (fun _ => 0) (fun _ => (0 : Int32))) H → va_D A (ws_Mo K ah q7 q15 q23 q31 q39 q47 q55 q63 q71 n xk (0 : Int32) (0 : Int32) (0 : Int32) (0 : Int32) (0 : Int64) 0 0 xrL116 (fun _ => (0 : Int64)) (fun _ => (0 : Int32)) (fun _ => (0 : Int64)) (fun _ => (0 : Int32)) (fun _ => 0) (fun _ => (0 : Int32)) (fun _ => 0) (fun _ => (0 : Int32))) → va_S A s.heap H locs → (∀ (xrL116 : Nat → Int32) (ls : Array Slot) (H : Heap) (locs : List Loc), xrL116 = rs116 → lv_has ls 4 [(0, .ref ah), (1, .int x)] → va_P D cl_all (ws_Mo K ah q7 q15 q23 q31 q39 q47 q55 q63 q71 n xk (0 : Int32) (0 : Int32) (0 : Int32) (0 : Int32) (0 : Int64) 0 0 xrL116 (fun _ => (0 : Int64)) (fun _ => (0 : Int32)) (fun _ => (0 : Int64)) (fun _ => (0 : Int32)) (fun _ => 0) (fun _ => (0 : Int32)) (fun _ => 0) (fun _ => (0 : Int32))) H → va_D A (ws_Mo K ah q7 q15 q23 q31 q39 q47 q55 q63 q71 n xk (0 : Int32) (0 : Int32) (0 : Int32) (0 : Int32) (0 : Int64) 0 0 xrL116 (fun _ => (0 : Int64)) (fun _ => (0 : Int32)) (fun _ => (0 : Int64)) (fun _ => (0 : Int32)) (fun _ => 0) (fun _ => (0 : Int32)) (fun _ => 0) (fun _ => (0 : Int32))) → va_S A s.heap H locs → W p l e R s m av below meth c H locs 9 221 Q (F0 m 172 ls [])) → W p l e R s m av below meth c H locs 9 221 Q (F0 m 116 ls []) := by
          intro k116
          induction k116 with
          | zero =>
            intro j116 xrL116 ls H locs rs116 hjk116 hM hl hP hD hS kap116
            have hj0 : j116 = 6 := by omega
            subst j116
            rw [mm_Mo_init_L116] at hM
            refine lv_iload_n hx hb dd_Mo_init_116 rfl (lv_at hl 0 rfl) ?_
            refine lv_bipush (v := (6 : Int32)) hx hb dd_Mo_init_117 (by decide) ?_
            refine lv_icmp_ge (tgt := 172) hx hb dd_Mo_init_119 (by decide) (fun _ => ?_) (fun h => absurd (nI_le (a := 6) (b := 6) (by omega) (by omega)) h)
            exact kap116 xrL116 ls H locs hM (lv_sub hl [1, 2] rfl) hP hD hS
          | succ k116 ih116 =>
            intro j116 xrL116 ls H locs rs116 hjk116 hM hl hP hD hS kap116
            rw [mm_Mo_init_L116] at hM
            refine lv_iload_n hx hb dd_Mo_init_116 rfl (lv_at hl 0 rfl) ?_
            refine lv_bipush (v := (6 : Int32)) hx hb dd_Mo_init_117 (by decide) ?_
            refine lv_icmp_ge (tgt := 172) hx hb dd_Mo_init_119 (by decide) (fun h => absurd h (nI_ge (a := j116) (b := 6) (by omega) (by omega))) (fun _ => ?_)
            refine lv_aload_n hx hb dd_Mo_init_122 rfl (lv_at hl 1 rfl) ?_
            refine ly_get (v := .ref q7) C hP 0 rfl uw_Mo rfl 2 (by decide) wa_253 rfl dd_Mo_init_123 ?_
            refine lv_bipush (v := (7 : Int32)) hx hb dd_Mo_init_126 (by decide) ?_
            refine lv_iload_n hx hb dd_Mo_init_128 rfl (lv_at hl 0 rfl) ?_
            refine ly_imulN C 7 j116 rfl rfl dd_Mo_init_129 ?_
            refine lv_iconst (v := (1 : Int32)) hx hb dd_Mo_init_130 (by decide) ?_
            refine ly_iast (ws' := (ws_Mo K ah q7 q15 q23 q31 q39 q47 q55 q63 q71 n xk (0 : Int32) (0 : Int32) (0 : Int32) (0 : Int32) (0 : Int64) 0 0 (upd xrL116 (7 * j116) (1 : Int32)) (fun _ => (0 : Int64)) (fun _ => (0 : Int32)) (fun _ => (0 : Int64)) (fun _ => (0 : Int32)) (fun _ => 0) (fun _ => (0 : Int32)) (fun _ => 0) (fun _ => (0 : Int32)))) C hP hD hS 1 rfl (7 * j116) rfl (by omega) (by omega) dd_Mo_init_131 rfl (fun H locs hP hD hS => ?_)
            refine lv_bipush (v := (6 : Int32)) hx hb dd_Mo_init_132 (by decide) ?_
            refine lv_istore_n (lv' := [(3, .int (6 : Int32)), (2, .int (nI j116)), (0, .ref ah), (1, .int x)]) hx hb dd_Mo_init_134 rfl hl (by decide) rfl (fun ls hl => ?_)
            have lp135 : ∀ (k135 : Nat) (j135 : Nat) (xrL135 : Nat → Int32) (ls : Array Slot) (H : Heap) (locs : List Loc) (rs135 : (Nat → Int32)), j135 + k135 = n → mm_Mo_init_L135 xk j116 k135 j135 xrL135 = rs135 → lv_has ls 4 [(3, .int (nI j135)), (2, .int (nI j116)), (0, .ref ah), (1, .int x)] → va_P D cl_all (ws_Mo K ah q7 q15 q23 q31 q39 q47 q55 q63 q71 n xk (0 : Int32) (0 : Int32) (0 : Int32) (0 : Int32) (0 : Int64) 0 0 xrL135 (fun _ => (0 : Int64)) (fun _ => (0 : Int32)) (fun _ => (0 : Int64)) (fun _ => (0 : Int32)) (fun _ => 0) (fun _ => (0 : Int32)) (fun _ => 0) (fun _ => (0 : Int32))) H → va_D A (ws_Mo K ah q7 q15 q23 q31 q39 q47 q55 q63 q71 n xk (0 : Int32) (0 : Int32) (0 : Int32) (0 : Int32) (0 : Int64) 0 0 xrL135 (fun _ => (0 : Int64)) (fun _ => (0 : Int32)) (fun _ => (0 : Int64)) (fun _ => (0 : Int32)) (fun _ => 0) (fun _ => (0 : Int32)) (fun _ => 0) (fun _ => (0 : Int32))) → va_S A s.heap H locs → (∀ (xrL135 : Nat → Int32) (ls : Array Slot) (H : Heap) (locs : List Loc), xrL135 = rs135 → lv_has ls 4 [(2, .int (nI j116)), (0, .ref ah), (1, .int x)] → va_P D cl_all (ws_Mo K ah q7 q15 q23 q31 q39 q47 q55 q63 q71 n xk (0 : Int32) (0 : Int32) (0 : Int32) (0 : Int32) (0 : Int64) 0 0 xrL135 (fun _ => (0 : Int64)) (fun _ => (0 : Int32)) (fun _ => (0 : Int64)) (fun _ => (0 : Int32)) (fun _ => 0) (fun _ => (0 : Int32)) (fun _ => 0) (fun _ => (0 : Int32))) H → va_D A (ws_Mo K ah q7 q15 q23 q31 q39 q47 q55 q63 q71 n xk (0 : Int32) (0 : Int32) (0 : Int32) (0 : Int32) (0 : Int64) 0 0 xrL135 (fun _ => (0 : Int64)) (fun _ => (0 : Int32)) (fun _ => (0 : Int64)) (fun _ => (0 : Int32)) (fun _ => 0) (fun _ => (0 : Int32)) (fun _ => 0) (fun _ => (0 : Int32))) → va_S A s.heap H locs → W p l e R s m av below meth c H locs 9 221 Q (F0 m 166 ls [])) → W p l e R s m av below meth c H locs 9 221 Q (F0 m 135 ls []) := by
              intro k135
              induction k135 with
              | zero =>
                intro j135 xrL135 ls H locs rs135 hjk135 hM hl hP hD hS kap135
                have hj0 : j135 = n := by omega
                subst j135
                rw [mm_Mo_init_L135] at hM
                refine lv_iload_n hx hb dd_Mo_init_135 rfl (lv_at hl 0 rfl) ?_
                refine lv_aload_n hx hb dd_Mo_init_136 rfl (lv_at hl 2 rfl) ?_
                refine ly_get (v := .int (nI n)) C hP 0 rfl uw_Mo rfl 1 (by decide) wa_263 rfl dd_Mo_init_137 ?_
                refine lv_icmp_ge (tgt := 166) hx hb dd_Mo_init_140 (by decide) (fun _ => ?_) (fun h => absurd (nI_le (a := n) (b := n) (by omega) (by omega)) h)
                exact kap135 xrL135 ls H locs hM (lv_sub hl [1, 2, 3] rfl) hP hD hS
              | succ k135 ih135 =>
                intro j135 xrL135 ls H locs rs135 hjk135 hM hl hP hD hS kap135
                rw [mm_Mo_init_L135] at hM
                refine lv_iload_n hx hb dd_Mo_init_135 rfl (lv_at hl 0 rfl) ?_
                refine lv_aload_n hx hb dd_Mo_init_136 rfl (lv_at hl 2 rfl) ?_
                refine ly_get (v := .int (nI n)) C hP 0 rfl uw_Mo rfl 1 (by decide) wa_263 rfl dd_Mo_init_137 ?_
                refine lv_icmp_ge (tgt := 166) hx hb dd_Mo_init_140 (by decide) (fun h => absurd h (nI_ge (a := j135) (b := n) (by omega) (by omega))) (fun _ => ?_)
                refine lv_aload_n hx hb dd_Mo_init_143 rfl (lv_at hl 2 rfl) ?_
                refine ly_get (v := .ref q7) C hP 0 rfl uw_Mo rfl 2 (by decide) wa_253 rfl dd_Mo_init_144 ?_
                refine lv_bipush (v := (6 : Int32)) hx hb dd_Mo_init_147 (by decide) ?_
                refine lv_iload_n hx hb dd_Mo_init_149 rfl (lv_at hl 0 rfl) ?_
                refine ly_imulN C 6 j135 rfl rfl dd_Mo_init_150 ?_
                refine lv_iload_n hx hb dd_Mo_init_151 rfl (lv_at hl 1 rfl) ?_
                refine ly_iaddN C (6 * j135) j116 rfl rfl dd_Mo_init_152 ?_
                refine lv_aload_n hx hb dd_Mo_init_153 rfl (lv_at hl 2 rfl) ?_
                refine lv_iload_n hx hb dd_Mo_init_154 rfl (lv_at hl 0 rfl) ?_
                refine lv_iload_n hx hb dd_Mo_init_155 rfl (lv_at hl 1 rfl) ?_
                obtain ⟨r_156, hq156⟩ : ∃ z, z = mm_Mo_coefficient j135 j116 xk := ⟨_, rfl⟩
                try rw [← hq156] at hM
                refine ly_cV_i (n := 2) (z := r_156) (rest := [.int (nI ((6 * j135) + j116)), .ref q7]) (wn := (ws_Mo K ah q7 q15 q23 q31 q39 q47 q55 q63 q71 n xk (0 : Int32) (0 : Int32) (0 : Int32) (0 : Int32) (0 : Int64) 0 0 xrL135 (fun _ => (0 : Int64)) (fun _ => (0 : Int32)) (fun _ => (0 : Int64)) (fun _ => (0 : Int32)) (fun _ => 0) (fun _ => (0 : Int32)) (fun _ => 0) (fun _ => (0 : Int32)))) C (cc_Mo_coefficient D K ah q7 q15 q23 q31 q39 q47 q55 q63 q71 j135 j116 n xk (0 : Int32) (0 : Int32) (0 : Int32) (0 : Int32) (0 : Int64) 0 0 xrL135 (fun _ => (0 : Int64)) (fun _ => (0 : Int32)) (fun _ => (0 : Int64)) (fun _ => (0 : Int32)) (fun _ => 0) (fun _ => (0 : Int32)) (fun _ => 0) (fun _ => (0 : Int32)) (by omega) (by omega) (by omega) (by omega)) hq156 wa_273 wa_264 wa_265 wa_266 wa_267 (by decide) (Nat.le_trans (by decide) hRf) (Nat.le_trans (by decide) hRl) rfl hl.1 rfl (Nat.le_of_ble_eq_true rfl) dd_Mo_init_156 hcs [0, 1, 2, 3, 4, 5, 6, 7, 8, 9] [] [0, 1, 2, 3, 4, 5, 6, 7, 8, 9] hP hD hS rfl rfl (by decide) rfl rfl rfl (fun H locs hP hD hS => ?_)
                refine W.eq (g2 := F0 m 159 ls [.int r_156, .int (nI ((6 * j135) + j116)), .ref q7]) rfl ?_
                refine ly_iast (ws' := (ws_Mo K ah q7 q15 q23 q31 q39 q47 q55 q63 q71 n xk (0 : Int32) (0 : Int32) (0 : Int32) (0 : Int32) (0 : Int64) 0 0 (upd xrL135 ((6 * j135) + j116) r_156) (fun _ => (0 : Int64)) (fun _ => (0 : Int32)) (fun _ => (0 : Int64)) (fun _ => (0 : Int32)) (fun _ => 0) (fun _ => (0 : Int32)) (fun _ => 0) (fun _ => (0 : Int32)))) C hP hD hS 1 rfl ((6 * j135) + j116) rfl (by omega) (by omega) dd_Mo_init_159 rfl (fun H locs hP hD hS => ?_)
                refine lv_iinc (k := 0) (v := (nI (j135 + 1))) (lv' := [(3, .int (nI (j135 + 1))), (2, .int (nI j116)), (0, .ref ah), (1, .int x)]) hx hb dd_Mo_init_160 hl rfl (ly_incN _) (by decide) rfl (fun ls hl => ?_)
                refine lv_goto (tgt := 135) hx hb dd_Mo_init_163 (by decide) ?_
                exact ih135 (j135 + 1) (upd xrL135 ((6 * j135) + j116) r_156) ls H locs rs135 (by omega) hM (lv_sub hl [0, 1, 2, 3] rfl) hP hD hS kap135
            refine lp135 (n - 6) 6 (upd xrL116 (7 * j116) (1 : Int32)) ls H locs _ (by omega) rfl (lv_sub hl [0, 1, 2, 3] rfl) hP hD hS (fun xr_135 ls H locs hqL135 hl hP hD hS => ?_)
            try rw [← hqL135] at hM
            refine lv_iinc (k := 0) (v := (nI (j116 + 1))) (lv' := [(2, .int (nI (j116 + 1))), (0, .ref ah), (1, .int x)]) hx hb dd_Mo_init_166 hl rfl (ly_incN _) (by decide) rfl (fun ls hl => ?_)
            refine lv_goto (tgt := 116) hx hb dd_Mo_init_169 (by decide) ?_
            exact ih116 (j116 + 1) xr_135 ls H locs rs116 (by omega) hM (lv_sub hl [0, 1, 2] rfl) hP hD hS kap116
        refine lp116 6 0 (fun _ => (0 : Int32)) ls H locs _ (by omega) rfl (lv_sub hl [0, 1, 2] rfl) hP hD hS (fun xr_116 ls H locs hqL116 hl hP hD hS => ?_)
        try rw [← hqL116] at hM
        refine lv_iconst (v := (0 : Int32)) hx hb dd_Mo_init_172 (by decide) ?_
        refine lv_istore_n (lv' := [(2, .int (0 : Int32)), (0, .ref ah), (1, .int x)]) hx hb dd_Mo_init_173 rfl hl (by decide) rfl (fun ls hl => ?_)
        have lp174 : ∀ (k174 : Nat) (j174 : Nat) (xtL174 : Nat → Int32) (ls : Array Slot) (H : Heap) (locs : List Loc) (rs174 : (Nat → Int32)), j174 + k174 = 33 → mm_Mo_init_L174 k174 j174 xtL174 = rs174 → lv_has ls 4 [(2, .int (nI j174)), (0, .ref ah), (1, .int x)] → va_P D cl_all (ws_Mo K ah q7 q15 q23 q31 q39 q47 q55 q63 q71 n xk (0 : Int32) (0 : Int32) (0 : Int32) (0 : Int32) (0 : Int64) 0 0 xr_116 (fun _ => (0 : Int64)) xtL174 (fun _ => (0 : Int64)) (fun _ => (0 : Int32)) (fun _ => 0) (fun _ => (0 : Int32)) (fun _ => 0) (fun _ => (0 : Int32))) H → va_D A (ws_Mo K ah q7 q15 q23 q31 q39 q47 q55 q63 q71 n xk (0 : Int32) (0 : Int32) (0 : Int32) (0 : Int32) (0 : Int64) 0 0 xr_116 (fun _ => (0 : Int64)) xtL174 (fun _ => (0 : Int64)) (fun _ => (0 : Int32)) (fun _ => 0) (fun _ => (0 : Int32)) (fun _ => 0) (fun _ => (0 : Int32))) → va_S A s.heap H locs → (∀ (xtL174 : Nat → Int32) (ls : Array Slot) (H : Heap) (locs : List Loc), xtL174 = rs174 → lv_has ls 4 [(0, .ref ah), (1, .int x)] → va_P D cl_all (ws_Mo K ah q7 q15 q23 q31 q39 q47 q55 q63 q71 n xk (0 : Int32) (0 : Int32) (0 : Int32) (0 : Int32) (0 : Int64) 0 0 xr_116 (fun _ => (0 : Int64)) xtL174 (fun _ => (0 : Int64)) (fun _ => (0 : Int32)) (fun _ => 0) (fun _ => (0 : Int32)) (fun _ => 0) (fun _ => (0 : Int32))) H → va_D A (ws_Mo K ah q7 q15 q23 q31 q39 q47 q55 q63 q71 n xk (0 : Int32) (0 : Int32) (0 : Int32) (0 : Int32) (0 : Int64) 0 0 xr_116 (fun _ => (0 : Int64)) xtL174 (fun _ => (0 : Int64)) (fun _ => (0 : Int32)) (fun _ => 0) (fun _ => (0 : Int32)) (fun _ => 0) (fun _ => (0 : Int32))) → va_S A s.heap H locs → W p l e R s m av below meth c H locs 9 221 Q (F0 m 193 ls [])) → W p l e R s m av below meth c H locs 9 221 Q (F0 m 174 ls []) := by
          intro k174
          induction k174 with
          | zero =>
            intro j174 xtL174 ls H locs rs174 hjk174 hM hl hP hD hS kap174
            have hj0 : j174 = 33 := by omega
            subst j174
            rw [mm_Mo_init_L174] at hM
            refine lv_iload_n hx hb dd_Mo_init_174 rfl (lv_at hl 0 rfl) ?_
            refine lv_bipush (v := (33 : Int32)) hx hb dd_Mo_init_175 (by decide) ?_
            refine lv_icmp_ge (tgt := 193) hx hb dd_Mo_init_177 (by decide) (fun _ => ?_) (fun h => absurd (nI_le (a := 33) (b := 33) (by omega) (by omega)) h)
            exact kap174 xtL174 ls H locs hM (lv_sub hl [1, 2] rfl) hP hD hS
          | succ k174 ih174 =>
            intro j174 xtL174 ls H locs rs174 hjk174 hM hl hP hD hS kap174
            rw [mm_Mo_init_L174] at hM
            refine lv_iload_n hx hb dd_Mo_init_174 rfl (lv_at hl 0 rfl) ?_
            refine lv_bipush (v := (33 : Int32)) hx hb dd_Mo_init_175 (by decide) ?_
            refine lv_icmp_ge (tgt := 193) hx hb dd_Mo_init_177 (by decide) (fun h => absurd h (nI_ge (a := j174) (b := 33) (by omega) (by omega))) (fun _ => ?_)
            refine lv_aload_n hx hb dd_Mo_init_180 rfl (lv_at hl 1 rfl) ?_
            refine ly_get (v := .ref q23) C hP 0 rfl uw_Mo rfl 4 (by decide) wa_255 rfl dd_Mo_init_181 ?_
            refine lv_iload_n hx hb dd_Mo_init_184 rfl (lv_at hl 0 rfl) ?_
            refine lv_iconst (v := (1 : Int32)) hx hb dd_Mo_init_185 (by decide) ?_
            refine ly_zast (ws' := (ws_Mo K ah q7 q15 q23 q31 q39 q47 q55 q63 q71 n xk (0 : Int32) (0 : Int32) (0 : Int32) (0 : Int32) (0 : Int64) 0 0 xr_116 (fun _ => (0 : Int64)) (upd xtL174 j174 (1 : Int32)) (fun _ => (0 : Int64)) (fun _ => (0 : Int32)) (fun _ => 0) (fun _ => (0 : Int32)) (fun _ => 0) (fun _ => (0 : Int32)))) C hP hD hS 3 rfl (by decide) j174 rfl (by omega) (by omega) dd_Mo_init_186 rfl (fun H locs hP hD hS => ?_)
            refine lv_iinc (k := 0) (v := (nI (j174 + 1))) (lv' := [(2, .int (nI (j174 + 1))), (0, .ref ah), (1, .int x)]) hx hb dd_Mo_init_187 hl rfl (ly_incN _) (by decide) rfl (fun ls hl => ?_)
            refine lv_goto (tgt := 174) hx hb dd_Mo_init_190 (by decide) ?_
            exact ih174 (j174 + 1) (upd xtL174 j174 (1 : Int32)) ls H locs rs174 (by omega) hM (lv_sub hl [0, 1, 2] rfl) hP hD hS kap174
        refine lp174 33 0 (fun _ => (0 : Int32)) ls H locs _ (by omega) rfl (lv_sub hl [0, 1, 2] rfl) hP hD hS (fun xt_174 ls H locs hqL174 hl hP hD hS => ?_)
        try rw [← hqL174] at hM
        subst en
        subst ek
        subst hqL116
        subst hqL174
        exact ret (fun k => match k with | 0 => q7 | 1 => q15 | 2 => q23 | 3 => q31 | 4 => q39 | 5 => q47 | 6 => q55 | 7 => q63 | _ => q71) H locs 193 ls hS hP hD dd_Mo_init_193
      · skip
        refine lv_bipush (v := (11 : Int32)) hx hb dd_Mo_init_104 (by decide) ?_
        refine lv_goto (tgt := 111) hx hb dd_Mo_init_106 (by decide) ?_
        refine ly_put (ws' := [(ah, .inr (4, [.int x, .int (11 : Int32), .ref q7, .ref q15, .ref q23, .ref q31, .ref q39, .int (0 : Int32), .int (0 : Int32), .int (0 : Int32), .int (0 : Int32), .long (0 : Int64), .int (0 : Int32), .ref q47, .int (0 : Int32), .ref q55, .ref q63, .ref q71])), (q7, .inl (K 1, 66, .inl (fun _ => (0 : Int32)))), (q15, .inl (K 0, 18, .inr (.inl (fun _ => (0 : Int64))))), (q23, .inl (K 2, 33, .inl (fun _ => (0 : Int32)))), (q31, .inl (K 0, 33, .inr (.inl (fun _ => (0 : Int64))))), (q39, .inl (K 2, 12, .inl (fun _ => (0 : Int32)))), (q47, .inl (K 1, 11, .inl (fun _ => (0 : Int32)))), (q55, .inl (K 1, 36, .inl (fun _ => (0 : Int32)))), (q63, .inl (K 1, 6, .inl (fun _ => (0 : Int32)))), (q71, .inl (K 1, 6, .inl (fun _ => (0 : Int32))))]) C hP hD hS 0 rfl uw_Mo tt_Mo nn_Mo rfl 1 (by decide) wa_263 rfl rfl rfl (Nat.le_of_ble_eq_true rfl) dd_Mo_init_111 rfl (fun H locs hP hD hS => ?_)
        obtain ⟨n, en⟩ : ∃ z, z = ck_n x := ⟨_, rfl⟩
        obtain ⟨xk, ek⟩ : ∃ z, z = mk_k x := ⟨_, rfl⟩
        have e1 : n = 11 := by rw [en]; unfold ck_n; first | exact if_pos h101 | exact if_neg h101 | exact if_neg h84
        have e2 : xk = x := by rw [ek]; unfold mk_k; first | exact if_pos h79 | (rw [if_neg h79]; first | exact if_pos h84 | exact if_neg h84)
        have hn : n ≤ 11 := by rw [e1]; decide
        have hn6 : 6 ≤ n := by rw [e1]; decide
        have hP : va_P D cl_all (ws_Mo K ah q7 q15 q23 q31 q39 q47 q55 q63 q71 n xk (0 : Int32) (0 : Int32) (0 : Int32) (0 : Int32) (0 : Int64) 0 0 (fun _ => (0 : Int32)) (fun _ => (0 : Int64)) (fun _ => (0 : Int32)) (fun _ => (0 : Int64)) (fun _ => (0 : Int32)) (fun _ => 0) (fun _ => (0 : Int32)) (fun _ => 0) (fun _ => (0 : Int32))) H := by rw [e1, e2]; exact hP
        have hD : va_D A (ws_Mo K ah q7 q15 q23 q31 q39 q47 q55 q63 q71 n xk (0 : Int32) (0 : Int32) (0 : Int32) (0 : Int32) (0 : Int64) 0 0 (fun _ => (0 : Int32)) (fun _ => (0 : Int64)) (fun _ => (0 : Int32)) (fun _ => (0 : Int64)) (fun _ => (0 : Int32)) (fun _ => 0) (fun _ => (0 : Int32)) (fun _ => 0) (fun _ => (0 : Int32))) := by rw [e1, e2]; exact hD
        refine lv_iconst (v := (0 : Int32)) hx hb dd_Mo_init_114 (by decide) ?_
        refine lv_istore_n (lv' := [(2, .int (0 : Int32)), (0, .ref ah), (1, .int x)]) hx hb dd_Mo_init_115 rfl hl (by decide) rfl (fun ls hl => ?_)
        have lp116 : ∀ (k116 : Nat) (j116 : Nat) (xrL116 : Nat → Int32) (ls : Array Slot) (H : Heap) (locs : List Loc) (rs116 : (Nat → Int32)), j116 + k116 = 6 → mm_Mo_init_L116 n xk k116 j116 xrL116 = rs116 → lv_has ls 4 [(2, .int (nI j116)), (0, .ref ah), (1, .int x)] → va_P D cl_all (ws_Mo K ah q7 q15 q23 q31 q39 q47 q55 q63 q71 n xk (0 : Int32) (0 : Int32) (0 : Int32) (0 : Int32) (0 : Int64) 0 0 xrL116 (fun _ => (0 : Int64)) (fun _ => (0 : Int32)) (fun _ => (0 : Int64)) (fun _ => (0 : Int32)) (fun _ => 0) (fun _ => (0 : Int32)) (fun _ => 0) (fun _ => (0 : Int32))) H → va_D A (ws_Mo K ah q7 q15 q23 q31 q39 q47 q55 q63 q71 n xk (0 : Int32) (0 : Int32) (0 : Int32) (0 : Int32) (0 : Int64) 0 0 xrL116 (fun _ => (0 : Int64)) (fun _ => (0 : Int32)) (fun _ => (0 : Int64)) (fun _ => (0 : Int32)) (fun _ => 0) (fun _ => (0 : Int32)) (fun _ => 0) (fun _ => (0 : Int32))) → va_S A s.heap H locs → (∀ (xrL116 : Nat → Int32) (ls : Array Slot) (H : Heap) (locs : List Loc), xrL116 = rs116 → lv_has ls 4 [(0, .ref ah), (1, .int x)] → va_P D cl_all (ws_Mo K ah q7 q15 q23 q31 q39 q47 q55 q63 q71 n xk (0 : Int32) (0 : Int32) (0 : Int32) (0 : Int32) (0 : Int64) 0 0 xrL116 (fun _ => (0 : Int64)) (fun _ => (0 : Int32)) (fun _ => (0 : Int64)) (fun _ => (0 : Int32)) (fun _ => 0) (fun _ => (0 : Int32)) (fun _ => 0) (fun _ => (0 : Int32))) H → va_D A (ws_Mo K ah q7 q15 q23 q31 q39 q47 q55 q63 q71 n xk (0 : Int32) (0 : Int32) (0 : Int32) (0 : Int32) (0 : Int64) 0 0 xrL116 (fun _ => (0 : Int64)) (fun _ => (0 : Int32)) (fun _ => (0 : Int64)) (fun _ => (0 : Int32)) (fun _ => 0) (fun _ => (0 : Int32)) (fun _ => 0) (fun _ => (0 : Int32))) → va_S A s.heap H locs → W p l e R s m av below meth c H locs 9 221 Q (F0 m 172 ls [])) → W p l e R s m av below meth c H locs 9 221 Q (F0 m 116 ls []) := by
          intro k116
          induction k116 with
          | zero =>
            intro j116 xrL116 ls H locs rs116 hjk116 hM hl hP hD hS kap116
            have hj0 : j116 = 6 := by omega
            subst j116
            rw [mm_Mo_init_L116] at hM
            refine lv_iload_n hx hb dd_Mo_init_116 rfl (lv_at hl 0 rfl) ?_
            refine lv_bipush (v := (6 : Int32)) hx hb dd_Mo_init_117 (by decide) ?_
            refine lv_icmp_ge (tgt := 172) hx hb dd_Mo_init_119 (by decide) (fun _ => ?_) (fun h => absurd (nI_le (a := 6) (b := 6) (by omega) (by omega)) h)
            exact kap116 xrL116 ls H locs hM (lv_sub hl [1, 2] rfl) hP hD hS
          | succ k116 ih116 =>
            intro j116 xrL116 ls H locs rs116 hjk116 hM hl hP hD hS kap116
            rw [mm_Mo_init_L116] at hM
            refine lv_iload_n hx hb dd_Mo_init_116 rfl (lv_at hl 0 rfl) ?_
            refine lv_bipush (v := (6 : Int32)) hx hb dd_Mo_init_117 (by decide) ?_
            refine lv_icmp_ge (tgt := 172) hx hb dd_Mo_init_119 (by decide) (fun h => absurd h (nI_ge (a := j116) (b := 6) (by omega) (by omega))) (fun _ => ?_)
            refine lv_aload_n hx hb dd_Mo_init_122 rfl (lv_at hl 1 rfl) ?_
            refine ly_get (v := .ref q7) C hP 0 rfl uw_Mo rfl 2 (by decide) wa_253 rfl dd_Mo_init_123 ?_
            refine lv_bipush (v := (7 : Int32)) hx hb dd_Mo_init_126 (by decide) ?_
            refine lv_iload_n hx hb dd_Mo_init_128 rfl (lv_at hl 0 rfl) ?_
            refine ly_imulN C 7 j116 rfl rfl dd_Mo_init_129 ?_
            refine lv_iconst (v := (1 : Int32)) hx hb dd_Mo_init_130 (by decide) ?_
            refine ly_iast (ws' := (ws_Mo K ah q7 q15 q23 q31 q39 q47 q55 q63 q71 n xk (0 : Int32) (0 : Int32) (0 : Int32) (0 : Int32) (0 : Int64) 0 0 (upd xrL116 (7 * j116) (1 : Int32)) (fun _ => (0 : Int64)) (fun _ => (0 : Int32)) (fun _ => (0 : Int64)) (fun _ => (0 : Int32)) (fun _ => 0) (fun _ => (0 : Int32)) (fun _ => 0) (fun _ => (0 : Int32)))) C hP hD hS 1 rfl (7 * j116) rfl (by omega) (by omega) dd_Mo_init_131 rfl (fun H locs hP hD hS => ?_)
            refine lv_bipush (v := (6 : Int32)) hx hb dd_Mo_init_132 (by decide) ?_
            refine lv_istore_n (lv' := [(3, .int (6 : Int32)), (2, .int (nI j116)), (0, .ref ah), (1, .int x)]) hx hb dd_Mo_init_134 rfl hl (by decide) rfl (fun ls hl => ?_)
            have lp135 : ∀ (k135 : Nat) (j135 : Nat) (xrL135 : Nat → Int32) (ls : Array Slot) (H : Heap) (locs : List Loc) (rs135 : (Nat → Int32)), j135 + k135 = n → mm_Mo_init_L135 xk j116 k135 j135 xrL135 = rs135 → lv_has ls 4 [(3, .int (nI j135)), (2, .int (nI j116)), (0, .ref ah), (1, .int x)] → va_P D cl_all (ws_Mo K ah q7 q15 q23 q31 q39 q47 q55 q63 q71 n xk (0 : Int32) (0 : Int32) (0 : Int32) (0 : Int32) (0 : Int64) 0 0 xrL135 (fun _ => (0 : Int64)) (fun _ => (0 : Int32)) (fun _ => (0 : Int64)) (fun _ => (0 : Int32)) (fun _ => 0) (fun _ => (0 : Int32)) (fun _ => 0) (fun _ => (0 : Int32))) H → va_D A (ws_Mo K ah q7 q15 q23 q31 q39 q47 q55 q63 q71 n xk (0 : Int32) (0 : Int32) (0 : Int32) (0 : Int32) (0 : Int64) 0 0 xrL135 (fun _ => (0 : Int64)) (fun _ => (0 : Int32)) (fun _ => (0 : Int64)) (fun _ => (0 : Int32)) (fun _ => 0) (fun _ => (0 : Int32)) (fun _ => 0) (fun _ => (0 : Int32))) → va_S A s.heap H locs → (∀ (xrL135 : Nat → Int32) (ls : Array Slot) (H : Heap) (locs : List Loc), xrL135 = rs135 → lv_has ls 4 [(2, .int (nI j116)), (0, .ref ah), (1, .int x)] → va_P D cl_all (ws_Mo K ah q7 q15 q23 q31 q39 q47 q55 q63 q71 n xk (0 : Int32) (0 : Int32) (0 : Int32) (0 : Int32) (0 : Int64) 0 0 xrL135 (fun _ => (0 : Int64)) (fun _ => (0 : Int32)) (fun _ => (0 : Int64)) (fun _ => (0 : Int32)) (fun _ => 0) (fun _ => (0 : Int32)) (fun _ => 0) (fun _ => (0 : Int32))) H → va_D A (ws_Mo K ah q7 q15 q23 q31 q39 q47 q55 q63 q71 n xk (0 : Int32) (0 : Int32) (0 : Int32) (0 : Int32) (0 : Int64) 0 0 xrL135 (fun _ => (0 : Int64)) (fun _ => (0 : Int32)) (fun _ => (0 : Int64)) (fun _ => (0 : Int32)) (fun _ => 0) (fun _ => (0 : Int32)) (fun _ => 0) (fun _ => (0 : Int32))) → va_S A s.heap H locs → W p l e R s m av below meth c H locs 9 221 Q (F0 m 166 ls [])) → W p l e R s m av below meth c H locs 9 221 Q (F0 m 135 ls []) := by
              intro k135
              induction k135 with
              | zero =>
                intro j135 xrL135 ls H locs rs135 hjk135 hM hl hP hD hS kap135
                have hj0 : j135 = n := by omega
                subst j135
                rw [mm_Mo_init_L135] at hM
                refine lv_iload_n hx hb dd_Mo_init_135 rfl (lv_at hl 0 rfl) ?_
                refine lv_aload_n hx hb dd_Mo_init_136 rfl (lv_at hl 2 rfl) ?_
                refine ly_get (v := .int (nI n)) C hP 0 rfl uw_Mo rfl 1 (by decide) wa_263 rfl dd_Mo_init_137 ?_
                refine lv_icmp_ge (tgt := 166) hx hb dd_Mo_init_140 (by decide) (fun _ => ?_) (fun h => absurd (nI_le (a := n) (b := n) (by omega) (by omega)) h)
                exact kap135 xrL135 ls H locs hM (lv_sub hl [1, 2, 3] rfl) hP hD hS
              | succ k135 ih135 =>
                intro j135 xrL135 ls H locs rs135 hjk135 hM hl hP hD hS kap135
                rw [mm_Mo_init_L135] at hM
                refine lv_iload_n hx hb dd_Mo_init_135 rfl (lv_at hl 0 rfl) ?_
                refine lv_aload_n hx hb dd_Mo_init_136 rfl (lv_at hl 2 rfl) ?_
                refine ly_get (v := .int (nI n)) C hP 0 rfl uw_Mo rfl 1 (by decide) wa_263 rfl dd_Mo_init_137 ?_
                refine lv_icmp_ge (tgt := 166) hx hb dd_Mo_init_140 (by decide) (fun h => absurd h (nI_ge (a := j135) (b := n) (by omega) (by omega))) (fun _ => ?_)
                refine lv_aload_n hx hb dd_Mo_init_143 rfl (lv_at hl 2 rfl) ?_
                refine ly_get (v := .ref q7) C hP 0 rfl uw_Mo rfl 2 (by decide) wa_253 rfl dd_Mo_init_144 ?_
                refine lv_bipush (v := (6 : Int32)) hx hb dd_Mo_init_147 (by decide) ?_
                refine lv_iload_n hx hb dd_Mo_init_149 rfl (lv_at hl 0 rfl) ?_
                refine ly_imulN C 6 j135 rfl rfl dd_Mo_init_150 ?_
                refine lv_iload_n hx hb dd_Mo_init_151 rfl (lv_at hl 1 rfl) ?_
                refine ly_iaddN C (6 * j135) j116 rfl rfl dd_Mo_init_152 ?_
                refine lv_aload_n hx hb dd_Mo_init_153 rfl (lv_at hl 2 rfl) ?_
                refine lv_iload_n hx hb dd_Mo_init_154 rfl (lv_at hl 0 rfl) ?_
                refine lv_iload_n hx hb dd_Mo_init_155 rfl (lv_at hl 1 rfl) ?_
                obtain ⟨r_156, hq156⟩ : ∃ z, z = mm_Mo_coefficient j135 j116 xk := ⟨_, rfl⟩
                try rw [← hq156] at hM
                refine ly_cV_i (n := 2) (z := r_156) (rest := [.int (nI ((6 * j135) + j116)), .ref q7]) (wn := (ws_Mo K ah q7 q15 q23 q31 q39 q47 q55 q63 q71 n xk (0 : Int32) (0 : Int32) (0 : Int32) (0 : Int32) (0 : Int64) 0 0 xrL135 (fun _ => (0 : Int64)) (fun _ => (0 : Int32)) (fun _ => (0 : Int64)) (fun _ => (0 : Int32)) (fun _ => 0) (fun _ => (0 : Int32)) (fun _ => 0) (fun _ => (0 : Int32)))) C (cc_Mo_coefficient D K ah q7 q15 q23 q31 q39 q47 q55 q63 q71 j135 j116 n xk (0 : Int32) (0 : Int32) (0 : Int32) (0 : Int32) (0 : Int64) 0 0 xrL135 (fun _ => (0 : Int64)) (fun _ => (0 : Int32)) (fun _ => (0 : Int64)) (fun _ => (0 : Int32)) (fun _ => 0) (fun _ => (0 : Int32)) (fun _ => 0) (fun _ => (0 : Int32)) (by omega) (by omega) (by omega) (by omega)) hq156 wa_273 wa_264 wa_265 wa_266 wa_267 (by decide) (Nat.le_trans (by decide) hRf) (Nat.le_trans (by decide) hRl) rfl hl.1 rfl (Nat.le_of_ble_eq_true rfl) dd_Mo_init_156 hcs [0, 1, 2, 3, 4, 5, 6, 7, 8, 9] [] [0, 1, 2, 3, 4, 5, 6, 7, 8, 9] hP hD hS rfl rfl (by decide) rfl rfl rfl (fun H locs hP hD hS => ?_)
                refine W.eq (g2 := F0 m 159 ls [.int r_156, .int (nI ((6 * j135) + j116)), .ref q7]) rfl ?_
                refine ly_iast (ws' := (ws_Mo K ah q7 q15 q23 q31 q39 q47 q55 q63 q71 n xk (0 : Int32) (0 : Int32) (0 : Int32) (0 : Int32) (0 : Int64) 0 0 (upd xrL135 ((6 * j135) + j116) r_156) (fun _ => (0 : Int64)) (fun _ => (0 : Int32)) (fun _ => (0 : Int64)) (fun _ => (0 : Int32)) (fun _ => 0) (fun _ => (0 : Int32)) (fun _ => 0) (fun _ => (0 : Int32)))) C hP hD hS 1 rfl ((6 * j135) + j116) rfl (by omega) (by omega) dd_Mo_init_159 rfl (fun H locs hP hD hS => ?_)
                refine lv_iinc (k := 0) (v := (nI (j135 + 1))) (lv' := [(3, .int (nI (j135 + 1))), (2, .int (nI j116)), (0, .ref ah), (1, .int x)]) hx hb dd_Mo_init_160 hl rfl (ly_incN _) (by decide) rfl (fun ls hl => ?_)
                refine lv_goto (tgt := 135) hx hb dd_Mo_init_163 (by decide) ?_
                exact ih135 (j135 + 1) (upd xrL135 ((6 * j135) + j116) r_156) ls H locs rs135 (by omega) hM (lv_sub hl [0, 1, 2, 3] rfl) hP hD hS kap135
            refine lp135 (n - 6) 6 (upd xrL116 (7 * j116) (1 : Int32)) ls H locs _ (by omega) rfl (lv_sub hl [0, 1, 2, 3] rfl) hP hD hS (fun xr_135 ls H locs hqL135 hl hP hD hS => ?_)
            try rw [← hqL135] at hM
            refine lv_iinc (k := 0) (v := (nI (j116 + 1))) (lv' := [(2, .int (nI (j116 + 1))), (0, .ref ah), (1, .int x)]) hx hb dd_Mo_init_166 hl rfl (ly_incN _) (by decide) rfl (fun ls hl => ?_)
            refine lv_goto (tgt := 116) hx hb dd_Mo_init_169 (by decide) ?_
            exact ih116 (j116 + 1) xr_135 ls H locs rs116 (by omega) hM (lv_sub hl [0, 1, 2] rfl) hP hD hS kap116
        refine lp116 6 0 (fun _ => (0 : Int32)) ls H locs _ (by omega) rfl (lv_sub hl [0, 1, 2] rfl) hP hD hS (fun xr_116 ls H locs hqL116 hl hP hD hS => ?_)
        try rw [← hqL116] at hM
        refine lv_iconst (v := (0 : Int32)) hx hb dd_Mo_init_172 (by decide) ?_
        refine lv_istore_n (lv' := [(2, .int (0 : Int32)), (0, .ref ah), (1, .int x)]) hx hb dd_Mo_init_173 rfl hl (by decide) rfl (fun ls hl => ?_)
        have lp174 : ∀ (k174 : Nat) (j174 : Nat) (xtL174 : Nat → Int32) (ls : Array Slot) (H : Heap) (locs : List Loc) (rs174 : (Nat → Int32)), j174 + k174 = 33 → mm_Mo_init_L174 k174 j174 xtL174 = rs174 → lv_has ls 4 [(2, .int (nI j174)), (0, .ref ah), (1, .int x)] → va_P D cl_all (ws_Mo K ah q7 q15 q23 q31 q39 q47 q55 q63 q71 n xk (0 : Int32) (0 : Int32) (0 : Int32) (0 : Int32) (0 : Int64) 0 0 xr_116 (fun _ => (0 : Int64)) xtL174 (fun _ => (0 : Int64)) (fun _ => (0 : Int32)) (fun _ => 0) (fun _ => (0 : Int32)) (fun _ => 0) (fun _ => (0 : Int32))) H → va_D A (ws_Mo K ah q7 q15 q23 q31 q39 q47 q55 q63 q71 n xk (0 : Int32) (0 : Int32) (0 : Int32) (0 : Int32) (0 : Int64) 0 0 xr_116 (fun _ => (0 : Int64)) xtL174 (fun _ => (0 : Int64)) (fun _ => (0 : Int32)) (fun _ => 0) (fun _ => (0 : Int32)) (fun _ => 0) (fun _ => (0 : Int32))) → va_S A s.heap H locs → (∀ (xtL174 : Nat → Int32) (ls : Array Slot) (H : Heap) (locs : List Loc), xtL174 = rs174 → lv_has ls 4 [(0, .ref ah), (1, .int x)] → va_P D cl_all (ws_Mo K ah q7 q15 q23 q31 q39 q47 q55 q63 q71 n xk (0 : Int32) (0 : Int32) (0 : Int32) (0 : Int32) (0 : Int64) 0 0 xr_116 (fun _ => (0 : Int64)) xtL174 (fun _ => (0 : Int64)) (fun _ => (0 : Int32)) (fun _ => 0) (fun _ => (0 : Int32)) (fun _ => 0) (fun _ => (0 : Int32))) H → va_D A (ws_Mo K ah q7 q15 q23 q31 q39 q47 q55 q63 q71 n xk (0 : Int32) (0 : Int32) (0 : Int32) (0 : Int32) (0 : Int64) 0 0 xr_116 (fun _ => (0 : Int64)) xtL174 (fun _ => (0 : Int64)) (fun _ => (0 : Int32)) (fun _ => 0) (fun _ => (0 : Int32)) (fun _ => 0) (fun _ => (0 : Int32))) → va_S A s.heap H locs → W p l e R s m av below meth c H locs 9 221 Q (F0 m 193 ls [])) → W p l e R s m av below meth c H locs 9 221 Q (F0 m 174 ls []) := by
          intro k174
          induction k174 with
          | zero =>
            intro j174 xtL174 ls H locs rs174 hjk174 hM hl hP hD hS kap174
            have hj0 : j174 = 33 := by omega
            subst j174
            rw [mm_Mo_init_L174] at hM
            refine lv_iload_n hx hb dd_Mo_init_174 rfl (lv_at hl 0 rfl) ?_
            refine lv_bipush (v := (33 : Int32)) hx hb dd_Mo_init_175 (by decide) ?_
            refine lv_icmp_ge (tgt := 193) hx hb dd_Mo_init_177 (by decide) (fun _ => ?_) (fun h => absurd (nI_le (a := 33) (b := 33) (by omega) (by omega)) h)
            exact kap174 xtL174 ls H locs hM (lv_sub hl [1, 2] rfl) hP hD hS
          | succ k174 ih174 =>
            intro j174 xtL174 ls H locs rs174 hjk174 hM hl hP hD hS kap174
            rw [mm_Mo_init_L174] at hM
            refine lv_iload_n hx hb dd_Mo_init_174 rfl (lv_at hl 0 rfl) ?_
            refine lv_bipush (v := (33 : Int32)) hx hb dd_Mo_init_175 (by decide) ?_
            refine lv_icmp_ge (tgt := 193) hx hb dd_Mo_init_177 (by decide) (fun h => absurd h (nI_ge (a := j174) (b := 33) (by omega) (by omega))) (fun _ => ?_)
            refine lv_aload_n hx hb dd_Mo_init_180 rfl (lv_at hl 1 rfl) ?_
            refine ly_get (v := .ref q23) C hP 0 rfl uw_Mo rfl 4 (by decide) wa_255 rfl dd_Mo_init_181 ?_
            refine lv_iload_n hx hb dd_Mo_init_184 rfl (lv_at hl 0 rfl) ?_
            refine lv_iconst (v := (1 : Int32)) hx hb dd_Mo_init_185 (by decide) ?_
            refine ly_zast (ws' := (ws_Mo K ah q7 q15 q23 q31 q39 q47 q55 q63 q71 n xk (0 : Int32) (0 : Int32) (0 : Int32) (0 : Int32) (0 : Int64) 0 0 xr_116 (fun _ => (0 : Int64)) (upd xtL174 j174 (1 : Int32)) (fun _ => (0 : Int64)) (fun _ => (0 : Int32)) (fun _ => 0) (fun _ => (0 : Int32)) (fun _ => 0) (fun _ => (0 : Int32)))) C hP hD hS 3 rfl (by decide) j174 rfl (by omega) (by omega) dd_Mo_init_186 rfl (fun H locs hP hD hS => ?_)
            refine lv_iinc (k := 0) (v := (nI (j174 + 1))) (lv' := [(2, .int (nI (j174 + 1))), (0, .ref ah), (1, .int x)]) hx hb dd_Mo_init_187 hl rfl (ly_incN _) (by decide) rfl (fun ls hl => ?_)
            refine lv_goto (tgt := 174) hx hb dd_Mo_init_190 (by decide) ?_
            exact ih174 (j174 + 1) (upd xtL174 j174 (1 : Int32)) ls H locs rs174 (by omega) hM (lv_sub hl [0, 1, 2] rfl) hP hD hS kap174
        refine lp174 33 0 (fun _ => (0 : Int32)) ls H locs _ (by omega) rfl (lv_sub hl [0, 1, 2] rfl) hP hD hS (fun xt_174 ls H locs hqL174 hl hP hD hS => ?_)
        try rw [← hqL174] at hM
        subst en
        subst ek
        subst hqL116
        subst hqL174
        exact ret (fun k => match k with | 0 => q7 | 1 => q15 | 2 => q23 | 3 => q31 | 4 => q39 | 5 => q47 | 6 => q55 | 7 => q63 | _ => q71) H locs 193 ls hS hP hD dd_Mo_init_193
