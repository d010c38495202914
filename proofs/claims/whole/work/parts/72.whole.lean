set_option maxHeartbeats 8000000 in
set_option maxRecDepth 100000 in
theorem whole_start {p : Program} {e : Env} {s : State} {m : MethodId} {below : List Frame} {meth : Method} {c : Code} (l : Launch) {b L : Nat} {xs : Nat → Int32} (hL : L ≤ 2561) (C0 : lw_At p s m meth c b L xs) : W p l e room_1 s m #[Value.ref b] below meth c s.heap [] 0 0 (lw_Z below #[Value.ref b] s) (entryFrame m ([Value.ref b] : List Value).toArray 4) := by
  obtain ⟨D, K, C⟩ := lw_start C0
  obtain ⟨hx, hb, hr, hml, hown, hts, hX, hbl, hlocks, hgv⟩ := C0
  have hbA : ¬ (fun q : Nat => s.heap.size ≤ q) b := fun h => absurd hbl (Nat.not_lt.mpr h)
  have hAA : ∀ q, (fun q : Nat => s.heap.size ≤ q) q → s.heap.size ≤ q := fun q h => h
  generalize (fun q : Nat => s.heap.size ≤ q) = A at C hbA hAA
  have hl := lv_entry [Value.ref b] (n := 4) (Nat.le_of_ble_eq_true rfl)
  rw [lg_entry_eq]
  generalize (lg_sl [Value.ref b] ++ List.replicate (4 - (lg_sl [Value.ref b]).length) Slot.unset).toArray = ls at hl ⊢
  have hl : lv_has ls 4 [(0, .ref b)] := hl
  have hS : va_S A s.heap s.heap [] := va_S.rf
  have hP : va_P D cl_all [] s.heap := fun k q h => by simp at h
  have hD : va_D A [] := ⟨fun i j p q h => by simp at h, fun k q h => by simp at h⟩
  obtain ⟨x0, ex0⟩ : ∃ z, z = lc_v L xs := ⟨_, rfl⟩
  refine ly_new (ci := 0) (fs := [.null, .null, .null, .null, .null, .long (0 : Int64), .long (0 : Int64)]) C uw_RG tt_RG wa_374 wa_375 wa_62 hP hD hS rfl (by intro j hj; rcases (show j = 0 ∨ j = 1 ∨ j = 2 ∨ j = 3 ∨ j = 4 ∨ j = 5 ∨ j = 6 by omega) with rfl | rfl | rfl | rfl | rfl | rfl | rfl <;> rfl) (by decide) (by decide) dd_La_law_0 (fun ah H hP hD hS => ?_)
  refine lv_dup hx hb dd_La_law_3 rfl ?_
  refine lv_aload_n hx hb dd_La_law_4 rfl (lv_at hl 0 rfl) ?_
  refine lv_iconst (v := (0 : Int32)) hx hb dd_La_law_5 (by decide) ?_
  refine lc_call (rest := [.ref ah, .ref ah]) C hL hX hbl hbA hP hS (by decide) (by decide) hl.1 (Nat.le_of_ble_eq_true rfl) (by decide) wa_376 wa_373 wa_377 wa_378 dd_La_law_6 (fun H locs hP hS => ?_)
  rw [← ex0]
  refine ly_cI (n := 1) (rest := [.ref ah]) (wnf := fun u => (ws_L3 K ah (u 0) (u 1) (u 2) (u 3) (u 4) (u 15) (u 16) (u 5) (u 6) (u 7) (u 8) (u 9) (u 10) (u 11) (u 12) (u 13) (u 14) (ck_n x0) (0 : Int64) (0 : Int64) (ck_g x0) (ck_r x0) (fun _ => (0 : Int64)) (fun _ => (0 : Int64)) (upd (upd (upd (upd (upd (upd (upd (upd (upd (upd (upd (upd (fun _ => (0 : Int32)) 0 (1 : Int32)) 1 (1 : Int32)) 2 (1 : Int32)) 3 (1 : Int32)) 4 (1 : Int32)) 5 (1 : Int32)) 6 (1 : Int32)) 7 (1 : Int32)) 8 (1 : Int32)) 9 (1 : Int32)) 10 (1 : Int32)) 11 (1 : Int32)) (fun _ => (0 : Int32)) (ck_all (ck_n x0)) (va_up (va_up (va_up (fun _ => none) 0 (some (u 6))) 1 (some (u 9))) 2 (some (u 12))) (fun _ => ck_all (ck_n x0)) (fun _ _ => (0 : Int64)) (fun _ _ => (0 : Int64)))) C (cc_RG_init D K ah x0) wa_35 wa_379 wa_62 wa_380 rfl (by decide) (by decide) (by decide) rfl hl.1 rfl (Nat.le_of_ble_eq_true rfl) dd_La_law_9 (by decide) [0] [] [0, 1, 2, 3, 4, 5, 16, 17, 6, 7, 8, 9, 10, 11, 12, 13, 14, 15] hP hD hS rfl rfl (by decide) (fun _ => rfl) (fun u H locs hP hD hS => ?_)
  refine W.eq (g2 := F0 m 12 ls [.ref ah]) rfl ?_
  refine lv_astore_n (lv' := [(1, .ref ah), (0, .ref b)]) hx hb dd_La_law_12 rfl hl (by decide) rfl (fun ls hl => ?_)
  refine ly_new (ci := 4) (fs := [.int (0 : Int32), .int (0 : Int32), .null, .null, .null, .null, .null, .int (0 : Int32), .int (0 : Int32), .int (0 : Int32), .int (0 : Int32), .long (0 : Int64), .int (0 : Int32), .null, .int (0 : Int32), .null, .null, .null]) C uw_Mo tt_Mo wa_381 wa_382 wa_265 hP hD hS rfl (by intro j hj; rcases (show j = 0 ∨ j = 1 ∨ j = 2 ∨ j = 3 ∨ j = 4 ∨ j = 5 ∨ j = 6 ∨ j = 7 ∨ j = 8 ∨ j = 9 ∨ j = 10 ∨ j = 11 ∨ j = 12 ∨ j = 13 ∨ j = 14 ∨ j = 15 ∨ j = 16 ∨ j = 17 by omega) with rfl | rfl | rfl | rfl | rfl | rfl | rfl | rfl | rfl | rfl | rfl | rfl | rfl | rfl | rfl | rfl | rfl | rfl <;> rfl) (by decide) (by decide) dd_La_law_13 (fun mh H hP hD hS => ?_)
  refine lv_dup hx hb dd_La_law_16 rfl ?_
  refine lv_aload_n hx hb dd_La_law_17 rfl (lv_at hl 1 rfl) ?_
  refine lv_iconst (v := (0 : Int32)) hx hb dd_La_law_18 (by decide) ?_
  refine lc_call (rest := [.ref mh, .ref mh]) C hL hX hbl hbA hP hS (by decide) (by decide) hl.1 (Nat.le_of_ble_eq_true rfl) (by decide) wa_376 wa_373 wa_377 wa_378 dd_La_law_19 (fun H locs hP hS => ?_)
  rw [← ex0]
  refine ly_cI (n := 1) (rest := [.ref mh]) (wnf := fun v => ((ws_L3 K ah (u 0) (u 1) (u 2) (u 3) (u 4) (u 15) (u 16) (u 5) (u 6) (u 7) (u 8) (u 9) (u 10) (u 11) (u 12) (u 13) (u 14) (ck_n x0) (0 : Int64) (0 : Int64) (ck_g x0) (ck_r x0) (fun _ => (0 : Int64)) (fun _ => (0 : Int64)) (upd (upd (upd (upd (upd (upd (upd (upd (upd (upd (upd (upd (fun _ => (0 : Int32)) 0 (1 : Int32)) 1 (1 : Int32)) 2 (1 : Int32)) 3 (1 : Int32)) 4 (1 : Int32)) 5 (1 : Int32)) 6 (1 : Int32)) 7 (1 : Int32)) 8 (1 : Int32)) 9 (1 : Int32)) 10 (1 : Int32)) 11 (1 : Int32)) (fun _ => (0 : Int32)) (ck_all (ck_n x0)) (va_up (va_up (va_up (fun _ => none) 0 (some (u 6))) 1 (some (u 9))) 2 (some (u 12))) (fun _ => ck_all (ck_n x0)) (fun _ _ => (0 : Int64)) (fun _ _ => (0 : Int64))) ++ (ws_Mo K mh (v 0) (v 1) (v 2) (v 3) (v 4) (v 5) (v 6) (v 7) (v 8) (ck_n x0) (mk_k x0) (0 : Int32) (0 : Int32) (0 : Int32) (0 : Int32) (0 : Int64) 0 0 (mm_Mo_init_L116 (ck_n x0) (mk_k x0) 6 0 (fun _ => (0 : Int32))) (fun _ => (0 : Int64)) (mm_Mo_init_L174 33 0 (fun _ => (0 : Int32))) (fun _ => (0 : Int64)) (fun _ => (0 : Int32)) (fun _ => 0) (fun _ => (0 : Int32)) (fun _ => 0) (fun _ => (0 : Int32))))) C (cc_Mo_init D K mh x0) wa_251 wa_383 wa_265 wa_384 rfl (by decide) (by decide) (by decide) rfl hl.1 rfl (Nat.le_of_ble_eq_true rfl) dd_La_law_22 (by decide) [18] [0, 1, 2, 3, 4, 5, 6, 7, 8, 9, 10, 11, 12, 13, 14, 15, 16, 17] [0, 1, 2, 3, 4, 5, 6, 7, 8, 9, 10, 11, 12, 13, 14, 15, 16, 17, 18, 19, 20, 21, 22, 23, 24, 25, 26, 27] hP hD hS rfl rfl (by decide) (fun _ => rfl) (fun v H locs hP hD hS => ?_)
  refine W.eq (g2 := F0 m 25 ls [.ref mh]) rfl ?_
  refine lv_astore_n (lv' := [(2, .ref mh), (1, .ref ah), (0, .ref b)]) hx hb dd_La_law_25 rfl hl (by decide) rfl (fun ls hl => ?_)
  refine lv_iconst (v := (1 : Int32)) hx hb dd_La_law_26 (by decide) ?_
  refine lv_istore_n (lv' := [(3, .int (1 : Int32)), (2, .ref mh), (1, .ref ah), (0, .ref b)]) hx hb dd_La_law_27 rfl hl (by decide) rfl (fun ls hl => ?_)
  refine W.widen (k := 28) (n := 374) (by decide) (by decide) ?_
  obtain ⟨hn10, hn11⟩ := ck_n_le x0
  exact lw_loop ah (u 0) (u 1) (u 2) (u 3) (u 4) (u 15) (u 16) (u 5) (u 6) (u 7) (u 8) (u 9) (u 10) (u 11) (u 12) (u 13) (u 14) mh (v 0) (v 1) (v 2) (v 3) (v 4) (v 5) (v 6) (v 7) (v 8) (ck_n x0) (ck_g x0) (ck_all (ck_n x0)) (mk_k x0) (ck_r x0) (mm_Mo_init_L116 (ck_n x0) (mk_k x0) 6 0 (fun _ => (0 : Int32))) (va_up (va_up (va_up (fun _ => none) 0 (some (u 6))) 1 (some (u 9))) 2 (some (u 12))) hL hr hlocks C hAA hX hbl hbA (by omega) (by omega) rfl rfl rfl (L + 1) 1 (0 : Int64) (0 : Int64) (fun _ => (0 : Int64)) (fun _ => (0 : Int64)) (upd (upd (upd (upd (upd (upd (upd (upd (upd (upd (upd (upd (fun _ => (0 : Int32)) 0 (1 : Int32)) 1 (1 : Int32)) 2 (1 : Int32)) 3 (1 : Int32)) 4 (1 : Int32)) 5 (1 : Int32)) 6 (1 : Int32)) 7 (1 : Int32)) 8 (1 : Int32)) 9 (1 : Int32)) 10 (1 : Int32)) 11 (1 : Int32)) (fun _ => (0 : Int32)) (fun _ => ck_all (ck_n x0)) (fun _ _ => (0 : Int64)) (fun _ _ => (0 : Int64)) (0 : Int32) (0 : Int32) (0 : Int32) (0 : Int32) (0 : Int64) 0 0 (fun _ => (0 : Int64)) (mm_Mo_init_L174 33 0 (fun _ => (0 : Int32))) (fun _ => (0 : Int64)) (fun _ => (0 : Int32)) (fun _ => 0) (fun _ => (0 : Int32)) (fun _ => 0) (fun _ => (0 : Int32)) ls H locs (by omega) (by omega) (rl_init x0) hl hP hD hS
