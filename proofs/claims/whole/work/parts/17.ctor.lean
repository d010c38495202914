set_option maxHeartbeats 4000000 in
set_option maxRecDepth 100000 in
theorem cc_Sp_init {l : Launch} (D : va_G) (K : Nat → ClassId) (ah : Nat) : ly_n l yy_Sp_init bb_Sp_init 1 1 12 2 12 D K [.ref ah] [(ah, .inr (2, [.null, .null]))] (fun u => [(ah, .inr (2, [.ref (u 0), .ref (u 1)])), ((u 0), .inl (K 0, 6, .inr (.inl (fun _ => (0 : Int64))))), ((u 1), .inl (K 0, 6, .inr (.inl (fun _ => (0 : Int64)))))]) := by
  refine ly_entN (by decide) (Nat.le_of_ble_eq_true rfl) rfl ?_
  intro p e s m av below meth c A ls R Q H locs C hin hRf hRl hRc hRs hS hP hD hl ret
  obtain ⟨hx, hb, hml, hown, ht, -⟩ := id C
  have hcs : 0 ≤ R.cells ∧ 0 ≤ R.slots := ⟨Nat.zero_le _, Nat.zero_le _⟩
  have hl : lv_has ls 1 [(0, .ref ah)] := hl
  refine lv_aload_n hx hb dd_Sp_init_0 rfl (lv_at hl 0 rfl) ?_
  refine W.objInit hx hb hown (ht _ wa_227) (ht _ wa_37) (ht _ wa_38) rfl (by rw [hml]; exact hl.1) rfl dd_Sp_init_1 (Nat.le_trans (by decide) hRf) (show 12 ≤ R.locals from Nat.le_trans (by decide) hRl) ?_
  refine W.eq (g2 := F0 m 4 ls []) rfl ?_
  refine lv_aload_n hx hb dd_Sp_init_4 rfl (lv_at hl 0 rfl) ?_
  refine lv_bipush (v := (6 : Int32)) hx hb dd_Sp_init_5 (by decide) ?_
  refine ly_newa (ty := .long) (at0 := .long) (a0 := (6, .inr (.inl (fun _ => (0 : Int64))))) C 0 rfl rfl (fun _ h => h) wa_208 hP hD hS 6 (fun _ => rfl) rfl (by omega) (by decide) (by omega) (by omega) dd_Sp_init_7 (fun q7 H hP hD hS => ?_)
  refine W.widen (k := 1) (n := 6) (by omega) (by omega) ?_
  have hcs : 1 ≤ R.cells ∧ 6 ≤ R.slots := ⟨by omega, by omega⟩
  refine ly_putF (ws' := [(ah, .inr (2, [.ref q7, .null])), (q7, .inl (K 0, 6, .inr (.inl (fun _ => (0 : Int64)))))]) C hP hD hS 0 rfl uw_Sp tt_Sp nn_Sp rfl 0 (by decide) wa_228 rfl hin rfl rfl rfl (Nat.le_of_ble_eq_true rfl) dd_Sp_init_9 rfl (fun H locs hP hD hS => ?_)
  refine lv_aload_n hx hb dd_Sp_init_12 rfl (lv_at hl 0 rfl) ?_
  refine lv_bipush (v := (6 : Int32)) hx hb dd_Sp_init_13 (by decide) ?_
  refine ly_newa (ty := .long) (at0 := .long) (a0 := (6, .inr (.inl (fun _ => (0 : Int64))))) C 0 rfl rfl (fun _ h => h) wa_208 hP hD hS 6 (fun _ => rfl) rfl (by omega) (by decide) (by omega) (by omega) dd_Sp_init_15 (fun q15 H hP hD hS => ?_)
  refine W.widen (k := 2) (n := 12) (by omega) (by omega) ?_
  have hcs : 2 ≤ R.cells ∧ 12 ≤ R.slots := ⟨by omega, by omega⟩
  refine ly_putF (ws' := [(ah, .inr (2, [.ref q7, .ref q15])), (q7, .inl (K 0, 6, .inr (.inl (fun _ => (0 : Int64))))), (q15, .inl (K 0, 6, .inr (.inl (fun _ => (0 : Int64)))))]) C hP hD hS 0 rfl uw_Sp tt_Sp nn_Sp rfl 1 (by decide) wa_229 rfl hin rfl rfl rfl (Nat.le_of_ble_eq_true rfl) dd_Sp_init_17 rfl (fun H locs hP hD hS => ?_)
  refine W.widen (k := 2) (n := 12) (by omega) (by omega) ?_
  exact ret (fun k => match k with | 0 => q7 | _ => q15) H locs 20 ls hS hP hD dd_Sp_init_20

def ck_all (n : Nat) : Int32 := (((1 : Int32) <<< ((nI n) &&& 31)) - (1 : Int32))
set_option maxHeartbeats 4000000 in
set_option maxRecDepth 100000 in
theorem cc_Sq_init {l : Launch} (D : va_G) (K : Nat → ClassId) (ah : Nat) (x : Int32) (n : Nat) (hn : n ≤ 11) : ly_n l yy_Sq_init bb_Sq_init 3 1 12 2 22 D K [.ref ah, .int x, .int (nI n)] [(ah, .inr (3, [.int (0 : Int32), .int (0 : Int32), .null, .null, .int (0 : Int32)]))] (fun u => [(ah, .inr (3, [.int ((5 : Int32) * x), .int (ck_all n), .ref (u 0), .ref (u 1), .int (ck_all n)])), ((u 0), .inl (K 0, n, .inr (.inl (fun _ => (0 : Int64))))), ((u 1), .inl (K 0, n, .inr (.inl (fun _ => (0 : Int64)))))]) := by
  refine ly_entN (by decide) (Nat.le_of_ble_eq_true rfl) rfl ?_
  intro p e s m av below meth c A ls R Q H locs C hin hRf hRl hRc hRs hS hP hD hl ret
  obtain ⟨hx, hb, hml, hown, ht, -⟩ := id C
  have hcs : 0 ≤ R.cells ∧ 0 ≤ R.slots := ⟨Nat.zero_le _, Nat.zero_le _⟩
  have hl : lv_has ls 3 [(0, .ref ah), (1, .int x), (2, .int (nI n))] := hl
  refine lv_aload_n hx hb dd_Sq_init_0 rfl (lv_at hl 0 rfl) ?_
  refine W.objInit hx hb hown (ht _ wa_237) (ht _ wa_37) (ht _ wa_38) rfl (by rw [hml]; exact hl.1) rfl dd_Sq_init_1 (Nat.le_trans (by decide) hRf) (show 12 ≤ R.locals from Nat.le_trans (by decide) hRl) ?_
  refine W.eq (g2 := F0 m 4 ls []) rfl ?_
  refine lv_aload_n hx hb dd_Sq_init_4 rfl (lv_at hl 0 rfl) ?_
  refine lv_iconst (v := (5 : Int32)) hx hb dd_Sq_init_5 (by decide) ?_
  refine lv_iload_n hx hb dd_Sq_init_6 rfl (lv_at hl 1 rfl) ?_
  refine lv_imul hx hb dd_Sq_init_7 ?_
  refine ly_putF (ws' := [(ah, .inr (3, [.int ((5 : Int32) * x), .int (0 : Int32), .null, .null, .int (0 : Int32)]))]) C hP hD hS 0 rfl uw_Sq tt_Sq nn_Sq rfl 0 (by decide) wa_238 rfl hin rfl rfl rfl (Nat.le_of_ble_eq_true rfl) dd_Sq_init_8 rfl (fun H locs hP hD hS => ?_)
  refine lv_aload_n hx hb dd_Sq_init_11 rfl (lv_at hl 0 rfl) ?_
  refine lv_iconst (v := (1 : Int32)) hx hb dd_Sq_init_12 (by decide) ?_
  refine lv_iload_n hx hb dd_Sq_init_13 rfl (lv_at hl 2 rfl) ?_
  refine lv_ishl hx hb dd_Sq_init_14 ?_
  refine lv_iconst (v := (1 : Int32)) hx hb dd_Sq_init_15 (by decide) ?_
  refine lv_isub hx hb dd_Sq_init_16 ?_
  refine ly_putF (ws' := [(ah, .inr (3, [.int ((5 : Int32) * x), .int (((1 : Int32) <<< ((nI n) &&& 31)) - (1 : Int32)), .null, .null, .int (0 : Int32)]))]) C hP hD hS 0 rfl uw_Sq tt_Sq nn_Sq rfl 1 (by decide) wa_239 rfl hin rfl rfl rfl (Nat.le_of_ble_eq_true rfl) dd_Sq_init_17 rfl (fun H locs hP hD hS => ?_)
  refine lv_aload_n hx hb dd_Sq_init_20 rfl (lv_at hl 0 rfl) ?_
  refine lv_iload_n hx hb dd_Sq_init_21 rfl (lv_at hl 2 rfl) ?_
  refine ly_newa (ty := .long) (at0 := .long) (a0 := (n, .inr (.inl (fun _ => (0 : Int64))))) C 0 rfl rfl (fun _ h => h) wa_208 hP hD hS n (fun _ => rfl) rfl (by omega) (by decide) (by omega) (by omega) dd_Sq_init_22 (fun q22 H hP hD hS => ?_)
  refine W.widen (k := 1) (n := (0 + n)) (by omega) (by omega) ?_
  have hcs : 1 ≤ R.cells ∧ (0 + n) ≤ R.slots := ⟨by omega, by omega⟩
  refine ly_putF (ws' := [(ah, .inr (3, [.int ((5 : Int32) * x), .int (((1 : Int32) <<< ((nI n) &&& 31)) - (1 : Int32)), .ref q22, .null, .int (0 : Int32)])), (q22, .inl (K 0, n, .inr (.inl (fun _ => (0 : Int64)))))]) C hP hD hS 0 rfl uw_Sq tt_Sq nn_Sq rfl 2 (by decide) wa_240 rfl hin rfl rfl rfl (Nat.le_of_ble_eq_true rfl) dd_Sq_init_24 rfl (fun H locs hP hD hS => ?_)
  refine lv_aload_n hx hb dd_Sq_init_27 rfl (lv_at hl 0 rfl) ?_
  refine lv_iload_n hx hb dd_Sq_init_28 rfl (lv_at hl 2 rfl) ?_
  refine ly_newa (ty := .long) (at0 := .long) (a0 := (n, .inr (.inl (fun _ => (0 : Int64))))) C 0 rfl rfl (fun _ h => h) wa_208 hP hD hS n (fun _ => rfl) rfl (by omega) (by decide) (by omega) (by omega) dd_Sq_init_29 (fun q29 H hP hD hS => ?_)
  refine W.widen (k := 2) (n := ((0 + n) + n)) (by omega) (by omega) ?_
  have hcs : 2 ≤ R.cells ∧ ((0 + n) + n) ≤ R.slots := ⟨by omega, by omega⟩
  refine ly_putF (ws' := [(ah, .inr (3, [.int ((5 : Int32) * x), .int (((1 : Int32) <<< ((nI n) &&& 31)) - (1 : Int32)), .ref q22, .ref q29, .int (0 : Int32)])), (q22, .inl (K 0, n, .inr (.inl (fun _ => (0 : Int64))))), (q29, .inl (K 0, n, .inr (.inl (fun _ => (0 : Int64)))))]) C hP hD hS 0 rfl uw_Sq tt_Sq nn_Sq rfl 3 (by decide) wa_241 rfl hin rfl rfl rfl (Nat.le_of_ble_eq_true rfl) dd_Sq_init_31 rfl (fun H locs hP hD hS => ?_)
  refine lv_aload_n hx hb dd_Sq_init_34 rfl (lv_at hl 0 rfl) ?_
  refine lv_aload_n hx hb dd_Sq_init_35 rfl (lv_at hl 0 rfl) ?_
  refine ly_get (v := .int (((1 : Int32) <<< ((nI n) &&& 31)) - (1 : Int32))) C hP 0 rfl uw_Sq rfl 1 (by decide) wa_239 rfl dd_Sq_init_36 ?_
  refine ly_put (ws' := [(ah, .inr (3, [.int ((5 : Int32) * x), .int (((1 : Int32) <<< ((nI n) &&& 31)) - (1 : Int32)), .ref q22, .ref q29, .int (((1 : Int32) <<< ((nI n) &&& 31)) - (1 : Int32))])), (q22, .inl (K 0, n, .inr (.inl (fun _ => (0 : Int64))))), (q29, .inl (K 0, n, .inr (.inl (fun _ => (0 : Int64)))))]) C hP hD hS 0 rfl uw_Sq tt_Sq nn_Sq rfl 4 (by decide) wa_242 rfl rfl rfl (Nat.le_of_ble_eq_true rfl) dd_Sq_init_39 rfl (fun H locs hP hD hS => ?_)
  refine W.widen (k := 2) (n := 22) (by omega) (by omega) ?_
  exact ret (fun k => match k with | 0 => q22 | _ => q29) H locs 42 ls hS hP hD dd_Sq_init_42

def ck_n (x : Int32) : Nat := if x = (2 : Int32) then 11 else 10
def ck_g (x : Int32) : Int32 := if x = (1 : Int32) then (1 : Int32) else if x = (2 : Int32) then (1 : Int32) else (0 : Int32)
def ck_rows (g : Int32) : Nat → Nat → (Nat → Int64) → (Nat → Int64)
  | 0, _, ro => ro
  | k + 1, j, ro => ck_rows g k (j + 1) (vp_updL ro j (if g = (0 : Int32) then mm_Co_plainRow j else mm_Co_groupedRow j))
def ck_r (x : Int32) : Nat → Int64 := ck_rows (ck_g x) (ck_n x) 0 (fun _ => (0 : Int64))
theorem ck_n_le (x : Int32) : 10 ≤ ck_n x ∧ ck_n x ≤ 11 := by unfold ck_n; split <;> decide
set_option maxHeartbeats 4000000 in
set_option maxRecDepth 100000 in
theorem cc_Co_init {l : Launch} (D : va_G) (K : Nat → ClassId) (ah : Nat) (x : Int32) : ly_n l yy_Co_init bb_Co_init 3 4 97 1 11 D K [.ref ah, .int x] [(ah, .inr (1, [.int (0 : Int32), .null, .int (0 : Int32)]))] (fun u => [(ah, .inr (1, [.int (nI (ck_n x)), .ref (u 0), .int (ck_g x)])), ((u 0), .inl (K 0, (ck_n x), .inr (.inl (ck_r x))))]) := by
  refine ly_entN (by decide) (Nat.le_of_ble_eq_true rfl) rfl ?_
  intro p e s m av below meth c A ls R Q H locs C hin hRf hRl hRc hRs hS hP hD hl ret
  obtain ⟨hx, hb, hml, hown, ht, -⟩ := id C
  have hcs : 0 ≤ R.cells ∧ 0 ≤ R.slots := ⟨Nat.zero_le _, Nat.zero_le _⟩
  have hl : lv_has ls 3 [(0, .ref ah), (1, .int x)] := hl
  refine lv_aload_n hx hb dd_Co_init_0 rfl (lv_at hl 0 rfl) ?_
  refine W.objInit hx hb hown (ht _ wa_205) (ht _ wa_37) (ht _ wa_38) rfl (by rw [hml]; exact hl.1) rfl dd_Co_init_1 (Nat.le_trans (by decide) hRf) (show 12 ≤ R.locals from Nat.le_trans (by decide) hRl) ?_
  refine W.eq (g2 := F0 m 4 ls []) rfl ?_
  refine lv_aload_n hx hb dd_Co_init_4 rfl (lv_at hl 0 rfl) ?_
  refine lv_iload_n hx hb dd_Co_init_5 rfl (lv_at hl 1 rfl) ?_
  refine lv_iconst (v := (2 : Int32)) hx hb dd_Co_init_6 (by decide) ?_
  refine lv_icmp_ne (tgt := 15) hx hb dd_Co_init_7 (by decide) (fun h7 => ?_) (fun h7 => ?_)
  · skip
    refine lv_bipush (v := (10 : Int32)) hx hb dd_Co_init_15 (by decide) ?_
    refine ly_putF (ws' := [(ah, .inr (1, [.int (10 : Int32), .null, .int (0 : Int32)]))]) C hP hD hS 0 rfl uw_Co tt_Co nn_Co rfl 0 (by decide) wa_206 rfl hin rfl rfl rfl (Nat.le_of_ble_eq_true rfl) dd_Co_init_17 rfl (fun H locs hP hD hS => ?_)
    refine lv_aload_n hx hb dd_Co_init_20 rfl (lv_at hl 0 rfl) ?_
    refine lv_iload_n hx hb dd_Co_init_21 rfl (lv_at hl 1 rfl) ?_
    refine lv_iconst (v := (1 : Int32)) hx hb dd_Co_init_22 (by decide) ?_
    refine lv_icmp_eq (tgt := 31) hx hb dd_Co_init_23 (by decide) (fun h23 => ?_) (fun h23 => ?_)
    · skip
      refine lv_iconst (v := (1 : Int32)) hx hb dd_Co_init_31 (by decide) ?_
      refine lv_goto (tgt := 36) hx hb dd_Co_init_32 (by decide) ?_
      refine ly_putF (ws' := [(ah, .inr (1, [.int (10 : Int32), .null, .int (1 : Int32)]))]) C hP hD hS 0 rfl uw_Co tt_Co nn_Co rfl 2 (by decide) wa_207 rfl hin rfl (by decide) (by decide) (Nat.le_of_ble_eq_true rfl) dd_Co_init_36 rfl (fun H locs hP hD hS => ?_)
      refine lv_aload_n hx hb dd_Co_init_39 rfl (lv_at hl 0 rfl) ?_
      refine lv_aload_n hx hb dd_Co_init_40 rfl (lv_at hl 0 rfl) ?_
      refine ly_get (v := .int (10 : Int32)) C hP 0 rfl uw_Co rfl 0 (by decide) wa_206 rfl dd_Co_init_41 ?_
      refine ly_newa (ty := .long) (at0 := .long) (a0 := (10, .inr (.inl (fun _ => (0 : Int64))))) C 0 rfl rfl (fun _ h => h) wa_208 hP hD hS 10 (fun _ => rfl) rfl (by omega) (by decide) (by omega) (by omega) dd_Co_init_44 (fun q44 H hP hD hS => ?_)
      refine W.widen (k := 1) (n := 10) (by omega) (by omega) ?_
      have hcs : 1 ≤ R.cells ∧ 10 ≤ R.slots := ⟨by omega, by omega⟩
      refine ly_putF (ws' := [(ah, .inr (1, [.int (10 : Int32), .ref q44, .int (1 : Int32)])), (q44, .inl (K 0, 10, .inr (.inl (fun _ => (0 : Int64)))))]) C hP hD hS 0 rfl uw_Co tt_Co nn_Co rfl 1 (by decide) wa_209 rfl hin rfl rfl rfl (Nat.le_of_ble_eq_true rfl) dd_Co_init_46 rfl (fun H locs hP hD hS => ?_)
      refine lv_iconst (v := (0 : Int32)) hx hb dd_Co_init_49 (by decide) ?_
      refine lv_istore_n (lv' := [(2, .int (0 : Int32)), (0, .ref ah), (1, .int x)]) hx hb dd_Co_init_50 rfl hl (by decide) rfl (fun ls hl => ?_)
      obtain ⟨resr, hrr⟩ : ∃ z, z = ck_rows (1 : Int32) 10 0 (fun _ => (0 : Int64)) := ⟨_, rfl⟩
      have lp51 : ∀ (k j : Nat) (ro : Nat → Int64) (ls : Array Slot) (H : Heap) (locs : List Loc), j + k = 10 → ck_rows (1 : Int32) k j ro = resr → lv_has ls 3 [(2, .int (nI j)), (0, .ref ah), (1, .int x)] → va_P D cl_all [(ah, .inr (1, [.int (10 : Int32), .ref q44, .int (1 : Int32)])), (q44, .inl (K 0, 10, .inr (.inl ro)))] H → va_D A [(ah, .inr (1, [.int (10 : Int32), .ref q44, .int (1 : Int32)])), (q44, .inl (K 0, 10, .inr (.inl ro)))] → va_S A s.heap H locs → W p l e R s m av below meth c H locs 1 10 Q (F0 m 51 ls []) := by
        intro k
        induction k with
        | zero =>
          intro j ro ls H locs hjk hM hl hP hD hS
          have hj0 : j = 10 := by omega
          subst j
          rw [ck_rows, hrr] at hM
          subst hM
          refine lv_iload_n hx hb dd_Co_init_51 rfl (lv_at hl 0 rfl) ?_
          refine lv_aload_n hx hb dd_Co_init_52 rfl (lv_at hl 1 rfl) ?_
          refine ly_get (v := .int (10 : Int32)) C hP 0 rfl uw_Co rfl 0 (by decide) wa_206 rfl dd_Co_init_53 ?_
          refine lv_icmp_ge (tgt := 89) hx hb dd_Co_init_56 (by decide) (fun _ => ?_) (fun h => absurd (nI_le (a := 10) (b := 10) (by omega) (by omega)) h)
          refine W.widen (k := 1) (n := 11) (by omega) (by omega) ?_
          have en : ck_n x = 10 := by unfold ck_n; first | exact if_pos h7 | exact if_neg h7
          have eg : ck_g x = 1 := by unfold ck_g; first | exact if_pos h23 | (rw [if_neg h23]; first | exact if_pos h28 | exact if_neg h28)
          have hP : va_P D cl_all [(ah, .inr (1, [.int (nI (ck_n x)), .ref q44, .int (ck_g x)])), (q44, .inl (K 0, ck_n x, .inr (.inl (ck_r x))))] H := by rw [ck_r, en, eg]; exact hP
          have hD : va_D A [(ah, .inr (1, [.int (nI (ck_n x)), .ref q44, .int (ck_g x)])), (q44, .inl (K 0, ck_n x, .inr (.inl (ck_r x))))] := by rw [ck_r, en, eg]; exact hD
          exact ret (fun _ => q44) H locs 89 ls hS hP hD dd_Co_init_89
        | succ k ih51 =>
          intro j ro ls H locs hjk hM hl hP hD hS
          rw [ck_rows] at hM
          rw [if_neg (by decide)] at hM
          refine lv_iload_n hx hb dd_Co_init_51 rfl (lv_at hl 0 rfl) ?_
          refine lv_aload_n hx hb dd_Co_init_52 rfl (lv_at hl 1 rfl) ?_
          refine ly_get (v := .int (10 : Int32)) C hP 0 rfl uw_Co rfl 0 (by decide) wa_206 rfl dd_Co_init_53 ?_
          refine lv_icmp_ge (tgt := 89) hx hb dd_Co_init_56 (by decide) (fun h => absurd h (nI_ge (a := j) (b := 10) (by omega) (by omega))) (fun _ => ?_)
          refine lv_aload_n hx hb dd_Co_init_59 rfl (lv_at hl 1 rfl) ?_
          refine ly_get (v := .ref q44) C hP 0 rfl uw_Co rfl 1 (by decide) wa_209 rfl dd_Co_init_60 ?_
          refine lv_iload_n hx hb dd_Co_init_63 rfl (lv_at hl 0 rfl) ?_
          refine lv_aload_n hx hb dd_Co_init_64 rfl (lv_at hl 1 rfl) ?_
          refine ly_get (v := .int (1 : Int32)) C hP 0 rfl uw_Co rfl 2 (by decide) wa_207 rfl dd_Co_init_65 ?_
          refine lv_if_eq (tgt := 78) hx hb dd_Co_init_68 (by decide) (fun h => absurd h (by decide)) (fun _ => ?_)
          refine lv_iload_n hx hb dd_Co_init_71 rfl (lv_at hl 0 rfl) ?_
          obtain ⟨r_72, hq72⟩ : ∃ z, z = mm_Co_groupedRow j := ⟨_, rfl⟩
          try rw [← hq72] at hM
          refine ly_cS_l (n := 1) (z := r_72) (rest := [.int (nI j), .ref q44]) (wn := [(ah, .inr (1, [.int (10 : Int32), .ref q44, .int (1 : Int32)])), (q44, .inl (K 0, 10, .inr (.inl ro)))]) C (cc_Co_groupedRow D K j (by omega)) hq72 wa_219 wa_210 wa_41 wa_211 (by decide) (Nat.le_trans (by decide) hRf) (Nat.le_trans (by decide) hRl) rfl hl.1 rfl (Nat.le_of_ble_eq_true rfl) dd_Co_init_72 hcs [] [0, 1] [0, 1] hP hD hS rfl rfl (by decide) rfl (fun H locs hP hD hS => ?_)
          refine W.eq (g2 := F0 m 75 ls [.long r_72, .int (nI j), .ref q44]) rfl ?_
          refine lv_goto (tgt := 82) hx hb dd_Co_init_75 (by decide) ?_
          refine ly_last (ws' := [(ah, .inr (1, [.int (10 : Int32), .ref q44, .int (1 : Int32)])), (q44, .inl (K 0, 10, .inr (.inl (vp_updL ro j r_72))))]) C hP hD hS 1 rfl j rfl (by omega) (by omega) dd_Co_init_82 rfl (fun H locs hP hD hS => ?_)
          refine lv_iinc (k := 0) (v := (nI (j + 1))) (lv' := [(2, .int (nI (j + 1))), (0, .ref ah), (1, .int x)]) hx hb dd_Co_init_83 hl rfl (ly_incN _) (by decide) rfl (fun ls hl => ?_)
          refine lv_goto (tgt := 51) hx hb dd_Co_init_86 (by decide) ?_
          exact ih51 (j + 1) (vp_updL ro j r_72) ls H locs (by omega) hM (lv_sub hl [0, 1, 2] rfl) hP hD hS
      exact lp51 10 0 (fun _ => (0 : Int64)) ls H locs (by omega) hrr.symm (lv_sub hl [0, 1, 2] rfl) hP hD hS
    · skip
      refine lv_iload_n hx hb dd_Co_init_26 rfl (lv_at hl 1 rfl) ?_
      refine lv_iconst (v := (2 : Int32)) hx hb dd_Co_init_27 (by decide) ?_
      refine lv_icmp_ne (tgt := 35) hx hb dd_Co_init_28 (by decide) (fun h28 => ?_) (fun h28 => ?_)
      · skip
        refine lv_iconst (v := (0 : Int32)) hx hb dd_Co_init_35 (by decide) ?_
        refine ly_putF (ws' := [(ah, .inr (1, [.int (10 : Int32), .null, .int (0 : Int32)]))]) C hP hD hS 0 rfl uw_Co tt_Co nn_Co rfl 2 (by decide) wa_207 rfl hin rfl (by decide) (by decide) (Nat.le_of_ble_eq_true rfl) dd_Co_init_36 rfl (fun H locs hP hD hS => ?_)
        refine lv_aload_n hx hb dd_Co_init_39 rfl (lv_at hl 0 rfl) ?_
        refine lv_aload_n hx hb dd_Co_init_40 rfl (lv_at hl 0 rfl) ?_
        refine ly_get (v := .int (10 : Int32)) C hP 0 rfl uw_Co rfl 0 (by decide) wa_206 rfl dd_Co_init_41 ?_
        refine ly_newa (ty := .long) (at0 := .long) (a0 := (10, .inr (.inl (fun _ => (0 : Int64))))) C 0 rfl rfl (fun _ h => h) wa_208 hP hD hS 10 (fun _ => rfl) rfl (by omega) (by decide) (by omega) (by omega) dd_Co_init_44 (fun q44 H hP hD hS => ?_)
        refine W.widen (k := 1) (n := 10) (by omega) (by omega) ?_
        have hcs : 1 ≤ R.cells ∧ 10 ≤ R.slots := ⟨by omega, by omega⟩
        refine ly_putF (ws' := [(ah, .inr (1, [.int (10 : Int32), .ref q44, .int (0 : Int32)])), (q44, .inl (K 0, 10, .inr (.inl (fun _ => (0 : Int64)))))]) C hP hD hS 0 rfl uw_Co tt_Co nn_Co rfl 1 (by decide) wa_209 rfl hin rfl rfl rfl (Nat.le_of_ble_eq_true rfl) dd_Co_init_46 rfl (fun H locs hP hD hS => ?_)
        refine lv_iconst (v := (0 : Int32)) hx hb dd_Co_init_49 (by decide) ?_
        refine lv_istore_n (lv' := [(2, .int (0 : Int32)), (0, .ref ah), (1, .int x)]) hx hb dd_Co_init_50 rfl hl (by decide) rfl (fun ls hl => ?_)
        obtain ⟨resr, hrr⟩ : ∃ z, z = ck_rows (0 : Int32) 10 0 (fun _ => (0 : Int64)) := ⟨_, rfl⟩
        have lp51 : ∀ (k j : Nat) (ro : Nat → Int64) (ls : Array Slot) (H : Heap) (locs : List Loc), j + k = 10 → ck_rows (0 : Int32) k j ro = resr → lv_has ls 3 [(2, .int (nI j)), (0, .ref ah), (1, .int x)] → va_P D cl_all [(ah, .inr (1, [.int (10 : Int32), .ref q44, .int (0 : Int32)])), (q44, .inl (K 0, 10, .inr (.inl ro)))] H → va_D A [(ah, .inr (1, [.int (10 : Int32), .ref q44, .int (0 : Int32)])), (q44, .inl (K 0, 10, .inr (.inl ro)))] → va_S A s.heap H locs → W p l e R s m av below meth c H locs 1 10 Q (F0 m 51 ls []) := by
          intro k
          induction k with
          | zero =>
            intro j ro ls H locs hjk hM hl hP hD hS
            have hj0 : j = 10 := by omega
            subst j
            rw [ck_rows, hrr] at hM
            subst hM
            refine lv_iload_n hx hb dd_Co_init_51 rfl (lv_at hl 0 rfl) ?_
            refine lv_aload_n hx hb dd_Co_init_52 rfl (lv_at hl 1 rfl) ?_
            refine ly_get (v := .int (10 : Int32)) C hP 0 rfl uw_Co rfl 0 (by decide) wa_206 rfl dd_Co_init_53 ?_
            refine lv_icmp_ge (tgt := 89) hx hb dd_Co_init_56 (by decide) (fun _ => ?_) (fun h => absurd (nI_le (a := 10) (b := 10) (by omega) (by omega)) h)
            refine W.widen (k := 1) (n := 11) (by omega) (by omega) ?_
            have en : ck_n x = 10 := by unfold ck_n; first | exact if_pos h7 | exact if_neg h7
            have eg : ck_g x = 0 := by unfold ck_g; first | exact if_pos h23 | (rw [if_neg h23]; first | exact if_pos h28 | exact if_neg h28)
            have hP : va_P D cl_all [(ah, .inr (1, [.int (nI (ck_n x)), .ref q44, .int (ck_g x)])), (q44, .inl (K 0, ck_n x, .inr (.inl (ck_r x))))] H := by rw [ck_r, en, eg]; exact hP
            have hD : va_D A [(ah, .inr (1, [.int (nI (ck_n x)), .ref q44, .int (ck_g x)])), (q44, .inl (K 0, ck_n x, .inr (.inl (ck_r x))))] := by rw [ck_r, en, eg]; exact hD
            exact ret (fun _ => q44) H locs 89 ls hS hP hD dd_Co_init_89
          | succ k ih51 =>
            intro j ro ls H locs hjk hM hl hP hD hS
            rw [ck_rows] at hM
            rw [if_pos (by decide)] at hM
            refine lv_iload_n hx hb dd_Co_init_51 rfl (lv_at hl 0 rfl) ?_
            refine lv_aload_n hx hb dd_Co_init_52 rfl (lv_at hl 1 rfl) ?_
            refine ly_get (v := .int (10 : Int32)) C hP 0 rfl uw_Co rfl 0 (by decide) wa_206 rfl dd_Co_init_53 ?_
            refine lv_icmp_ge (tgt := 89) hx hb dd_Co_init_56 (by decide) (fun h => absurd h (nI_ge (a := j) (b := 10) (by omega) (by omega))) (fun _ => ?_)
            refine lv_aload_n hx hb dd_Co_init_59 rfl (lv_at hl 1 rfl) ?_
            refine ly_get (v := .ref q44) C hP 0 rfl uw_Co rfl 1 (by decide) wa_209 rfl dd_Co_init_60 ?_
            refine lv_iload_n hx hb dd_Co_init_63 rfl (lv_at hl 0 rfl) ?_
            refine lv_aload_n hx hb dd_Co_init_64 rfl (lv_at hl 1 rfl) ?_
            refine ly_get (v := .int (0 : Int32)) C hP 0 rfl uw_Co rfl 2 (by decide) wa_207 rfl dd_Co_init_65 ?_
            refine lv_if_eq (tgt := 78) hx hb dd_Co_init_68 (by decide) (fun _ => ?_) (fun h => absurd (by decide) h)
            refine lv_iload_n hx hb dd_Co_init_78 rfl (lv_at hl 0 rfl) ?_
            obtain ⟨r_79, hq79⟩ : ∃ z, z = mm_Co_plainRow j := ⟨_, rfl⟩
            try rw [← hq79] at hM
            refine ly_cS_l (n := 1) (z := r_79) (rest := [.int (nI j), .ref q44]) (wn := [(ah, .inr (1, [.int (10 : Int32), .ref q44, .int (0 : Int32)])), (q44, .inl (K 0, 10, .inr (.inl ro)))]) C (cc_Co_plainRow D K j) hq79 wa_214 wa_212 wa_41 wa_213 (by decide) (Nat.le_trans (by decide) hRf) (Nat.le_trans (by decide) hRl) rfl hl.1 rfl (Nat.le_of_ble_eq_true rfl) dd_Co_init_79 hcs [] [0, 1] [0, 1] hP hD hS rfl rfl (by decide) rfl (fun H locs hP hD hS => ?_)
            refine W.eq (g2 := F0 m 82 ls [.long r_79, .int (nI j), .ref q44]) rfl ?_
            refine ly_last (ws' := [(ah, .inr (1, [.int (10 : Int32), .ref q44, .int (0 : Int32)])), (q44, .inl (K 0, 10, .inr (.inl (vp_updL ro j r_79))))]) C hP hD hS 1 rfl j rfl (by omega) (by omega) dd_Co_init_82 rfl (fun H locs hP hD hS => ?_)
            refine lv_iinc (k := 0) (v := (nI (j + 1))) (lv' := [(2, .int (nI (j + 1))), (0, .ref ah), (1, .int x)]) hx hb dd_Co_init_83 hl rfl (ly_incN _) (by decide) rfl (fun ls hl => ?_)
            refine lv_goto (tgt := 51) hx hb dd_Co_init_86 (by decide) ?_
            exact ih51 (j + 1) (vp_updL ro j r_79) ls H locs (by omega) hM (lv_sub hl [0, 1, 2] rfl) hP hD hS
        exact lp51 10 0 (fun _ => (0 : Int64)) ls H locs (by omega) hrr.symm (lv_sub hl [0, 1, 2] rfl) hP hD hS
      · skip
        refine lv_iconst (v := (1 : Int32)) hx hb dd_Co_init_31 (by decide) ?_
        refine lv_goto (tgt := 36) hx hb dd_Co_init_32 (by decide) ?_
        refine ly_putF (ws' := [(ah, .inr (1, [.int (10 : Int32), .null, .int (1 : Int32)]))]) C hP hD hS 0 rfl uw_Co tt_Co nn_Co rfl 2 (by decide) wa_207 rfl hin rfl (by decide) (by decide) (Nat.le_of_ble_eq_true rfl) dd_Co_init_36 rfl (fun H locs hP hD hS => ?_)
        refine lv_aload_n hx hb dd_Co_init_39 rfl (lv_at hl 0 rfl) ?_
        refine lv_aload_n hx hb dd_Co_init_40 rfl (lv_at hl 0 rfl) ?_
        refine ly_get (v := .int (10 : Int32)) C hP 0 rfl uw_Co rfl 0 (by decide) wa_206 rfl dd_Co_init_41 ?_
        refine ly_newa (ty := .long) (at0 := .long) (a0 := (10, .inr (.inl (fun _ => (0 : Int64))))) C 0 rfl rfl (fun _ h => h) wa_208 hP hD hS 10 (fun _ => rfl) rfl (by omega) (by decide) (by omega) (by omega) dd_Co_init_44 (fun q44 H hP hD hS => ?_)
        refine W.widen (k := 1) (n := 10) (by omega) (by omega) ?_
        have hcs : 1 ≤ R.cells ∧ 10 ≤ R.slots := ⟨by omega, by omega⟩
        refine ly_putF (ws' := [(ah, .inr (1, [.int (10 : Int32), .ref q44, .int (1 : Int32)])), (q44, .inl (K 0, 10, .inr (.inl (fun _ => (0 : Int64)))))]) C hP hD hS 0 rfl uw_Co tt_Co nn_Co rfl 1 (by decide) wa_209 rfl hin rfl rfl rfl (Nat.le_of_ble_eq_true rfl) dd_Co_init_46 rfl (fun H locs hP hD hS => ?_)
        refine lv_iconst (v := (0 : Int32)) hx hb dd_Co_init_49 (by decide) ?_
        refine lv_istore_n (lv' := [(2, .int (0 : Int32)), (0, .ref ah), (1, .int x)]) hx hb dd_Co_init_50 rfl hl (by decide) rfl (fun ls hl => ?_)
        obtain ⟨resr, hrr⟩ : ∃ z, z = ck_rows (1 : Int32) 10 0 (fun _ => (0 : Int64)) := ⟨_, rfl⟩
        have lp51 : ∀ (k j : Nat) (ro : Nat → Int64) (ls : Array Slot) (H : Heap) (locs : List Loc), j + k = 10 → ck_rows (1 : Int32) k j ro = resr → lv_has ls 3 [(2, .int (nI j)), (0, .ref ah), (1, .int x)] → va_P D cl_all [(ah, .inr (1, [.int (10 : Int32), .ref q44, .int (1 : Int32)])), (q44, .inl (K 0, 10, .inr (.inl ro)))] H → va_D A [(ah, .inr (1, [.int (10 : Int32), .ref q44, .int (1 : Int32)])), (q44, .inl (K 0, 10, .inr (.inl ro)))] → va_S A s.heap H locs → W p l e R s m av below meth c H locs 1 10 Q (F0 m 51 ls []) := by
          intro k
          induction k with
          | zero =>
            intro j ro ls H locs hjk hM hl hP hD hS
            have hj0 : j = 10 := by omega
            subst j
            rw [ck_rows, hrr] at hM
            subst hM
            refine lv_iload_n hx hb dd_Co_init_51 rfl (lv_at hl 0 rfl) ?_
            refine lv_aload_n hx hb dd_Co_init_52 rfl (lv_at hl 1 rfl) ?_
            refine ly_get (v := .int (10 : Int32)) C hP 0 rfl uw_Co rfl 0 (by decide) wa_206 rfl dd_Co_init_53 ?_
            refine lv_icmp_ge (tgt := 89) hx hb dd_Co_init_56 (by decide) (fun _ => ?_) (fun h => absurd (nI_le (a := 10) (b := 10) (by omega) (by omega)) h)
            refine W.widen (k := 1) (n := 11) (by omega) (by omega) ?_
            have en : ck_n x = 10 := by unfold ck_n; first | exact if_pos h7 | exact if_neg h7
            have eg : ck_g x = 1 := by unfold ck_g; first | exact if_pos h23 | (rw [if_neg h23]; first | exact if_pos h28 | exact if_neg h28)
            have hP : va_P D cl_all [(ah, .inr (1, [.int (nI (ck_n x)), .ref q44, .int (ck_g x)])), (q44, .inl (K 0, ck_n x, .inr (.inl (ck_r x))))] H := by rw [ck_r, en, eg]; exact hP
            have hD : va_D A [(ah, .inr (1, [.int (nI (ck_n x)), .ref q44, .int (ck_g x)])), (q44, .inl (K 0, ck_n x, .inr (.inl (ck_r x))))] := by rw [ck_r, en, eg]; exact hD
            exact ret (fun _ => q44) H locs 89 ls hS hP hD dd_Co_init_89
          | succ k ih51 =>
            intro j ro ls H locs hjk hM hl hP hD hS
            rw [ck_rows] at hM
            rw [if_neg (by decide)] at hM
            refine lv_iload_n hx hb dd_Co_init_51 rfl (lv_at hl 0 rfl) ?_
            refine lv_aload_n hx hb dd_Co_init_52 rfl (lv_at hl 1 rfl) ?_
            refine ly_get (v := .int (10 : Int32)) C hP 0 rfl uw_Co rfl 0 (by decide) wa_206 rfl dd_Co_init_53 ?_
            refine lv_icmp_ge (tgt := 89) hx hb dd_Co_init_56 (by decide) (fun h => absurd h (nI_ge (a := j) (b := 10) (by omega) (by omega))) (fun _ => ?_)
            refine lv_aload_n hx hb dd_Co_init_59 rfl (lv_at hl 1 rfl) ?_
            refine ly_get (v := .ref q44) C hP 0 rfl uw_Co rfl 1 (by decide) wa_209 rfl dd_Co_init_60 ?_
            refine lv_iload_n hx hb dd_Co_init_63 rfl (lv_at hl 0 rfl) ?_
            refine lv_aload_n hx hb dd_Co_init_64 rfl (lv_at hl 1 rfl) ?_
            refine ly_get (v := .int (1 : Int32)) C hP 0 rfl uw_Co rfl 2 (by decide) wa_207 rfl dd_Co_init_65 ?_
            refine lv_if_eq (tgt := 78) hx hb dd_Co_init_68 (by decide) (fun h => absurd h (by decide)) (fun _ => ?_)
            refine lv_iload_n hx hb dd_Co_init_71 rfl (lv_at hl 0 rfl) ?_
            obtain ⟨r_72, hq72⟩ : ∃ z, z = mm_Co_groupedRow j := ⟨_, rfl⟩
            try rw [← hq72] at hM
            refine ly_cS_l (n := 1) (z := r_72) (rest := [.int (nI j), .ref q44]) (wn := [(ah, .inr (1, [.int (10 : Int32), .ref q44, .int (1 : Int32)])), (q44, .inl (K 0, 10, .inr (.inl ro)))]) C (cc_Co_groupedRow D K j (by omega)) hq72 wa_219 wa_210 wa_41 wa_211 (by decide) (Nat.le_trans (by decide) hRf) (Nat.le_trans (by decide) hRl) rfl hl.1 rfl (Nat.le_of_ble_eq_true rfl) dd_Co_init_72 hcs [] [0, 1] [0, 1] hP hD hS rfl rfl (by decide) rfl (fun H locs hP hD hS => ?_)
            refine W.eq (g2 := F0 m 75 ls [.long r_72, .int (nI j), .ref q44]) rfl ?_
            refine lv_goto (tgt := 82) hx hb dd_Co_init_75 (by decide) ?_
            refine ly_last (ws' := [(ah, .inr (1, [.int (10 : Int32), .ref q44, .int (1 : Int32)])), (q44, .inl (K 0, 10, .inr (.inl (vp_updL ro j r_72))))]) C hP hD hS 1 rfl j rfl (by omega) (by omega) dd_Co_init_82 rfl (fun H locs hP hD hS => ?_)
            refine lv_iinc (k := 0) (v := (nI (j + 1))) (lv' := [(2, .int (nI (j + 1))), (0, .ref ah), (1, .int x)]) hx hb dd_Co_init_83 hl rfl (ly_incN _) (by decide) rfl (fun ls hl => ?_)
            refine lv_goto (tgt := 51) hx hb dd_Co_init_86 (by decide) ?_
            exact ih51 (j + 1) (vp_updL ro j r_72) ls H locs (by omega) hM (lv_sub hl [0, 1, 2] rfl) hP hD hS
        exact lp51 10 0 (fun _ => (0 : Int64)) ls H locs (by omega) hrr.symm (lv_sub hl [0, 1, 2] rfl) hP hD hS
  · skip
    refine lv_bipush (v := (11 : Int32)) hx hb dd_Co_init_10 (by decide) ?_
    refine lv_goto (tgt := 17) hx hb dd_Co_init_12 (by decide) ?_
    refine ly_putF (ws' := [(ah, .inr (1, [.int (11 : Int32), .null, .int (0 : Int32)]))]) C hP hD hS 0 rfl uw_Co tt_Co nn_Co rfl 0 (by decide) wa_206 rfl hin rfl rfl rfl (Nat.le_of_ble_eq_true rfl) dd_Co_init_17 rfl (fun H locs hP hD hS => ?_)
    refine lv_aload_n hx hb dd_Co_init_20 rfl (lv_at hl 0 rfl) ?_
    refine lv_iload_n hx hb dd_Co_init_21 rfl (lv_at hl 1 rfl) ?_
    refine lv_iconst (v := (1 : Int32)) hx hb dd_Co_init_22 (by decide) ?_
    refine lv_icmp_eq (tgt := 31) hx hb dd_Co_init_23 (by decide) (fun h23 => ?_) (fun h23 => ?_)
    · skip
      refine lv_iconst (v := (1 : Int32)) hx hb dd_Co_init_31 (by decide) ?_
      refine lv_goto (tgt := 36) hx hb dd_Co_init_32 (by decide) ?_
      refine ly_putF (ws' := [(ah, .inr (1, [.int (11 : Int32), .null, .int (1 : Int32)]))]) C hP hD hS 0 rfl uw_Co tt_Co nn_Co rfl 2 (by decide) wa_207 rfl hin rfl (by decide) (by decide) (Nat.le_of_ble_eq_true rfl) dd_Co_init_36 rfl (fun H locs hP hD hS => ?_)
      refine lv_aload_n hx hb dd_Co_init_39 rfl (lv_at hl 0 rfl) ?_
      refine lv_aload_n hx hb dd_Co_init_40 rfl (lv_at hl 0 rfl) ?_
      refine ly_get (v := .int (11 : Int32)) C hP 0 rfl uw_Co rfl 0 (by decide) wa_206 rfl dd_Co_init_41 ?_
      refine ly_newa (ty := .long) (at0 := .long) (a0 := (11, .inr (.inl (fun _ => (0 : Int64))))) C 0 rfl rfl (fun _ h => h) wa_208 hP hD hS 11 (fun _ => rfl) rfl (by omega) (by decide) (by omega) (by omega) dd_Co_init_44 (fun q44 H hP hD hS => ?_)
      refine W.widen (k := 1) (n := 11) (by omega) (by omega) ?_
      have hcs : 1 ≤ R.cells ∧ 11 ≤ R.slots := ⟨by omega, by omega⟩
      refine ly_putF (ws' := [(ah, .inr (1, [.int (11 : Int32), .ref q44, .int (1 : Int32)])), (q44, .inl (K 0, 11, .inr (.inl (fun _ => (0 : Int64)))))]) C hP hD hS 0 rfl uw_Co tt_Co nn_Co rfl 1 (by decide) wa_209 rfl hin rfl rfl rfl (Nat.le_of_ble_eq_true rfl) dd_Co_init_46 rfl (fun H locs hP hD hS => ?_)
      refine lv_iconst (v := (0 : Int32)) hx hb dd_Co_init_49 (by decide) ?_
      refine lv_istore_n (lv' := [(2, .int (0 : Int32)), (0, .ref ah), (1, .int x)]) hx hb dd_Co_init_50 rfl hl (by decide) rfl (fun ls hl => ?_)
      obtain ⟨resr, hrr⟩ : ∃ z, z = ck_rows (1 : Int32) 11 0 (fun _ => (0 : Int64)) := ⟨_, rfl⟩
      have lp51 : ∀ (k j : Nat) (ro : Nat → Int64) (ls : Array Slot) (H : Heap) (locs : List Loc), j + k = 11 → ck_rows (1 : Int32) k j ro = resr → lv_has ls 3 [(2, .int (nI j)), (0, .ref ah), (1, .int x)] → va_P D cl_all [(ah, .inr (1, [.int (11 : Int32), .ref q44, .int (1 : Int32)])), (q44, .inl (K 0, 11, .inr (.inl ro)))] H → va_D A [(ah, .inr (1, [.int (11 : Int32), .ref q44, .int (1 : Int32)])), (q44, .inl (K 0, 11, .inr (.inl ro)))] → va_S A s.heap H locs → W p l e R s m av below meth c H locs 1 11 Q (F0 m 51 ls []) := by
        intro k
        induction k with
        | zero =>
          intro j ro ls H locs hjk hM hl hP hD hS
          have hj0 : j = 11 := by omega
          subst j
          rw [ck_rows, hrr] at hM
          subst hM
          refine lv_iload_n hx hb dd_Co_init_51 rfl (lv_at hl 0 rfl) ?_
          refine lv_aload_n hx hb dd_Co_init_52 rfl (lv_at hl 1 rfl) ?_
          refine ly_get (v := .int (11 : Int32)) C hP 0 rfl uw_Co rfl 0 (by decide) wa_206 rfl dd_Co_init_53 ?_
          refine lv_icmp_ge (tgt := 89) hx hb dd_Co_init_56 (by decide) (fun _ => ?_) (fun h => absurd (nI_le (a := 11) (b := 11) (by omega) (by omega)) h)
          refine W.widen (k := 1) (n := 11) (by omega) (by omega) ?_
          have en : ck_n x = 11 := by unfold ck_n; first | exact if_pos h7 | exact if_neg h7
          have eg : ck_g x = 1 := by unfold ck_g; first | exact if_pos h23 | (rw [if_neg h23]; first | exact if_pos h28 | exact if_neg h28)
          have hP : va_P D cl_all [(ah, .inr (1, [.int (nI (ck_n x)), .ref q44, .int (ck_g x)])), (q44, .inl (K 0, ck_n x, .inr (.inl (ck_r x))))] H := by rw [ck_r, en, eg]; exact hP
          have hD : va_D A [(ah, .inr (1, [.int (nI (ck_n x)), .ref q44, .int (ck_g x)])), (q44, .inl (K 0, ck_n x, .inr (.inl (ck_r x))))] := by rw [ck_r, en, eg]; exact hD
          exact ret (fun _ => q44) H locs 89 ls hS hP hD dd_Co_init_89
        | succ k ih51 =>
          intro j ro ls H locs hjk hM hl hP hD hS
          rw [ck_rows] at hM
          rw [if_neg (by decide)] at hM
          refine lv_iload_n hx hb dd_Co_init_51 rfl (lv_at hl 0 rfl) ?_
          refine lv_aload_n hx hb dd_Co_init_52 rfl (lv_at hl 1 rfl) ?_
          refine ly_get (v := .int (11 : Int32)) C hP 0 rfl uw_Co rfl 0 (by decide) wa_206 rfl dd_Co_init_53 ?_
          refine lv_icmp_ge (tgt := 89) hx hb dd_Co_init_56 (by decide) (fun h => absurd h (nI_ge (a := j) (b := 11) (by omega) (by omega))) (fun _ => ?_)
          refine lv_aload_n hx hb dd_Co_init_59 rfl (lv_at hl 1 rfl) ?_
          refine ly_get (v := .ref q44) C hP 0 rfl uw_Co rfl 1 (by decide) wa_209 rfl dd_Co_init_60 ?_
          refine lv_iload_n hx hb dd_Co_init_63 rfl (lv_at hl 0 rfl) ?_
          refine lv_aload_n hx hb dd_Co_init_64 rfl (lv_at hl 1 rfl) ?_
          refine ly_get (v := .int (1 : Int32)) C hP 0 rfl uw_Co rfl 2 (by decide) wa_207 rfl dd_Co_init_65 ?_
          refine lv_if_eq (tgt := 78) hx hb dd_Co_init_68 (by decide) (fun h => absurd h (by decide)) (fun _ => ?_)
          refine lv_iload_n hx hb dd_Co_init_71 rfl (lv_at hl 0 rfl) ?_
          obtain ⟨r_72, hq72⟩ : ∃ z, z = mm_Co_groupedRow j := ⟨_, rfl⟩
          try rw [← hq72] at hM
          refine ly_cS_l (n := 1) (z := r_72) (rest := [.int (nI j), .ref q44]) (wn := [(ah, .inr (1, [.int (11 : Int32), .ref q44, .int (1 : Int32)])), (q44, .inl (K 0, 11, .inr (.inl ro)))]) C (cc_Co_groupedRow D K j (by omega)) hq72 wa_219 wa_210 wa_41 wa_211 (by decide) (Nat.le_trans (by decide) hRf) (Nat.le_trans (by decide) hRl) rfl hl.1 rfl (Nat.le_of_ble_eq_true rfl) dd_Co_init_72 hcs [] [0, 1] [0, 1] hP hD hS rfl rfl (by decide) rfl (fun H locs hP hD hS => ?_)
          refine W.eq (g2 := F0 m 75 ls [.long r_72, .int (nI j), .ref q44]) rfl ?_
          refine lv_goto (tgt := 82) hx hb dd_Co_init_75 (by decide) ?_
          refine ly_last (ws' := [(ah, .inr (1, [.int (11 : Int32), .ref q44, .int (1 : Int32)])), (q44, .inl (K 0, 11, .inr (.inl (vp_updL ro j r_72))))]) C hP hD hS 1 rfl j rfl (by omega) (by omega) dd_Co_init_82 rfl (fun H locs hP hD hS => ?_)
          refine lv_iinc (k := 0) (v := (nI (j + 1))) (lv' := [(2, .int (nI (j + 1))), (0, .ref ah), (1, .int x)]) hx hb dd_Co_init_83 hl rfl (ly_incN _) (by decide) rfl (fun ls hl => ?_)
          refine lv_goto (tgt := 51) hx hb dd_Co_init_86 (by decide) ?_
          exact ih51 (j + 1) (vp_updL ro j r_72) ls H locs (by omega) hM (lv_sub hl [0, 1, 2] rfl) hP hD hS
      exact lp51 11 0 (fun _ => (0 : Int64)) ls H locs (by omega) hrr.symm (lv_sub hl [0, 1, 2] rfl) hP hD hS
    · skip
      refine lv_iload_n hx hb dd_Co_init_26 rfl (lv_at hl 1 rfl) ?_
      refine lv_iconst (v := (2 : Int32)) hx hb dd_Co_init_27 (by decide) ?_
      refine lv_icmp_ne (tgt := 35) hx hb dd_Co_init_28 (by decide) (fun h28 => ?_) (fun h28 => ?_)
      · skip
        refine lv_iconst (v := (0 : Int32)) hx hb dd_Co_init_35 (by decide) ?_
        refine ly_putF (ws' := [(ah, .inr (1, [.int (11 : Int32), .null, .int (0 : Int32)]))]) C hP hD hS 0 rfl uw_Co tt_Co nn_Co rfl 2 (by decide) wa_207 rfl hin rfl (by decide) (by decide) (Nat.le_of_ble_eq_true rfl) dd_Co_init_36 rfl (fun H locs hP hD hS => ?_)
        refine lv_aload_n hx hb dd_Co_init_39 rfl (lv_at hl 0 rfl) ?_
        refine lv_aload_n hx hb dd_Co_init_40 rfl (lv_at hl 0 rfl) ?_
        refine ly_get (v := .int (11 : Int32)) C hP 0 rfl uw_Co rfl 0 (by decide) wa_206 rfl dd_Co_init_41 ?_
        refine ly_newa (ty := .long) (at0 := .long) (a0 := (11, .inr (.inl (fun _ => (0 : Int64))))) C 0 rfl rfl (fun _ h => h) wa_208 hP hD hS 11 (fun _ => rfl) rfl (by omega) (by decide) (by omega) (by omega) dd_Co_init_44 (fun q44 H hP hD hS => ?_)
        refine W.widen (k := 1) (n := 11) (by omega) (by omega) ?_
        have hcs : 1 ≤ R.cells ∧ 11 ≤ R.slots := ⟨by omega, by omega⟩
        refine ly_putF (ws' := [(ah, .inr (1, [.int (11 : Int32), .ref q44, .int (0 : Int32)])), (q44, .inl (K 0, 11, .inr (.inl (fun _ => (0 : Int64)))))]) C hP hD hS 0 rfl uw_Co tt_Co nn_Co rfl 1 (by decide) wa_209 rfl hin rfl rfl rfl (Nat.le_of_ble_eq_true rfl) dd_Co_init_46 rfl (fun H locs hP hD hS => ?_)
        refine lv_iconst (v := (0 : Int32)) hx hb dd_Co_init_49 (by decide) ?_
        refine lv_istore_n (lv' := [(2, .int (0 : Int32)), (0, .ref ah), (1, .int x)]) hx hb dd_Co_init_50 rfl hl (by decide) rfl (fun ls hl => ?_)
        obtain ⟨resr, hrr⟩ : ∃ z, z = ck_rows (0 : Int32) 11 0 (fun _ => (0 : Int64)) := ⟨_, rfl⟩
        have lp51 : ∀ (k j : Nat) (ro : Nat → Int64) (ls : Array Slot) (H : Heap) (locs : List Loc), j + k = 11 → ck_rows (0 : Int32) k j ro = resr → lv_has ls 3 [(2, .int (nI j)), (0, .ref ah), (1, .int x)] → va_P D cl_all [(ah, .inr (1, [.int (11 : Int32), .ref q44, .int (0 : Int32)])), (q44, .inl (K 0, 11, .inr (.inl ro)))] H → va_D A [(ah, .inr (1, [.int (11 : Int32), .ref q44, .int (0 : Int32)])), (q44, .inl (K 0, 11, .inr (.inl ro)))] → va_S A s.heap H locs → W p l e R s m av below meth c H locs 1 11 Q (F0 m 51 ls []) := by
          intro k
          induction k with
          | zero =>
            intro j ro ls H locs hjk hM hl hP hD hS
            have hj0 : j = 11 := by omega
            subst j
            rw [ck_rows, hrr] at hM
            subst hM
            refine lv_iload_n hx hb dd_Co_init_51 rfl (lv_at hl 0 rfl) ?_
            refine lv_aload_n hx hb dd_Co_init_52 rfl (lv_at hl 1 rfl) ?_
            refine ly_get (v := .int (11 : Int32)) C hP 0 rfl uw_Co rfl 0 (by decide) wa_206 rfl dd_Co_init_53 ?_
            refine lv_icmp_ge (tgt := 89) hx hb dd_Co_init_56 (by decide) (fun _ => ?_) (fun h => absurd (nI_le (a := 11) (b := 11) (by omega) (by omega)) h)
            refine W.widen (k := 1) (n := 11) (by omega) (by omega) ?_
            have en : ck_n x = 11 := by unfold ck_n; first | exact if_pos h7 | exact if_neg h7
            have eg : ck_g x = 0 := by unfold ck_g; first | exact if_pos h23 | (rw [if_neg h23]; first | exact if_pos h28 | exact if_neg h28)
            have hP : va_P D cl_all [(ah, .inr (1, [.int (nI (ck_n x)), .ref q44, .int (ck_g x)])), (q44, .inl (K 0, ck_n x, .inr (.inl (ck_r x))))] H := by rw [ck_r, en, eg]; exact hP
            have hD : va_D A [(ah, .inr (1, [.int (nI (ck_n x)), .ref q44, .int (ck_g x)])), (q44, .inl (K 0, ck_n x, .inr (.inl (ck_r x))))] := by rw [ck_r, en, eg]; exact hD
            exact ret (fun _ => q44) H locs 89 ls hS hP hD dd_Co_init_89
          | succ k ih51 =>
            intro j ro ls H locs hjk hM hl hP hD hS
            rw [ck_rows] at hM
            rw [if_pos (by decide)] at hM
            refine lv_iload_n hx hb dd_Co_init_51 rfl (lv_at hl 0 rfl) ?_
            refine lv_aload_n hx hb dd_Co_init_52 rfl (lv_at hl 1 rfl) ?_
            refine ly_get (v := .int (11 : Int32)) C hP 0 rfl uw_Co rfl 0 (by decide) wa_206 rfl dd_Co_init_53 ?_
            refine lv_icmp_ge (tgt := 89) hx hb dd_Co_init_56 (by decide) (fun h => absurd h (nI_ge (a := j) (b := 11) (by omega) (by omega))) (fun _ => ?_)
            refine lv_aload_n hx hb dd_Co_init_59 rfl (lv_at hl 1 rfl) ?_
            refine ly_get (v := .ref q44) C hP 0 rfl uw_Co rfl 1 (by decide) wa_209 rfl dd_Co_init_60 ?_
            refine lv_iload_n hx hb dd_Co_init_63 rfl (lv_at hl 0 rfl) ?_
            refine lv_aload_n hx hb dd_Co_init_64 rfl (lv_at hl 1 rfl) ?_
            refine ly_get (v := .int (0 : Int32)) C hP 0 rfl uw_Co rfl 2 (by decide) wa_207 rfl dd_Co_init_65 ?_
            refine lv_if_eq (tgt := 78) hx hb dd_Co_init_68 (by decide) (fun _ => ?_) (fun h => absurd (by decide) h)
            refine lv_iload_n hx hb dd_Co_init_78 rfl (lv_at hl 0 rfl) ?_
            obtain ⟨r_79, hq79⟩ : ∃ z, z = mm_Co_plainRow j := ⟨_, rfl⟩
            try rw [← hq79] at hM
            refine ly_cS_l (n := 1) (z := r_79) (rest := [.int (nI j), .ref q44]) (wn := [(ah, .inr (1, [.int (11 : Int32), .ref q44, .int (0 : Int32)])), (q44, .inl (K 0, 11, .inr (.inl ro)))]) C (cc_Co_plainRow D K j) hq79 wa_214 wa_212 wa_41 wa_213 (by decide) (Nat.le_trans (by decide) hRf) (Nat.le_trans (by decide) hRl) rfl hl.1 rfl (Nat.le_of_ble_eq_true rfl) dd_Co_init_79 hcs [] [0, 1] [0, 1] hP hD hS rfl rfl (by decide) rfl (fun H locs hP hD hS => ?_)
            refine W.eq (g2 := F0 m 82 ls [.long r_79, .int (nI j), .ref q44]) rfl ?_
            refine ly_last (ws' := [(ah, .inr (1, [.int (11 : Int32), .ref q44, .int (0 : Int32)])), (q44, .inl (K 0, 11, .inr (.inl (vp_updL ro j r_79))))]) C hP hD hS 1 rfl j rfl (by omega) (by omega) dd_Co_init_82 rfl (fun H locs hP hD hS => ?_)
            refine lv_iinc (k := 0) (v := (nI (j + 1))) (lv' := [(2, .int (nI (j + 1))), (0, .ref ah), (1, .int x)]) hx hb dd_Co_init_83 hl rfl (ly_incN _) (by decide) rfl (fun ls hl => ?_)
            refine lv_goto (tgt := 51) hx hb dd_Co_init_86 (by decide) ?_
            exact ih51 (j + 1) (vp_updL ro j r_79) ls H locs (by omega) hM (lv_sub hl [0, 1, 2] rfl) hP hD hS
        exact lp51 11 0 (fun _ => (0 : Int64)) ls H locs (by omega) hrr.symm (lv_sub hl [0, 1, 2] rfl) hP hD hS
      · skip
        refine lv_iconst (v := (1 : Int32)) hx hb dd_Co_init_31 (by decide) ?_
        refine lv_goto (tgt := 36) hx hb dd_Co_init_32 (by decide) ?_
        refine ly_putF (ws' := [(ah, .inr (1, [.int (11 : Int32), .null, .int (1 : Int32)]))]) C hP hD hS 0 rfl uw_Co tt_Co nn_Co rfl 2 (by decide) wa_207 rfl hin rfl (by decide) (by decide) (Nat.le_of_ble_eq_true rfl) dd_Co_init_36 rfl (fun H locs hP hD hS => ?_)
        refine lv_aload_n hx hb dd_Co_init_39 rfl (lv_at hl 0 rfl) ?_
        refine lv_aload_n hx hb dd_Co_init_40 rfl (lv_at hl 0 rfl) ?_
        refine ly_get (v := .int (11 : Int32)) C hP 0 rfl uw_Co rfl 0 (by decide) wa_206 rfl dd_Co_init_41 ?_
        refine ly_newa (ty := .long) (at0 := .long) (a0 := (11, .inr (.inl (fun _ => (0 : Int64))))) C 0 rfl rfl (fun _ h => h) wa_208 hP hD hS 11 (fun _ => rfl) rfl (by omega) (by decide) (by omega) (by omega) dd_Co_init_44 (fun q44 H hP hD hS => ?_)
        refine W.widen (k := 1) (n := 11) (by omega) (by omega) ?_
        have hcs : 1 ≤ R.cells ∧ 11 ≤ R.slots := ⟨by omega, by omega⟩
        refine ly_putF (ws' := [(ah, .inr (1, [.int (11 : Int32), .ref q44, .int (1 : Int32)])), (q44, .inl (K 0, 11, .inr (.inl (fun _ => (0 : Int64)))))]) C hP hD hS 0 rfl uw_Co tt_Co nn_Co rfl 1 (by decide) wa_209 rfl hin rfl rfl rfl (Nat.le_of_ble_eq_true rfl) dd_Co_init_46 rfl (fun H locs hP hD hS => ?_)
        refine lv_iconst (v := (0 : Int32)) hx hb dd_Co_init_49 (by decide) ?_
        refine lv_istore_n (lv' := [(2, .int (0 : Int32)), (0, .ref ah), (1, .int x)]) hx hb dd_Co_init_50 rfl hl (by decide) rfl (fun ls hl => ?_)
        obtain ⟨resr, hrr⟩ : ∃ z, z = ck_rows (1 : Int32) 11 0 (fun _ => (0 : Int64)) := ⟨_, rfl⟩
        have lp51 : ∀ (k j : Nat) (ro : Nat → Int64) (ls : Array Slot) (H : Heap) (locs : List Loc), j + k = 11 → ck_rows (1 : Int32) k j ro = resr → lv_has ls 3 [(2, .int (nI j)), (0, .ref ah), (1, .int x)] → va_P D cl_all [(ah, .inr (1, [.int (11 : Int32), .ref q44, .int (1 : Int32)])), (q44, .inl (K 0, 11, .inr (.inl ro)))] H → va_D A [(ah, .inr (1, [.int (11 : Int32), .ref q44, .int (1 : Int32)])), (q44, .inl (K 0, 11, .inr (.inl ro)))] → va_S A s.heap H locs → W p l e R s m av below meth c H locs 1 11 Q (F0 m 51 ls []) := by
          intro k
          induction k with
          | zero =>
            intro j ro ls H locs hjk hM hl hP hD hS
            have hj0 : j = 11 := by omega
            subst j
            rw [ck_rows, hrr] at hM
            subst hM
            refine lv_iload_n hx hb dd_Co_init_51 rfl (lv_at hl 0 rfl) ?_
            refine lv_aload_n hx hb dd_Co_init_52 rfl (lv_at hl 1 rfl) ?_
            refine ly_get (v := .int (11 : Int32)) C hP 0 rfl uw_Co rfl 0 (by decide) wa_206 rfl dd_Co_init_53 ?_
            refine lv_icmp_ge (tgt := 89) hx hb dd_Co_init_56 (by decide) (fun _ => ?_) (fun h => absurd (nI_le (a := 11) (b := 11) (by omega) (by omega)) h)
            refine W.widen (k := 1) (n := 11) (by omega) (by omega) ?_
            have en : ck_n x = 11 := by unfold ck_n; first | exact if_pos h7 | exact if_neg h7
            have eg : ck_g x = 1 := by unfold ck_g; first | exact if_pos h23 | (rw [if_neg h23]; first | exact if_pos h28 | exact if_neg h28)
            have hP : va_P D cl_all [(ah, .inr (1, [.int (nI (ck_n x)), .ref q44, .int (ck_g x)])), (q44, .inl (K 0, ck_n x, .inr (.inl (ck_r x))))] H := by rw [ck_r, en, eg]; exact hP
            have hD : va_D A [(ah, .inr (1, [.int (nI (ck_n x)), .ref q44, .int (ck_g x)])), (q44, .inl (K 0, ck_n x, .inr (.inl (ck_r x))))] := by rw [ck_r, en, eg]; exact hD
            exact ret (fun _ => q44) H locs 89 ls hS hP hD dd_Co_init_89
          | succ k ih51 =>
            intro j ro ls H locs hjk hM hl hP hD hS
            rw [ck_rows] at hM
            rw [if_neg (by decide)] at hM
            refine lv_iload_n hx hb dd_Co_init_51 rfl (lv_at hl 0 rfl) ?_
            refine lv_aload_n hx hb dd_Co_init_52 rfl (lv_at hl 1 rfl) ?_
            refine ly_get (v := .int (11 : Int32)) C hP 0 rfl uw_Co rfl 0 (by decide) wa_206 rfl dd_Co_init_53 ?_
            refine lv_icmp_ge (tgt := 89) hx hb dd_Co_init_56 (by decide) (fun h => absurd h (nI_ge (a := j) (b := 11) (by omega) (by omega))) (fun _ => ?_)
            refine lv_aload_n hx hb dd_Co_init_59 rfl (lv_at hl 1 rfl) ?_
            refine ly_get (v := .ref q44) C hP 0 rfl uw_Co rfl 1 (by decide) wa_209 rfl dd_Co_init_60 ?_
            refine lv_iload_n hx hb dd_Co_init_63 rfl (lv_at hl 0 rfl) ?_
            refine lv_aload_n hx hb dd_Co_init_64 rfl (lv_at hl 1 rfl) ?_
            refine ly_get (v := .int (1 : Int32)) C hP 0 rfl uw_Co rfl 2 (by decide) wa_207 rfl dd_Co_init_65 ?_
            refine lv_if_eq (tgt := 78) hx hb dd_Co_init_68 (by decide) (fun h => absurd h (by decide)) (fun _ => ?_)
            refine lv_iload_n hx hb dd_Co_init_71 rfl (lv_at hl 0 rfl) ?_
            obtain ⟨r_72, hq72⟩ : ∃ z, z = mm_Co_groupedRow j := ⟨_, rfl⟩
            try rw [← hq72] at hM
            refine ly_cS_l (n := 1) (z := r_72) (rest := [.int (nI j), .ref q44]) (wn := [(ah, .inr (1, [.int (11 : Int32), .ref q44, .int (1 : Int32)])), (q44, .inl (K 0, 11, .inr (.inl ro)))]) C (cc_Co_groupedRow D K j (by omega)) hq72 wa_219 wa_210 wa_41 wa_211 (by decide) (Nat.le_trans (by decide) hRf) (Nat.le_trans (by decide) hRl) rfl hl.1 rfl (Nat.le_of_ble_eq_true rfl) dd_Co_init_72 hcs [] [0, 1] [0, 1] hP hD hS rfl rfl (by decide) rfl (fun H locs hP hD hS => ?_)
            refine W.eq (g2 := F0 m 75 ls [.long r_72, .int (nI j), .ref q44]) rfl ?_
            refine lv_goto (tgt := 82) hx hb dd_Co_init_75 (by decide) ?_
            refine ly_last (ws' := [(ah, .inr (1, [.int (11 : Int32), .ref q44, .int (1 : Int32)])), (q44, .inl (K 0, 11, .inr (.inl (vp_updL ro j r_72))))]) C hP hD hS 1 rfl j rfl (by omega) (by omega) dd_Co_init_82 rfl (fun H locs hP hD hS => ?_)
            refine lv_iinc (k := 0) (v := (nI (j + 1))) (lv' := [(2, .int (nI (j + 1))), (0, .ref ah), (1, .int x)]) hx hb dd_Co_init_83 hl rfl (ly_incN _) (by decide) rfl (fun ls hl => ?_)
            refine lv_goto (tgt := 51) hx hb dd_Co_init_86 (by decide) ?_
            exact ih51 (j + 1) (vp_updL ro j r_72) ls H locs (by omega) hM (lv_sub hl [0, 1, 2] rfl) hP hD hS
        exact lp51 11 0 (fun _ => (0 : Int64)) ls H locs (by omega) hrr.symm (lv_sub hl [0, 1, 2] rfl) hP hD hS
