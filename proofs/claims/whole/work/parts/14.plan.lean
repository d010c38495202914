def mm_In_bitCount (x : Int32) : Int32 := ((((((((x - ((x.toUInt32 >>> ((1 : Int32).toUInt32 &&& Int32.toUInt32 31)).toInt32 &&& (1431655765 : Int32))) &&& (858993459 : Int32)) + (((x - ((x.toUInt32 >>> ((1 : Int32).toUInt32 &&& Int32.toUInt32 31)).toInt32 &&& (1431655765 : Int32))).toUInt32 >>> ((2 : Int32).toUInt32 &&& Int32.toUInt32 31)).toInt32 &&& (858993459 : Int32))) + ((((x - ((x.toUInt32 >>> ((1 : Int32).toUInt32 &&& Int32.toUInt32 31)).toInt32 &&& (1431655765 : Int32))) &&& (858993459 : Int32)) + (((x - ((x.toUInt32 >>> ((1 : Int32).toUInt32 &&& Int32.toUInt32 31)).toInt32 &&& (1431655765 : Int32))).toUInt32 >>> ((2 : Int32).toUInt32 &&& Int32.toUInt32 31)).toInt32 &&& (858993459 : Int32))).toUInt32 >>> ((4 : Int32).toUInt32 &&& Int32.toUInt32 31)).toInt32) &&& (252645135 : Int32)) + ((((((x - ((x.toUInt32 >>> ((1 : Int32).toUInt32 &&& Int32.toUInt32 31)).toInt32 &&& (1431655765 : Int32))) &&& (858993459 : Int32)) + (((x - ((x.toUInt32 >>> ((1 : Int32).toUInt32 &&& Int32.toUInt32 31)).toInt32 &&& (1431655765 : Int32))).toUInt32 >>> ((2 : Int32).toUInt32 &&& Int32.toUInt32 31)).toInt32 &&& (858993459 : Int32))) + ((((x - ((x.toUInt32 >>> ((1 : Int32).toUInt32 &&& Int32.toUInt32 31)).toInt32 &&& (1431655765 : Int32))) &&& (858993459 : Int32)) + (((x - ((x.toUInt32 >>> ((1 : Int32).toUInt32 &&& Int32.toUInt32 31)).toInt32 &&& (1431655765 : Int32))).toUInt32 >>> ((2 : Int32).toUInt32 &&& Int32.toUInt32 31)).toInt32 &&& (858993459 : Int32))).toUInt32 >>> ((4 : Int32).toUInt32 &&& Int32.toUInt32 31)).toInt32) &&& (252645135 : Int32)).toUInt32 >>> ((8 : Int32).toUInt32 &&& Int32.toUInt32 31)).toInt32) + (((((((x - ((x.toUInt32 >>> ((1 : Int32).toUInt32 &&& Int32.toUInt32 31)).toInt32 &&& (1431655765 : Int32))) &&& (858993459 : Int32)) + (((x - ((x.toUInt32 >>> ((1 : Int32).toUInt32 &&& Int32.toUInt32 31)).toInt32 &&& (1431655765 : Int32))).toUInt32 >>> ((2 : Int32).toUInt32 &&& Int32.toUInt32 31)).toInt32 &&& (858993459 : Int32))) + ((((x - ((x.toUInt32 >>> ((1 : Int32).toUInt32 &&& Int32.toUInt32 31)).toInt32 &&& (1431655765 : Int32))) &&& (858993459 : Int32)) + (((x - ((x.toUInt32 >>> ((1 : Int32).toUInt32 &&& Int32.toUInt32 31)).toInt32 &&& (1431655765 : Int32))).toUInt32 >>> ((2 : Int32).toUInt32 &&& Int32.toUInt32 31)).toInt32 &&& (858993459 : Int32))).toUInt32 >>> ((4 : Int32).toUInt32 &&& Int32.toUInt32 31)).toInt32) &&& (252645135 : Int32)) + ((((((x - ((x.toUInt32 >>> ((1 : Int32).toUInt32 &&& Int32.toUInt32 31)).toInt32 &&& (1431655765 : Int32))) &&& (858993459 : Int32)) + (((x - ((x.toUInt32 >>> ((1 : Int32).toUInt32 &&& Int32.toUInt32 31)).toInt32 &&& (1431655765 : Int32))).toUInt32 >>> ((2 : Int32).toUInt32 &&& Int32.toUInt32 31)).toInt32 &&& (858993459 : Int32))) + ((((x - ((x.toUInt32 >>> ((1 : Int32).toUInt32 &&& Int32.toUInt32 31)).toInt32 &&& (1431655765 : Int32))) &&& (858993459 : Int32)) + (((x - ((x.toUInt32 >>> ((1 : Int32).toUInt32 &&& Int32.toUInt32 31)).toInt32 &&& (1431655765 : Int32))).toUInt32 >>> ((2 : Int32).toUInt32 &&& Int32.toUInt32 31)).toInt32 &&& (858993459 : Int32))).toUInt32 >>> ((4 : Int32).toUInt32 &&& Int32.toUInt32 31)).toInt32) &&& (252645135 : Int32)).toUInt32 >>> ((8 : Int32).toUInt32 &&& Int32.toUInt32 31)).toInt32).toUInt32 >>> ((16 : Int32).toUInt32 &&& Int32.toUInt32 31)).toInt32) &&& (63 : Int32))
set_option maxHeartbeats 4000000 in
set_option maxRecDepth 100000 in
theorem cc_In_bitCount {l : Launch} (D : va_G) (K : Nat → ClassId) (x : Int32) : ly_i l yy_In_bitCount bb_In_bitCount 1 (some .int) 0 0 D K [.int x] ([] : va_W) (fun z => z) (fun _ => ([] : va_W)) (mm_In_bitCount x) := by
  refine ly_entI (by decide) (Nat.le_of_ble_eq_true rfl) ?_
  intro p e s m av below meth c A ls R Q H locs res hM C hRf hRl hS hP hD hl ret
  obtain ⟨hx, hb, -⟩ := id C
  have hcs : 0 ≤ R.cells ∧ 0 ≤ R.slots := ⟨Nat.zero_le _, Nat.zero_le _⟩
  have hl : lv_has ls 1 [(0, .int x)] := hl
  rw [mm_In_bitCount] at hM
  refine lv_iload_n hx hb dd_In_bitCount_0 rfl (lv_at hl 0 rfl) ?_
  refine lv_iload_n hx hb dd_In_bitCount_1 rfl (lv_at hl 0 rfl) ?_
  refine lv_iconst (v := (1 : Int32)) hx hb dd_In_bitCount_2 (by decide) ?_
  refine lv_iushr (v := (x.toUInt32 >>> ((1 : Int32).toUInt32 &&& Int32.toUInt32 31)).toInt32) hx hb dd_In_bitCount_3 rfl ?_
  refine ly_ldcw (x := (1431655765 : Int32)) C wa_487 dd_In_bitCount_4 ?_
  refine lv_iand hx hb dd_In_bitCount_7 ?_
  refine lv_isub hx hb dd_In_bitCount_8 ?_
  refine lv_istore_n (lv' := [(0, .int (x - ((x.toUInt32 >>> ((1 : Int32).toUInt32 &&& Int32.toUInt32 31)).toInt32 &&& (1431655765 : Int32))))]) hx hb dd_In_bitCount_9 rfl hl (by decide) rfl (fun ls hl => ?_)
  refine lv_iload_n hx hb dd_In_bitCount_10 rfl (lv_at hl 0 rfl) ?_
  refine ly_ldcw (x := (858993459 : Int32)) C wa_488 dd_In_bitCount_11 ?_
  refine lv_iand hx hb dd_In_bitCount_14 ?_
  refine lv_iload_n hx hb dd_In_bitCount_15 rfl (lv_at hl 0 rfl) ?_
  refine lv_iconst (v := (2 : Int32)) hx hb dd_In_bitCount_16 (by decide) ?_
  refine lv_iushr (v := ((x - ((x.toUInt32 >>> ((1 : Int32).toUInt32 &&& Int32.toUInt32 31)).toInt32 &&& (1431655765 : Int32))).toUInt32 >>> ((2 : Int32).toUInt32 &&& Int32.toUInt32 31)).toInt32) hx hb dd_In_bitCount_17 rfl ?_
  refine ly_ldcw (x := (858993459 : Int32)) C wa_488 dd_In_bitCount_18 ?_
  refine lv_iand hx hb dd_In_bitCount_21 ?_
  refine lv_iadd hx hb dd_In_bitCount_22 ?_
  refine lv_istore_n (lv' := [(0, .int (((x - ((x.toUInt32 >>> ((1 : Int32).toUInt32 &&& Int32.toUInt32 31)).toInt32 &&& (1431655765 : Int32))) &&& (858993459 : Int32)) + (((x - ((x.toUInt32 >>> ((1 : Int32).toUInt32 &&& Int32.toUInt32 31)).toInt32 &&& (1431655765 : Int32))).toUInt32 >>> ((2 : Int32).toUInt32 &&& Int32.toUInt32 31)).toInt32 &&& (858993459 : Int32))))]) hx hb dd_In_bitCount_23 rfl hl (by decide) rfl (fun ls hl => ?_)
  refine lv_iload_n hx hb dd_In_bitCount_24 rfl (lv_at hl 0 rfl) ?_
  refine lv_iload_n hx hb dd_In_bitCount_25 rfl (lv_at hl 0 rfl) ?_
  refine lv_iconst (v := (4 : Int32)) hx hb dd_In_bitCount_26 (by decide) ?_
  refine lv_iushr (v := ((((x - ((x.toUInt32 >>> ((1 : Int32).toUInt32 &&& Int32.toUInt32 31)).toInt32 &&& (1431655765 : Int32))) &&& (858993459 : Int32)) + (((x - ((x.toUInt32 >>> ((1 : Int32).toUInt32 &&& Int32.toUInt32 31)).toInt32 &&& (1431655765 : Int32))).toUInt32 >>> ((2 : Int32).toUInt32 &&& Int32.toUInt32 31)).toInt32 &&& (858993459 : Int32))).toUInt32 >>> ((4 : Int32).toUInt32 &&& Int32.toUInt32 31)).toInt32) hx hb dd_In_bitCount_27 rfl ?_
  refine lv_iadd hx hb dd_In_bitCount_28 ?_
  refine ly_ldcw (x := (252645135 : Int32)) C wa_489 dd_In_bitCount_29 ?_
  refine lv_iand hx hb dd_In_bitCount_32 ?_
  refine lv_istore_n (lv' := [(0, .int (((((x - ((x.toUInt32 >>> ((1 : Int32).toUInt32 &&& Int32.toUInt32 31)).toInt32 &&& (1431655765 : Int32))) &&& (858993459 : Int32)) + (((x - ((x.toUInt32 >>> ((1 : Int32).toUInt32 &&& Int32.toUInt32 31)).toInt32 &&& (1431655765 : Int32))).toUInt32 >>> ((2 : Int32).toUInt32 &&& Int32.toUInt32 31)).toInt32 &&& (858993459 : Int32))) + ((((x - ((x.toUInt32 >>> ((1 : Int32).toUInt32 &&& Int32.toUInt32 31)).toInt32 &&& (1431655765 : Int32))) &&& (858993459 : Int32)) + (((x - ((x.toUInt32 >>> ((1 : Int32).toUInt32 &&& Int32.toUInt32 31)).toInt32 &&& (1431655765 : Int32))).toUInt32 >>> ((2 : Int32).toUInt32 &&& Int32.toUInt32 31)).toInt32 &&& (858993459 : Int32))).toUInt32 >>> ((4 : Int32).toUInt32 &&& Int32.toUInt32 31)).toInt32) &&& (252645135 : Int32)))]) hx hb dd_In_bitCount_33 rfl hl (by decide) rfl (fun ls hl => ?_)
  refine lv_iload_n hx hb dd_In_bitCount_34 rfl (lv_at hl 0 rfl) ?_
  refine lv_iload_n hx hb dd_In_bitCount_35 rfl (lv_at hl 0 rfl) ?_
  refine lv_bipush (v := (8 : Int32)) hx hb dd_In_bitCount_36 (by decide) ?_
  refine lv_iushr (v := ((((((x - ((x.toUInt32 >>> ((1 : Int32).toUInt32 &&& Int32.toUInt32 31)).toInt32 &&& (1431655765 : Int32))) &&& (858993459 : Int32)) + (((x - ((x.toUInt32 >>> ((1 : Int32).toUInt32 &&& Int32.toUInt32 31)).toInt32 &&& (1431655765 : Int32))).toUInt32 >>> ((2 : Int32).toUInt32 &&& Int32.toUInt32 31)).toInt32 &&& (858993459 : Int32))) + ((((x - ((x.toUInt32 >>> ((1 : Int32).toUInt32 &&& Int32.toUInt32 31)).toInt32 &&& (1431655765 : Int32))) &&& (858993459 : Int32)) + (((x - ((x.toUInt32 >>> ((1 : Int32).toUInt32 &&& Int32.toUInt32 31)).toInt32 &&& (1431655765 : Int32))).toUInt32 >>> ((2 : Int32).toUInt32 &&& Int32.toUInt32 31)).toInt32 &&& (858993459 : Int32))).toUInt32 >>> ((4 : Int32).toUInt32 &&& Int32.toUInt32 31)).toInt32) &&& (252645135 : Int32)).toUInt32 >>> ((8 : Int32).toUInt32 &&& Int32.toUInt32 31)).toInt32) hx hb dd_In_bitCount_38 rfl ?_
  refine lv_iadd hx hb dd_In_bitCount_39 ?_
  refine lv_istore_n (lv' := [(0, .int ((((((x - ((x.toUInt32 >>> ((1 : Int32).toUInt32 &&& Int32.toUInt32 31)).toInt32 &&& (1431655765 : Int32))) &&& (858993459 : Int32)) + (((x - ((x.toUInt32 >>> ((1 : Int32).toUInt32 &&& Int32.toUInt32 31)).toInt32 &&& (1431655765 : Int32))).toUInt32 >>> ((2 : Int32).toUInt32 &&& Int32.toUInt32 31)).toInt32 &&& (858993459 : Int32))) + ((((x - ((x.toUInt32 >>> ((1 : Int32).toUInt32 &&& Int32.toUInt32 31)).toInt32 &&& (1431655765 : Int32))) &&& (858993459 : Int32)) + (((x - ((x.toUInt32 >>> ((1 : Int32).toUInt32 &&& Int32.toUInt32 31)).toInt32 &&& (1431655765 : Int32))).toUInt32 >>> ((2 : Int32).toUInt32 &&& Int32.toUInt32 31)).toInt32 &&& (858993459 : Int32))).toUInt32 >>> ((4 : Int32).toUInt32 &&& Int32.toUInt32 31)).toInt32) &&& (252645135 : Int32)) + ((((((x - ((x.toUInt32 >>> ((1 : Int32).toUInt32 &&& Int32.toUInt32 31)).toInt32 &&& (1431655765 : Int32))) &&& (858993459 : Int32)) + (((x - ((x.toUInt32 >>> ((1 : Int32).toUInt32 &&& Int32.toUInt32 31)).toInt32 &&& (1431655765 : Int32))).toUInt32 >>> ((2 : Int32).toUInt32 &&& Int32.toUInt32 31)).toInt32 &&& (858993459 : Int32))) + ((((x - ((x.toUInt32 >>> ((1 : Int32).toUInt32 &&& Int32.toUInt32 31)).toInt32 &&& (1431655765 : Int32))) &&& (858993459 : Int32)) + (((x - ((x.toUInt32 >>> ((1 : Int32).toUInt32 &&& Int32.toUInt32 31)).toInt32 &&& (1431655765 : Int32))).toUInt32 >>> ((2 : Int32).toUInt32 &&& Int32.toUInt32 31)).toInt32 &&& (858993459 : Int32))).toUInt32 >>> ((4 : Int32).toUInt32 &&& Int32.toUInt32 31)).toInt32) &&& (252645135 : Int32)).toUInt32 >>> ((8 : Int32).toUInt32 &&& Int32.toUInt32 31)).toInt32))]) hx hb dd_In_bitCount_40 rfl hl (by decide) rfl (fun ls hl => ?_)
  refine lv_iload_n hx hb dd_In_bitCount_41 rfl (lv_at hl 0 rfl) ?_
  refine lv_iload_n hx hb dd_In_bitCount_42 rfl (lv_at hl 0 rfl) ?_
  refine lv_bipush (v := (16 : Int32)) hx hb dd_In_bitCount_43 (by decide) ?_
  refine lv_iushr (v := (((((((x - ((x.toUInt32 >>> ((1 : Int32).toUInt32 &&& Int32.toUInt32 31)).toInt32 &&& (1431655765 : Int32))) &&& (858993459 : Int32)) + (((x - ((x.toUInt32 >>> ((1 : Int32).toUInt32 &&& Int32.toUInt32 31)).toInt32 &&& (1431655765 : Int32))).toUInt32 >>> ((2 : Int32).toUInt32 &&& Int32.toUInt32 31)).toInt32 &&& (858993459 : Int32))) + ((((x - ((x.toUInt32 >>> ((1 : Int32).toUInt32 &&& Int32.toUInt32 31)).toInt32 &&& (1431655765 : Int32))) &&& (858993459 : Int32)) + (((x - ((x.toUInt32 >>> ((1 : Int32).toUInt32 &&& Int32.toUInt32 31)).toInt32 &&& (1431655765 : Int32))).toUInt32 >>> ((2 : Int32).toUInt32 &&& Int32.toUInt32 31)).toInt32 &&& (858993459 : Int32))).toUInt32 >>> ((4 : Int32).toUInt32 &&& Int32.toUInt32 31)).toInt32) &&& (252645135 : Int32)) + ((((((x - ((x.toUInt32 >>> ((1 : Int32).toUInt32 &&& Int32.toUInt32 31)).toInt32 &&& (1431655765 : Int32))) &&& (858993459 : Int32)) + (((x - ((x.toUInt32 >>> ((1 : Int32).toUInt32 &&& Int32.toUInt32 31)).toInt32 &&& (1431655765 : Int32))).toUInt32 >>> ((2 : Int32).toUInt32 &&& Int32.toUInt32 31)).toInt32 &&& (858993459 : Int32))) + ((((x - ((x.toUInt32 >>> ((1 : Int32).toUInt32 &&& Int32.toUInt32 31)).toInt32 &&& (1431655765 : Int32))) &&& (858993459 : Int32)) + (((x - ((x.toUInt32 >>> ((1 : Int32).toUInt32 &&& Int32.toUInt32 31)).toInt32 &&& (1431655765 : Int32))).toUInt32 >>> ((2 : Int32).toUInt32 &&& Int32.toUInt32 31)).toInt32 &&& (858993459 : Int32))).toUInt32 >>> ((4 : Int32).toUInt32 &&& Int32.toUInt32 31)).toInt32) &&& (252645135 : Int32)).toUInt32 >>> ((8 : Int32).toUInt32 &&& Int32.toUInt32 31)).toInt32).toUInt32 >>> ((16 : Int32).toUInt32 &&& Int32.toUInt32 31)).toInt32) hx hb dd_In_bitCount_45 rfl ?_
  refine lv_iadd hx hb dd_In_bitCount_46 ?_
  refine lv_istore_n (lv' := [(0, .int (((((((x - ((x.toUInt32 >>> ((1 : Int32).toUInt32 &&& Int32.toUInt32 31)).toInt32 &&& (1431655765 : Int32))) &&& (858993459 : Int32)) + (((x - ((x.toUInt32 >>> ((1 : Int32).toUInt32 &&& Int32.toUInt32 31)).toInt32 &&& (1431655765 : Int32))).toUInt32 >>> ((2 : Int32).toUInt32 &&& Int32.toUInt32 31)).toInt32 &&& (858993459 : Int32))) + ((((x - ((x.toUInt32 >>> ((1 : Int32).toUInt32 &&& Int32.toUInt32 31)).toInt32 &&& (1431655765 : Int32))) &&& (858993459 : Int32)) + (((x - ((x.toUInt32 >>> ((1 : Int32).toUInt32 &&& Int32.toUInt32 31)).toInt32 &&& (1431655765 : Int32))).toUInt32 >>> ((2 : Int32).toUInt32 &&& Int32.toUInt32 31)).toInt32 &&& (858993459 : Int32))).toUInt32 >>> ((4 : Int32).toUInt32 &&& Int32.toUInt32 31)).toInt32) &&& (252645135 : Int32)) + ((((((x - ((x.toUInt32 >>> ((1 : Int32).toUInt32 &&& Int32.toUInt32 31)).toInt32 &&& (1431655765 : Int32))) &&& (858993459 : Int32)) + (((x - ((x.toUInt32 >>> ((1 : Int32).toUInt32 &&& Int32.toUInt32 31)).toInt32 &&& (1431655765 : Int32))).toUInt32 >>> ((2 : Int32).toUInt32 &&& Int32.toUInt32 31)).toInt32 &&& (858993459 : Int32))) + ((((x - ((x.toUInt32 >>> ((1 : Int32).toUInt32 &&& Int32.toUInt32 31)).toInt32 &&& (1431655765 : Int32))) &&& (858993459 : Int32)) + (((x - ((x.toUInt32 >>> ((1 : Int32).toUInt32 &&& Int32.toUInt32 31)).toInt32 &&& (1431655765 : Int32))).toUInt32 >>> ((2 : Int32).toUInt32 &&& Int32.toUInt32 31)).toInt32 &&& (858993459 : Int32))).toUInt32 >>> ((4 : Int32).toUInt32 &&& Int32.toUInt32 31)).toInt32) &&& (252645135 : Int32)).toUInt32 >>> ((8 : Int32).toUInt32 &&& Int32.toUInt32 31)).toInt32) + (((((((x - ((x.toUInt32 >>> ((1 : Int32).toUInt32 &&& Int32.toUInt32 31)).toInt32 &&& (1431655765 : Int32))) &&& (858993459 : Int32)) + (((x - ((x.toUInt32 >>> ((1 : Int32).toUInt32 &&& Int32.toUInt32 31)).toInt32 &&& (1431655765 : Int32))).toUInt32 >>> ((2 : Int32).toUInt32 &&& Int32.toUInt32 31)).toInt32 &&& (858993459 : Int32))) + ((((x - ((x.toUInt32 >>> ((1 : Int32).toUInt32 &&& Int32.toUInt32 31)).toInt32 &&& (1431655765 : Int32))) &&& (858993459 : Int32)) + (((x - ((x.toUInt32 >>> ((1 : Int32).toUInt32 &&& Int32.toUInt32 31)).toInt32 &&& (1431655765 : Int32))).toUInt32 >>> ((2 : Int32).toUInt32 &&& Int32.toUInt32 31)).toInt32 &&& (858993459 : Int32))).toUInt32 >>> ((4 : Int32).toUInt32 &&& Int32.toUInt32 31)).toInt32) &&& (252645135 : Int32)) + ((((((x - ((x.toUInt32 >>> ((1 : Int32).toUInt32 &&& Int32.toUInt32 31)).toInt32 &&& (1431655765 : Int32))) &&& (858993459 : Int32)) + (((x - ((x.toUInt32 >>> ((1 : Int32).toUInt32 &&& Int32.toUInt32 31)).toInt32 &&& (1431655765 : Int32))).toUInt32 >>> ((2 : Int32).toUInt32 &&& Int32.toUInt32 31)).toInt32 &&& (858993459 : Int32))) + ((((x - ((x.toUInt32 >>> ((1 : Int32).toUInt32 &&& Int32.toUInt32 31)).toInt32 &&& (1431655765 : Int32))) &&& (858993459 : Int32)) + (((x - ((x.toUInt32 >>> ((1 : Int32).toUInt32 &&& Int32.toUInt32 31)).toInt32 &&& (1431655765 : Int32))).toUInt32 >>> ((2 : Int32).toUInt32 &&& Int32.toUInt32 31)).toInt32 &&& (858993459 : Int32))).toUInt32 >>> ((4 : Int32).toUInt32 &&& Int32.toUInt32 31)).toInt32) &&& (252645135 : Int32)).toUInt32 >>> ((8 : Int32).toUInt32 &&& Int32.toUInt32 31)).toInt32).toUInt32 >>> ((16 : Int32).toUInt32 &&& Int32.toUInt32 31)).toInt32))]) hx hb dd_In_bitCount_47 rfl hl (by decide) rfl (fun ls hl => ?_)
  refine lv_iload_n hx hb dd_In_bitCount_48 rfl (lv_at hl 0 rfl) ?_
  refine lv_bipush (v := (63 : Int32)) hx hb dd_In_bitCount_49 (by decide) ?_
  refine lv_iand hx hb dd_In_bitCount_51 ?_
  exact ret ((((((((x - ((x.toUInt32 >>> ((1 : Int32).toUInt32 &&& Int32.toUInt32 31)).toInt32 &&& (1431655765 : Int32))) &&& (858993459 : Int32)) + (((x - ((x.toUInt32 >>> ((1 : Int32).toUInt32 &&& Int32.toUInt32 31)).toInt32 &&& (1431655765 : Int32))).toUInt32 >>> ((2 : Int32).toUInt32 &&& Int32.toUInt32 31)).toInt32 &&& (858993459 : Int32))) + ((((x - ((x.toUInt32 >>> ((1 : Int32).toUInt32 &&& Int32.toUInt32 31)).toInt32 &&& (1431655765 : Int32))) &&& (858993459 : Int32)) + (((x - ((x.toUInt32 >>> ((1 : Int32).toUInt32 &&& Int32.toUInt32 31)).toInt32 &&& (1431655765 : Int32))).toUInt32 >>> ((2 : Int32).toUInt32 &&& Int32.toUInt32 31)).toInt32 &&& (858993459 : Int32))).toUInt32 >>> ((4 : Int32).toUInt32 &&& Int32.toUInt32 31)).toInt32) &&& (252645135 : Int32)) + ((((((x - ((x.toUInt32 >>> ((1 : Int32).toUInt32 &&& Int32.toUInt32 31)).toInt32 &&& (1431655765 : Int32))) &&& (858993459 : Int32)) + (((x - ((x.toUInt32 >>> ((1 : Int32).toUInt32 &&& Int32.toUInt32 31)).toInt32 &&& (1431655765 : Int32))).toUInt32 >>> ((2 : Int32).toUInt32 &&& Int32.toUInt32 31)).toInt32 &&& (858993459 : Int32))) + ((((x - ((x.toUInt32 >>> ((1 : Int32).toUInt32 &&& Int32.toUInt32 31)).toInt32 &&& (1431655765 : Int32))) &&& (858993459 : Int32)) + (((x - ((x.toUInt32 >>> ((1 : Int32).toUInt32 &&& Int32.toUInt32 31)).toInt32 &&& (1431655765 : Int32))).toUInt32 >>> ((2 : Int32).toUInt32 &&& Int32.toUInt32 31)).toInt32 &&& (858993459 : Int32))).toUInt32 >>> ((4 : Int32).toUInt32 &&& Int32.toUInt32 31)).toInt32) &&& (252645135 : Int32)).toUInt32 >>> ((8 : Int32).toUInt32 &&& Int32.toUInt32 31)).toInt32) + (((((((x - ((x.toUInt32 >>> ((1 : Int32).toUInt32 &&& Int32.toUInt32 31)).toInt32 &&& (1431655765 : Int32))) &&& (858993459 : Int32)) + (((x - ((x.toUInt32 >>> ((1 : Int32).toUInt32 &&& Int32.toUInt32 31)).toInt32 &&& (1431655765 : Int32))).toUInt32 >>> ((2 : Int32).toUInt32 &&& Int32.toUInt32 31)).toInt32 &&& (858993459 : Int32))) + ((((x - ((x.toUInt32 >>> ((1 : Int32).toUInt32 &&& Int32.toUInt32 31)).toInt32 &&& (1431655765 : Int32))) &&& (858993459 : Int32)) + (((x - ((x.toUInt32 >>> ((1 : Int32).toUInt32 &&& Int32.toUInt32 31)).toInt32 &&& (1431655765 : Int32))).toUInt32 >>> ((2 : Int32).toUInt32 &&& Int32.toUInt32 31)).toInt32 &&& (858993459 : Int32))).toUInt32 >>> ((4 : Int32).toUInt32 &&& Int32.toUInt32 31)).toInt32) &&& (252645135 : Int32)) + ((((((x - ((x.toUInt32 >>> ((1 : Int32).toUInt32 &&& Int32.toUInt32 31)).toInt32 &&& (1431655765 : Int32))) &&& (858993459 : Int32)) + (((x - ((x.toUInt32 >>> ((1 : Int32).toUInt32 &&& Int32.toUInt32 31)).toInt32 &&& (1431655765 : Int32))).toUInt32 >>> ((2 : Int32).toUInt32 &&& Int32.toUInt32 31)).toInt32 &&& (858993459 : Int32))) + ((((x - ((x.toUInt32 >>> ((1 : Int32).toUInt32 &&& Int32.toUInt32 31)).toInt32 &&& (1431655765 : Int32))) &&& (858993459 : Int32)) + (((x - ((x.toUInt32 >>> ((1 : Int32).toUInt32 &&& Int32.toUInt32 31)).toInt32 &&& (1431655765 : Int32))).toUInt32 >>> ((2 : Int32).toUInt32 &&& Int32.toUInt32 31)).toInt32 &&& (858993459 : Int32))).toUInt32 >>> ((4 : Int32).toUInt32 &&& Int32.toUInt32 31)).toInt32) &&& (252645135 : Int32)).toUInt32 >>> ((8 : Int32).toUInt32 &&& Int32.toUInt32 31)).toInt32).toUInt32 >>> ((16 : Int32).toUInt32 &&& Int32.toUInt32 31)).toInt32) &&& (63 : Int32)) H locs 52 ls hM rfl hS hP hD dd_In_bitCount_52

def mm_RG_globalPlan (x : Int32) : Int32 := (if (mm_In_bitCount x) = (6 : Int32) then x else (0 : Int32))
set_option maxHeartbeats 4000000 in
set_option maxRecDepth 100000 in
theorem cc_RG_globalPlan {l : Launch} (D : va_G) (K : Nat → ClassId) (x : Int32) : ly_i l yy_RG_globalPlan bb_RG_globalPlan 1 (some .int) 1 20 D K [.int x] ([] : va_W) (fun z => z) (fun _ => ([] : va_W)) (mm_RG_globalPlan x) := by
  refine ly_entI (by decide) (Nat.le_of_ble_eq_true rfl) ?_
  intro p e s m av below meth c A ls R Q H locs res hM C hRf hRl hS hP hD hl ret
  obtain ⟨hx, hb, -⟩ := id C
  have hcs : 0 ≤ R.cells ∧ 0 ≤ R.slots := ⟨Nat.zero_le _, Nat.zero_le _⟩
  have hl : lv_has ls 1 [(0, .int x)] := hl
  rw [mm_RG_globalPlan] at hM
  refine lv_iload_n hx hb dd_RG_globalPlan_0 rfl (lv_at hl 0 rfl) ?_
  obtain ⟨r_1, hq1⟩ : ∃ z, z = mm_In_bitCount x := ⟨_, rfl⟩
  try rw [← hq1] at hM
  refine ly_cS_i (n := 1) (z := r_1) (rest := []) (wn := ([] : va_W)) C (cc_In_bitCount D K x) hq1 wa_486 wa_116 wa_117 wa_118 (by decide) (Nat.le_trans (by decide) hRf) (Nat.le_trans (by decide) hRl) rfl hl.1 rfl (Nat.le_of_ble_eq_true rfl) dd_RG_globalPlan_1 hcs [] [] [] hP hD hS rfl rfl (by decide) rfl (fun H locs hP hD hS => ?_)
  refine W.eq (g2 := F0 m 4 ls [.int r_1]) rfl ?_
  refine lv_bipush (v := (6 : Int32)) hx hb dd_RG_globalPlan_4 (by decide) ?_
  refine lv_icmp_ne (tgt := 13) hx hb dd_RG_globalPlan_6 (by decide) (fun h6 => ?_) (fun h6 => ?_)
  · rw [if_neg h6] at hM
    refine lv_iconst (v := (0 : Int32)) hx hb dd_RG_globalPlan_13 (by decide) ?_
    exact ret (0 : Int32) H locs 14 ls hM rfl hS hP hD dd_RG_globalPlan_14
  · rw [if_pos h6] at hM
    refine lv_iload_n hx hb dd_RG_globalPlan_9 rfl (lv_at hl 0 rfl) ?_
    refine lv_goto (tgt := 14) hx hb dd_RG_globalPlan_10 (by decide) ?_
    exact ret x H locs 14 ls hM rfl hS hP hD dd_RG_globalPlan_14

def mm_RG_localPlan (i : Nat) (n : Nat) (gr : Int32) (al : Int32) (th : Int32) : Int32 := (if (((mm_Co_groupOf i n gr) &&& (((1 : Int32) <<< ((nI i) &&& 31)) ^^^ (-1 : Int32))) &&& (mm_Sq_lostMask al th)) = (0 : Int32) then ((mm_Co_groupOf i n gr) &&& (((1 : Int32) <<< ((nI i) &&& 31)) ^^^ (-1 : Int32))) else (0 : Int32))
set_option maxHeartbeats 4000000 in
set_option maxRecDepth 100000 in
theorem cc_RG_localPlan {l : Launch} (D : va_G) (K : Nat → ClassId) (ah ac ar ap aq ax au ak a0 aw af az : Nat) (i : Nat) (n : Nat) (fn : Nat) (lf : Int64) (rb : Int64) (gr : Int32) (ro : Nat → Int64) (sr : Nat → Int64) (sv : Nat → Int64) (up : Nat → Int32) (ct : Nat → Int32) (al : Int32) (th : Int32) (wr : Nat → Int64) (fl : Nat → Int64) (hi : i < n) (hn : n ≤ 11) (hn6 : 6 ≤ n) (hfn : fn ≤ 10) : ly_i l yy_RG_localPlan bb_RG_localPlan 4 (some .int) 2 42 D K [.ref ah, .ref a0, .int (nI i)] (ws_RG K ah ac ar ap aq ax au ak a0 aw af az n fn lf rb gr ro sr sv up ct al th wr fl) (fun z => z) (fun _ => (ws_RG K ah ac ar ap aq ax au ak a0 aw af az n fn lf rb gr ro sr sv up ct al th wr fl)) (mm_RG_localPlan i n gr al th) := by
  refine ly_entI (by decide) (Nat.le_of_ble_eq_true rfl) ?_
  intro p e s m av below meth c A ls R Q H locs res hM C hRf hRl hS hP hD hl ret
  obtain ⟨hx, hb, -⟩ := id C
  have hcs : 0 ≤ R.cells ∧ 0 ≤ R.slots := ⟨Nat.zero_le _, Nat.zero_le _⟩
  have hl : lv_has ls 4 [(0, .ref ah), (1, .ref a0), (2, .int (nI i))] := hl
  rw [mm_RG_localPlan] at hM
  refine lv_aload_n hx hb dd_RG_localPlan_0 rfl (lv_at hl 0 rfl) ?_
  refine ly_get (v := .ref ac) C hP 0 rfl uw_RG rfl 0 (by decide) wa_44 rfl dd_RG_localPlan_1 ?_
  refine lv_iload_n hx hb dd_RG_localPlan_4 rfl (lv_at hl 2 rfl) ?_
  obtain ⟨r_5, hq5⟩ : ∃ z, z = mm_Co_groupOf i n gr := ⟨_, rfl⟩
  try rw [← hq5] at hM
  refine ly_cV_i (n := 1) (z := r_5) (rest := []) (wn := (ws_RG K ah ac ar ap aq ax au ak a0 aw af az n fn lf rb gr ro sr sv up ct al th wr fl)) C (cc_Co_groupOf D K ac ar i n gr (by omega)) hq5 wa_225 wa_185 wa_41 wa_186 wa_187 (by decide) (Nat.le_trans (by decide) hRf) (Nat.le_trans (by decide) hRl) rfl hl.1 rfl (Nat.le_of_ble_eq_true rfl) dd_RG_localPlan_5 hcs [1] [0, 2, 3, 4, 5, 6, 7, 8, 9, 10] [0, 10, 1, 2, 3, 4, 5, 6, 7, 8, 9] hP hD hS rfl rfl (by decide) rfl rfl rfl (fun H locs hP hD hS => ?_)
  refine W.eq (g2 := F0 m 8 ls [.int r_5]) rfl ?_
  refine lv_iconst (v := (1 : Int32)) hx hb dd_RG_localPlan_8 (by decide) ?_
  refine lv_iload_n hx hb dd_RG_localPlan_9 rfl (lv_at hl 2 rfl) ?_
  refine lv_ishl hx hb dd_RG_localPlan_10 ?_
  refine lv_iconst (v := (-1 : Int32)) hx hb dd_RG_localPlan_11 (by decide) ?_
  refine lv_ixor hx hb dd_RG_localPlan_12 ?_
  refine lv_iand hx hb dd_RG_localPlan_13 ?_
  refine lv_istore_n (lv' := [(3, .int (r_5 &&& (((1 : Int32) <<< ((nI i) &&& 31)) ^^^ (-1 : Int32)))), (0, .ref ah), (1, .ref a0), (2, .int (nI i))]) hx hb dd_RG_localPlan_14 rfl hl (by decide) rfl (fun ls hl => ?_)
  refine lv_iload_n hx hb dd_RG_localPlan_15 rfl (lv_at hl 0 rfl) ?_
  refine lv_aload_n hx hb dd_RG_localPlan_16 rfl (lv_at hl 2 rfl) ?_
  obtain ⟨r_17, hq17⟩ : ∃ z, z = mm_Sq_lostMask al th := ⟨_, rfl⟩
  try rw [← hq17] at hM
  refine ly_cV_i (n := 0) (z := r_17) (rest := [.int (r_5 &&& (((1 : Int32) <<< ((nI i) &&& 31)) ^^^ (-1 : Int32)))]) (wn := (ws_RG K ah ac ar ap aq ax au ak a0 aw af az n fn lf rb gr ro sr sv up ct al th wr fl)) C (cc_Sq_lostMask D K a0 aw af n fn al th wr fl (by omega) (by omega)) hq17 wa_245 wa_124 wa_53 wa_125 wa_126 (by decide) (Nat.le_trans (by decide) hRf) (Nat.le_trans (by decide) hRl) rfl hl.1 rfl (Nat.le_of_ble_eq_true rfl) dd_RG_localPlan_17 hcs [8, 9, 10] [0, 1, 2, 3, 4, 5, 6, 7] [0, 1, 2, 3, 4, 5, 6, 7, 8, 9, 10] hP hD hS rfl rfl (by decide) rfl rfl rfl (fun H locs hP hD hS => ?_)
  refine W.eq (g2 := F0 m 20 ls [.int r_17, .int (r_5 &&& (((1 : Int32) <<< ((nI i) &&& 31)) ^^^ (-1 : Int32)))]) rfl ?_
  refine lv_iand hx hb dd_RG_localPlan_20 ?_
  refine lv_if_ne (tgt := 28) hx hb dd_RG_localPlan_21 (by decide) (fun h21 => ?_) (fun h21 => ?_)
  · rw [if_neg h21] at hM
    refine lv_iconst (v := (0 : Int32)) hx hb dd_RG_localPlan_28 (by decide) ?_
    exact ret (0 : Int32) H locs 29 ls hM rfl hS hP hD dd_RG_localPlan_29
  · rw [if_pos h21] at hM
    refine lv_iload_n hx hb dd_RG_localPlan_24 rfl (lv_at hl 0 rfl) ?_
    refine lv_goto (tgt := 29) hx hb dd_RG_localPlan_25 (by decide) ?_
    exact ret (r_5 &&& (((1 : Int32) <<< ((nI i) &&& 31)) ^^^ (-1 : Int32))) H locs 29 ls hM rfl hS hP hD dd_RG_localPlan_29

def mm_RG_independentShards_L11 (ro : Nat → Int64) (th : Int32) : Nat → Nat → (Int32) → (Nat → Int64) → (Nat → Int64) → Int32 × (Nat → Int64) × (Nat → Int64)
  | 0, j, v2, sr, sv => (v2, sr, sv)
  | k + 1, j, v2, sr, sv => (if (mm_Sq_isThere j th) = (0 : Int32) then (mm_RG_independentShards_L11 ro th k (j + 1) v2 sr sv) else (match mm_Sp_take (ro j) (0 : Int64) sr sv with | (r_44, sr_44, sv_44) => (if r_44 = (0 : Int32) then (mm_RG_independentShards_L11 ro th k (j + 1) v2 sr_44 sv_44) else (mm_RG_independentShards_L11 ro th k (j + 1) (v2 ||| ((1 : Int32) <<< ((nI j) &&& 31))) sr_44 sv_44))))
def mm_RG_independentShards (n : Nat) (ro : Nat → Int64) (sr : Nat → Int64) (sv : Nat → Int64) (th : Int32) : Int32 × (Nat → Int64) × (Nat → Int64) := (match mm_Sp_clear sr sv with | (sr_4, sv_4) => (mm_RG_independentShards_L11 ro th n 0 (0 : Int32) sr_4 sv_4))
set_option maxHeartbeats 4000000 in
set_option maxRecDepth 100000 in
theorem cc_RG_independentShards {l : Launch} (D : va_G) (K : Nat → ClassId) (ah ac ar ap aq ax au ak a0 aw af az : Nat) (n : Nat) (fn : Nat) (lf : Int64) (rb : Int64) (gr : Int32) (ro : Nat → Int64) (sr : Nat → Int64) (sv : Nat → Int64) (up : Nat → Int32) (ct : Nat → Int32) (al : Int32) (th : Int32) (wr : Nat → Int64) (fl : Nat → Int64) (hn : n ≤ 11) (hn6 : 6 ≤ n) (hfn : fn ≤ 10) : ly_i l yy_RG_independentShards bb_RG_independentShards 4 (some .int) 3 85 D K [.ref ah, .ref a0] (ws_RG K ah ac ar ap aq ax au ak a0 aw af az n fn lf rb gr ro sr sv up ct al th wr fl) (fun z => z.1) (fun z => (ws_RG K ah ac ar ap aq ax au ak a0 aw af az n fn lf rb gr ro (z.2.1) (z.2.2) up ct al th wr fl)) (mm_RG_independentShards n ro sr sv th) := by
  refine ly_entI (by decide) (Nat.le_of_ble_eq_true rfl) ?_
  intro p e s m av below meth c A ls R Q H locs res hM C hRf hRl hS hP hD hl ret
  obtain ⟨hx, hb, -⟩ := id C
  have hcs : 0 ≤ R.cells ∧ 0 ≤ R.slots := ⟨Nat.zero_le _, Nat.zero_le _⟩
  have hl : lv_has ls 4 [(0, .ref ah), (1, .ref a0)] := hl
  rw [mm_RG_independentShards] at hM
  refine lv_aload_n hx hb dd_RG_independentShards_0 rfl (lv_at hl 0 rfl) ?_
  refine ly_get (v := .ref ap) C hP 0 rfl uw_RG rfl 1 (by decide) wa_49 rfl dd_RG_independentShards_1 ?_
  obtain ⟨⟨sr_4, sv_4⟩, hq4⟩ : ∃ z, z = mm_Sp_clear sr sv := ⟨_, rfl⟩
  try rw [← hq4] at hM
  try dsimp only at hM
  refine ly_cV_v (n := 0) (z := (sr_4, sv_4)) (rest := []) (wn := (ws_RG K ah ac ar ap aq ax au ak a0 aw af az n fn lf rb gr ro sr_4 sv_4 up ct al th wr fl)) C (cc_Sp_clear D K ap aq ax sr sv) hq4 wa_230 wa_169 wa_47 wa_170 wa_171 (by decide) (Nat.le_trans (by decide) hRf) (Nat.le_trans (by decide) hRl) rfl hl.1 rfl (Nat.le_of_ble_eq_true rfl) dd_RG_independentShards_4 hcs [3, 4, 5] [0, 1, 2, 6, 7, 8, 9, 10] [0, 1, 2, 8, 9, 10, 3, 4, 5, 6, 7] hP hD hS rfl rfl (by decide) rfl rfl rfl (fun H locs hP hD hS => ?_)
  refine W.eq (g2 := F0 m 7 ls []) rfl ?_
  refine lv_iconst (v := (0 : Int32)) hx hb dd_RG_independentShards_7 (by decide) ?_
  refine lv_istore_n (lv' := [(2, .int (0 : Int32)), (0, .ref ah), (1, .ref a0)]) hx hb dd_RG_independentShards_8 rfl hl (by decide) rfl (fun ls hl => ?_)
  refine lv_iconst (v := (0 : Int32)) hx hb dd_RG_independentShards_9 (by decide) ?_
  refine lv_istore_n (lv' := [(3, .int (0 : Int32)), (2, .int (0 : Int32)), (0, .ref ah), (1, .ref a0)]) hx hb dd_RG_independentShards_10 rfl hl (by decide) rfl (fun ls hl => ?_)
  have lp11 : ∀ (k : Nat) (j : Nat) (v2 : Int32) (sr : Nat → Int64) (sv : Nat → Int64) (ls : Array Slot) (H : Heap) (locs : List Loc), j + k = n → mm_RG_independentShards_L11 ro th k j v2 sr sv = res → lv_has ls 4 [(3, .int (nI j)), (2, .int v2), (0, .ref ah), (1, .ref a0)] → va_P D cl_all (ws_RG K ah ac ar ap aq ax au ak a0 aw af az n fn lf rb gr ro sr sv up ct al th wr fl) H → va_D A (ws_RG K ah ac ar ap aq ax au ak a0 aw af az n fn lf rb gr ro sr sv up ct al th wr fl) → va_S A s.heap H locs → W p l e R s m av below meth c H locs 0 0 Q (F0 m 11 ls []) := by
    intro k
    induction k with
    | zero =>
      intro j v2 sr sv ls H locs hjk11 hM hl hP hD hS
      have hj0 : j = n := by omega
      subst j
      rw [mm_RG_independentShards_L11] at hM
      refine lv_iload_n hx hb dd_RG_independentShards_11 rfl (lv_at hl 0 rfl) ?_
      refine lv_aload_n hx hb dd_RG_independentShards_12 rfl (lv_at hl 2 rfl) ?_
      refine ly_get (v := .ref ac) C hP 0 rfl uw_RG rfl 0 (by decide) wa_44 rfl dd_RG_independentShards_13 ?_
      refine ly_getN (v := .int (nI n)) C hP 1 rfl uw_Co rfl 0 (by decide) nw_1 rfl dd_RG_independentShards_16 ?_
      refine lv_icmp_ge (tgt := 62) hx hb dd_RG_independentShards_19 (by decide) (fun _ => ?_) (fun h => absurd (nI_le (a := n) (b := n) (by omega) (by omega)) h)
      refine lv_iload_n hx hb dd_RG_independentShards_62 rfl (lv_at hl 1 rfl) ?_
      exact ret (v2, sr, sv) H locs 63 ls hM rfl hS hP hD dd_RG_independentShards_63
    | succ k ih11 =>
      intro j v2 sr sv ls H locs hjk11 hM hl hP hD hS
      rw [mm_RG_independentShards_L11] at hM
      refine lv_iload_n hx hb dd_RG_independentShards_11 rfl (lv_at hl 0 rfl) ?_
      refine lv_aload_n hx hb dd_RG_independentShards_12 rfl (lv_at hl 2 rfl) ?_
      refine ly_get (v := .ref ac) C hP 0 rfl uw_RG rfl 0 (by decide) wa_44 rfl dd_RG_independentShards_13 ?_
      refine ly_getN (v := .int (nI n)) C hP 1 rfl uw_Co rfl 0 (by decide) nw_1 rfl dd_RG_independentShards_16 ?_
      refine lv_icmp_ge (tgt := 62) hx hb dd_RG_independentShards_19 (by decide) (fun h => absurd h (nI_ge (a := j) (b := n) (by omega) (by omega))) (fun _ => ?_)
      refine lv_aload_n hx hb dd_RG_independentShards_22 rfl (lv_at hl 3 rfl) ?_
      refine lv_iload_n hx hb dd_RG_independentShards_23 rfl (lv_at hl 0 rfl) ?_
      obtain ⟨r_24, hq24⟩ : ∃ z, z = mm_Sq_isThere j th := ⟨_, rfl⟩
      try rw [← hq24] at hM
      refine ly_cV_i (n := 1) (z := r_24) (rest := []) (wn := (ws_RG K ah ac ar ap aq ax au ak a0 aw af az n fn lf rb gr ro sr sv up ct al th wr fl)) C (cc_Sq_isThere D K a0 aw af j n fn al th wr fl (by omega) (by omega)) hq24 wa_244 wa_64 wa_53 wa_65 wa_66 (by decide) (Nat.le_trans (by decide) hRf) (Nat.le_trans (by decide) hRl) rfl hl.1 rfl (Nat.le_of_ble_eq_true rfl) dd_RG_independentShards_24 hcs [8, 9, 10] [0, 1, 2, 3, 4, 5, 6, 7] [0, 1, 2, 3, 4, 5, 6, 7, 8, 9, 10] hP hD hS rfl rfl (by decide) rfl rfl rfl (fun H locs hP hD hS => ?_)
      refine W.eq (g2 := F0 m 27 ls [.int r_24]) rfl ?_
      refine lv_if_eq (tgt := 56) hx hb dd_RG_independentShards_27 (by decide) (fun h27 => ?_) (fun h27 => ?_)
      · rw [if_pos h27] at hM
        refine lv_iinc (k := 0) (v := (nI (j + 1))) (lv' := [(3, .int (nI (j + 1))), (2, .int v2), (0, .ref ah), (1, .ref a0)]) hx hb dd_RG_independentShards_56 hl rfl (ly_incN _) (by decide) rfl (fun ls hl => ?_)
        refine lv_goto (tgt := 11) hx hb dd_RG_independentShards_59 (by decide) ?_
        exact ih11 (j + 1) v2 sr sv ls H locs (by omega) hM (lv_sub hl [0, 1, 2, 3] rfl) hP hD hS
      · rw [if_neg h27] at hM
        refine lv_aload_n hx hb dd_RG_independentShards_30 rfl (lv_at hl 2 rfl) ?_
        refine ly_get (v := .ref ap) C hP 0 rfl uw_RG rfl 1 (by decide) wa_49 rfl dd_RG_independentShards_31 ?_
        refine lv_aload_n hx hb dd_RG_independentShards_34 rfl (lv_at hl 2 rfl) ?_
        refine ly_get (v := .ref ac) C hP 0 rfl uw_RG rfl 0 (by decide) wa_44 rfl dd_RG_independentShards_35 ?_
        refine ly_getN (v := .ref ar) C hP 1 rfl uw_Co rfl 1 (by decide) nw_2 rfl dd_RG_independentShards_38 ?_
        refine lv_iload_n hx hb dd_RG_independentShards_41 rfl (lv_at hl 0 rfl) ?_
        refine ly_lald C hP 2 rfl j rfl (by omega) (by omega) dd_RG_independentShards_42 ?_
        refine lv_lconst (v := (0 : Int64)) hx hb dd_RG_independentShards_43 (by decide) ?_
        obtain ⟨⟨r_44, sr_44, sv_44⟩, hq44⟩ : ∃ z, z = mm_Sp_take (ro j) (0 : Int64) sr sv := ⟨_, rfl⟩
        try rw [← hq44] at hM
        try dsimp only at hM
        refine ly_cV_i (n := 2) (z := (r_44, sr_44, sv_44)) (rest := []) (wn := (ws_RG K ah ac ar ap aq ax au ak a0 aw af az n fn lf rb gr ro sr_44 sv_44 up ct al th wr fl)) C (cc_Sp_take D K ap aq ax (ro j) (0 : Int64) sr sv) hq44 wa_231 wa_172 wa_47 wa_173 wa_174 (by decide) (Nat.le_trans (by decide) hRf) (Nat.le_trans (by decide) hRl) rfl hl.1 rfl (Nat.le_of_ble_eq_true rfl) dd_RG_independentShards_44 hcs [3, 4, 5] [0, 1, 2, 6, 7, 8, 9, 10] [0, 1, 2, 8, 9, 10, 3, 4, 5, 6, 7] hP hD hS rfl rfl (by decide) rfl rfl rfl (fun H locs hP hD hS => ?_)
        refine W.eq (g2 := F0 m 47 ls [.int r_44]) rfl ?_
        refine lv_if_eq (tgt := 56) hx hb dd_RG_independentShards_47 (by decide) (fun h47 => ?_) (fun h47 => ?_)
        · rw [if_pos h47] at hM
          refine lv_iinc (k := 0) (v := (nI (j + 1))) (lv' := [(3, .int (nI (j + 1))), (2, .int v2), (0, .ref ah), (1, .ref a0)]) hx hb dd_RG_independentShards_56 hl rfl (ly_incN _) (by decide) rfl (fun ls hl => ?_)
          refine lv_goto (tgt := 11) hx hb dd_RG_independentShards_59 (by decide) ?_
          exact ih11 (j + 1) v2 sr_44 sv_44 ls H locs (by omega) hM (lv_sub hl [0, 1, 2, 3] rfl) hP hD hS
        · rw [if_neg h47] at hM
          refine lv_iload_n hx hb dd_RG_independentShards_50 rfl (lv_at hl 1 rfl) ?_
          refine lv_iconst (v := (1 : Int32)) hx hb dd_RG_independentShards_51 (by decide) ?_
          refine lv_iload_n hx hb dd_RG_independentShards_52 rfl (lv_at hl 0 rfl) ?_
          refine lv_ishl hx hb dd_RG_independentShards_53 ?_
          refine lv_ior hx hb dd_RG_independentShards_54 ?_
          refine lv_istore_n (lv' := [(2, .int (v2 ||| ((1 : Int32) <<< ((nI j) &&& 31)))), (3, .int (nI j)), (0, .ref ah), (1, .ref a0)]) hx hb dd_RG_independentShards_55 rfl hl (by decide) rfl (fun ls hl => ?_)
          refine lv_iinc (k := 1) (v := (nI (j + 1))) (lv' := [(3, .int (nI (j + 1))), (2, .int (v2 ||| ((1 : Int32) <<< ((nI j) &&& 31)))), (0, .ref ah), (1, .ref a0)]) hx hb dd_RG_independentShards_56 hl rfl (ly_incN _) (by decide) rfl (fun ls hl => ?_)
          refine lv_goto (tgt := 11) hx hb dd_RG_independentShards_59 (by decide) ?_
          exact ih11 (j + 1) (v2 ||| ((1 : Int32) <<< ((nI j) &&& 31))) sr_44 sv_44 ls H locs (by omega) hM (lv_sub hl [0, 1, 2, 3] rfl) hP hD hS
  exact lp11 n 0 (0 : Int32) sr_4 sv_4 ls H locs (by omega) hM (lv_sub hl [0, 1, 2, 3] rfl) hP hD hS

def mm_RG_choosePlan (i : Nat) (n : Nat) (gr : Int32) (ro : Nat → Int64) (sr : Nat → Int64) (sv : Nat → Int64) (al : Int32) (th : Int32) : Int32 × (Nat → Int64) × (Nat → Int64) := (if (mm_RG_localPlan i n gr al th) = (0 : Int32) then (match mm_RG_independentShards n ro sr sv th with | (r_13, sr_13, sv_13) => ((mm_RG_globalPlan r_13), sr_13, sv_13)) else ((mm_RG_localPlan i n gr al th), sr, sv))
set_option maxHeartbeats 4000000 in
set_option maxRecDepth 100000 in
theorem cc_RG_choosePlan {l : Launch} (D : va_G) (K : Nat → ClassId) (ah ac ar ap aq ax au ak a0 aw af az : Nat) (i : Nat) (n : Nat) (fn : Nat) (lf : Int64) (rb : Int64) (gr : Int32) (ro : Nat → Int64) (sr : Nat → Int64) (sv : Nat → Int64) (up : Nat → Int32) (ct : Nat → Int32) (al : Int32) (th : Int32) (wr : Nat → Int64) (fl : Nat → Int64) (hi : i < n) (hn : n ≤ 11) (hn6 : 6 ≤ n) (hfn : fn ≤ 10) : ly_i l yy_RG_choosePlan bb_RG_choosePlan 4 (some .int) 4 108 D K [.ref ah, .ref a0, .int (nI i)] (ws_RG K ah ac ar ap aq ax au ak a0 aw af az n fn lf rb gr ro sr sv up ct al th wr fl) (fun z => z.1) (fun z => (ws_RG K ah ac ar ap aq ax au ak a0 aw af az n fn lf rb gr ro (z.2.1) (z.2.2) up ct al th wr fl)) (mm_RG_choosePlan i n gr ro sr sv al th) := by
  refine ly_entI (by decide) (Nat.le_of_ble_eq_true rfl) ?_
  intro p e s m av below meth c A ls R Q H locs res hM C hRf hRl hS hP hD hl ret
  obtain ⟨hx, hb, -⟩ := id C
  have hcs : 0 ≤ R.cells ∧ 0 ≤ R.slots := ⟨Nat.zero_le _, Nat.zero_le _⟩
  have hl : lv_has ls 4 [(0, .ref ah), (1, .ref a0), (2, .int (nI i))] := hl
  rw [mm_RG_choosePlan] at hM
  refine lv_aload_n hx hb dd_RG_choosePlan_0 rfl (lv_at hl 0 rfl) ?_
  refine lv_aload_n hx hb dd_RG_choosePlan_1 rfl (lv_at hl 1 rfl) ?_
  refine lv_iload_n hx hb dd_RG_choosePlan_2 rfl (lv_at hl 2 rfl) ?_
  obtain ⟨r_3, hq3⟩ : ∃ z, z = mm_RG_localPlan i n gr al th := ⟨_, rfl⟩
  try rw [← hq3] at hM
  refine ly_cV_i (n := 2) (z := r_3) (rest := []) (wn := (ws_RG K ah ac ar ap aq ax au ak a0 aw af az n fn lf rb gr ro sr sv up ct al th wr fl)) C (cc_RG_localPlan D K ah ac ar ap aq ax au ak a0 aw af az i n fn lf rb gr ro sr sv up ct al th wr fl (by omega) (by omega) (by omega) (by omega)) hq3 wa_184 wa_179 wa_62 wa_180 wa_181 (by decide) (Nat.le_trans (by decide) hRf) (Nat.le_trans (by decide) hRl) rfl hl.1 rfl (Nat.le_of_ble_eq_true rfl) dd_RG_choosePlan_3 hcs [0, 1, 2, 3, 4, 5, 6, 7, 8, 9, 10] [] [0, 1, 2, 3, 4, 5, 6, 7, 8, 9, 10] hP hD hS rfl rfl (by decide) rfl rfl rfl (fun H locs hP hD hS => ?_)
  refine W.eq (g2 := F0 m 6 ls [.int r_3]) rfl ?_
  refine lv_istore_n (lv' := [(3, .int r_3), (0, .ref ah), (1, .ref a0), (2, .int (nI i))]) hx hb dd_RG_choosePlan_6 rfl hl (by decide) rfl (fun ls hl => ?_)
  refine lv_iload_n hx hb dd_RG_choosePlan_7 rfl (lv_at hl 0 rfl) ?_
  refine lv_if_ne (tgt := 22) hx hb dd_RG_choosePlan_8 (by decide) (fun h8 => ?_) (fun h8 => ?_)
  · rw [if_neg h8] at hM
    refine lv_iload_n hx hb dd_RG_choosePlan_22 rfl (lv_at hl 0 rfl) ?_
    exact ret (r_3, sr, sv) H locs 23 ls hM rfl hS hP hD dd_RG_choosePlan_23
  · rw [if_pos h8] at hM
    refine lv_aload_n hx hb dd_RG_choosePlan_11 rfl (lv_at hl 1 rfl) ?_
    refine lv_aload_n hx hb dd_RG_choosePlan_12 rfl (lv_at hl 2 rfl) ?_
    obtain ⟨⟨r_13, sr_13, sv_13⟩, hq13⟩ : ∃ z, z = mm_RG_independentShards n ro sr sv th := ⟨_, rfl⟩
    try rw [← hq13] at hM
    try dsimp only at hM
    refine ly_cV_i (n := 1) (z := (r_13, sr_13, sv_13)) (rest := []) (wn := (ws_RG K ah ac ar ap aq ax au ak a0 aw af az n fn lf rb gr ro sr_13 sv_13 up ct al th wr fl)) C (cc_RG_independentShards D K ah ac ar ap aq ax au ak a0 aw af az n fn lf rb gr ro sr sv up ct al th wr fl (by omega) (by omega) (by omega)) hq13 wa_189 wa_120 wa_62 wa_121 wa_122 (by decide) (Nat.le_trans (by decide) hRf) (Nat.le_trans (by decide) hRl) rfl hl.1 rfl (Nat.le_of_ble_eq_true rfl) dd_RG_choosePlan_13 hcs [0, 1, 2, 3, 4, 5, 6, 7, 8, 9, 10] [] [0, 1, 2, 3, 4, 5, 6, 7, 8, 9, 10] hP hD hS rfl rfl (by decide) rfl rfl rfl (fun H locs hP hD hS => ?_)
    refine W.eq (g2 := F0 m 16 ls [.int r_13]) rfl ?_
    obtain ⟨r_16, hq16⟩ : ∃ z, z = mm_RG_globalPlan r_13 := ⟨_, rfl⟩
    try rw [← hq16] at hM
    refine ly_cS_i (n := 1) (z := r_16) (rest := []) (wn := (ws_RG K ah ac ar ap aq ax au ak a0 aw af az n fn lf rb gr ro sr_13 sv_13 up ct al th wr fl)) C (cc_RG_globalPlan D K r_13) hq16 wa_188 wa_182 wa_62 wa_183 (by decide) (Nat.le_trans (by decide) hRf) (Nat.le_trans (by decide) hRl) rfl hl.1 rfl (Nat.le_of_ble_eq_true rfl) dd_RG_choosePlan_16 hcs [] [0, 1, 2, 3, 4, 5, 6, 7, 8, 9, 10] [0, 1, 2, 3, 4, 5, 6, 7, 8, 9, 10] hP hD hS rfl rfl (by decide) rfl (fun H locs hP hD hS => ?_)
    refine W.eq (g2 := F0 m 19 ls [.int r_16]) rfl ?_
    refine lv_goto (tgt := 23) hx hb dd_RG_choosePlan_19 (by decide) ?_
    exact ret (r_16, sr_13, sv_13) H locs 23 ls hM rfl hS hP hD dd_RG_choosePlan_23
