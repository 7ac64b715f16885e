def f_J6_bitCount_0f7a4 (p1 : Int32) : Int32 := ((((((((p1 - (((p1.toUInt32 >>> ((1 : Int32).toUInt32 &&& Int32.toUInt32 31)).toInt32) &&& 1431655765)) &&& 858993459) + ((((p1 - (((p1.toUInt32 >>> ((1 : Int32).toUInt32 &&& Int32.toUInt32 31)).toInt32) &&& 1431655765)).toUInt32 >>> ((2 : Int32).toUInt32 &&& Int32.toUInt32 31)).toInt32) &&& 858993459)) + (((((p1 - (((p1.toUInt32 >>> ((1 : Int32).toUInt32 &&& Int32.toUInt32 31)).toInt32) &&& 1431655765)) &&& 858993459) + ((((p1 - (((p1.toUInt32 >>> ((1 : Int32).toUInt32 &&& Int32.toUInt32 31)).toInt32) &&& 1431655765)).toUInt32 >>> ((2 : Int32).toUInt32 &&& Int32.toUInt32 31)).toInt32) &&& 858993459)).toUInt32 >>> ((4 : Int32).toUInt32 &&& Int32.toUInt32 31)).toInt32)) &&& 252645135) + (((((((p1 - (((p1.toUInt32 >>> ((1 : Int32).toUInt32 &&& Int32.toUInt32 31)).toInt32) &&& 1431655765)) &&& 858993459) + ((((p1 - (((p1.toUInt32 >>> ((1 : Int32).toUInt32 &&& Int32.toUInt32 31)).toInt32) &&& 1431655765)).toUInt32 >>> ((2 : Int32).toUInt32 &&& Int32.toUInt32 31)).toInt32) &&& 858993459)) + (((((p1 - (((p1.toUInt32 >>> ((1 : Int32).toUInt32 &&& Int32.toUInt32 31)).toInt32) &&& 1431655765)) &&& 858993459) + ((((p1 - (((p1.toUInt32 >>> ((1 : Int32).toUInt32 &&& Int32.toUInt32 31)).toInt32) &&& 1431655765)).toUInt32 >>> ((2 : Int32).toUInt32 &&& Int32.toUInt32 31)).toInt32) &&& 858993459)).toUInt32 >>> ((4 : Int32).toUInt32 &&& Int32.toUInt32 31)).toInt32)) &&& 252645135).toUInt32 >>> ((8 : Int32).toUInt32 &&& Int32.toUInt32 31)).toInt32)) + ((((((((p1 - (((p1.toUInt32 >>> ((1 : Int32).toUInt32 &&& Int32.toUInt32 31)).toInt32) &&& 1431655765)) &&& 858993459) + ((((p1 - (((p1.toUInt32 >>> ((1 : Int32).toUInt32 &&& Int32.toUInt32 31)).toInt32) &&& 1431655765)).toUInt32 >>> ((2 : Int32).toUInt32 &&& Int32.toUInt32 31)).toInt32) &&& 858993459)) + (((((p1 - (((p1.toUInt32 >>> ((1 : Int32).toUInt32 &&& Int32.toUInt32 31)).toInt32) &&& 1431655765)) &&& 858993459) + ((((p1 - (((p1.toUInt32 >>> ((1 : Int32).toUInt32 &&& Int32.toUInt32 31)).toInt32) &&& 1431655765)).toUInt32 >>> ((2 : Int32).toUInt32 &&& Int32.toUInt32 31)).toInt32) &&& 858993459)).toUInt32 >>> ((4 : Int32).toUInt32 &&& Int32.toUInt32 31)).toInt32)) &&& 252645135) + (((((((p1 - (((p1.toUInt32 >>> ((1 : Int32).toUInt32 &&& Int32.toUInt32 31)).toInt32) &&& 1431655765)) &&& 858993459) + ((((p1 - (((p1.toUInt32 >>> ((1 : Int32).toUInt32 &&& Int32.toUInt32 31)).toInt32) &&& 1431655765)).toUInt32 >>> ((2 : Int32).toUInt32 &&& Int32.toUInt32 31)).toInt32) &&& 858993459)) + (((((p1 - (((p1.toUInt32 >>> ((1 : Int32).toUInt32 &&& Int32.toUInt32 31)).toInt32) &&& 1431655765)) &&& 858993459) + ((((p1 - (((p1.toUInt32 >>> ((1 : Int32).toUInt32 &&& Int32.toUInt32 31)).toInt32) &&& 1431655765)).toUInt32 >>> ((2 : Int32).toUInt32 &&& Int32.toUInt32 31)).toInt32) &&& 858993459)).toUInt32 >>> ((4 : Int32).toUInt32 &&& Int32.toUInt32 31)).toInt32)) &&& 252645135).toUInt32 >>> ((8 : Int32).toUInt32 &&& Int32.toUInt32 31)).toInt32)).toUInt32 >>> ((16 : Int32).toUInt32 &&& Int32.toUInt32 31)).toInt32)) &&& 63)
set_option maxHeartbeats 4000000 in
set_option maxRecDepth 100000 in
theorem T_J6_bitCount_0f7a4 (l : Launch) (D : va_G) (cI cZ : ClassId) (p1 : Int32) : CT l D cI cZ yJ6_bitCount_0f7a4 wsJ6_bitCount_0f7a4 ({ frames := 0, cells := 0, slots := 0, locals := 0 }) [.int p1] [] (some (.int (f_J6_bitCount_0f7a4 p1))) [] := by
  refine CT.intro RJ6 (by decide) rfl (Nat.le_of_ble_eq_true rfl) rfl ?_
  intro p e s m below meth c C hr hw ls hl
  have hx := C.hx
  have hb := C.hb
  replace hl : lv_has ls 1 [(0, .int p1)] := hl
  refine lv_iload_n hx hb dJ6_bitCount_0f7a4_0 rfl (lv_at hl 0 rfl) ?_
  refine lv_iload_n hx hb dJ6_bitCount_0f7a4_1 rfl (lv_at hl 0 rfl) ?_
  refine lv_iconst (v := 1) hx hb dJ6_bitCount_0f7a4_2 (by decide) ?_
  refine lv_iushr (v := ((p1.toUInt32 >>> ((1 : Int32).toUInt32 &&& Int32.toUInt32 31)).toInt32)) hx hb dJ6_bitCount_0f7a4_3 rfl ?_
  refine lv_ldcw (v := 1431655765) hx hb C.hown (C.hts _ (List.mem_of_getElem? (i := 1) rfl)) dJ6_bitCount_0f7a4_4 ?_
  refine lv_iand hx hb dJ6_bitCount_0f7a4_7 ?_
  refine lv_isub hx hb dJ6_bitCount_0f7a4_8 ?_
  refine lv_istore_n (lv' := [(0, .int (p1 - (((p1.toUInt32 >>> ((1 : Int32).toUInt32 &&& Int32.toUInt32 31)).toInt32) &&& 1431655765)))]) hx hb dJ6_bitCount_0f7a4_9 rfl hl (by decide) rfl (fun ls hl => ?_)
  refine lv_iload_n hx hb dJ6_bitCount_0f7a4_10 rfl (lv_at hl 0 rfl) ?_
  refine lv_ldcw (v := 858993459) hx hb C.hown (C.hts _ (List.mem_of_getElem? (i := 2) rfl)) dJ6_bitCount_0f7a4_11 ?_
  refine lv_iand hx hb dJ6_bitCount_0f7a4_14 ?_
  refine lv_iload_n hx hb dJ6_bitCount_0f7a4_15 rfl (lv_at hl 0 rfl) ?_
  refine lv_iconst (v := 2) hx hb dJ6_bitCount_0f7a4_16 (by decide) ?_
  refine lv_iushr (v := (((p1 - (((p1.toUInt32 >>> ((1 : Int32).toUInt32 &&& Int32.toUInt32 31)).toInt32) &&& 1431655765)).toUInt32 >>> ((2 : Int32).toUInt32 &&& Int32.toUInt32 31)).toInt32)) hx hb dJ6_bitCount_0f7a4_17 rfl ?_
  refine lv_ldcw (v := 858993459) hx hb C.hown (C.hts _ (List.mem_of_getElem? (i := 2) rfl)) dJ6_bitCount_0f7a4_18 ?_
  refine lv_iand hx hb dJ6_bitCount_0f7a4_21 ?_
  refine lv_iadd hx hb dJ6_bitCount_0f7a4_22 ?_
  refine lv_istore_n (lv' := [(0, .int (((p1 - (((p1.toUInt32 >>> ((1 : Int32).toUInt32 &&& Int32.toUInt32 31)).toInt32) &&& 1431655765)) &&& 858993459) + ((((p1 - (((p1.toUInt32 >>> ((1 : Int32).toUInt32 &&& Int32.toUInt32 31)).toInt32) &&& 1431655765)).toUInt32 >>> ((2 : Int32).toUInt32 &&& Int32.toUInt32 31)).toInt32) &&& 858993459)))]) hx hb dJ6_bitCount_0f7a4_23 rfl hl (by decide) rfl (fun ls hl => ?_)
  refine lv_iload_n hx hb dJ6_bitCount_0f7a4_24 rfl (lv_at hl 0 rfl) ?_
  refine lv_iload_n hx hb dJ6_bitCount_0f7a4_25 rfl (lv_at hl 0 rfl) ?_
  refine lv_iconst (v := 4) hx hb dJ6_bitCount_0f7a4_26 (by decide) ?_
  refine lv_iushr (v := (((((p1 - (((p1.toUInt32 >>> ((1 : Int32).toUInt32 &&& Int32.toUInt32 31)).toInt32) &&& 1431655765)) &&& 858993459) + ((((p1 - (((p1.toUInt32 >>> ((1 : Int32).toUInt32 &&& Int32.toUInt32 31)).toInt32) &&& 1431655765)).toUInt32 >>> ((2 : Int32).toUInt32 &&& Int32.toUInt32 31)).toInt32) &&& 858993459)).toUInt32 >>> ((4 : Int32).toUInt32 &&& Int32.toUInt32 31)).toInt32)) hx hb dJ6_bitCount_0f7a4_27 rfl ?_
  refine lv_iadd hx hb dJ6_bitCount_0f7a4_28 ?_
  refine lv_ldcw (v := 252645135) hx hb C.hown (C.hts _ (List.mem_of_getElem? (i := 3) rfl)) dJ6_bitCount_0f7a4_29 ?_
  refine lv_iand hx hb dJ6_bitCount_0f7a4_32 ?_
  refine lv_istore_n (lv' := [(0, .int (((((p1 - (((p1.toUInt32 >>> ((1 : Int32).toUInt32 &&& Int32.toUInt32 31)).toInt32) &&& 1431655765)) &&& 858993459) + ((((p1 - (((p1.toUInt32 >>> ((1 : Int32).toUInt32 &&& Int32.toUInt32 31)).toInt32) &&& 1431655765)).toUInt32 >>> ((2 : Int32).toUInt32 &&& Int32.toUInt32 31)).toInt32) &&& 858993459)) + (((((p1 - (((p1.toUInt32 >>> ((1 : Int32).toUInt32 &&& Int32.toUInt32 31)).toInt32) &&& 1431655765)) &&& 858993459) + ((((p1 - (((p1.toUInt32 >>> ((1 : Int32).toUInt32 &&& Int32.toUInt32 31)).toInt32) &&& 1431655765)).toUInt32 >>> ((2 : Int32).toUInt32 &&& Int32.toUInt32 31)).toInt32) &&& 858993459)).toUInt32 >>> ((4 : Int32).toUInt32 &&& Int32.toUInt32 31)).toInt32)) &&& 252645135))]) hx hb dJ6_bitCount_0f7a4_33 rfl hl (by decide) rfl (fun ls hl => ?_)
  refine lv_iload_n hx hb dJ6_bitCount_0f7a4_34 rfl (lv_at hl 0 rfl) ?_
  refine lv_iload_n hx hb dJ6_bitCount_0f7a4_35 rfl (lv_at hl 0 rfl) ?_
  refine lv_bipush (v := 8) hx hb dJ6_bitCount_0f7a4_36 (by decide) ?_
  refine lv_iushr (v := (((((((p1 - (((p1.toUInt32 >>> ((1 : Int32).toUInt32 &&& Int32.toUInt32 31)).toInt32) &&& 1431655765)) &&& 858993459) + ((((p1 - (((p1.toUInt32 >>> ((1 : Int32).toUInt32 &&& Int32.toUInt32 31)).toInt32) &&& 1431655765)).toUInt32 >>> ((2 : Int32).toUInt32 &&& Int32.toUInt32 31)).toInt32) &&& 858993459)) + (((((p1 - (((p1.toUInt32 >>> ((1 : Int32).toUInt32 &&& Int32.toUInt32 31)).toInt32) &&& 1431655765)) &&& 858993459) + ((((p1 - (((p1.toUInt32 >>> ((1 : Int32).toUInt32 &&& Int32.toUInt32 31)).toInt32) &&& 1431655765)).toUInt32 >>> ((2 : Int32).toUInt32 &&& Int32.toUInt32 31)).toInt32) &&& 858993459)).toUInt32 >>> ((4 : Int32).toUInt32 &&& Int32.toUInt32 31)).toInt32)) &&& 252645135).toUInt32 >>> ((8 : Int32).toUInt32 &&& Int32.toUInt32 31)).toInt32)) hx hb dJ6_bitCount_0f7a4_38 rfl ?_
  refine lv_iadd hx hb dJ6_bitCount_0f7a4_39 ?_
  refine lv_istore_n (lv' := [(0, .int ((((((p1 - (((p1.toUInt32 >>> ((1 : Int32).toUInt32 &&& Int32.toUInt32 31)).toInt32) &&& 1431655765)) &&& 858993459) + ((((p1 - (((p1.toUInt32 >>> ((1 : Int32).toUInt32 &&& Int32.toUInt32 31)).toInt32) &&& 1431655765)).toUInt32 >>> ((2 : Int32).toUInt32 &&& Int32.toUInt32 31)).toInt32) &&& 858993459)) + (((((p1 - (((p1.toUInt32 >>> ((1 : Int32).toUInt32 &&& Int32.toUInt32 31)).toInt32) &&& 1431655765)) &&& 858993459) + ((((p1 - (((p1.toUInt32 >>> ((1 : Int32).toUInt32 &&& Int32.toUInt32 31)).toInt32) &&& 1431655765)).toUInt32 >>> ((2 : Int32).toUInt32 &&& Int32.toUInt32 31)).toInt32) &&& 858993459)).toUInt32 >>> ((4 : Int32).toUInt32 &&& Int32.toUInt32 31)).toInt32)) &&& 252645135) + (((((((p1 - (((p1.toUInt32 >>> ((1 : Int32).toUInt32 &&& Int32.toUInt32 31)).toInt32) &&& 1431655765)) &&& 858993459) + ((((p1 - (((p1.toUInt32 >>> ((1 : Int32).toUInt32 &&& Int32.toUInt32 31)).toInt32) &&& 1431655765)).toUInt32 >>> ((2 : Int32).toUInt32 &&& Int32.toUInt32 31)).toInt32) &&& 858993459)) + (((((p1 - (((p1.toUInt32 >>> ((1 : Int32).toUInt32 &&& Int32.toUInt32 31)).toInt32) &&& 1431655765)) &&& 858993459) + ((((p1 - (((p1.toUInt32 >>> ((1 : Int32).toUInt32 &&& Int32.toUInt32 31)).toInt32) &&& 1431655765)).toUInt32 >>> ((2 : Int32).toUInt32 &&& Int32.toUInt32 31)).toInt32) &&& 858993459)).toUInt32 >>> ((4 : Int32).toUInt32 &&& Int32.toUInt32 31)).toInt32)) &&& 252645135).toUInt32 >>> ((8 : Int32).toUInt32 &&& Int32.toUInt32 31)).toInt32)))]) hx hb dJ6_bitCount_0f7a4_40 rfl hl (by decide) rfl (fun ls hl => ?_)
  refine lv_iload_n hx hb dJ6_bitCount_0f7a4_41 rfl (lv_at hl 0 rfl) ?_
  refine lv_iload_n hx hb dJ6_bitCount_0f7a4_42 rfl (lv_at hl 0 rfl) ?_
  refine lv_bipush (v := 16) hx hb dJ6_bitCount_0f7a4_43 (by decide) ?_
  refine lv_iushr (v := ((((((((p1 - (((p1.toUInt32 >>> ((1 : Int32).toUInt32 &&& Int32.toUInt32 31)).toInt32) &&& 1431655765)) &&& 858993459) + ((((p1 - (((p1.toUInt32 >>> ((1 : Int32).toUInt32 &&& Int32.toUInt32 31)).toInt32) &&& 1431655765)).toUInt32 >>> ((2 : Int32).toUInt32 &&& Int32.toUInt32 31)).toInt32) &&& 858993459)) + (((((p1 - (((p1.toUInt32 >>> ((1 : Int32).toUInt32 &&& Int32.toUInt32 31)).toInt32) &&& 1431655765)) &&& 858993459) + ((((p1 - (((p1.toUInt32 >>> ((1 : Int32).toUInt32 &&& Int32.toUInt32 31)).toInt32) &&& 1431655765)).toUInt32 >>> ((2 : Int32).toUInt32 &&& Int32.toUInt32 31)).toInt32) &&& 858993459)).toUInt32 >>> ((4 : Int32).toUInt32 &&& Int32.toUInt32 31)).toInt32)) &&& 252645135) + (((((((p1 - (((p1.toUInt32 >>> ((1 : Int32).toUInt32 &&& Int32.toUInt32 31)).toInt32) &&& 1431655765)) &&& 858993459) + ((((p1 - (((p1.toUInt32 >>> ((1 : Int32).toUInt32 &&& Int32.toUInt32 31)).toInt32) &&& 1431655765)).toUInt32 >>> ((2 : Int32).toUInt32 &&& Int32.toUInt32 31)).toInt32) &&& 858993459)) + (((((p1 - (((p1.toUInt32 >>> ((1 : Int32).toUInt32 &&& Int32.toUInt32 31)).toInt32) &&& 1431655765)) &&& 858993459) + ((((p1 - (((p1.toUInt32 >>> ((1 : Int32).toUInt32 &&& Int32.toUInt32 31)).toInt32) &&& 1431655765)).toUInt32 >>> ((2 : Int32).toUInt32 &&& Int32.toUInt32 31)).toInt32) &&& 858993459)).toUInt32 >>> ((4 : Int32).toUInt32 &&& Int32.toUInt32 31)).toInt32)) &&& 252645135).toUInt32 >>> ((8 : Int32).toUInt32 &&& Int32.toUInt32 31)).toInt32)).toUInt32 >>> ((16 : Int32).toUInt32 &&& Int32.toUInt32 31)).toInt32)) hx hb dJ6_bitCount_0f7a4_45 rfl ?_
  refine lv_iadd hx hb dJ6_bitCount_0f7a4_46 ?_
  refine lv_istore_n (lv' := [(0, .int (((((((p1 - (((p1.toUInt32 >>> ((1 : Int32).toUInt32 &&& Int32.toUInt32 31)).toInt32) &&& 1431655765)) &&& 858993459) + ((((p1 - (((p1.toUInt32 >>> ((1 : Int32).toUInt32 &&& Int32.toUInt32 31)).toInt32) &&& 1431655765)).toUInt32 >>> ((2 : Int32).toUInt32 &&& Int32.toUInt32 31)).toInt32) &&& 858993459)) + (((((p1 - (((p1.toUInt32 >>> ((1 : Int32).toUInt32 &&& Int32.toUInt32 31)).toInt32) &&& 1431655765)) &&& 858993459) + ((((p1 - (((p1.toUInt32 >>> ((1 : Int32).toUInt32 &&& Int32.toUInt32 31)).toInt32) &&& 1431655765)).toUInt32 >>> ((2 : Int32).toUInt32 &&& Int32.toUInt32 31)).toInt32) &&& 858993459)).toUInt32 >>> ((4 : Int32).toUInt32 &&& Int32.toUInt32 31)).toInt32)) &&& 252645135) + (((((((p1 - (((p1.toUInt32 >>> ((1 : Int32).toUInt32 &&& Int32.toUInt32 31)).toInt32) &&& 1431655765)) &&& 858993459) + ((((p1 - (((p1.toUInt32 >>> ((1 : Int32).toUInt32 &&& Int32.toUInt32 31)).toInt32) &&& 1431655765)).toUInt32 >>> ((2 : Int32).toUInt32 &&& Int32.toUInt32 31)).toInt32) &&& 858993459)) + (((((p1 - (((p1.toUInt32 >>> ((1 : Int32).toUInt32 &&& Int32.toUInt32 31)).toInt32) &&& 1431655765)) &&& 858993459) + ((((p1 - (((p1.toUInt32 >>> ((1 : Int32).toUInt32 &&& Int32.toUInt32 31)).toInt32) &&& 1431655765)).toUInt32 >>> ((2 : Int32).toUInt32 &&& Int32.toUInt32 31)).toInt32) &&& 858993459)).toUInt32 >>> ((4 : Int32).toUInt32 &&& Int32.toUInt32 31)).toInt32)) &&& 252645135).toUInt32 >>> ((8 : Int32).toUInt32 &&& Int32.toUInt32 31)).toInt32)) + ((((((((p1 - (((p1.toUInt32 >>> ((1 : Int32).toUInt32 &&& Int32.toUInt32 31)).toInt32) &&& 1431655765)) &&& 858993459) + ((((p1 - (((p1.toUInt32 >>> ((1 : Int32).toUInt32 &&& Int32.toUInt32 31)).toInt32) &&& 1431655765)).toUInt32 >>> ((2 : Int32).toUInt32 &&& Int32.toUInt32 31)).toInt32) &&& 858993459)) + (((((p1 - (((p1.toUInt32 >>> ((1 : Int32).toUInt32 &&& Int32.toUInt32 31)).toInt32) &&& 1431655765)) &&& 858993459) + ((((p1 - (((p1.toUInt32 >>> ((1 : Int32).toUInt32 &&& Int32.toUInt32 31)).toInt32) &&& 1431655765)).toUInt32 >>> ((2 : Int32).toUInt32 &&& Int32.toUInt32 31)).toInt32) &&& 858993459)).toUInt32 >>> ((4 : Int32).toUInt32 &&& Int32.toUInt32 31)).toInt32)) &&& 252645135) + (((((((p1 - (((p1.toUInt32 >>> ((1 : Int32).toUInt32 &&& Int32.toUInt32 31)).toInt32) &&& 1431655765)) &&& 858993459) + ((((p1 - (((p1.toUInt32 >>> ((1 : Int32).toUInt32 &&& Int32.toUInt32 31)).toInt32) &&& 1431655765)).toUInt32 >>> ((2 : Int32).toUInt32 &&& Int32.toUInt32 31)).toInt32) &&& 858993459)) + (((((p1 - (((p1.toUInt32 >>> ((1 : Int32).toUInt32 &&& Int32.toUInt32 31)).toInt32) &&& 1431655765)) &&& 858993459) + ((((p1 - (((p1.toUInt32 >>> ((1 : Int32).toUInt32 &&& Int32.toUInt32 31)).toInt32) &&& 1431655765)).toUInt32 >>> ((2 : Int32).toUInt32 &&& Int32.toUInt32 31)).toInt32) &&& 858993459)).toUInt32 >>> ((4 : Int32).toUInt32 &&& Int32.toUInt32 31)).toInt32)) &&& 252645135).toUInt32 >>> ((8 : Int32).toUInt32 &&& Int32.toUInt32 31)).toInt32)).toUInt32 >>> ((16 : Int32).toUInt32 &&& Int32.toUInt32 31)).toInt32)))]) hx hb dJ6_bitCount_0f7a4_47 rfl hl (by decide) rfl (fun ls hl => ?_)
  refine lv_iload_n hx hb dJ6_bitCount_0f7a4_48 rfl (lv_at hl 0 rfl) ?_
  refine lv_bipush (v := 63) hx hb dJ6_bitCount_0f7a4_49 (by decide) ?_
  refine lv_iand hx hb dJ6_bitCount_0f7a4_51 ?_
  rw [show f_J6_bitCount_0f7a4 p1 = ((((((((p1 - (((p1.toUInt32 >>> ((1 : Int32).toUInt32 &&& Int32.toUInt32 31)).toInt32) &&& 1431655765)) &&& 858993459) + ((((p1 - (((p1.toUInt32 >>> ((1 : Int32).toUInt32 &&& Int32.toUInt32 31)).toInt32) &&& 1431655765)).toUInt32 >>> ((2 : Int32).toUInt32 &&& Int32.toUInt32 31)).toInt32) &&& 858993459)) + (((((p1 - (((p1.toUInt32 >>> ((1 : Int32).toUInt32 &&& Int32.toUInt32 31)).toInt32) &&& 1431655765)) &&& 858993459) + ((((p1 - (((p1.toUInt32 >>> ((1 : Int32).toUInt32 &&& Int32.toUInt32 31)).toInt32) &&& 1431655765)).toUInt32 >>> ((2 : Int32).toUInt32 &&& Int32.toUInt32 31)).toInt32) &&& 858993459)).toUInt32 >>> ((4 : Int32).toUInt32 &&& Int32.toUInt32 31)).toInt32)) &&& 252645135) + (((((((p1 - (((p1.toUInt32 >>> ((1 : Int32).toUInt32 &&& Int32.toUInt32 31)).toInt32) &&& 1431655765)) &&& 858993459) + ((((p1 - (((p1.toUInt32 >>> ((1 : Int32).toUInt32 &&& Int32.toUInt32 31)).toInt32) &&& 1431655765)).toUInt32 >>> ((2 : Int32).toUInt32 &&& Int32.toUInt32 31)).toInt32) &&& 858993459)) + (((((p1 - (((p1.toUInt32 >>> ((1 : Int32).toUInt32 &&& Int32.toUInt32 31)).toInt32) &&& 1431655765)) &&& 858993459) + ((((p1 - (((p1.toUInt32 >>> ((1 : Int32).toUInt32 &&& Int32.toUInt32 31)).toInt32) &&& 1431655765)).toUInt32 >>> ((2 : Int32).toUInt32 &&& Int32.toUInt32 31)).toInt32) &&& 858993459)).toUInt32 >>> ((4 : Int32).toUInt32 &&& Int32.toUInt32 31)).toInt32)) &&& 252645135).toUInt32 >>> ((8 : Int32).toUInt32 &&& Int32.toUInt32 31)).toInt32)) + ((((((((p1 - (((p1.toUInt32 >>> ((1 : Int32).toUInt32 &&& Int32.toUInt32 31)).toInt32) &&& 1431655765)) &&& 858993459) + ((((p1 - (((p1.toUInt32 >>> ((1 : Int32).toUInt32 &&& Int32.toUInt32 31)).toInt32) &&& 1431655765)).toUInt32 >>> ((2 : Int32).toUInt32 &&& Int32.toUInt32 31)).toInt32) &&& 858993459)) + (((((p1 - (((p1.toUInt32 >>> ((1 : Int32).toUInt32 &&& Int32.toUInt32 31)).toInt32) &&& 1431655765)) &&& 858993459) + ((((p1 - (((p1.toUInt32 >>> ((1 : Int32).toUInt32 &&& Int32.toUInt32 31)).toInt32) &&& 1431655765)).toUInt32 >>> ((2 : Int32).toUInt32 &&& Int32.toUInt32 31)).toInt32) &&& 858993459)).toUInt32 >>> ((4 : Int32).toUInt32 &&& Int32.toUInt32 31)).toInt32)) &&& 252645135) + (((((((p1 - (((p1.toUInt32 >>> ((1 : Int32).toUInt32 &&& Int32.toUInt32 31)).toInt32) &&& 1431655765)) &&& 858993459) + ((((p1 - (((p1.toUInt32 >>> ((1 : Int32).toUInt32 &&& Int32.toUInt32 31)).toInt32) &&& 1431655765)).toUInt32 >>> ((2 : Int32).toUInt32 &&& Int32.toUInt32 31)).toInt32) &&& 858993459)) + (((((p1 - (((p1.toUInt32 >>> ((1 : Int32).toUInt32 &&& Int32.toUInt32 31)).toInt32) &&& 1431655765)) &&& 858993459) + ((((p1 - (((p1.toUInt32 >>> ((1 : Int32).toUInt32 &&& Int32.toUInt32 31)).toInt32) &&& 1431655765)).toUInt32 >>> ((2 : Int32).toUInt32 &&& Int32.toUInt32 31)).toInt32) &&& 858993459)).toUInt32 >>> ((4 : Int32).toUInt32 &&& Int32.toUInt32 31)).toInt32)) &&& 252645135).toUInt32 >>> ((8 : Int32).toUInt32 &&& Int32.toUInt32 31)).toInt32)).toUInt32 >>> ((16 : Int32).toUInt32 &&& Int32.toUInt32 31)).toInt32)) &&& 63) from by
      unfold f_J6_bitCount_0f7a4
      exact rfl]
  exact k_iret C hr hw dJ6_bitCount_0f7a4_52

theorem nX3_copyFrom_X3 : ∀ w ∈ wsX30, w ∈ wsX3_copyFrom := fun _ h => List.mem_cons_of_mem _ (List.mem_append_right _ h)
def f_X3_copyFrom (g_r1_of : (Nat → Int32)) (g_t_of : (Nat → Int32)) : (Nat → Int32) := (va_cpy g_r1_of g_t_of 0 0 8)
set_option maxHeartbeats 4000000 in
set_option maxRecDepth 100000 in
theorem T_X3_copyFrom (l : Launch) (D : va_G) (cI cZ : ClassId) (a_r1 a_r1_of a_t a_t_of : Nat) (g_r1_of : (Nat → Int32)) (g_t_of : (Nat → Int32)) : CT l D cI cZ yX3_copyFrom wsX3_copyFrom ({ frames := 1, cells := 0, slots := 0, locals := 80 }) [.ref a_t, .ref a_r1] [(a_r1, .inr (3, [.ref a_r1_of])), (a_t, .inr (3, [.ref a_t_of])), (a_r1_of, .inl (cI, 8, .inl g_r1_of)), (a_t_of, .inl (cI, 8, .inl g_t_of))] none [(a_r1, .inr (3, [.ref a_r1_of])), (a_t, .inr (3, [.ref a_t_of])), (a_r1_of, .inl (cI, 8, .inl g_r1_of)), (a_t_of, .inl (cI, 8, .inl (f_X3_copyFrom g_r1_of g_t_of)))] := by
  refine CT.intro RX3 (by decide) rfl (Nat.le_of_ble_eq_true rfl) rfl ?_
  intro p e s m below meth c C hr hw ls hl
  have hx := C.hx
  have hb := C.hb
  replace hl : lv_has ls 2 [(0, .ref a_t), (1, .ref a_r1)] := hl
  refine lv_aload_n hx hb dX3_copyFrom_0 rfl (lv_at hl 1 rfl) ?_
  refine k_get C hw (CC := RX3) (T := TX3) (N := 1) nX3_copyFrom_X3 0 rfl rfl 0 (by decide) (List.mem_of_getElem? (i := 1) rfl) rfl rfl dX3_copyFrom_1 ?_
  refine lv_iconst (v := 0) hx hb dX3_copyFrom_4 (by decide) ?_
  refine lv_aload_n hx hb dX3_copyFrom_5 rfl (lv_at hl 0 rfl) ?_
  refine k_get C hw (CC := RX3) (T := TX3) (N := 1) nX3_copyFrom_X3 1 rfl rfl 0 (by decide) (List.mem_of_getElem? (i := 1) rfl) rfl rfl dX3_copyFrom_6 ?_
  refine lv_iconst (v := 0) hx hb dX3_copyFrom_9 (by decide) ?_
  refine lv_bipush (v := 8) hx hb dX3_copyFrom_10 (by decide) ?_
  refine k_copy C hw (List.mem_of_getElem? (i := 2) rfl) (List.mem_of_getElem? (i := 3) rfl) (List.mem_of_getElem? (i := 4) rfl) (List.mem_of_getElem? (i := 5) rfl) hl.1 2 3 rfl rfl (by decide) (by decide) (by decide) (by decide) (by decide) (Nat.le_of_ble_eq_true rfl) (Nat.le_of_ble_eq_true rfl) dX3_copyFrom_12 (fun H locs hw => ?_)
  replace hw : kW D _ s H locs [(a_r1, .inr (3, [.ref a_r1_of])), (a_t, .inr (3, [.ref a_t_of])), (a_r1_of, .inl (cI, 8, .inl g_r1_of)), (a_t_of, .inl (cI, 8, .inl (va_cpy g_r1_of g_t_of 0 0 8)))] := hw
  rw [show f_X3_copyFrom g_r1_of g_t_of = (va_cpy g_r1_of g_t_of 0 0 8) from by
      unfold f_X3_copyFrom
      exact rfl]
  exact k_vret C hr hw dX3_copyFrom_15

theorem nX3_set_X3 : ∀ w ∈ wsX30, w ∈ wsX3_set := fun _ h => List.mem_cons_of_mem _ (List.mem_append_right _ h)
def f_X3_set (g_t_of : (Nat → Int32)) (p1 : Int32) (p2 : Int32) (p3 : Int32) : (Nat → Int32) := (if p3 = 0 then (upd (upd g_t_of p1.toNatClampNeg ((g_t_of p1.toNatClampNeg) &&& (((1 : Int32) <<< (p2 &&& 31)) ^^^ (-1)))) p2.toNatClampNeg (((upd g_t_of p1.toNatClampNeg ((g_t_of p1.toNatClampNeg) &&& (((1 : Int32) <<< (p2 &&& 31)) ^^^ (-1)))) p2.toNatClampNeg) &&& (((1 : Int32) <<< (p1 &&& 31)) ^^^ (-1)))) else (upd (upd g_t_of p1.toNatClampNeg ((g_t_of p1.toNatClampNeg) ||| ((1 : Int32) <<< (p2 &&& 31)))) p2.toNatClampNeg (((upd g_t_of p1.toNatClampNeg ((g_t_of p1.toNatClampNeg) ||| ((1 : Int32) <<< (p2 &&& 31)))) p2.toNatClampNeg) ||| ((1 : Int32) <<< (p1 &&& 31)))))
def o_X3_set (p1 : Int32) (p2 : Int32) (p3 : Int32) : Prop := (if p3 = 0 then ((vp_in p1 8) ∧ ((vp_in p1 8) ∧ ((vp_in p2 8) ∧ ((vp_in p2 8) ∧ True)))) else ((vp_in p1 8) ∧ ((vp_in p1 8) ∧ ((vp_in p2 8) ∧ ((vp_in p2 8) ∧ True)))))
set_option maxHeartbeats 4000000 in
set_option maxRecDepth 100000 in
theorem T_X3_set (l : Launch) (D : va_G) (cI cZ : ClassId) (a_t a_t_of : Nat) (g_t_of : (Nat → Int32)) (p1 : Int32) (p2 : Int32) (p3 : Int32) (hok : o_X3_set p1 p2 p3) : CT l D cI cZ yX3_set wsX3_set ({ frames := 0, cells := 0, slots := 0, locals := 0 }) [.ref a_t, .int p1, .int p2, .int p3] [(a_t, .inr (3, [.ref a_t_of])), (a_t_of, .inl (cI, 8, .inl g_t_of))] none [(a_t, .inr (3, [.ref a_t_of])), (a_t_of, .inl (cI, 8, .inl (f_X3_set g_t_of p1 p2 p3)))] := by
  refine CT.intro RX3 (by decide) rfl (Nat.le_of_ble_eq_true rfl) rfl ?_
  intro p e s m below meth c C hr hw ls hl
  have hx := C.hx
  have hb := C.hb
  replace hl : lv_has ls 4 [(0, .ref a_t), (1, .int p1), (2, .int p2), (3, .int p3)] := hl
  refine lv_iload_n hx hb dX3_set_0 rfl (lv_at hl 3 rfl) ?_
  refine lv_if_eq (tgt := 31) hx hb dX3_set_1 (by decide) (fun c1 => ?_) (fun c1 => ?_)
  · replace hok := Eq.mp (if_pos c1) hok
    refine lv_aload_n hx hb dX3_set_31 rfl (lv_at hl 0 rfl) ?_
    refine k_get C hw (CC := RX3) (T := TX3) (N := 1) nX3_set_X3 0 rfl rfl 0 (by decide) (List.mem_of_getElem? (i := 1) rfl) rfl rfl dX3_set_32 ?_
    refine lv_iload_n hx hb dX3_set_35 rfl (lv_at hl 1 rfl) ?_
    refine lv_dup2_11 hx hb dX3_set_36 rfl rfl ?_
    obtain ⟨h2, hok⟩ := hok
    refine k_iald C hw 1 rfl h2 dX3_set_37 ?_
    refine lv_iconst (v := 1) hx hb dX3_set_38 (by decide) ?_
    refine lv_iload_n hx hb dX3_set_39 rfl (lv_at hl 2 rfl) ?_
    refine lv_ishl hx hb dX3_set_40 ?_
    refine lv_iconst (v := (-1)) hx hb dX3_set_41 (by decide) ?_
    refine lv_ixor hx hb dX3_set_42 ?_
    refine lv_iand hx hb dX3_set_43 ?_
    obtain ⟨h3, hok⟩ := hok
    refine k_iast C hw 1 rfl h3 dX3_set_44 (fun H locs hw => ?_)
    replace hw : kW D _ s H locs [(a_t, .inr (3, [.ref a_t_of])), (a_t_of, .inl (cI, 8, .inl (upd g_t_of p1.toNatClampNeg ((g_t_of p1.toNatClampNeg) &&& (((1 : Int32) <<< (p2 &&& 31)) ^^^ (-1))))))] := hw
    refine lv_aload_n hx hb dX3_set_45 rfl (lv_at hl 0 rfl) ?_
    refine k_get C hw (CC := RX3) (T := TX3) (N := 1) nX3_set_X3 0 rfl rfl 0 (by decide) (List.mem_of_getElem? (i := 1) rfl) rfl rfl dX3_set_46 ?_
    refine lv_iload_n hx hb dX3_set_49 rfl (lv_at hl 2 rfl) ?_
    refine lv_dup2_11 hx hb dX3_set_50 rfl rfl ?_
    obtain ⟨h4, hok⟩ := hok
    refine k_iald C hw 1 rfl h4 dX3_set_51 ?_
    refine lv_iconst (v := 1) hx hb dX3_set_52 (by decide) ?_
    refine lv_iload_n hx hb dX3_set_53 rfl (lv_at hl 1 rfl) ?_
    refine lv_ishl hx hb dX3_set_54 ?_
    refine lv_iconst (v := (-1)) hx hb dX3_set_55 (by decide) ?_
    refine lv_ixor hx hb dX3_set_56 ?_
    refine lv_iand hx hb dX3_set_57 ?_
    obtain ⟨h5, hok⟩ := hok
    refine k_iast C hw 1 rfl h5 dX3_set_58 (fun H locs hw => ?_)
    replace hw : kW D _ s H locs [(a_t, .inr (3, [.ref a_t_of])), (a_t_of, .inl (cI, 8, .inl (upd (upd g_t_of p1.toNatClampNeg ((g_t_of p1.toNatClampNeg) &&& (((1 : Int32) <<< (p2 &&& 31)) ^^^ (-1)))) p2.toNatClampNeg (((upd g_t_of p1.toNatClampNeg ((g_t_of p1.toNatClampNeg) &&& (((1 : Int32) <<< (p2 &&& 31)) ^^^ (-1)))) p2.toNatClampNeg) &&& (((1 : Int32) <<< (p1 &&& 31)) ^^^ (-1))))))] := hw
    rw [show f_X3_set g_t_of p1 p2 p3 = (upd (upd g_t_of p1.toNatClampNeg ((g_t_of p1.toNatClampNeg) &&& (((1 : Int32) <<< (p2 &&& 31)) ^^^ (-1)))) p2.toNatClampNeg (((upd g_t_of p1.toNatClampNeg ((g_t_of p1.toNatClampNeg) &&& (((1 : Int32) <<< (p2 &&& 31)) ^^^ (-1)))) p2.toNatClampNeg) &&& (((1 : Int32) <<< (p1 &&& 31)) ^^^ (-1)))) from by
        unfold f_X3_set
        exact (if_pos c1).trans (rfl)]
    exact k_vret C hr hw dX3_set_59
  · replace hok := Eq.mp (if_neg c1) hok
    refine lv_aload_n hx hb dX3_set_4 rfl (lv_at hl 0 rfl) ?_
    refine k_get C hw (CC := RX3) (T := TX3) (N := 1) nX3_set_X3 0 rfl rfl 0 (by decide) (List.mem_of_getElem? (i := 1) rfl) rfl rfl dX3_set_5 ?_
    refine lv_iload_n hx hb dX3_set_8 rfl (lv_at hl 1 rfl) ?_
    refine lv_dup2_11 hx hb dX3_set_9 rfl rfl ?_
    obtain ⟨h6, hok⟩ := hok
    refine k_iald C hw 1 rfl h6 dX3_set_10 ?_
    refine lv_iconst (v := 1) hx hb dX3_set_11 (by decide) ?_
    refine lv_iload_n hx hb dX3_set_12 rfl (lv_at hl 2 rfl) ?_
    refine lv_ishl hx hb dX3_set_13 ?_
    refine lv_ior hx hb dX3_set_14 ?_
    obtain ⟨h7, hok⟩ := hok
    refine k_iast C hw 1 rfl h7 dX3_set_15 (fun H locs hw => ?_)
    replace hw : kW D _ s H locs [(a_t, .inr (3, [.ref a_t_of])), (a_t_of, .inl (cI, 8, .inl (upd g_t_of p1.toNatClampNeg ((g_t_of p1.toNatClampNeg) ||| ((1 : Int32) <<< (p2 &&& 31))))))] := hw
    refine lv_aload_n hx hb dX3_set_16 rfl (lv_at hl 0 rfl) ?_
    refine k_get C hw (CC := RX3) (T := TX3) (N := 1) nX3_set_X3 0 rfl rfl 0 (by decide) (List.mem_of_getElem? (i := 1) rfl) rfl rfl dX3_set_17 ?_
    refine lv_iload_n hx hb dX3_set_20 rfl (lv_at hl 2 rfl) ?_
    refine lv_dup2_11 hx hb dX3_set_21 rfl rfl ?_
    obtain ⟨h8, hok⟩ := hok
    refine k_iald C hw 1 rfl h8 dX3_set_22 ?_
    refine lv_iconst (v := 1) hx hb dX3_set_23 (by decide) ?_
    refine lv_iload_n hx hb dX3_set_24 rfl (lv_at hl 1 rfl) ?_
    refine lv_ishl hx hb dX3_set_25 ?_
    refine lv_ior hx hb dX3_set_26 ?_
    obtain ⟨h9, hok⟩ := hok
    refine k_iast C hw 1 rfl h9 dX3_set_27 (fun H locs hw => ?_)
    replace hw : kW D _ s H locs [(a_t, .inr (3, [.ref a_t_of])), (a_t_of, .inl (cI, 8, .inl (upd (upd g_t_of p1.toNatClampNeg ((g_t_of p1.toNatClampNeg) ||| ((1 : Int32) <<< (p2 &&& 31)))) p2.toNatClampNeg (((upd g_t_of p1.toNatClampNeg ((g_t_of p1.toNatClampNeg) ||| ((1 : Int32) <<< (p2 &&& 31)))) p2.toNatClampNeg) ||| ((1 : Int32) <<< (p1 &&& 31))))))] := hw
    refine lv_goto (tgt := 59) hx hb dX3_set_28 (by decide) ?_
    rw [show f_X3_set g_t_of p1 p2 p3 = (upd (upd g_t_of p1.toNatClampNeg ((g_t_of p1.toNatClampNeg) ||| ((1 : Int32) <<< (p2 &&& 31)))) p2.toNatClampNeg (((upd g_t_of p1.toNatClampNeg ((g_t_of p1.toNatClampNeg) ||| ((1 : Int32) <<< (p2 &&& 31)))) p2.toNatClampNeg) ||| ((1 : Int32) <<< (p1 &&& 31)))) from by
        unfold f_X3_set
        exact (if_neg c1).trans (rfl)]
    exact k_vret C hr hw dX3_set_59

theorem nX3_pairs_X3 : ∀ w ∈ wsX30, w ∈ wsX3_pairs := fun _ h => List.mem_cons_of_mem _ (List.mem_append_right _ h)
def B_X3_pairs_4 (g_t_of : (Nat → Int32)) (j : Nat) (v : Int32) : Int32 := (v + (f_J6_bitCount_0f7a4 (g_t_of j)))
set_option maxHeartbeats 4000000 in
set_option maxRecDepth 100000 in
theorem l_X3_pairs_4 {p : Program} {l : Launch} {e : Env} {s : State} {m : MethodId} {args : Array Value} {below : List Frame} {meth : Method} {c : Code} {D : va_G} {cI cZ : ClassId} {Q : State → Prop} {A : Nat → Prop} (a_t a_t_of : Nat) (g_t_of : (Nat → Int32)) (C : kC p s m args meth c cX3_pairs 3 wsX3_pairs RX3 D cI cZ A) : ∀ (n j : Nat) (x1 : Int32), n = 8 - j → j < 2147483648 → ∀ (H : Heap) (locs : List Loc), kW D A s H locs [(a_t, .inr (3, [.ref a_t_of])), (a_t_of, .inl (cI, 8, .inl g_t_of))] → ∀ (ls : Array Slot), lv_has ls 3 [(0, .ref a_t), (1, .int x1), (2, .int (nI j))] → (∀ (H : Heap) (locs : List Loc) (ls : Array Slot), kW D A s H locs [(a_t, .inr (3, [.ref a_t_of])), (a_t_of, .inl (cI, 8, .inl g_t_of))] → lv_has ls 3 [(1, .int (it (B_X3_pairs_4 g_t_of) j n x1))] → W p l e ({ frames := 1, cells := 0, slots := 0, locals := 20 }) s m args below meth c H locs 0 0 Q (F0 m 28 ls [])) → W p l e ({ frames := 1, cells := 0, slots := 0, locals := 20 }) s m args below meth c H locs 0 0 Q (F0 m 4 ls []) := by
  have hx := C.hx
  have hb := C.hb
  intro n
  induction n with
  | zero =>
    intro j x1 hn hj H locs hw ls hl kk
    refine lv_iload_n hx hb dX3_pairs_4 rfl (lv_at hl 2 rfl) ?_
    refine lv_bipush (v := 8) hx hb dX3_pairs_5 (by decide) ?_
    refine lv_icmp_ge (tgt := 28) hx hb dX3_pairs_7 (by decide) (fun c2 => ?_) (fun c2 => by exact absurd (nI_le (a := 8) (b := j) (by omega) (by omega)) c2)
    exact kk _ _ _ hw (lv_sub hl [1] rfl)
  | succ n ih =>
    intro j x1 hn hj H locs hw ls hl kk
    refine lv_iload_n hx hb dX3_pairs_4 rfl (lv_at hl 2 rfl) ?_
    refine lv_bipush (v := 8) hx hb dX3_pairs_5 (by decide) ?_
    refine lv_icmp_ge (tgt := 28) hx hb dX3_pairs_7 (by decide) (fun c1 => by exact absurd c1 (nI_ge (a := j) (b := 8) (by omega) (by omega))) (fun c1 => ?_)
    refine lv_iload_n hx hb dX3_pairs_10 rfl (lv_at hl 1 rfl) ?_
    refine lv_aload_n hx hb dX3_pairs_11 rfl (lv_at hl 0 rfl) ?_
    refine k_get C hw (CC := RX3) (T := TX3) (N := 1) nX3_pairs_X3 0 rfl rfl 0 (by decide) (List.mem_of_getElem? (i := 1) rfl) rfl rfl dX3_pairs_12 ?_
    refine lv_iload_n hx hb dX3_pairs_15 rfl (lv_at hl 2 rfl) ?_
    refine k_ialdN C hw 1 rfl j rfl (by omega) (by decide) dX3_pairs_16 ?_
    refine k_callS (As := [.int (g_t_of j)]) (rest := [.int x1]) (n := 1) C hw (T_J6_bitCount_0f7a4 l D cI cZ (g_t_of j)) gX3_pairs_J6_bitCount_0f7a4 rfl ⟨rfl, rfl⟩ (by decide +kernel) ⟨Nat.le_of_ble_eq_true rfl, Nat.le_of_ble_eq_true rfl⟩ [] rfl rfl [] rfl rfl rfl hl.1 rfl (Nat.le_of_ble_eq_true rfl) ⟨Nat.zero_le _, Nat.zero_le _⟩ dX3_pairs_17 (fun H locs hw => ?_)
    refine W.eq (g2 := F0 m 20 ls [.int (f_J6_bitCount_0f7a4 (g_t_of j)), .int x1]) rfl ?_
    replace hw : kW D _ s H locs [(a_t, .inr (3, [.ref a_t_of])), (a_t_of, .inl (cI, 8, .inl g_t_of))] := hw
    refine lv_iadd hx hb dX3_pairs_20 ?_
    refine lv_istore_n (lv' := [(1, .int (x1 + (f_J6_bitCount_0f7a4 (g_t_of j)))), (0, .ref a_t), (2, .int (nI j))]) hx hb dX3_pairs_21 rfl hl (by decide) rfl (fun ls hl => ?_)
    refine lv_iinc (v := (nI (j + 1))) (lv' := [(2, .int (nI (j + 1))), (1, .int (x1 + (f_J6_bitCount_0f7a4 (g_t_of j)))), (0, .ref a_t)]) hx hb dX3_pairs_22 hl (k := 2) rfl (nI_1 _) (by decide) rfl (fun ls hl => ?_)
    refine lv_goto (tgt := 4) hx hb dX3_pairs_25 (by decide) ?_
    have hB : B_X3_pairs_4 g_t_of j x1 = (x1 + (f_J6_bitCount_0f7a4 (g_t_of j))) := by
      unfold B_X3_pairs_4
      exact rfl
    rw [it_c hB] at kk
    exact ih (j + 1) (x1 + (f_J6_bitCount_0f7a4 (g_t_of j))) (by omega) (by omega) _ _ hw _ (lv_sub hl [2, 1, 0] rfl) kk
def f_X3_pairs (g_t_of : (Nat → Int32)) : Int32 := ((it (B_X3_pairs_4 g_t_of) 0 8 (0 : Int32)) / 2)
set_option maxHeartbeats 4000000 in
set_option maxRecDepth 100000 in
theorem T_X3_pairs (l : Launch) (D : va_G) (cI cZ : ClassId) (a_t a_t_of : Nat) (g_t_of : (Nat → Int32)) : CT l D cI cZ yX3_pairs wsX3_pairs ({ frames := 1, cells := 0, slots := 0, locals := 20 }) [.ref a_t] [(a_t, .inr (3, [.ref a_t_of])), (a_t_of, .inl (cI, 8, .inl g_t_of))] (some (.int (f_X3_pairs g_t_of))) [(a_t, .inr (3, [.ref a_t_of])), (a_t_of, .inl (cI, 8, .inl g_t_of))] := by
  refine CT.intro RX3 (by decide) rfl (Nat.le_of_ble_eq_true rfl) rfl ?_
  intro p e s m below meth c C hr hw ls hl
  have hx := C.hx
  have hb := C.hb
  replace hl : lv_has ls 3 [(0, .ref a_t)] := hl
  refine lv_iconst (v := 0) hx hb dX3_pairs_0 (by decide) ?_
  refine lv_istore_n (lv' := [(1, .int 0), (0, .ref a_t)]) hx hb dX3_pairs_1 rfl hl (by decide) rfl (fun ls hl => ?_)
  refine lv_iconst (v := 0) hx hb dX3_pairs_2 (by decide) ?_
  refine lv_istore_n (lv' := [(2, .int 0), (1, .int 0), (0, .ref a_t)]) hx hb dX3_pairs_3 rfl hl (by decide) rfl (fun ls hl => ?_)
  refine l_X3_pairs_4 a_t a_t_of g_t_of C 8 0 (0 : Int32) (by decide) (by decide) _ _ hw _ (lv_sub hl [2, 1, 0] rfl) (fun H locs ls hw hl => ?_)
  replace hw : kW D _ s H locs [(a_t, .inr (3, [.ref a_t_of])), (a_t_of, .inl (cI, 8, .inl g_t_of))] := hw
  replace hl : lv_has ls 3 [(1, .int (it (B_X3_pairs_4 g_t_of) 0 8 (0 : Int32)))] := hl
  refine lv_iload_n hx hb dX3_pairs_28 rfl (lv_at hl 0 rfl) ?_
  refine lv_iconst (v := 2) hx hb dX3_pairs_29 (by decide) ?_
  refine lv_idiv hx hb dX3_pairs_30 (by decide) ?_
  rw [show f_X3_pairs g_t_of = ((it (B_X3_pairs_4 g_t_of) 0 8 (0 : Int32)) / 2) from by
      unfold f_X3_pairs
      exact rfl]
  exact k_iret C hr hw dX3_pairs_31

theorem nX7_copyFrom_X7 : ∀ w ∈ wsX70, w ∈ wsX7_copyFrom := fun _ h => List.mem_cons_of_mem _ (List.mem_append_right _ h)
def f_X7_copyFrom (v_r1_size : Int32) (g_r1_sets : (Nat → Int32)) (g_t_sets : (Nat → Int32)) (g_r1_counts : (Nat → Int32)) (g_t_counts : (Nat → Int32)) : Int32 × (Nat → Int32) × (Nat → Int32) := (v_r1_size, (va_cpy g_r1_sets g_t_sets 0 0 8), (va_cpy g_r1_counts g_t_counts 0 0 8))
set_option maxHeartbeats 4000000 in
set_option maxRecDepth 100000 in
theorem T_X7_copyFrom (l : Launch) (D : va_G) (cI cZ : ClassId) (a_r1 a_r1_sets a_r1_counts a_t a_t_sets a_t_counts : Nat) (v_r1_size : Int32) (v_t_size : Int32) (g_r1_sets : (Nat → Int32)) (g_t_sets : (Nat → Int32)) (g_r1_counts : (Nat → Int32)) (g_t_counts : (Nat → Int32)) : CT l D cI cZ yX7_copyFrom wsX7_copyFrom ({ frames := 1, cells := 0, slots := 0, locals := 80 }) [.ref a_t, .ref a_r1] [(a_r1, .inr (7, [.ref a_r1_sets, .ref a_r1_counts, .int v_r1_size])), (a_t, .inr (7, [.ref a_t_sets, .ref a_t_counts, .int v_t_size])), (a_r1_sets, .inl (cI, 8, .inl g_r1_sets)), (a_t_sets, .inl (cI, 8, .inl g_t_sets)), (a_r1_counts, .inl (cI, 8, .inl g_r1_counts)), (a_t_counts, .inl (cI, 8, .inl g_t_counts))] none [(a_r1, .inr (7, [.ref a_r1_sets, .ref a_r1_counts, .int v_r1_size])), (a_t, .inr (7, [.ref a_t_sets, .ref a_t_counts, .int (f_X7_copyFrom v_r1_size g_r1_sets g_t_sets g_r1_counts g_t_counts).1])), (a_r1_sets, .inl (cI, 8, .inl g_r1_sets)), (a_t_sets, .inl (cI, 8, .inl (f_X7_copyFrom v_r1_size g_r1_sets g_t_sets g_r1_counts g_t_counts).2.1)), (a_r1_counts, .inl (cI, 8, .inl g_r1_counts)), (a_t_counts, .inl (cI, 8, .inl (f_X7_copyFrom v_r1_size g_r1_sets g_t_sets g_r1_counts g_t_counts).2.2))] := by
  refine CT.intro RX7 (by decide) rfl (Nat.le_of_ble_eq_true rfl) rfl ?_
  intro p e s m below meth c C hr hw ls hl
  have hx := C.hx
  have hb := C.hb
  replace hl : lv_has ls 2 [(0, .ref a_t), (1, .ref a_r1)] := hl
  refine lv_aload_n hx hb dX7_copyFrom_0 rfl (lv_at hl 1 rfl) ?_
  refine k_get C hw (CC := RX7) (T := TX7) (N := 3) nX7_copyFrom_X7 0 rfl rfl 0 (by decide) (List.mem_of_getElem? (i := 1) rfl) rfl rfl dX7_copyFrom_1 ?_
  refine lv_iconst (v := 0) hx hb dX7_copyFrom_4 (by decide) ?_
  refine lv_aload_n hx hb dX7_copyFrom_5 rfl (lv_at hl 0 rfl) ?_
  refine k_get C hw (CC := RX7) (T := TX7) (N := 3) nX7_copyFrom_X7 1 rfl rfl 0 (by decide) (List.mem_of_getElem? (i := 1) rfl) rfl rfl dX7_copyFrom_6 ?_
  refine lv_iconst (v := 0) hx hb dX7_copyFrom_9 (by decide) ?_
  refine lv_bipush (v := 8) hx hb dX7_copyFrom_10 (by decide) ?_
  refine k_copy C hw (List.mem_of_getElem? (i := 2) rfl) (List.mem_of_getElem? (i := 3) rfl) (List.mem_of_getElem? (i := 4) rfl) (List.mem_of_getElem? (i := 5) rfl) hl.1 2 3 rfl rfl (by decide) (by decide) (by decide) (by decide) (by decide) (Nat.le_of_ble_eq_true rfl) (Nat.le_of_ble_eq_true rfl) dX7_copyFrom_12 (fun H locs hw => ?_)
  replace hw : kW D _ s H locs [(a_r1, .inr (7, [.ref a_r1_sets, .ref a_r1_counts, .int v_r1_size])), (a_t, .inr (7, [.ref a_t_sets, .ref a_t_counts, .int v_t_size])), (a_r1_sets, .inl (cI, 8, .inl g_r1_sets)), (a_t_sets, .inl (cI, 8, .inl (va_cpy g_r1_sets g_t_sets 0 0 8))), (a_r1_counts, .inl (cI, 8, .inl g_r1_counts)), (a_t_counts, .inl (cI, 8, .inl g_t_counts))] := hw
  refine lv_aload_n hx hb dX7_copyFrom_15 rfl (lv_at hl 1 rfl) ?_
  refine k_get C hw (CC := RX7) (T := TX7) (N := 3) nX7_copyFrom_X7 0 rfl rfl 1 (by decide) (List.mem_of_getElem? (i := 6) rfl) rfl rfl dX7_copyFrom_16 ?_
  refine lv_iconst (v := 0) hx hb dX7_copyFrom_19 (by decide) ?_
  refine lv_aload_n hx hb dX7_copyFrom_20 rfl (lv_at hl 0 rfl) ?_
  refine k_get C hw (CC := RX7) (T := TX7) (N := 3) nX7_copyFrom_X7 1 rfl rfl 1 (by decide) (List.mem_of_getElem? (i := 6) rfl) rfl rfl dX7_copyFrom_21 ?_
  refine lv_iconst (v := 0) hx hb dX7_copyFrom_24 (by decide) ?_
  refine lv_bipush (v := 8) hx hb dX7_copyFrom_25 (by decide) ?_
  refine k_copy C hw (List.mem_of_getElem? (i := 2) rfl) (List.mem_of_getElem? (i := 3) rfl) (List.mem_of_getElem? (i := 4) rfl) (List.mem_of_getElem? (i := 5) rfl) hl.1 4 5 rfl rfl (by decide) (by decide) (by decide) (by decide) (by decide) (Nat.le_of_ble_eq_true rfl) (Nat.le_of_ble_eq_true rfl) dX7_copyFrom_27 (fun H locs hw => ?_)
  replace hw : kW D _ s H locs [(a_r1, .inr (7, [.ref a_r1_sets, .ref a_r1_counts, .int v_r1_size])), (a_t, .inr (7, [.ref a_t_sets, .ref a_t_counts, .int v_t_size])), (a_r1_sets, .inl (cI, 8, .inl g_r1_sets)), (a_t_sets, .inl (cI, 8, .inl (va_cpy g_r1_sets g_t_sets 0 0 8))), (a_r1_counts, .inl (cI, 8, .inl g_r1_counts)), (a_t_counts, .inl (cI, 8, .inl (va_cpy g_r1_counts g_t_counts 0 0 8)))] := hw
  refine lv_aload_n hx hb dX7_copyFrom_30 rfl (lv_at hl 0 rfl) ?_
  refine lv_aload_n hx hb dX7_copyFrom_31 rfl (lv_at hl 1 rfl) ?_
  refine k_get C hw (CC := RX7) (T := TX7) (N := 3) nX7_copyFrom_X7 0 rfl rfl 2 (by decide) (List.mem_of_getElem? (i := 7) rfl) rfl rfl dX7_copyFrom_32 ?_
  refine k_put C hw (CC := RX7) (T := TX7) (N := 3) (v := .int v_r1_size) nX7_copyFrom_X7 tyX7_ok nmX7 1 rfl rfl 2 (by decide) (List.mem_of_getElem? (i := 7) rfl) rfl rfl rfl rfl (Nat.le_of_ble_eq_true rfl) dX7_copyFrom_35 (fun H locs hw => ?_)
  replace hw : kW D _ s H locs [(a_r1, .inr (7, [.ref a_r1_sets, .ref a_r1_counts, .int v_r1_size])), (a_t, .inr (7, [.ref a_t_sets, .ref a_t_counts, .int v_r1_size])), (a_r1_sets, .inl (cI, 8, .inl g_r1_sets)), (a_t_sets, .inl (cI, 8, .inl (va_cpy g_r1_sets g_t_sets 0 0 8))), (a_r1_counts, .inl (cI, 8, .inl g_r1_counts)), (a_t_counts, .inl (cI, 8, .inl (va_cpy g_r1_counts g_t_counts 0 0 8)))] := hw
  rw [show f_X7_copyFrom v_r1_size g_r1_sets g_t_sets g_r1_counts g_t_counts = (v_r1_size, (va_cpy g_r1_sets g_t_sets 0 0 8), (va_cpy g_r1_counts g_t_counts 0 0 8)) from by
      unfold f_X7_copyFrom
      exact rfl]
  exact k_vret C hr hw dX7_copyFrom_38

theorem nX7_add_X7 : ∀ w ∈ wsX70, w ∈ wsX7_add := fun _ h => List.mem_cons_of_mem _ (List.mem_append_right _ h)
def f_X7_add (v_t_size : Int32) (g_t_sets : (Nat → Int32)) (g_t_counts : (Nat → Int32)) (p1 : Int32) (p2 : Int32) : Int32 × (Nat → Int32) × (Nat → Int32) := (if 8 ≤ v_t_size then (v_t_size, g_t_sets, g_t_counts) else ((v_t_size + 1), (upd g_t_sets v_t_size.toNatClampNeg p1), (upd g_t_counts v_t_size.toNatClampNeg p2)))
def o_X7_add (v_t_size : Int32) : Prop := (if 8 ≤ v_t_size then True else ((vp_in v_t_size 8) ∧ ((vp_in v_t_size 8) ∧ True)))
set_option maxHeartbeats 4000000 in
set_option maxRecDepth 100000 in
theorem T_X7_add (l : Launch) (D : va_G) (cI cZ : ClassId) (a_t a_t_sets a_t_counts : Nat) (v_t_size : Int32) (g_t_sets : (Nat → Int32)) (g_t_counts : (Nat → Int32)) (p1 : Int32) (p2 : Int32) (hok : o_X7_add v_t_size) : CT l D cI cZ yX7_add wsX7_add ({ frames := 0, cells := 0, slots := 0, locals := 0 }) [.ref a_t, .int p1, .int p2] [(a_t, .inr (7, [.ref a_t_sets, .ref a_t_counts, .int v_t_size])), (a_t_sets, .inl (cI, 8, .inl g_t_sets)), (a_t_counts, .inl (cI, 8, .inl g_t_counts))] none [(a_t, .inr (7, [.ref a_t_sets, .ref a_t_counts, .int (f_X7_add v_t_size g_t_sets g_t_counts p1 p2).1])), (a_t_sets, .inl (cI, 8, .inl (f_X7_add v_t_size g_t_sets g_t_counts p1 p2).2.1)), (a_t_counts, .inl (cI, 8, .inl (f_X7_add v_t_size g_t_sets g_t_counts p1 p2).2.2))] := by
  refine CT.intro RX7 (by decide) rfl (Nat.le_of_ble_eq_true rfl) rfl ?_
  intro p e s m below meth c C hr hw ls hl
  have hx := C.hx
  have hb := C.hb
  replace hl : lv_has ls 3 [(0, .ref a_t), (1, .int p1), (2, .int p2)] := hl
  refine lv_aload_n hx hb dX7_add_0 rfl (lv_at hl 0 rfl) ?_
  refine k_get C hw (CC := RX7) (T := TX7) (N := 3) nX7_add_X7 0 rfl rfl 2 (by decide) (List.mem_of_getElem? (i := 1) rfl) rfl rfl dX7_add_1 ?_
  refine lv_bipush (v := 8) hx hb dX7_add_4 (by decide) ?_
  refine lv_icmp_ge (tgt := 39) hx hb dX7_add_6 (by decide) (fun c1 => ?_) (fun c1 => ?_)
  · rw [show f_X7_add v_t_size g_t_sets g_t_counts p1 p2 = (v_t_size, g_t_sets, g_t_counts) from by
        unfold f_X7_add
        exact (if_pos c1).trans (rfl)]
    exact k_vret C hr hw dX7_add_39
  · replace hok := Eq.mp (if_neg c1) hok
    refine lv_aload_n hx hb dX7_add_9 rfl (lv_at hl 0 rfl) ?_
    refine k_get C hw (CC := RX7) (T := TX7) (N := 3) nX7_add_X7 0 rfl rfl 0 (by decide) (List.mem_of_getElem? (i := 2) rfl) rfl rfl dX7_add_10 ?_
    refine lv_aload_n hx hb dX7_add_13 rfl (lv_at hl 0 rfl) ?_
    refine k_get C hw (CC := RX7) (T := TX7) (N := 3) nX7_add_X7 0 rfl rfl 2 (by decide) (List.mem_of_getElem? (i := 1) rfl) rfl rfl dX7_add_14 ?_
    refine lv_iload_n hx hb dX7_add_17 rfl (lv_at hl 1 rfl) ?_
    obtain ⟨h2, hok⟩ := hok
    refine k_iast C hw 1 rfl h2 dX7_add_18 (fun H locs hw => ?_)
    replace hw : kW D _ s H locs [(a_t, .inr (7, [.ref a_t_sets, .ref a_t_counts, .int v_t_size])), (a_t_sets, .inl (cI, 8, .inl (upd g_t_sets v_t_size.toNatClampNeg p1))), (a_t_counts, .inl (cI, 8, .inl g_t_counts))] := hw
    refine lv_aload_n hx hb dX7_add_19 rfl (lv_at hl 0 rfl) ?_
    refine k_get C hw (CC := RX7) (T := TX7) (N := 3) nX7_add_X7 0 rfl rfl 1 (by decide) (List.mem_of_getElem? (i := 3) rfl) rfl rfl dX7_add_20 ?_
    refine lv_aload_n hx hb dX7_add_23 rfl (lv_at hl 0 rfl) ?_
    refine k_get C hw (CC := RX7) (T := TX7) (N := 3) nX7_add_X7 0 rfl rfl 2 (by decide) (List.mem_of_getElem? (i := 1) rfl) rfl rfl dX7_add_24 ?_
    refine lv_iload_n hx hb dX7_add_27 rfl (lv_at hl 2 rfl) ?_
    obtain ⟨h3, hok⟩ := hok
    refine k_iast C hw 2 rfl h3 dX7_add_28 (fun H locs hw => ?_)
    replace hw : kW D _ s H locs [(a_t, .inr (7, [.ref a_t_sets, .ref a_t_counts, .int v_t_size])), (a_t_sets, .inl (cI, 8, .inl (upd g_t_sets v_t_size.toNatClampNeg p1))), (a_t_counts, .inl (cI, 8, .inl (upd g_t_counts v_t_size.toNatClampNeg p2)))] := hw
    refine lv_aload_n hx hb dX7_add_29 rfl (lv_at hl 0 rfl) ?_
    refine lv_dup hx hb dX7_add_30 rfl ?_
    refine k_get C hw (CC := RX7) (T := TX7) (N := 3) nX7_add_X7 0 rfl rfl 2 (by decide) (List.mem_of_getElem? (i := 1) rfl) rfl rfl dX7_add_31 ?_
    refine lv_iconst (v := 1) hx hb dX7_add_34 (by decide) ?_
    refine lv_iadd hx hb dX7_add_35 ?_
    refine k_put C hw (CC := RX7) (T := TX7) (N := 3) (v := .int (v_t_size + 1)) nX7_add_X7 tyX7_ok nmX7 0 rfl rfl 2 (by decide) (List.mem_of_getElem? (i := 1) rfl) rfl rfl rfl rfl (Nat.le_of_ble_eq_true rfl) dX7_add_36 (fun H locs hw => ?_)
    replace hw : kW D _ s H locs [(a_t, .inr (7, [.ref a_t_sets, .ref a_t_counts, .int (v_t_size + 1)])), (a_t_sets, .inl (cI, 8, .inl (upd g_t_sets v_t_size.toNatClampNeg p1))), (a_t_counts, .inl (cI, 8, .inl (upd g_t_counts v_t_size.toNatClampNeg p2)))] := hw
    rw [show f_X7_add v_t_size g_t_sets g_t_counts p1 p2 = ((v_t_size + 1), (upd g_t_sets v_t_size.toNatClampNeg p1), (upd g_t_counts v_t_size.toNatClampNeg p2)) from by
        unfold f_X7_add
        exact (if_neg c1).trans (rfl)]
    exact k_vret C hr hw dX7_add_39

theorem nX7_allow_X7 : ∀ w ∈ wsX70, w ∈ wsX7_allow := fun _ h => List.mem_cons_of_mem _ (List.mem_append_right _ h)
def B_X7_allow_2 (x1 : Int32) (g_t_sets : (Nat → Int32)) (g_t_counts : (Nat → Int32)) (j : Nat) (v : Unit) : (Unit) ⊕ ((Unit) ⊕ (Int32)) := (if 8 ≤ (nI j) then Sum.inr (Sum.inl ()) else (if (f_J6_bitCount_0f7a4 ((g_t_sets j) &&& x1)) = (g_t_counts j) then Sum.inl () else Sum.inr (Sum.inr 0)))
def oB_X7_allow_2 (j : Nat) (v : Unit) : Prop := (if 8 ≤ (nI j) then True else ((j < 8) ∧ ((j < 8) ∧ True)))
set_option maxHeartbeats 4000000 in
set_option maxRecDepth 100000 in
theorem l_X7_allow_2 {p : Program} {l : Launch} {e : Env} {s : State} {m : MethodId} {args : Array Value} {below : List Frame} {meth : Method} {c : Code} {D : va_G} {cI cZ : ClassId} (a_t a_t_sets a_t_counts : Nat) (W0 : va_W) (x1 : Int32) (v_t_size : Int32) (g_t_sets : (Nat → Int32)) (g_t_counts : (Nat → Int32)) (RES : Int32) (C : kC p s m args meth c cX7_allow 3 wsX7_allow RX7 D cI cZ (va_A W0 s.heap.size)) (hr : meth.sig.returnType = some .boolean) (b : Nat) (hB : v_t_size = nI b) (hb31 : b < 2147483648) : ∀ (n j : Nat), n = b - j → j < 2147483648 → lpA oB_X7_allow_2 (B_X7_allow_2 x1 g_t_sets g_t_counts) j n () → (∀ r, (lp (B_X7_allow_2 x1 g_t_sets g_t_counts) j n ()) = Sum.inr r → RES = r) → ∀ (H : Heap) (locs : List Loc), kW D (va_A W0 s.heap.size) s H locs [(a_t, .inr (7, [.ref a_t_sets, .ref a_t_counts, .int v_t_size])), (a_t_sets, .inl (cI, 8, .inl g_t_sets)), (a_t_counts, .inl (cI, 8, .inl g_t_counts))] → ∀ (ls : Array Slot), lv_has ls 3 [(0, .ref a_t), (1, .int x1), (2, .int (nI j))] → (lp (B_X7_allow_2 x1 g_t_sets g_t_counts) j n () = Sum.inl () → ∀ (H : Heap) (locs : List Loc) (ls : Array Slot), kW D (va_A W0 s.heap.size) s H locs [(a_t, .inr (7, [.ref a_t_sets, .ref a_t_counts, .int v_t_size])), (a_t_sets, .inl (cI, 8, .inl g_t_sets)), (a_t_counts, .inl (cI, 8, .inl g_t_counts))] → lv_has ls 3 [] → W p l e ({ frames := 1, cells := 0, slots := 0, locals := 20 }) s m args below meth c H locs 0 0 (MQ below (kQ D W0 s.heap.size (some (.int RES)) [(a_t, .inr (7, [.ref a_t_sets, .ref a_t_counts, .int v_t_size])), (a_t_sets, .inl (cI, 8, .inl g_t_sets)), (a_t_counts, .inl (cI, 8, .inl g_t_counts))]) args s 0 0 (va_A W0 s.heap.size)) (F0 m 44 ls [])) → W p l e ({ frames := 1, cells := 0, slots := 0, locals := 20 }) s m args below meth c H locs 0 0 (MQ below (kQ D W0 s.heap.size (some (.int RES)) [(a_t, .inr (7, [.ref a_t_sets, .ref a_t_counts, .int v_t_size])), (a_t_sets, .inl (cI, 8, .inl g_t_sets)), (a_t_counts, .inl (cI, 8, .inl g_t_counts))]) args s 0 0 (va_A W0 s.heap.size)) (F0 m 2 ls []) := by
  have hx := C.hx
  have hb := C.hb
  intro n
  induction n with
  | zero =>
    intro j hn hj hok0 hres H locs hw ls hl kk
    refine lv_iload_n hx hb dX7_allow_2 rfl (lv_at hl 2 rfl) ?_
    refine lv_aload_n hx hb dX7_allow_3 rfl (lv_at hl 0 rfl) ?_
    refine k_get C hw (CC := RX7) (T := TX7) (N := 3) nX7_allow_X7 0 rfl rfl 2 (by decide) (List.mem_of_getElem? (i := 1) rfl) rfl rfl dX7_allow_4 ?_
    refine lv_icmp_ge (tgt := 44) hx hb dX7_allow_7 (by decide) (fun c6 => ?_) (fun c6 => by rw [hB] at c6; exact absurd (nI_le (a := b) (b := j) (by omega) (by omega)) c6)
    exact kk  rfl _ _ _ hw (lv_sub hl [] rfl)
  | succ n ih =>
    intro j hn hj hok0 hres H locs hw ls hl kk
    have hok := hok0.1
    refine lv_iload_n hx hb dX7_allow_2 rfl (lv_at hl 2 rfl) ?_
    refine lv_aload_n hx hb dX7_allow_3 rfl (lv_at hl 0 rfl) ?_
    refine k_get C hw (CC := RX7) (T := TX7) (N := 3) nX7_allow_X7 0 rfl rfl 2 (by decide) (List.mem_of_getElem? (i := 1) rfl) rfl rfl dX7_allow_4 ?_
    refine lv_icmp_ge (tgt := 44) hx hb dX7_allow_7 (by decide) (fun c1 => by rw [hB] at c1; exact absurd c1 (nI_ge (a := j) (b := b) (by omega) (by omega))) (fun c1 => ?_)
    refine lv_iload_n hx hb dX7_allow_10 rfl (lv_at hl 2 rfl) ?_
    refine lv_bipush (v := 8) hx hb dX7_allow_11 (by decide) ?_
    refine lv_icmp_ge (tgt := 44) hx hb dX7_allow_13 (by decide) (fun c2 => ?_) (fun c2 => ?_)
    · have hB : B_X7_allow_2 x1 g_t_sets g_t_counts j () = Sum.inr (Sum.inl ()) := by
        unfold B_X7_allow_2
        exact (if_pos c2).trans (rfl)
      exact kk  (lp_b hB) _ _ _ hw (lv_sub hl [] rfl)
    · replace hok := Eq.mp (if_neg c2) hok
      refine lv_aload_n hx hb dX7_allow_16 rfl (lv_at hl 0 rfl) ?_
      refine k_get C hw (CC := RX7) (T := TX7) (N := 3) nX7_allow_X7 0 rfl rfl 0 (by decide) (List.mem_of_getElem? (i := 2) rfl) rfl rfl dX7_allow_17 ?_
      refine lv_iload_n hx hb dX7_allow_20 rfl (lv_at hl 2 rfl) ?_
      obtain ⟨h3, hok⟩ := hok
      refine k_ialdN C hw 1 rfl j rfl h3 (by decide) dX7_allow_21 ?_
      refine lv_iload_n hx hb dX7_allow_22 rfl (lv_at hl 1 rfl) ?_
      refine lv_iand hx hb dX7_allow_23 ?_
      refine k_callS (As := [.int ((g_t_sets j) &&& x1)]) (rest := []) (n := 1) C hw (T_J6_bitCount_0f7a4 l D cI cZ ((g_t_sets j) &&& x1)) gX7_allow_J6_bitCount_0f7a4 rfl ⟨rfl, rfl⟩ (by decide +kernel) ⟨Nat.le_of_ble_eq_true rfl, Nat.le_of_ble_eq_true rfl⟩ [] rfl rfl [] rfl rfl rfl hl.1 rfl (Nat.le_of_ble_eq_true rfl) ⟨Nat.zero_le _, Nat.zero_le _⟩ dX7_allow_24 (fun H locs hw => ?_)
      refine W.eq (g2 := F0 m 27 ls [.int (f_J6_bitCount_0f7a4 ((g_t_sets j) &&& x1))]) rfl ?_
      replace hw : kW D _ s H locs [(a_t, .inr (7, [.ref a_t_sets, .ref a_t_counts, .int v_t_size])), (a_t_sets, .inl (cI, 8, .inl g_t_sets)), (a_t_counts, .inl (cI, 8, .inl g_t_counts))] := hw
      refine lv_aload_n hx hb dX7_allow_27 rfl (lv_at hl 0 rfl) ?_
      refine k_get C hw (CC := RX7) (T := TX7) (N := 3) nX7_allow_X7 0 rfl rfl 1 (by decide) (List.mem_of_getElem? (i := 3) rfl) rfl rfl dX7_allow_28 ?_
      refine lv_iload_n hx hb dX7_allow_31 rfl (lv_at hl 2 rfl) ?_
      obtain ⟨h4, hok⟩ := hok
      refine k_ialdN C hw 2 rfl j rfl h4 (by decide) dX7_allow_32 ?_
      refine lv_icmp_eq (tgt := 38) hx hb dX7_allow_33 (by decide) (fun c5 => ?_) (fun c5 => ?_)
      · refine lv_iinc (v := (nI (j + 1))) (lv' := [(2, .int (nI (j + 1))), (0, .ref a_t), (1, .int x1)]) hx hb dX7_allow_38 hl (k := 2) rfl (nI_1 _) (by decide) rfl (fun ls hl => ?_)
        refine lv_goto (tgt := 2) hx hb dX7_allow_41 (by decide) ?_
        have hB : B_X7_allow_2 x1 g_t_sets g_t_counts j () = Sum.inl () := by
          unfold B_X7_allow_2
          exact (if_neg c2).trans ((if_pos c5).trans (rfl))
        rw [lp_c hB] at kk hres
        have hok2 := lpA_c hB hok0
        exact ih (j + 1)  (by omega) (by omega) hok2 hres _ _ hw _ (lv_sub hl [1, 2, 0] rfl) kk
      · refine lv_iconst (v := 0) hx hb dX7_allow_36 (by decide) ?_
        have hB : B_X7_allow_2 x1 g_t_sets g_t_counts j () = Sum.inr (Sum.inr 0) := by
          unfold B_X7_allow_2
          exact (if_neg c2).trans ((if_neg c5).trans (rfl))
        have hf := hres _ (lp_b hB)
        rw [hf]
        exact k_zret (v := 0) C hr hw nz0 dX7_allow_37
def f_X7_allow (v_t_size : Int32) (g_t_sets : (Nat → Int32)) (g_t_counts : (Nat → Int32)) (p1 : Int32) : Int32 := (Sum.elim (fun y => 1) id (lp (B_X7_allow_2 p1 g_t_sets g_t_counts) 0 ((v_t_size.toNatClampNeg) - 0) ()))
def o_X7_allow (v_t_size : Int32) (g_t_sets : (Nat → Int32)) (g_t_counts : (Nat → Int32)) (p1 : Int32) : Prop := ((0 ≤ v_t_size) ∧ ((lpA oB_X7_allow_2 (B_X7_allow_2 p1 g_t_sets g_t_counts) 0 ((v_t_size.toNatClampNeg) - 0) ()) ∧ True))
set_option maxHeartbeats 4000000 in
set_option maxRecDepth 100000 in
theorem T_X7_allow (l : Launch) (D : va_G) (cI cZ : ClassId) (a_t a_t_sets a_t_counts : Nat) (v_t_size : Int32) (g_t_sets : (Nat → Int32)) (g_t_counts : (Nat → Int32)) (p1 : Int32) (hok : o_X7_allow v_t_size g_t_sets g_t_counts p1) : CT l D cI cZ yX7_allow wsX7_allow ({ frames := 1, cells := 0, slots := 0, locals := 20 }) [.ref a_t, .int p1] [(a_t, .inr (7, [.ref a_t_sets, .ref a_t_counts, .int v_t_size])), (a_t_sets, .inl (cI, 8, .inl g_t_sets)), (a_t_counts, .inl (cI, 8, .inl g_t_counts))] (some (.int (f_X7_allow v_t_size g_t_sets g_t_counts p1))) [(a_t, .inr (7, [.ref a_t_sets, .ref a_t_counts, .int v_t_size])), (a_t_sets, .inl (cI, 8, .inl g_t_sets)), (a_t_counts, .inl (cI, 8, .inl g_t_counts))] := by
  refine CT.intro RX7 (by decide) rfl (Nat.le_of_ble_eq_true rfl) rfl ?_
  intro p e s m below meth c C hr hw ls hl
  have hx := C.hx
  have hb := C.hb
  replace hl : lv_has ls 3 [(0, .ref a_t), (1, .int p1)] := hl
  refine lv_iconst (v := 0) hx hb dX7_allow_0 (by decide) ?_
  refine lv_istore_n (lv' := [(2, .int 0), (0, .ref a_t), (1, .int p1)]) hx hb dX7_allow_1 rfl hl (by decide) rfl (fun ls hl => ?_)
  obtain ⟨h7, hok⟩ := hok
  obtain ⟨h8, hok⟩ := hok
  refine l_X7_allow_2 a_t a_t_sets a_t_counts _ p1 v_t_size g_t_sets g_t_counts (f_X7_allow v_t_size g_t_sets g_t_counts p1) C hr v_t_size.toNatClampNeg (nI_self h7) (clamp_lt _) ((v_t_size.toNatClampNeg) - 0) 0  rfl (by decide) h8 (fun r h => by unfold f_X7_allow; exact congrArg (Sum.elim _ id) h) _ _ hw _ (lv_sub hl [1, 2, 0] rfl) (fun h9 H locs ls hw hl => ?_)
  replace hw : kW D _ s H locs [(a_t, .inr (7, [.ref a_t_sets, .ref a_t_counts, .int v_t_size])), (a_t_sets, .inl (cI, 8, .inl g_t_sets)), (a_t_counts, .inl (cI, 8, .inl g_t_counts))] := hw
  replace hl : lv_has ls 3 [] := hl
  refine lv_iconst (v := 1) hx hb dX7_allow_44 (by decide) ?_
  rw [show f_X7_allow v_t_size g_t_sets g_t_counts p1 = 1 from by
      unfold f_X7_allow
      exact (congrArg (Sum.elim _ id) h9).trans (rfl)]
  exact k_zret (v := 1) C hr hw nz1 dX7_allow_45

theorem nX0_workSet_X0 : ∀ w ∈ wsX00, w ∈ wsX0_workSet := fun _ h => List.mem_cons_of_mem _ (List.mem_append_right _ h)
def B_X0_workSet_7 (x1 : Int32) (g_t_mostGroups : (Nat → Int32)) (g_t_dues : (Nat → Int32)) (j : Nat) (v : Int32 × Int32) : Int32 × Int32 := (if ((x1 >>> ((nI j) &&& 31)) &&& 1) = 1 then ((v.1 + (g_t_dues j)), (if v.2 < (g_t_mostGroups (x1 &&& (((1 : Int32) <<< ((nI j) &&& 31)) ^^^ (-1))).toNatClampNeg) then (g_t_mostGroups (x1 &&& (((1 : Int32) <<< ((nI j) &&& 31)) ^^^ (-1))).toNatClampNeg) else v.2)) else (v.1, v.2))
def oB_X0_workSet_7 (x1 : Int32) (j : Nat) (v : Int32 × Int32) : Prop := (if ((x1 >>> ((nI j) &&& 31)) &&& 1) = 1 then ((vp_in (x1 &&& (((1 : Int32) <<< ((nI j) &&& 31)) ^^^ (-1))) 256) ∧ True) else True)
set_option maxHeartbeats 4000000 in
set_option maxRecDepth 100000 in
theorem l_X0_workSet_7 {p : Program} {l : Launch} {e : Env} {s : State} {m : MethodId} {args : Array Value} {below : List Frame} {meth : Method} {c : Code} {D : va_G} {cI cZ : ClassId} {Q : State → Prop} {A : Nat → Prop} (a_t a_t_dues a_t_mostGroups : Nat) (x1 : Int32) (v_t_owing : Int32) (g_t_mostGroups : (Nat → Int32)) (g_t_dues : (Nat → Int32)) (C : kC p s m args meth c cX0_workSet 5 wsX0_workSet RX0 D cI cZ A) : ∀ (n j : Nat) (x2 : Int32) (x3 : Int32), n = 8 - j → j < 2147483648 → itA (oB_X0_workSet_7 x1) (B_X0_workSet_7 x1 g_t_mostGroups g_t_dues) j n (x2, x3) → ∀ (H : Heap) (locs : List Loc), kW D A s H locs [(a_t, .inr (0, [.ref a_t_dues, .ref a_t_mostGroups, .int v_t_owing])), (a_t_mostGroups, .inl (cI, 256, .inl g_t_mostGroups)), (a_t_dues, .inl (cI, 8, .inl g_t_dues))] → ∀ (ls : Array Slot), lv_has ls 5 [(0, .ref a_t), (1, .int x1), (2, .int x2), (3, .int x3), (4, .int (nI j))] → (∀ (H : Heap) (locs : List Loc) (ls : Array Slot), kW D A s H locs [(a_t, .inr (0, [.ref a_t_dues, .ref a_t_mostGroups, .int v_t_owing])), (a_t_mostGroups, .inl (cI, 256, .inl g_t_mostGroups)), (a_t_dues, .inl (cI, 8, .inl g_t_dues))] → lv_has ls 5 [(0, .ref a_t), (1, .int x1), (2, .int (it (B_X0_workSet_7 x1 g_t_mostGroups g_t_dues) j n (x2, x3)).1), (3, .int (it (B_X0_workSet_7 x1 g_t_mostGroups g_t_dues) j n (x2, x3)).2)] → W p l e ({ frames := 1, cells := 0, slots := 0, locals := 21 }) s m args below meth c H locs 0 0 Q (F0 m 58 ls [])) → W p l e ({ frames := 1, cells := 0, slots := 0, locals := 21 }) s m args below meth c H locs 0 0 Q (F0 m 7 ls []) := by
  have hx := C.hx
  have hb := C.hb
  intro n
  induction n with
  | zero =>
    intro j x2 x3 hn hj hok0 H locs hw ls hl kk
    refine lv_iload hx hb dX0_workSet_7 (lv_at hl 4 rfl) ?_
    refine lv_bipush (v := 8) hx hb dX0_workSet_9 (by decide) ?_
    refine lv_icmp_ge (tgt := 58) hx hb dX0_workSet_11 (by decide) (fun c4 => ?_) (fun c4 => by exact absurd (nI_le (a := 8) (b := j) (by omega) (by omega)) c4)
    exact kk _ _ _ hw (lv_sub hl [0, 1, 2, 3] rfl)
  | succ n ih =>
    intro j x2 x3 hn hj hok0 H locs hw ls hl kk
    have hok := hok0.1
    refine lv_iload hx hb dX0_workSet_7 (lv_at hl 4 rfl) ?_
    refine lv_bipush (v := 8) hx hb dX0_workSet_9 (by decide) ?_
    refine lv_icmp_ge (tgt := 58) hx hb dX0_workSet_11 (by decide) (fun c1 => by exact absurd c1 (nI_ge (a := j) (b := 8) (by omega) (by omega))) (fun c1 => ?_)
    refine lv_iload_n hx hb dX0_workSet_14 rfl (lv_at hl 1 rfl) ?_
    refine lv_iload hx hb dX0_workSet_15 (lv_at hl 4 rfl) ?_
    refine lv_ishr hx hb dX0_workSet_17 ?_
    refine lv_iconst (v := 1) hx hb dX0_workSet_18 (by decide) ?_
    refine lv_iand hx hb dX0_workSet_19 ?_
    refine lv_iconst (v := 1) hx hb dX0_workSet_20 (by decide) ?_
    refine lv_icmp_ne (tgt := 52) hx hb dX0_workSet_21 (by decide) (fun c2 => ?_) (fun c2 => ?_)
    · refine lv_iinc (v := (nI (j + 1))) (lv' := [(4, .int (nI (j + 1))), (0, .ref a_t), (1, .int x1), (2, .int x2), (3, .int x3)]) hx hb dX0_workSet_52 hl (k := 4) rfl (nI_1 _) (by decide) rfl (fun ls hl => ?_)
      refine lv_goto (tgt := 7) hx hb dX0_workSet_55 (by decide) ?_
      have hB : B_X0_workSet_7 x1 g_t_mostGroups g_t_dues j (x2, x3) = (x2, x3) := by
        unfold B_X0_workSet_7
        exact (if_neg c2).trans (rfl)
      rw [it_c hB] at kk
      have hok2 := itA_c hB hok0
      exact ih (j + 1) x2 x3 (by omega) (by omega) hok2 _ _ hw _ (lv_sub hl [1, 2, 3, 4, 0] rfl) kk
    · replace hok := Eq.mp (if_pos c2) hok
      refine lv_iload_n hx hb dX0_workSet_24 rfl (lv_at hl 2 rfl) ?_
      refine lv_aload_n hx hb dX0_workSet_25 rfl (lv_at hl 0 rfl) ?_
      refine k_get C hw (CC := RX0) (T := TX0) (N := 3) nX0_workSet_X0 0 rfl rfl 0 (by decide) (List.mem_of_getElem? (i := 1) rfl) rfl rfl dX0_workSet_26 ?_
      refine lv_iload hx hb dX0_workSet_29 (lv_at hl 4 rfl) ?_
      refine k_ialdN C hw 2 rfl j rfl (by omega) (by decide) dX0_workSet_31 ?_
      refine lv_iadd hx hb dX0_workSet_32 ?_
      refine lv_istore_n (lv' := [(2, .int (x2 + (g_t_dues j))), (0, .ref a_t), (1, .int x1), (3, .int x3), (4, .int (nI j))]) hx hb dX0_workSet_33 rfl hl (by decide) rfl (fun ls hl => ?_)
      refine lv_iload_n hx hb dX0_workSet_34 rfl (lv_at hl 3 rfl) ?_
      refine lv_aload_n hx hb dX0_workSet_35 rfl (lv_at hl 1 rfl) ?_
      refine k_get C hw (CC := RX0) (T := TX0) (N := 3) nX0_workSet_X0 0 rfl rfl 1 (by decide) (List.mem_of_getElem? (i := 2) rfl) rfl rfl dX0_workSet_36 ?_
      refine lv_iload_n hx hb dX0_workSet_39 rfl (lv_at hl 2 rfl) ?_
      refine lv_iconst (v := 1) hx hb dX0_workSet_40 (by decide) ?_
      refine lv_iload hx hb dX0_workSet_41 (lv_at hl 4 rfl) ?_
      refine lv_ishl hx hb dX0_workSet_43 ?_
      refine lv_iconst (v := (-1)) hx hb dX0_workSet_44 (by decide) ?_
      refine lv_ixor hx hb dX0_workSet_45 ?_
      refine lv_iand hx hb dX0_workSet_46 ?_
      obtain ⟨h3, hok⟩ := hok
      refine k_iald C hw 1 rfl h3 dX0_workSet_47 ?_
      refine k_max C (List.mem_of_getElem? (i := 3) rfl) (List.mem_of_getElem? (i := 4) rfl) (List.mem_of_getElem? (i := 5) rfl) (List.mem_of_getElem? (i := 6) rfl) hl.1 (Nat.le_of_ble_eq_true rfl) (Nat.le_of_ble_eq_true rfl) (Nat.zero_le _) (Nat.zero_le _) dX0_workSet_48 ?_
      refine lv_istore_n (lv' := [(3, .int (if x3 < (g_t_mostGroups (x1 &&& (((1 : Int32) <<< ((nI j) &&& 31)) ^^^ (-1))).toNatClampNeg) then (g_t_mostGroups (x1 &&& (((1 : Int32) <<< ((nI j) &&& 31)) ^^^ (-1))).toNatClampNeg) else x3)), (2, .int (x2 + (g_t_dues j))), (0, .ref a_t), (1, .int x1), (4, .int (nI j))]) hx hb dX0_workSet_51 rfl hl (by decide) rfl (fun ls hl => ?_)
      refine lv_iinc (v := (nI (j + 1))) (lv' := [(4, .int (nI (j + 1))), (3, .int (if x3 < (g_t_mostGroups (x1 &&& (((1 : Int32) <<< ((nI j) &&& 31)) ^^^ (-1))).toNatClampNeg) then (g_t_mostGroups (x1 &&& (((1 : Int32) <<< ((nI j) &&& 31)) ^^^ (-1))).toNatClampNeg) else x3)), (2, .int (x2 + (g_t_dues j))), (0, .ref a_t), (1, .int x1)]) hx hb dX0_workSet_52 hl (k := 4) rfl (nI_1 _) (by decide) rfl (fun ls hl => ?_)
      refine lv_goto (tgt := 7) hx hb dX0_workSet_55 (by decide) ?_
      have hB : B_X0_workSet_7 x1 g_t_mostGroups g_t_dues j (x2, x3) = ((x2 + (g_t_dues j)), (if x3 < (g_t_mostGroups (x1 &&& (((1 : Int32) <<< ((nI j) &&& 31)) ^^^ (-1))).toNatClampNeg) then (g_t_mostGroups (x1 &&& (((1 : Int32) <<< ((nI j) &&& 31)) ^^^ (-1))).toNatClampNeg) else x3)) := by
        unfold B_X0_workSet_7
        exact (if_pos c2).trans (rfl)
      rw [it_c hB] at kk
      have hok2 := itA_c hB hok0
      exact ih (j + 1) (x2 + (g_t_dues j)) (if x3 < (g_t_mostGroups (x1 &&& (((1 : Int32) <<< ((nI j) &&& 31)) ^^^ (-1))).toNatClampNeg) then (g_t_mostGroups (x1 &&& (((1 : Int32) <<< ((nI j) &&& 31)) ^^^ (-1))).toNatClampNeg) else x3) (by omega) (by omega) hok2 _ _ hw _ (lv_sub hl [3, 4, 2, 1, 0] rfl) kk
def f_X0_workSet (g_t_mostGroups : (Nat → Int32)) (g_t_dues : (Nat → Int32)) (p1 : Int32) : (Nat → Int32) := (lt (it (B_X0_workSet_7 p1 g_t_mostGroups g_t_dues) 0 8 ((0 : Int32), (0 : Int32))) (fun z6 => (if z6.1 = 0 then (upd g_t_mostGroups p1.toNatClampNeg (z6.2 + 1)) else (upd g_t_mostGroups p1.toNatClampNeg z6.2))))
def o_X0_workSet (g_t_mostGroups : (Nat → Int32)) (g_t_dues : (Nat → Int32)) (p1 : Int32) : Prop := ((itA (oB_X0_workSet_7 p1) (B_X0_workSet_7 p1 g_t_mostGroups g_t_dues) 0 8 ((0 : Int32), (0 : Int32))) ∧ (lt (it (B_X0_workSet_7 p1 g_t_mostGroups g_t_dues) 0 8 ((0 : Int32), (0 : Int32))) (fun z6 => (if z6.1 = 0 then ((vp_in p1 256) ∧ True) else ((vp_in p1 256) ∧ True)))))
set_option maxHeartbeats 4000000 in
set_option maxRecDepth 100000 in
theorem T_X0_workSet (l : Launch) (D : va_G) (cI cZ : ClassId) (a_t a_t_dues a_t_mostGroups : Nat) (v_t_owing : Int32) (g_t_mostGroups : (Nat → Int32)) (g_t_dues : (Nat → Int32)) (p1 : Int32) (hok : o_X0_workSet g_t_mostGroups g_t_dues p1) : CT l D cI cZ yX0_workSet wsX0_workSet ({ frames := 1, cells := 0, slots := 0, locals := 21 }) [.ref a_t, .int p1] [(a_t, .inr (0, [.ref a_t_dues, .ref a_t_mostGroups, .int v_t_owing])), (a_t_mostGroups, .inl (cI, 256, .inl g_t_mostGroups)), (a_t_dues, .inl (cI, 8, .inl g_t_dues))] none [(a_t, .inr (0, [.ref a_t_dues, .ref a_t_mostGroups, .int v_t_owing])), (a_t_mostGroups, .inl (cI, 256, .inl (f_X0_workSet g_t_mostGroups g_t_dues p1))), (a_t_dues, .inl (cI, 8, .inl g_t_dues))] := by
  refine CT.intro RX0 (by decide) rfl (Nat.le_of_ble_eq_true rfl) rfl ?_
  intro p e s m below meth c C hr hw ls hl
  have hx := C.hx
  have hb := C.hb
  replace hl : lv_has ls 5 [(0, .ref a_t), (1, .int p1)] := hl
  refine lv_iconst (v := 0) hx hb dX0_workSet_0 (by decide) ?_
  refine lv_istore_n (lv' := [(2, .int 0), (0, .ref a_t), (1, .int p1)]) hx hb dX0_workSet_1 rfl hl (by decide) rfl (fun ls hl => ?_)
  refine lv_iconst (v := 0) hx hb dX0_workSet_2 (by decide) ?_
  refine lv_istore_n (lv' := [(3, .int 0), (2, .int 0), (0, .ref a_t), (1, .int p1)]) hx hb dX0_workSet_3 rfl hl (by decide) rfl (fun ls hl => ?_)
  refine lv_iconst (v := 0) hx hb dX0_workSet_4 (by decide) ?_
  refine lv_istore (lv' := [(4, .int 0), (3, .int 0), (2, .int 0), (0, .ref a_t), (1, .int p1)]) hx hb dX0_workSet_5 hl (by decide) rfl (fun ls hl => ?_)
  obtain ⟨h5, hok⟩ := hok
  refine l_X0_workSet_7 a_t a_t_dues a_t_mostGroups p1 v_t_owing g_t_mostGroups g_t_dues C 8 0 (0 : Int32) (0 : Int32) (by decide) (by decide) h5 _ _ hw _ (lv_sub hl [3, 4, 2, 1, 0] rfl) (fun H locs ls hw hl => ?_)
  obtain ⟨z6, h7⟩ : ∃ z, (it (B_X0_workSet_7 p1 g_t_mostGroups g_t_dues) 0 8 ((0 : Int32), (0 : Int32))) = z := ⟨_, rfl⟩
  replace hw := kW_cast (ws' := [(a_t, .inr (0, [.ref a_t_dues, .ref a_t_mostGroups, .int v_t_owing])), (a_t_mostGroups, .inl (cI, 256, .inl g_t_mostGroups)), (a_t_dues, .inl (cI, 8, .inl g_t_dues))]) (by subst h7; rfl) hw
  replace hl : lv_has ls 5 [(0, .ref a_t), (1, .int p1), (2, .int z6.1), (3, .int z6.2)] := by subst h7; exact hl
  replace hok := Eq.mp (lt_c h7) hok
  refine lv_aload_n hx hb dX0_workSet_58 rfl (lv_at hl 0 rfl) ?_
  refine k_get C hw (CC := RX0) (T := TX0) (N := 3) nX0_workSet_X0 0 rfl rfl 1 (by decide) (List.mem_of_getElem? (i := 2) rfl) rfl rfl dX0_workSet_59 ?_
  refine lv_iload_n hx hb dX0_workSet_62 rfl (lv_at hl 1 rfl) ?_
  refine lv_iload_n hx hb dX0_workSet_63 rfl (lv_at hl 2 rfl) ?_
  refine lv_if_ne (tgt := 73) hx hb dX0_workSet_64 (by decide) (fun c8 => ?_) (fun c8 => ?_)
  · replace hok := Eq.mp (if_neg c8) hok
    refine lv_iload_n hx hb dX0_workSet_73 rfl (lv_at hl 3 rfl) ?_
    obtain ⟨h9, hok⟩ := hok
    refine k_iast C hw 1 rfl h9 dX0_workSet_74 (fun H locs hw => ?_)
    replace hw : kW D _ s H locs [(a_t, .inr (0, [.ref a_t_dues, .ref a_t_mostGroups, .int v_t_owing])), (a_t_mostGroups, .inl (cI, 256, .inl (upd g_t_mostGroups p1.toNatClampNeg z6.2))), (a_t_dues, .inl (cI, 8, .inl g_t_dues))] := hw
    rw [show f_X0_workSet g_t_mostGroups g_t_dues p1 = (upd g_t_mostGroups p1.toNatClampNeg z6.2) from by
        unfold f_X0_workSet
        exact (lt_c h7).trans ((if_neg c8).trans (rfl))]
    exact k_vret C hr hw dX0_workSet_75
  · replace hok := Eq.mp (if_pos c8) hok
    refine lv_iload_n hx hb dX0_workSet_67 rfl (lv_at hl 3 rfl) ?_
    refine lv_iconst (v := 1) hx hb dX0_workSet_68 (by decide) ?_
    refine lv_iadd hx hb dX0_workSet_69 ?_
    refine lv_goto (tgt := 74) hx hb dX0_workSet_70 (by decide) ?_
    obtain ⟨h10, hok⟩ := hok
    refine k_iast C hw 1 rfl h10 dX0_workSet_74 (fun H locs hw => ?_)
    replace hw : kW D _ s H locs [(a_t, .inr (0, [.ref a_t_dues, .ref a_t_mostGroups, .int v_t_owing])), (a_t_mostGroups, .inl (cI, 256, .inl (upd g_t_mostGroups p1.toNatClampNeg (z6.2 + 1)))), (a_t_dues, .inl (cI, 8, .inl g_t_dues))] := hw
    rw [show f_X0_workSet g_t_mostGroups g_t_dues p1 = (upd g_t_mostGroups p1.toNatClampNeg (z6.2 + 1)) from by
        unfold f_X0_workSet
        exact (lt_c h7).trans ((if_pos c8).trans (rfl))]
    exact k_vret C hr hw dX0_workSet_75

theorem nX0_work_X0 : ∀ w ∈ wsX00, w ∈ wsX0_work := fun _ h => List.mem_cons_of_mem _ (List.mem_append_left _ (List.mem_append_right _ h))
def B_X0_work_7 (g_r1_given : (Nat → Int32)) (j : Nat) (v : Int32 × (Nat → Int32)) : Int32 × (Nat → Int32) := (if ((upd v.2 j (f_X5_dueOf g_r1_given (nI j))) j) = 0 then (v.1, (upd v.2 j (f_X5_dueOf g_r1_given (nI j)))) else ((v.1 ||| ((1 : Int32) <<< ((nI j) &&& 31))), (upd v.2 j (f_X5_dueOf g_r1_given (nI j)))))
def oB_X0_work_7 (g_r1_given : (Nat → Int32)) (j : Nat) (v : Int32 × (Nat → Int32)) : Prop := ((o_X5_dueOf g_r1_given (nI j)) ∧ True)
set_option maxHeartbeats 4000000 in
set_option maxRecDepth 100000 in
theorem l_X0_work_7 {p : Program} {l : Launch} {e : Env} {s : State} {m : MethodId} {args : Array Value} {below : List Frame} {meth : Method} {c : Code} {D : va_G} {cI cZ : ClassId} {Q : State → Prop} {A : Nat → Prop} (a_t a_t_dues a_t_mostGroups a_r1 a_r1_wealth a_r1_given a_r1_row : Nat) (g_t_mostGroups : (Nat → Int32)) (v_r1_inside : Int32) (v_r1_next : Int32) (v_r1_year : Int32) (g_r1_given : (Nat → Int32)) (C : kC p s m args meth c cX0_work 3 wsX0_work RX0 D cI cZ A) : ∀ (n j : Nat) (v_t_owing : Int32) (g_t_dues : (Nat → Int32)), n = 8 - j → j < 2147483648 → itA (oB_X0_work_7 g_r1_given) (B_X0_work_7 g_r1_given) j n (v_t_owing, g_t_dues) → ∀ (H : Heap) (locs : List Loc), kW D A s H locs [(a_t, .inr (0, [.ref a_t_dues, .ref a_t_mostGroups, .int v_t_owing])), (a_t_mostGroups, .inl (cI, 256, .inl g_t_mostGroups)), (a_t_dues, .inl (cI, 8, .inl g_t_dues)), (a_r1, .inr (5, [.ref a_r1_wealth, .ref a_r1_given, .ref a_r1_row, .int v_r1_inside, .int v_r1_next, .int v_r1_year])), (a_r1_given, .inl (cI, 64, .inl g_r1_given))] → ∀ (ls : Array Slot), lv_has ls 3 [(0, .ref a_t), (1, .ref a_r1), (2, .int (nI j))] → (∀ (H : Heap) (locs : List Loc) (ls : Array Slot), kW D A s H locs [(a_t, .inr (0, [.ref a_t_dues, .ref a_t_mostGroups, .int (it (B_X0_work_7 g_r1_given) j n (v_t_owing, g_t_dues)).1])), (a_t_mostGroups, .inl (cI, 256, .inl g_t_mostGroups)), (a_t_dues, .inl (cI, 8, .inl (it (B_X0_work_7 g_r1_given) j n (v_t_owing, g_t_dues)).2)), (a_r1, .inr (5, [.ref a_r1_wealth, .ref a_r1_given, .ref a_r1_row, .int v_r1_inside, .int v_r1_next, .int v_r1_year])), (a_r1_given, .inl (cI, 64, .inl g_r1_given))] → lv_has ls 3 [(0, .ref a_t)] → W p l e ({ frames := 2, cells := 0, slots := 0, locals := 45 }) s m args below meth c H locs 0 0 Q (F0 m 51 ls [])) → W p l e ({ frames := 2, cells := 0, slots := 0, locals := 45 }) s m args below meth c H locs 0 0 Q (F0 m 7 ls []) := by
  have hx := C.hx
  have hb := C.hb
  intro n
  induction n with
  | zero =>
    intro j v_t_owing g_t_dues hn hj hok0 H locs hw ls hl kk
    refine lv_iload_n hx hb dX0_work_7 rfl (lv_at hl 2 rfl) ?_
    refine lv_bipush (v := 8) hx hb dX0_work_8 (by decide) ?_
    refine lv_icmp_ge (tgt := 51) hx hb dX0_work_10 (by decide) (fun c4 => ?_) (fun c4 => by exact absurd (nI_le (a := 8) (b := j) (by omega) (by omega)) c4)
    exact kk _ _ _ hw (lv_sub hl [0] rfl)
  | succ n ih =>
    intro j v_t_owing g_t_dues hn hj hok0 H locs hw ls hl kk
    have hok := hok0.1
    refine lv_iload_n hx hb dX0_work_7 rfl (lv_at hl 2 rfl) ?_
    refine lv_bipush (v := 8) hx hb dX0_work_8 (by decide) ?_
    refine lv_icmp_ge (tgt := 51) hx hb dX0_work_10 (by decide) (fun c1 => by exact absurd c1 (nI_ge (a := j) (b := 8) (by omega) (by omega))) (fun c1 => ?_)
    refine lv_aload_n hx hb dX0_work_13 rfl (lv_at hl 0 rfl) ?_
    refine k_get C hw (CC := RX0) (T := TX0) (N := 3) nX0_work_X0 0 rfl rfl 0 (by decide) (List.mem_of_getElem? (i := 2) rfl) rfl rfl dX0_work_14 ?_
    refine lv_iload_n hx hb dX0_work_17 rfl (lv_at hl 2 rfl) ?_
    refine lv_aload_n hx hb dX0_work_18 rfl (lv_at hl 1 rfl) ?_
    refine lv_iload_n hx hb dX0_work_19 rfl (lv_at hl 2 rfl) ?_
    obtain ⟨h2, hok⟩ := hok
    refine k_callVN (As := [.int (nI j)]) (rest := [.int (nI j), .ref a_t_dues]) (n := 1) (CC := RX5) (T := TX5) (N := 6) (host := RX9) C hw (T_X5_dueOf l D cI cZ a_r1 a_r1_wealth a_r1_given a_r1_row v_r1_inside v_r1_next v_r1_year g_r1_given (nI j) h2) gX0_work_X5_dueOf_n22 rfl ⟨rfl, rfl⟩ 33 rfl (List.mem_of_getElem? (i := 5) rfl) (List.mem_of_getElem? (i := 4) rfl) (List.mem_of_getElem? (i := 6) rfl) (by decide +kernel) ⟨Nat.le_of_ble_eq_true rfl, Nat.le_of_ble_eq_true rfl⟩ 3 rfl rfl [3, 4] rfl rfl [a_r1, a_r1_given] rfl rfl rfl hl.1 rfl (Nat.le_of_ble_eq_true rfl) ⟨Nat.zero_le _, Nat.zero_le _⟩ dX0_work_20 (fun H locs hw => ?_)
    refine W.eq (g2 := F0 m 23 ls [.int (f_X5_dueOf g_r1_given (nI j)), .int (nI j), .ref a_t_dues]) rfl ?_
    replace hw : kW D _ s H locs [(a_t, .inr (0, [.ref a_t_dues, .ref a_t_mostGroups, .int v_t_owing])), (a_t_mostGroups, .inl (cI, 256, .inl g_t_mostGroups)), (a_t_dues, .inl (cI, 8, .inl g_t_dues)), (a_r1, .inr (5, [.ref a_r1_wealth, .ref a_r1_given, .ref a_r1_row, .int v_r1_inside, .int v_r1_next, .int v_r1_year])), (a_r1_given, .inl (cI, 64, .inl g_r1_given))] := hw
    refine k_iastN C hw 2 rfl j rfl (by omega) (by decide) dX0_work_23 (fun H locs hw => ?_)
    replace hw : kW D _ s H locs [(a_t, .inr (0, [.ref a_t_dues, .ref a_t_mostGroups, .int v_t_owing])), (a_t_mostGroups, .inl (cI, 256, .inl g_t_mostGroups)), (a_t_dues, .inl (cI, 8, .inl (upd g_t_dues j (f_X5_dueOf g_r1_given (nI j))))), (a_r1, .inr (5, [.ref a_r1_wealth, .ref a_r1_given, .ref a_r1_row, .int v_r1_inside, .int v_r1_next, .int v_r1_year])), (a_r1_given, .inl (cI, 64, .inl g_r1_given))] := hw
    refine lv_aload_n hx hb dX0_work_24 rfl (lv_at hl 0 rfl) ?_
    refine k_get C hw (CC := RX0) (T := TX0) (N := 3) nX0_work_X0 0 rfl rfl 0 (by decide) (List.mem_of_getElem? (i := 2) rfl) rfl rfl dX0_work_25 ?_
    refine lv_iload_n hx hb dX0_work_28 rfl (lv_at hl 2 rfl) ?_
    refine k_ialdN C hw 2 rfl j rfl (by omega) (by decide) dX0_work_29 ?_
    refine lv_if_eq (tgt := 45) hx hb dX0_work_30 (by decide) (fun c3 => ?_) (fun c3 => ?_)
    · refine lv_iinc (v := (nI (j + 1))) (lv' := [(2, .int (nI (j + 1))), (0, .ref a_t), (1, .ref a_r1)]) hx hb dX0_work_45 hl (k := 2) rfl (nI_1 _) (by decide) rfl (fun ls hl => ?_)
      refine lv_goto (tgt := 7) hx hb dX0_work_48 (by decide) ?_
      have hB : B_X0_work_7 g_r1_given j (v_t_owing, g_t_dues) = (v_t_owing, (upd g_t_dues j (f_X5_dueOf g_r1_given (nI j)))) := by
        unfold B_X0_work_7
        exact (if_pos c3).trans (rfl)
      rw [it_c hB] at kk
      have hok2 := itA_c hB hok0
      exact ih (j + 1) v_t_owing (upd g_t_dues j (f_X5_dueOf g_r1_given (nI j))) (by omega) (by omega) hok2 _ _ hw _ (lv_sub hl [1, 2, 0] rfl) kk
    · refine lv_aload_n hx hb dX0_work_33 rfl (lv_at hl 0 rfl) ?_
      refine lv_dup hx hb dX0_work_34 rfl ?_
      refine k_get C hw (CC := RX0) (T := TX0) (N := 3) nX0_work_X0 0 rfl rfl 2 (by decide) (List.mem_of_getElem? (i := 1) rfl) rfl rfl dX0_work_35 ?_
      refine lv_iconst (v := 1) hx hb dX0_work_38 (by decide) ?_
      refine lv_iload_n hx hb dX0_work_39 rfl (lv_at hl 2 rfl) ?_
      refine lv_ishl hx hb dX0_work_40 ?_
      refine lv_ior hx hb dX0_work_41 ?_
      refine k_put C hw (CC := RX0) (T := TX0) (N := 3) (v := .int (v_t_owing ||| ((1 : Int32) <<< ((nI j) &&& 31)))) nX0_work_X0 tyX0_ok nmX0 0 rfl rfl 2 (by decide) (List.mem_of_getElem? (i := 1) rfl) rfl rfl rfl rfl (Nat.le_of_ble_eq_true rfl) dX0_work_42 (fun H locs hw => ?_)
      replace hw : kW D _ s H locs [(a_t, .inr (0, [.ref a_t_dues, .ref a_t_mostGroups, .int (v_t_owing ||| ((1 : Int32) <<< ((nI j) &&& 31)))])), (a_t_mostGroups, .inl (cI, 256, .inl g_t_mostGroups)), (a_t_dues, .inl (cI, 8, .inl (upd g_t_dues j (f_X5_dueOf g_r1_given (nI j))))), (a_r1, .inr (5, [.ref a_r1_wealth, .ref a_r1_given, .ref a_r1_row, .int v_r1_inside, .int v_r1_next, .int v_r1_year])), (a_r1_given, .inl (cI, 64, .inl g_r1_given))] := hw
      refine lv_iinc (v := (nI (j + 1))) (lv' := [(2, .int (nI (j + 1))), (0, .ref a_t), (1, .ref a_r1)]) hx hb dX0_work_45 hl (k := 2) rfl (nI_1 _) (by decide) rfl (fun ls hl => ?_)
      refine lv_goto (tgt := 7) hx hb dX0_work_48 (by decide) ?_
      have hB : B_X0_work_7 g_r1_given j (v_t_owing, g_t_dues) = ((v_t_owing ||| ((1 : Int32) <<< ((nI j) &&& 31))), (upd g_t_dues j (f_X5_dueOf g_r1_given (nI j)))) := by
        unfold B_X0_work_7
        exact (if_neg c3).trans (rfl)
      rw [it_c hB] at kk
      have hok2 := itA_c hB hok0
      exact ih (j + 1) (v_t_owing ||| ((1 : Int32) <<< ((nI j) &&& 31))) (upd g_t_dues j (f_X5_dueOf g_r1_given (nI j))) (by omega) (by omega) hok2 _ _ hw _ (lv_sub hl [1, 2, 0] rfl) kk
def B_X0_work_60 (g_t_dues : (Nat → Int32)) (j : Nat) (v : (Nat → Int32)) : (Nat → Int32) := (lt (f_X0_workSet v g_t_dues (nI j)) (fun z8 => z8))
def oB_X0_work_60 (g_t_dues : (Nat → Int32)) (j : Nat) (v : (Nat → Int32)) : Prop := ((o_X0_workSet v g_t_dues (nI j)) ∧ True)
set_option maxHeartbeats 4000000 in
set_option maxRecDepth 100000 in
theorem l_X0_work_60 {p : Program} {l : Launch} {e : Env} {s : State} {m : MethodId} {args : Array Value} {below : List Frame} {meth : Method} {c : Code} {D : va_G} {cI cZ : ClassId} {Q : State → Prop} {A : Nat → Prop} (a_t a_t_dues a_t_mostGroups a_r1 a_r1_wealth a_r1_given a_r1_row : Nat) (v_t_owing : Int32) (g_t_dues : (Nat → Int32)) (v_r1_inside : Int32) (v_r1_next : Int32) (v_r1_year : Int32) (g_r1_given : (Nat → Int32)) (C : kC p s m args meth c cX0_work 3 wsX0_work RX0 D cI cZ A) : ∀ (n j : Nat) (g_t_mostGroups : (Nat → Int32)), n = 256 - j → j < 2147483648 → itA (oB_X0_work_60 g_t_dues) (B_X0_work_60 g_t_dues) j n g_t_mostGroups → ∀ (H : Heap) (locs : List Loc), kW D A s H locs [(a_t, .inr (0, [.ref a_t_dues, .ref a_t_mostGroups, .int v_t_owing])), (a_t_mostGroups, .inl (cI, 256, .inl g_t_mostGroups)), (a_t_dues, .inl (cI, 8, .inl g_t_dues)), (a_r1, .inr (5, [.ref a_r1_wealth, .ref a_r1_given, .ref a_r1_row, .int v_r1_inside, .int v_r1_next, .int v_r1_year])), (a_r1_given, .inl (cI, 64, .inl g_r1_given))] → ∀ (ls : Array Slot), lv_has ls 3 [(0, .ref a_t), (2, .int (nI j))] → (∀ (H : Heap) (locs : List Loc) (ls : Array Slot), kW D A s H locs [(a_t, .inr (0, [.ref a_t_dues, .ref a_t_mostGroups, .int v_t_owing])), (a_t_mostGroups, .inl (cI, 256, .inl (it (B_X0_work_60 g_t_dues) j n g_t_mostGroups))), (a_t_dues, .inl (cI, 8, .inl g_t_dues)), (a_r1, .inr (5, [.ref a_r1_wealth, .ref a_r1_given, .ref a_r1_row, .int v_r1_inside, .int v_r1_next, .int v_r1_year])), (a_r1_given, .inl (cI, 64, .inl g_r1_given))] → lv_has ls 3 [] → W p l e ({ frames := 2, cells := 0, slots := 0, locals := 45 }) s m args below meth c H locs 0 0 Q (F0 m 78 ls [])) → W p l e ({ frames := 2, cells := 0, slots := 0, locals := 45 }) s m args below meth c H locs 0 0 Q (F0 m 60 ls []) := by
  have hx := C.hx
  have hb := C.hb
  intro n
  induction n with
  | zero =>
    intro j g_t_mostGroups hn hj hok0 H locs hw ls hl kk
    refine lv_iload_n hx hb dX0_work_60 rfl (lv_at hl 1 rfl) ?_
    refine lv_sipush (v := 256) hx hb dX0_work_61 (by decide) ?_
    refine lv_icmp_ge (tgt := 78) hx hb dX0_work_64 (by decide) (fun c10 => ?_) (fun c10 => by exact absurd (nI_le (a := 256) (b := j) (by omega) (by omega)) c10)
    exact kk _ _ _ hw (lv_sub hl [] rfl)
  | succ n ih =>
    intro j g_t_mostGroups hn hj hok0 H locs hw ls hl kk
    have hok := hok0.1
    refine lv_iload_n hx hb dX0_work_60 rfl (lv_at hl 1 rfl) ?_
    refine lv_sipush (v := 256) hx hb dX0_work_61 (by decide) ?_
    refine lv_icmp_ge (tgt := 78) hx hb dX0_work_64 (by decide) (fun c6 => by exact absurd c6 (nI_ge (a := j) (b := 256) (by omega) (by omega))) (fun c6 => ?_)
    refine lv_aload_n hx hb dX0_work_67 rfl (lv_at hl 0 rfl) ?_
    refine lv_iload_n hx hb dX0_work_68 rfl (lv_at hl 1 rfl) ?_
    obtain ⟨h7, hok⟩ := hok
    refine k_callV (As := [.int (nI j)]) (rest := []) (n := 1) (CC := RX0) (T := TX0) (N := 3) C hw (T_X0_workSet l D cI cZ a_t a_t_dues a_t_mostGroups v_t_owing g_t_mostGroups g_t_dues (nI j) h7) gX0_work_X0_workSet rfl ⟨rfl, rfl⟩ (by decide +kernel) ⟨Nat.le_of_ble_eq_true rfl, Nat.le_of_ble_eq_true rfl⟩ 0 rfl rfl [0, 1, 2] rfl rfl [a_t, a_t_mostGroups, a_t_dues] rfl rfl rfl hl.1 rfl (Nat.le_of_ble_eq_true rfl) ⟨Nat.zero_le _, Nat.zero_le _⟩ dX0_work_69 (fun H locs hw => ?_)
    obtain ⟨z8, h9⟩ : ∃ z, (f_X0_workSet g_t_mostGroups g_t_dues (nI j)) = z := ⟨_, rfl⟩
    refine W.eq (g2 := F0 m 72 ls []) (by subst h9; rfl) ?_
    replace hw := kW_cast (ws' := [(a_t, .inr (0, [.ref a_t_dues, .ref a_t_mostGroups, .int v_t_owing])), (a_t_mostGroups, .inl (cI, 256, .inl z8)), (a_t_dues, .inl (cI, 8, .inl g_t_dues)), (a_r1, .inr (5, [.ref a_r1_wealth, .ref a_r1_given, .ref a_r1_row, .int v_r1_inside, .int v_r1_next, .int v_r1_year])), (a_r1_given, .inl (cI, 64, .inl g_r1_given))]) (by subst h9; rfl) hw
    refine lv_iinc (v := (nI (j + 1))) (lv' := [(2, .int (nI (j + 1))), (0, .ref a_t)]) hx hb dX0_work_72 hl (k := 1) rfl (nI_1 _) (by decide) rfl (fun ls hl => ?_)
    refine lv_goto (tgt := 60) hx hb dX0_work_75 (by decide) ?_
    have hB : B_X0_work_60 g_t_dues j g_t_mostGroups = z8 := by
      unfold B_X0_work_60
      exact (lt_c h9).trans (rfl)
    rw [it_c hB] at kk
    have hok2 := itA_c hB hok0
    exact ih (j + 1) z8 (by omega) (by omega) hok2 _ _ hw _ (lv_sub hl [1, 0] rfl) kk
def f_X0_work (g_t_mostGroups : (Nat → Int32)) (g_t_dues : (Nat → Int32)) (g_r1_given : (Nat → Int32)) : Int32 × (Nat → Int32) × (Nat → Int32) := (lt (it (B_X0_work_60 ((it (B_X0_work_7 g_r1_given) 0 8 ((0 : Int32), g_t_dues)).2)) 1 255 (upd g_t_mostGroups 0 0)) (fun z12 => ((it (B_X0_work_7 g_r1_given) 0 8 ((0 : Int32), g_t_dues)).1, z12, (it (B_X0_work_7 g_r1_given) 0 8 ((0 : Int32), g_t_dues)).2)))
def o_X0_work (g_t_mostGroups : (Nat → Int32)) (g_t_dues : (Nat → Int32)) (g_r1_given : (Nat → Int32)) : Prop := ((itA (oB_X0_work_7 g_r1_given) (B_X0_work_7 g_r1_given) 0 8 ((0 : Int32), g_t_dues)) ∧ ((itA (oB_X0_work_60 ((it (B_X0_work_7 g_r1_given) 0 8 ((0 : Int32), g_t_dues)).2)) (B_X0_work_60 ((it (B_X0_work_7 g_r1_given) 0 8 ((0 : Int32), g_t_dues)).2)) 1 255 (upd g_t_mostGroups 0 0)) ∧ True))
set_option maxHeartbeats 4000000 in
set_option maxRecDepth 100000 in
theorem T_X0_work (l : Launch) (D : va_G) (cI cZ : ClassId) (a_t a_t_dues a_t_mostGroups a_r1 a_r1_wealth a_r1_given a_r1_row : Nat) (v_t_owing : Int32) (g_t_mostGroups : (Nat → Int32)) (g_t_dues : (Nat → Int32)) (v_r1_inside : Int32) (v_r1_next : Int32) (v_r1_year : Int32) (g_r1_given : (Nat → Int32)) (hok : o_X0_work g_t_mostGroups g_t_dues g_r1_given) : CT l D cI cZ yX0_work wsX0_work ({ frames := 2, cells := 0, slots := 0, locals := 45 }) [.ref a_t, .ref a_r1] [(a_t, .inr (0, [.ref a_t_dues, .ref a_t_mostGroups, .int v_t_owing])), (a_t_mostGroups, .inl (cI, 256, .inl g_t_mostGroups)), (a_t_dues, .inl (cI, 8, .inl g_t_dues)), (a_r1, .inr (5, [.ref a_r1_wealth, .ref a_r1_given, .ref a_r1_row, .int v_r1_inside, .int v_r1_next, .int v_r1_year])), (a_r1_given, .inl (cI, 64, .inl g_r1_given))] none [(a_t, .inr (0, [.ref a_t_dues, .ref a_t_mostGroups, .int (f_X0_work g_t_mostGroups g_t_dues g_r1_given).1])), (a_t_mostGroups, .inl (cI, 256, .inl (f_X0_work g_t_mostGroups g_t_dues g_r1_given).2.1)), (a_t_dues, .inl (cI, 8, .inl (f_X0_work g_t_mostGroups g_t_dues g_r1_given).2.2)), (a_r1, .inr (5, [.ref a_r1_wealth, .ref a_r1_given, .ref a_r1_row, .int v_r1_inside, .int v_r1_next, .int v_r1_year])), (a_r1_given, .inl (cI, 64, .inl g_r1_given))] := by
  refine CT.intro RX0 (by decide) rfl (Nat.le_of_ble_eq_true rfl) rfl ?_
  intro p e s m below meth c C hr hw ls hl
  have hx := C.hx
  have hb := C.hb
  replace hl : lv_has ls 3 [(0, .ref a_t), (1, .ref a_r1)] := hl
  refine lv_aload_n hx hb dX0_work_0 rfl (lv_at hl 0 rfl) ?_
  refine lv_iconst (v := 0) hx hb dX0_work_1 (by decide) ?_
  refine k_put C hw (CC := RX0) (T := TX0) (N := 3) (v := .int 0) nX0_work_X0 tyX0_ok nmX0 0 rfl rfl 2 (by decide) (List.mem_of_getElem? (i := 1) rfl) rfl rfl rfl rfl (Nat.le_of_ble_eq_true rfl) dX0_work_2 (fun H locs hw => ?_)
  replace hw : kW D _ s H locs [(a_t, .inr (0, [.ref a_t_dues, .ref a_t_mostGroups, .int 0])), (a_t_mostGroups, .inl (cI, 256, .inl g_t_mostGroups)), (a_t_dues, .inl (cI, 8, .inl g_t_dues)), (a_r1, .inr (5, [.ref a_r1_wealth, .ref a_r1_given, .ref a_r1_row, .int v_r1_inside, .int v_r1_next, .int v_r1_year])), (a_r1_given, .inl (cI, 64, .inl g_r1_given))] := hw
  refine lv_iconst (v := 0) hx hb dX0_work_5 (by decide) ?_
  refine lv_istore_n (lv' := [(2, .int 0), (0, .ref a_t), (1, .ref a_r1)]) hx hb dX0_work_6 rfl hl (by decide) rfl (fun ls hl => ?_)
  obtain ⟨h5, hok⟩ := hok
  refine l_X0_work_7 a_t a_t_dues a_t_mostGroups a_r1 a_r1_wealth a_r1_given a_r1_row g_t_mostGroups v_r1_inside v_r1_next v_r1_year g_r1_given C 8 0 (0 : Int32) g_t_dues (by decide) (by decide) h5 _ _ hw _ (lv_sub hl [1, 2, 0] rfl) (fun H locs ls hw hl => ?_)
  replace hw : kW D _ s H locs [(a_t, .inr (0, [.ref a_t_dues, .ref a_t_mostGroups, .int (it (B_X0_work_7 g_r1_given) 0 8 ((0 : Int32), g_t_dues)).1])), (a_t_mostGroups, .inl (cI, 256, .inl g_t_mostGroups)), (a_t_dues, .inl (cI, 8, .inl (it (B_X0_work_7 g_r1_given) 0 8 ((0 : Int32), g_t_dues)).2)), (a_r1, .inr (5, [.ref a_r1_wealth, .ref a_r1_given, .ref a_r1_row, .int v_r1_inside, .int v_r1_next, .int v_r1_year])), (a_r1_given, .inl (cI, 64, .inl g_r1_given))] := hw
  replace hl : lv_has ls 3 [(0, .ref a_t)] := hl
  refine lv_aload_n hx hb dX0_work_51 rfl (lv_at hl 0 rfl) ?_
  refine k_get C hw (CC := RX0) (T := TX0) (N := 3) nX0_work_X0 0 rfl rfl 1 (by decide) (List.mem_of_getElem? (i := 3) rfl) rfl rfl dX0_work_52 ?_
  refine lv_iconst (v := 0) hx hb dX0_work_55 (by decide) ?_
  refine lv_iconst (v := 0) hx hb dX0_work_56 (by decide) ?_
  refine k_iastN C hw 1 rfl 0 rfl (by decide) (by decide) dX0_work_57 (fun H locs hw => ?_)
  replace hw : kW D _ s H locs [(a_t, .inr (0, [.ref a_t_dues, .ref a_t_mostGroups, .int (it (B_X0_work_7 g_r1_given) 0 8 ((0 : Int32), g_t_dues)).1])), (a_t_mostGroups, .inl (cI, 256, .inl (upd g_t_mostGroups 0 0))), (a_t_dues, .inl (cI, 8, .inl (it (B_X0_work_7 g_r1_given) 0 8 ((0 : Int32), g_t_dues)).2)), (a_r1, .inr (5, [.ref a_r1_wealth, .ref a_r1_given, .ref a_r1_row, .int v_r1_inside, .int v_r1_next, .int v_r1_year])), (a_r1_given, .inl (cI, 64, .inl g_r1_given))] := hw
  refine lv_iconst (v := 1) hx hb dX0_work_58 (by decide) ?_
  refine lv_istore_n (lv' := [(2, .int 1), (0, .ref a_t)]) hx hb dX0_work_59 rfl hl (by decide) rfl (fun ls hl => ?_)
  obtain ⟨h11, hok⟩ := hok
  refine l_X0_work_60 a_t a_t_dues a_t_mostGroups a_r1 a_r1_wealth a_r1_given a_r1_row ((it (B_X0_work_7 g_r1_given) 0 8 ((0 : Int32), g_t_dues)).1) ((it (B_X0_work_7 g_r1_given) 0 8 ((0 : Int32), g_t_dues)).2) v_r1_inside v_r1_next v_r1_year g_r1_given C 255 1 (upd g_t_mostGroups 0 0) (by decide) (by decide) h11 _ _ hw _ (lv_sub hl [1, 0] rfl) (fun H locs ls hw hl => ?_)
  obtain ⟨z12, h13⟩ : ∃ z, (it (B_X0_work_60 ((it (B_X0_work_7 g_r1_given) 0 8 ((0 : Int32), g_t_dues)).2)) 1 255 (upd g_t_mostGroups 0 0)) = z := ⟨_, rfl⟩
  replace hw := kW_cast (ws' := [(a_t, .inr (0, [.ref a_t_dues, .ref a_t_mostGroups, .int (it (B_X0_work_7 g_r1_given) 0 8 ((0 : Int32), g_t_dues)).1])), (a_t_mostGroups, .inl (cI, 256, .inl z12)), (a_t_dues, .inl (cI, 8, .inl (it (B_X0_work_7 g_r1_given) 0 8 ((0 : Int32), g_t_dues)).2)), (a_r1, .inr (5, [.ref a_r1_wealth, .ref a_r1_given, .ref a_r1_row, .int v_r1_inside, .int v_r1_next, .int v_r1_year])), (a_r1_given, .inl (cI, 64, .inl g_r1_given))]) (by subst h13; rfl) hw
  replace hl : lv_has ls 3 [] := by subst h13; exact hl
  rw [show f_X0_work g_t_mostGroups g_t_dues g_r1_given = ((it (B_X0_work_7 g_r1_given) 0 8 ((0 : Int32), g_t_dues)).1, z12, (it (B_X0_work_7 g_r1_given) 0 8 ((0 : Int32), g_t_dues)).2) from by
      unfold f_X0_work
      exact (lt_c h13).trans (rfl)]
  exact k_vret C hr hw dX0_work_78

theorem nX0_groups_X0 : ∀ w ∈ wsX00, w ∈ wsX0_groups := fun _ h => List.mem_cons_of_mem _ (List.mem_append_right _ h)
def f_X0_groups (v_t_owing : Int32) (g_t_mostGroups : (Nat → Int32)) : Int32 := (g_t_mostGroups (v_t_owing &&& 255).toNatClampNeg)
def o_X0_groups (v_t_owing : Int32) : Prop := ((vp_in (v_t_owing &&& 255) 256) ∧ True)
set_option maxHeartbeats 4000000 in
set_option maxRecDepth 100000 in
theorem T_X0_groups (l : Launch) (D : va_G) (cI cZ : ClassId) (a_t a_t_dues a_t_mostGroups : Nat) (v_t_owing : Int32) (g_t_mostGroups : (Nat → Int32)) (hok : o_X0_groups v_t_owing) : CT l D cI cZ yX0_groups wsX0_groups ({ frames := 0, cells := 0, slots := 0, locals := 0 }) [.ref a_t] [(a_t, .inr (0, [.ref a_t_dues, .ref a_t_mostGroups, .int v_t_owing])), (a_t_mostGroups, .inl (cI, 256, .inl g_t_mostGroups))] (some (.int (f_X0_groups v_t_owing g_t_mostGroups))) [(a_t, .inr (0, [.ref a_t_dues, .ref a_t_mostGroups, .int v_t_owing])), (a_t_mostGroups, .inl (cI, 256, .inl g_t_mostGroups))] := by
  refine CT.intro RX0 (by decide) rfl (Nat.le_of_ble_eq_true rfl) rfl ?_
  intro p e s m below meth c C hr hw ls hl
  have hx := C.hx
  have hb := C.hb
  replace hl : lv_has ls 1 [(0, .ref a_t)] := hl
  refine lv_aload_n hx hb dX0_groups_0 rfl (lv_at hl 0 rfl) ?_
  refine k_get C hw (CC := RX0) (T := TX0) (N := 3) nX0_groups_X0 0 rfl rfl 1 (by decide) (List.mem_of_getElem? (i := 1) rfl) rfl rfl dX0_groups_1 ?_
  refine lv_aload_n hx hb dX0_groups_4 rfl (lv_at hl 0 rfl) ?_
  refine k_get C hw (CC := RX0) (T := TX0) (N := 3) nX0_groups_X0 0 rfl rfl 2 (by decide) (List.mem_of_getElem? (i := 2) rfl) rfl rfl dX0_groups_5 ?_
  refine lv_sipush (v := 255) hx hb dX0_groups_8 (by decide) ?_
  refine lv_iand hx hb dX0_groups_11 ?_
  obtain ⟨h1, hok⟩ := hok
  refine k_iald C hw 1 rfl h1 dX0_groups_12 ?_
  rw [show f_X0_groups v_t_owing g_t_mostGroups = (g_t_mostGroups (v_t_owing &&& 255).toNatClampNeg) from by
      unfold f_X0_groups
      exact rfl]
  exact k_iret C hr hw dX0_groups_13

theorem nX0_payments_X0 : ∀ w ∈ wsX00, w ∈ wsX0_payments := fun _ h => List.mem_cons_of_mem _ (List.mem_append_right _ h)
def f_X0_payments (v_t_owing : Int32) (g_t_mostGroups : (Nat → Int32)) : Int32 := ((f_J6_bitCount_0f7a4 v_t_owing) - (f_X0_groups v_t_owing g_t_mostGroups))
def o_X0_payments (v_t_owing : Int32) : Prop := ((o_X0_groups v_t_owing) ∧ True)
set_option maxHeartbeats 4000000 in
set_option maxRecDepth 100000 in
theorem T_X0_payments (l : Launch) (D : va_G) (cI cZ : ClassId) (a_t a_t_dues a_t_mostGroups : Nat) (v_t_owing : Int32) (g_t_mostGroups : (Nat → Int32)) (hok : o_X0_payments v_t_owing) : CT l D cI cZ yX0_payments wsX0_payments ({ frames := 1, cells := 0, slots := 0, locals := 20 }) [.ref a_t] [(a_t, .inr (0, [.ref a_t_dues, .ref a_t_mostGroups, .int v_t_owing])), (a_t_mostGroups, .inl (cI, 256, .inl g_t_mostGroups))] (some (.int (f_X0_payments v_t_owing g_t_mostGroups))) [(a_t, .inr (0, [.ref a_t_dues, .ref a_t_mostGroups, .int v_t_owing])), (a_t_mostGroups, .inl (cI, 256, .inl g_t_mostGroups))] := by
  refine CT.intro RX0 (by decide) rfl (Nat.le_of_ble_eq_true rfl) rfl ?_
  intro p e s m below meth c C hr hw ls hl
  have hx := C.hx
  have hb := C.hb
  replace hl : lv_has ls 1 [(0, .ref a_t)] := hl
  refine lv_aload_n hx hb dX0_payments_0 rfl (lv_at hl 0 rfl) ?_
  refine k_get C hw (CC := RX0) (T := TX0) (N := 3) nX0_payments_X0 0 rfl rfl 2 (by decide) (List.mem_of_getElem? (i := 1) rfl) rfl rfl dX0_payments_1 ?_
  refine k_callS (As := [.int v_t_owing]) (rest := []) (n := 1) C hw (T_J6_bitCount_0f7a4 l D cI cZ v_t_owing) gX0_payments_J6_bitCount_0f7a4 rfl ⟨rfl, rfl⟩ (by decide +kernel) ⟨Nat.le_of_ble_eq_true rfl, Nat.le_of_ble_eq_true rfl⟩ [] rfl rfl [] rfl rfl rfl hl.1 rfl (Nat.le_of_ble_eq_true rfl) ⟨Nat.zero_le _, Nat.zero_le _⟩ dX0_payments_4 (fun H locs hw => ?_)
  refine W.eq (g2 := F0 m 7 ls [.int (f_J6_bitCount_0f7a4 v_t_owing)]) rfl ?_
  replace hw : kW D _ s H locs [(a_t, .inr (0, [.ref a_t_dues, .ref a_t_mostGroups, .int v_t_owing])), (a_t_mostGroups, .inl (cI, 256, .inl g_t_mostGroups))] := hw
  refine lv_aload_n hx hb dX0_payments_7 rfl (lv_at hl 0 rfl) ?_
  obtain ⟨h1, hok⟩ := hok
  refine k_callV (As := []) (rest := [.int (f_J6_bitCount_0f7a4 v_t_owing)]) (n := 0) (CC := RX0) (T := TX0) (N := 3) C hw (T_X0_groups l D cI cZ a_t a_t_dues a_t_mostGroups v_t_owing g_t_mostGroups h1) gX0_payments_X0_groups rfl ⟨rfl, rfl⟩ (by decide +kernel) ⟨Nat.le_of_ble_eq_true rfl, Nat.le_of_ble_eq_true rfl⟩ 0 rfl rfl [0, 1] rfl rfl [a_t, a_t_mostGroups] rfl rfl rfl hl.1 rfl (Nat.le_of_ble_eq_true rfl) ⟨Nat.zero_le _, Nat.zero_le _⟩ dX0_payments_8 (fun H locs hw => ?_)
  refine W.eq (g2 := F0 m 11 ls [.int (f_X0_groups v_t_owing g_t_mostGroups), .int (f_J6_bitCount_0f7a4 v_t_owing)]) rfl ?_
  replace hw : kW D _ s H locs [(a_t, .inr (0, [.ref a_t_dues, .ref a_t_mostGroups, .int v_t_owing])), (a_t_mostGroups, .inl (cI, 256, .inl g_t_mostGroups))] := hw
  refine lv_isub hx hb dX0_payments_11 ?_
  rw [show f_X0_payments v_t_owing g_t_mostGroups = ((f_J6_bitCount_0f7a4 v_t_owing) - (f_X0_groups v_t_owing g_t_mostGroups)) from by
      unfold f_X0_payments
      exact rfl]
  exact k_iret C hr hw dX0_payments_12

theorem nX1_findFitting_X1 : ∀ w ∈ wsX10, w ∈ wsX1_findFitting := fun _ h => List.mem_cons_of_mem _ (List.mem_append_left _ (List.mem_append_right _ h))
def B_X1_findFitting_7 (v_r1_size : Int32) (g_r1_sets : (Nat → Int32)) (g_r1_counts : (Nat → Int32)) (j : Nat) (v : Int32 × (Nat → Int32)) : Int32 × (Nat → Int32) := (if 256 ≤ v.1 then (v.1, v.2) else (if (f_X7_allow v_r1_size g_r1_sets g_r1_counts (nI j)) = 0 then (v.1, v.2) else ((v.1 + 1), (upd v.2 v.1.toNatClampNeg (nI j)))))
def oB_X1_findFitting_7 (v_r1_size : Int32) (g_r1_sets : (Nat → Int32)) (g_r1_counts : (Nat → Int32)) (j : Nat) (v : Int32 × (Nat → Int32)) : Prop := (if 256 ≤ v.1 then True else ((o_X7_allow v_r1_size g_r1_sets g_r1_counts (nI j)) ∧ (if (f_X7_allow v_r1_size g_r1_sets g_r1_counts (nI j)) = 0 then True else ((vp_in v.1 256) ∧ True))))
set_option maxHeartbeats 4000000 in
set_option maxRecDepth 100000 in
theorem l_X1_findFitting_7 {p : Program} {l : Launch} {e : Env} {s : State} {m : MethodId} {args : Array Value} {below : List Frame} {meth : Method} {c : Code} {D : va_G} {cI cZ : ClassId} {Q : State → Prop} {A : Nat → Prop} (a_t a_t_fitting a_t_leftBy a_r1 a_r1_sets a_r1_counts : Nat) (v_t_question : Int32) (v_t_left : Int32) (v_r1_size : Int32) (g_r1_sets : (Nat → Int32)) (g_r1_counts : (Nat → Int32)) (C : kC p s m args meth c cX1_findFitting 3 wsX1_findFitting RX1 D cI cZ A) : ∀ (n j : Nat) (v_t_size : Int32) (g_t_fitting : (Nat → Int32)), n = 256 - j → j < 2147483648 → itA (oB_X1_findFitting_7 v_r1_size g_r1_sets g_r1_counts) (B_X1_findFitting_7 v_r1_size g_r1_sets g_r1_counts) j n (v_t_size, g_t_fitting) → ∀ (H : Heap) (locs : List Loc), kW D A s H locs [(a_t, .inr (1, [.ref a_t_fitting, .ref a_t_leftBy, .int v_t_size, .int v_t_question, .int v_t_left])), (a_r1, .inr (7, [.ref a_r1_sets, .ref a_r1_counts, .int v_r1_size])), (a_r1_sets, .inl (cI, 8, .inl g_r1_sets)), (a_r1_counts, .inl (cI, 8, .inl g_r1_counts)), (a_t_fitting, .inl (cI, 256, .inl g_t_fitting))] → ∀ (ls : Array Slot), lv_has ls 3 [(0, .ref a_t), (1, .ref a_r1), (2, .int (nI j))] → (∀ (H : Heap) (locs : List Loc) (ls : Array Slot), kW D A s H locs [(a_t, .inr (1, [.ref a_t_fitting, .ref a_t_leftBy, .int (it (B_X1_findFitting_7 v_r1_size g_r1_sets g_r1_counts) j n (v_t_size, g_t_fitting)).1, .int v_t_question, .int v_t_left])), (a_r1, .inr (7, [.ref a_r1_sets, .ref a_r1_counts, .int v_r1_size])), (a_r1_sets, .inl (cI, 8, .inl g_r1_sets)), (a_r1_counts, .inl (cI, 8, .inl g_r1_counts)), (a_t_fitting, .inl (cI, 256, .inl (it (B_X1_findFitting_7 v_r1_size g_r1_sets g_r1_counts) j n (v_t_size, g_t_fitting)).2))] → lv_has ls 3 [] → W p l e ({ frames := 2, cells := 0, slots := 0, locals := 42 }) s m args below meth c H locs 0 0 Q (F0 m 58 ls [])) → W p l e ({ frames := 2, cells := 0, slots := 0, locals := 42 }) s m args below meth c H locs 0 0 Q (F0 m 7 ls []) := by
  have hx := C.hx
  have hb := C.hb
  intro n
  induction n with
  | zero =>
    intro j v_t_size g_t_fitting hn hj hok0 H locs hw ls hl kk
    refine lv_iload_n hx hb dX1_findFitting_7 rfl (lv_at hl 2 rfl) ?_
    refine lv_sipush (v := 256) hx hb dX1_findFitting_8 (by decide) ?_
    refine lv_icmp_ge (tgt := 58) hx hb dX1_findFitting_11 (by decide) (fun c6 => ?_) (fun c6 => by exact absurd (nI_le (a := 256) (b := j) (by omega) (by omega)) c6)
    exact kk _ _ _ hw (lv_sub hl [] rfl)
  | succ n ih =>
    intro j v_t_size g_t_fitting hn hj hok0 H locs hw ls hl kk
    have hok := hok0.1
    refine lv_iload_n hx hb dX1_findFitting_7 rfl (lv_at hl 2 rfl) ?_
    refine lv_sipush (v := 256) hx hb dX1_findFitting_8 (by decide) ?_
    refine lv_icmp_ge (tgt := 58) hx hb dX1_findFitting_11 (by decide) (fun c1 => by exact absurd c1 (nI_ge (a := j) (b := 256) (by omega) (by omega))) (fun c1 => ?_)
    refine lv_aload_n hx hb dX1_findFitting_14 rfl (lv_at hl 0 rfl) ?_
    refine k_get C hw (CC := RX1) (T := TX1) (N := 5) nX1_findFitting_X1 0 rfl rfl 2 (by decide) (List.mem_of_getElem? (i := 1) rfl) rfl rfl dX1_findFitting_15 ?_
    refine lv_sipush (v := 256) hx hb dX1_findFitting_18 (by decide) ?_
    refine lv_icmp_ge (tgt := 52) hx hb dX1_findFitting_21 (by decide) (fun c2 => ?_) (fun c2 => ?_)
    · refine lv_iinc (v := (nI (j + 1))) (lv' := [(2, .int (nI (j + 1))), (0, .ref a_t), (1, .ref a_r1)]) hx hb dX1_findFitting_52 hl (k := 2) rfl (nI_1 _) (by decide) rfl (fun ls hl => ?_)
      refine lv_goto (tgt := 7) hx hb dX1_findFitting_55 (by decide) ?_
      have hB : B_X1_findFitting_7 v_r1_size g_r1_sets g_r1_counts j (v_t_size, g_t_fitting) = (v_t_size, g_t_fitting) := by
        unfold B_X1_findFitting_7
        exact (if_pos c2).trans (rfl)
      rw [it_c hB] at kk
      have hok2 := itA_c hB hok0
      exact ih (j + 1) v_t_size g_t_fitting (by omega) (by omega) hok2 _ _ hw _ (lv_sub hl [1, 2, 0] rfl) kk
    · replace hok := Eq.mp (if_neg c2) hok
      refine lv_aload_n hx hb dX1_findFitting_24 rfl (lv_at hl 1 rfl) ?_
      refine lv_iload_n hx hb dX1_findFitting_25 rfl (lv_at hl 2 rfl) ?_
      obtain ⟨h3, hok⟩ := hok
      refine k_callVN (As := [.int (nI j)]) (rest := []) (n := 1) (CC := RX7) (T := TX7) (N := 3) (host := RX9) C hw (T_X7_allow l D cI cZ a_r1 a_r1_sets a_r1_counts v_r1_size g_r1_sets g_r1_counts (nI j) h3) gX1_findFitting_X7_allow_n22 rfl ⟨rfl, rfl⟩ 41 rfl (List.mem_of_getElem? (i := 4) rfl) (List.mem_of_getElem? (i := 3) rfl) (List.mem_of_getElem? (i := 5) rfl) (by decide +kernel) ⟨Nat.le_of_ble_eq_true rfl, Nat.le_of_ble_eq_true rfl⟩ 1 rfl rfl [1, 2, 3] rfl rfl [a_r1, a_r1_sets, a_r1_counts] rfl rfl rfl hl.1 rfl (Nat.le_of_ble_eq_true rfl) ⟨Nat.zero_le _, Nat.zero_le _⟩ dX1_findFitting_26 (fun H locs hw => ?_)
      refine W.eq (g2 := F0 m 29 ls [.int (f_X7_allow v_r1_size g_r1_sets g_r1_counts (nI j))]) rfl ?_
      replace hw : kW D _ s H locs [(a_t, .inr (1, [.ref a_t_fitting, .ref a_t_leftBy, .int v_t_size, .int v_t_question, .int v_t_left])), (a_r1, .inr (7, [.ref a_r1_sets, .ref a_r1_counts, .int v_r1_size])), (a_r1_sets, .inl (cI, 8, .inl g_r1_sets)), (a_r1_counts, .inl (cI, 8, .inl g_r1_counts)), (a_t_fitting, .inl (cI, 256, .inl g_t_fitting))] := hw
      refine lv_if_eq (tgt := 52) hx hb dX1_findFitting_29 (by decide) (fun c4 => ?_) (fun c4 => ?_)
      · refine lv_iinc (v := (nI (j + 1))) (lv' := [(2, .int (nI (j + 1))), (0, .ref a_t), (1, .ref a_r1)]) hx hb dX1_findFitting_52 hl (k := 2) rfl (nI_1 _) (by decide) rfl (fun ls hl => ?_)
        refine lv_goto (tgt := 7) hx hb dX1_findFitting_55 (by decide) ?_
        have hB : B_X1_findFitting_7 v_r1_size g_r1_sets g_r1_counts j (v_t_size, g_t_fitting) = (v_t_size, g_t_fitting) := by
          unfold B_X1_findFitting_7
          exact (if_neg c2).trans ((if_pos c4).trans (rfl))
        rw [it_c hB] at kk
        have hok2 := itA_c hB hok0
        exact ih (j + 1) v_t_size g_t_fitting (by omega) (by omega) hok2 _ _ hw _ (lv_sub hl [1, 2, 0] rfl) kk
      · replace hok := Eq.mp (if_neg c4) hok
        refine lv_aload_n hx hb dX1_findFitting_32 rfl (lv_at hl 0 rfl) ?_
        refine k_get C hw (CC := RX1) (T := TX1) (N := 5) nX1_findFitting_X1 0 rfl rfl 0 (by decide) (List.mem_of_getElem? (i := 2) rfl) rfl rfl dX1_findFitting_33 ?_
        refine lv_aload_n hx hb dX1_findFitting_36 rfl (lv_at hl 0 rfl) ?_
        refine k_get C hw (CC := RX1) (T := TX1) (N := 5) nX1_findFitting_X1 0 rfl rfl 2 (by decide) (List.mem_of_getElem? (i := 1) rfl) rfl rfl dX1_findFitting_37 ?_
        refine lv_iload_n hx hb dX1_findFitting_40 rfl (lv_at hl 2 rfl) ?_
        obtain ⟨h5, hok⟩ := hok
        refine k_iast C hw 4 rfl h5 dX1_findFitting_41 (fun H locs hw => ?_)
        replace hw : kW D _ s H locs [(a_t, .inr (1, [.ref a_t_fitting, .ref a_t_leftBy, .int v_t_size, .int v_t_question, .int v_t_left])), (a_r1, .inr (7, [.ref a_r1_sets, .ref a_r1_counts, .int v_r1_size])), (a_r1_sets, .inl (cI, 8, .inl g_r1_sets)), (a_r1_counts, .inl (cI, 8, .inl g_r1_counts)), (a_t_fitting, .inl (cI, 256, .inl (upd g_t_fitting v_t_size.toNatClampNeg (nI j))))] := hw
        refine lv_aload_n hx hb dX1_findFitting_42 rfl (lv_at hl 0 rfl) ?_
        refine lv_dup hx hb dX1_findFitting_43 rfl ?_
        refine k_get C hw (CC := RX1) (T := TX1) (N := 5) nX1_findFitting_X1 0 rfl rfl 2 (by decide) (List.mem_of_getElem? (i := 1) rfl) rfl rfl dX1_findFitting_44 ?_
        refine lv_iconst (v := 1) hx hb dX1_findFitting_47 (by decide) ?_
        refine lv_iadd hx hb dX1_findFitting_48 ?_
        refine k_put C hw (CC := RX1) (T := TX1) (N := 5) (v := .int (v_t_size + 1)) nX1_findFitting_X1 tyX1_ok nmX1 0 rfl rfl 2 (by decide) (List.mem_of_getElem? (i := 1) rfl) rfl rfl rfl rfl (Nat.le_of_ble_eq_true rfl) dX1_findFitting_49 (fun H locs hw => ?_)
        replace hw : kW D _ s H locs [(a_t, .inr (1, [.ref a_t_fitting, .ref a_t_leftBy, .int (v_t_size + 1), .int v_t_question, .int v_t_left])), (a_r1, .inr (7, [.ref a_r1_sets, .ref a_r1_counts, .int v_r1_size])), (a_r1_sets, .inl (cI, 8, .inl g_r1_sets)), (a_r1_counts, .inl (cI, 8, .inl g_r1_counts)), (a_t_fitting, .inl (cI, 256, .inl (upd g_t_fitting v_t_size.toNatClampNeg (nI j))))] := hw
        refine lv_iinc (v := (nI (j + 1))) (lv' := [(2, .int (nI (j + 1))), (0, .ref a_t), (1, .ref a_r1)]) hx hb dX1_findFitting_52 hl (k := 2) rfl (nI_1 _) (by decide) rfl (fun ls hl => ?_)
        refine lv_goto (tgt := 7) hx hb dX1_findFitting_55 (by decide) ?_
        have hB : B_X1_findFitting_7 v_r1_size g_r1_sets g_r1_counts j (v_t_size, g_t_fitting) = ((v_t_size + 1), (upd g_t_fitting v_t_size.toNatClampNeg (nI j))) := by
          unfold B_X1_findFitting_7
          exact (if_neg c2).trans ((if_neg c4).trans (rfl))
        rw [it_c hB] at kk
        have hok2 := itA_c hB hok0
        exact ih (j + 1) (v_t_size + 1) (upd g_t_fitting v_t_size.toNatClampNeg (nI j)) (by omega) (by omega) hok2 _ _ hw _ (lv_sub hl [1, 2, 0] rfl) kk
def f_X1_findFitting (v_r1_size : Int32) (g_r1_sets : (Nat → Int32)) (g_r1_counts : (Nat → Int32)) (g_t_fitting : (Nat → Int32)) : Int32 × (Nat → Int32) := (lt (it (B_X1_findFitting_7 v_r1_size g_r1_sets g_r1_counts) 0 256 ((0 : Int32), g_t_fitting)) (fun z8 => (z8.1, z8.2)))
def o_X1_findFitting (v_r1_size : Int32) (g_r1_sets : (Nat → Int32)) (g_r1_counts : (Nat → Int32)) (g_t_fitting : (Nat → Int32)) : Prop := ((itA (oB_X1_findFitting_7 v_r1_size g_r1_sets g_r1_counts) (B_X1_findFitting_7 v_r1_size g_r1_sets g_r1_counts) 0 256 ((0 : Int32), g_t_fitting)) ∧ True)
set_option maxHeartbeats 4000000 in
set_option maxRecDepth 100000 in
theorem T_X1_findFitting (l : Launch) (D : va_G) (cI cZ : ClassId) (a_t a_t_fitting a_t_leftBy a_r1 a_r1_sets a_r1_counts : Nat) (v_t_size : Int32) (v_t_question : Int32) (v_t_left : Int32) (v_r1_size : Int32) (g_r1_sets : (Nat → Int32)) (g_r1_counts : (Nat → Int32)) (g_t_fitting : (Nat → Int32)) (hok : o_X1_findFitting v_r1_size g_r1_sets g_r1_counts g_t_fitting) : CT l D cI cZ yX1_findFitting wsX1_findFitting ({ frames := 2, cells := 0, slots := 0, locals := 42 }) [.ref a_t, .ref a_r1] [(a_t, .inr (1, [.ref a_t_fitting, .ref a_t_leftBy, .int v_t_size, .int v_t_question, .int v_t_left])), (a_r1, .inr (7, [.ref a_r1_sets, .ref a_r1_counts, .int v_r1_size])), (a_r1_sets, .inl (cI, 8, .inl g_r1_sets)), (a_r1_counts, .inl (cI, 8, .inl g_r1_counts)), (a_t_fitting, .inl (cI, 256, .inl g_t_fitting))] none [(a_t, .inr (1, [.ref a_t_fitting, .ref a_t_leftBy, .int (f_X1_findFitting v_r1_size g_r1_sets g_r1_counts g_t_fitting).1, .int v_t_question, .int v_t_left])), (a_r1, .inr (7, [.ref a_r1_sets, .ref a_r1_counts, .int v_r1_size])), (a_r1_sets, .inl (cI, 8, .inl g_r1_sets)), (a_r1_counts, .inl (cI, 8, .inl g_r1_counts)), (a_t_fitting, .inl (cI, 256, .inl (f_X1_findFitting v_r1_size g_r1_sets g_r1_counts g_t_fitting).2))] := by
  refine CT.intro RX1 (by decide) rfl (Nat.le_of_ble_eq_true rfl) rfl ?_
  intro p e s m below meth c C hr hw ls hl
  have hx := C.hx
  have hb := C.hb
  replace hl : lv_has ls 3 [(0, .ref a_t), (1, .ref a_r1)] := hl
  refine lv_aload_n hx hb dX1_findFitting_0 rfl (lv_at hl 0 rfl) ?_
  refine lv_iconst (v := 0) hx hb dX1_findFitting_1 (by decide) ?_
  refine k_put C hw (CC := RX1) (T := TX1) (N := 5) (v := .int 0) nX1_findFitting_X1 tyX1_ok nmX1 0 rfl rfl 2 (by decide) (List.mem_of_getElem? (i := 1) rfl) rfl rfl rfl rfl (Nat.le_of_ble_eq_true rfl) dX1_findFitting_2 (fun H locs hw => ?_)
  replace hw : kW D _ s H locs [(a_t, .inr (1, [.ref a_t_fitting, .ref a_t_leftBy, .int 0, .int v_t_question, .int v_t_left])), (a_r1, .inr (7, [.ref a_r1_sets, .ref a_r1_counts, .int v_r1_size])), (a_r1_sets, .inl (cI, 8, .inl g_r1_sets)), (a_r1_counts, .inl (cI, 8, .inl g_r1_counts)), (a_t_fitting, .inl (cI, 256, .inl g_t_fitting))] := hw
  refine lv_iconst (v := 0) hx hb dX1_findFitting_5 (by decide) ?_
  refine lv_istore_n (lv' := [(2, .int 0), (0, .ref a_t), (1, .ref a_r1)]) hx hb dX1_findFitting_6 rfl hl (by decide) rfl (fun ls hl => ?_)
  obtain ⟨h7, hok⟩ := hok
  refine l_X1_findFitting_7 a_t a_t_fitting a_t_leftBy a_r1 a_r1_sets a_r1_counts v_t_question v_t_left v_r1_size g_r1_sets g_r1_counts C 256 0 (0 : Int32) g_t_fitting (by decide) (by decide) h7 _ _ hw _ (lv_sub hl [1, 2, 0] rfl) (fun H locs ls hw hl => ?_)
  obtain ⟨z8, h9⟩ : ∃ z, (it (B_X1_findFitting_7 v_r1_size g_r1_sets g_r1_counts) 0 256 ((0 : Int32), g_t_fitting)) = z := ⟨_, rfl⟩
  replace hw := kW_cast (ws' := [(a_t, .inr (1, [.ref a_t_fitting, .ref a_t_leftBy, .int z8.1, .int v_t_question, .int v_t_left])), (a_r1, .inr (7, [.ref a_r1_sets, .ref a_r1_counts, .int v_r1_size])), (a_r1_sets, .inl (cI, 8, .inl g_r1_sets)), (a_r1_counts, .inl (cI, 8, .inl g_r1_counts)), (a_t_fitting, .inl (cI, 256, .inl z8.2))]) (by subst h9; rfl) hw
  replace hl : lv_has ls 3 [] := by subst h9; exact hl
  rw [show f_X1_findFitting v_r1_size g_r1_sets g_r1_counts g_t_fitting = (z8.1, z8.2) from by
      unfold f_X1_findFitting
      exact (lt_c h9).trans (rfl)]
  exact k_vret C hr hw dX1_findFitting_58

theorem nX1_mostLeft_X1 : ∀ w ∈ wsX10, w ∈ wsX1_mostLeft := fun _ h => List.mem_cons_of_mem _ (List.mem_append_right _ h)
def B_X1_mostLeft_2 (j : Nat) (v : (Nat → Int32)) : (Nat → Int32) := (upd v j 0)
set_option maxHeartbeats 4000000 in
set_option maxRecDepth 100000 in
theorem l_X1_mostLeft_2 {p : Program} {l : Launch} {e : Env} {s : State} {m : MethodId} {args : Array Value} {below : List Frame} {meth : Method} {c : Code} {D : va_G} {cI cZ : ClassId} {Q : State → Prop} {A : Nat → Prop} (a_t a_t_fitting a_t_leftBy : Nat) (x1 : Int32) (x2 : Int32) (v_t_size : Int32) (v_t_question : Int32) (v_t_left : Int32) (g_t_fitting : (Nat → Int32)) (C : kC p s m args meth c cX1_mostLeft 6 wsX1_mostLeft RX1 D cI cZ A) : ∀ (n j : Nat) (g_t_leftBy : (Nat → Int32)), n = 9 - j → j < 2147483648 → ∀ (H : Heap) (locs : List Loc), kW D A s H locs [(a_t, .inr (1, [.ref a_t_fitting, .ref a_t_leftBy, .int v_t_size, .int v_t_question, .int v_t_left])), (a_t_fitting, .inl (cI, 256, .inl g_t_fitting)), (a_t_leftBy, .inl (cI, 9, .inl g_t_leftBy))] → ∀ (ls : Array Slot), lv_has ls 6 [(0, .ref a_t), (1, .int x1), (2, .int x2), (3, .int (nI j))] → (∀ (H : Heap) (locs : List Loc) (ls : Array Slot), kW D A s H locs [(a_t, .inr (1, [.ref a_t_fitting, .ref a_t_leftBy, .int v_t_size, .int v_t_question, .int v_t_left])), (a_t_fitting, .inl (cI, 256, .inl g_t_fitting)), (a_t_leftBy, .inl (cI, 9, .inl (it B_X1_mostLeft_2 j n g_t_leftBy)))] → lv_has ls 6 [(0, .ref a_t), (1, .int x1), (2, .int x2)] → W p l e ({ frames := 1, cells := 0, slots := 0, locals := 21 }) s m args below meth c H locs 0 0 Q (F0 m 21 ls [])) → W p l e ({ frames := 1, cells := 0, slots := 0, locals := 21 }) s m args below meth c H locs 0 0 Q (F0 m 2 ls []) := by
  have hx := C.hx
  have hb := C.hb
  intro n
  induction n with
  | zero =>
    intro j g_t_leftBy hn hj H locs hw ls hl kk
    refine lv_iload_n hx hb dX1_mostLeft_2 rfl (lv_at hl 3 rfl) ?_
    refine lv_bipush (v := 8) hx hb dX1_mostLeft_3 (by decide) ?_
    refine lv_icmp_gt (tgt := 21) hx hb dX1_mostLeft_5 (by decide) (fun c2 => ?_) (fun c2 => by exact absurd (nI_lt (a := 8) (b := j) (by omega) (by omega)) c2)
    exact kk _ _ _ hw (lv_sub hl [0, 1, 2] rfl)
  | succ n ih =>
    intro j g_t_leftBy hn hj H locs hw ls hl kk
    refine lv_iload_n hx hb dX1_mostLeft_2 rfl (lv_at hl 3 rfl) ?_
    refine lv_bipush (v := 8) hx hb dX1_mostLeft_3 (by decide) ?_
    refine lv_icmp_gt (tgt := 21) hx hb dX1_mostLeft_5 (by decide) (fun c1 => by exact absurd c1 (nI_nlt (a := 8) (b := j) (by omega) (by omega))) (fun c1 => ?_)
    refine lv_aload_n hx hb dX1_mostLeft_8 rfl (lv_at hl 0 rfl) ?_
    refine k_get C hw (CC := RX1) (T := TX1) (N := 5) nX1_mostLeft_X1 0 rfl rfl 1 (by decide) (List.mem_of_getElem? (i := 1) rfl) rfl rfl dX1_mostLeft_9 ?_
    refine lv_iload_n hx hb dX1_mostLeft_12 rfl (lv_at hl 3 rfl) ?_
    refine lv_iconst (v := 0) hx hb dX1_mostLeft_13 (by decide) ?_
    refine k_iastN C hw 2 rfl j rfl (by omega) (by decide) dX1_mostLeft_14 (fun H locs hw => ?_)
    replace hw : kW D _ s H locs [(a_t, .inr (1, [.ref a_t_fitting, .ref a_t_leftBy, .int v_t_size, .int v_t_question, .int v_t_left])), (a_t_fitting, .inl (cI, 256, .inl g_t_fitting)), (a_t_leftBy, .inl (cI, 9, .inl (upd g_t_leftBy j 0)))] := hw
    refine lv_iinc (v := (nI (j + 1))) (lv' := [(3, .int (nI (j + 1))), (0, .ref a_t), (1, .int x1), (2, .int x2)]) hx hb dX1_mostLeft_15 hl (k := 3) rfl (nI_1 _) (by decide) rfl (fun ls hl => ?_)
    refine lv_goto (tgt := 2) hx hb dX1_mostLeft_18 (by decide) ?_
    have hB : B_X1_mostLeft_2 j g_t_leftBy = (upd g_t_leftBy j 0) := by
      unfold B_X1_mostLeft_2
      exact rfl
    rw [it_c hB] at kk
    exact ih (j + 1) (upd g_t_leftBy j 0) (by omega) (by omega) _ _ hw _ (lv_sub hl [1, 2, 3, 0] rfl) kk
def B_X1_mostLeft_26 (x1 : Int32) (x2 : Int32) (g_t_fitting : (Nat → Int32)) (j : Nat) (v : Int32 × (Nat → Int32)) : (Int32 × (Nat → Int32)) ⊕ (Int32 × (Nat → Int32)) := (if 256 ≤ (nI j) then Sum.inr (v.1, v.2) else (if x2 ≤ v.1 then Sum.inr (v.1, v.2) else (if 8 < (f_J6_bitCount_0f7a4 ((g_t_fitting j) &&& x1)) then Sum.inl (v.1, v.2) else Sum.inl ((if v.1 < ((upd v.2 (f_J6_bitCount_0f7a4 ((g_t_fitting j) &&& x1)).toNatClampNeg ((v.2 (f_J6_bitCount_0f7a4 ((g_t_fitting j) &&& x1)).toNatClampNeg) + 1)) (f_J6_bitCount_0f7a4 ((g_t_fitting j) &&& x1)).toNatClampNeg) then ((upd v.2 (f_J6_bitCount_0f7a4 ((g_t_fitting j) &&& x1)).toNatClampNeg ((v.2 (f_J6_bitCount_0f7a4 ((g_t_fitting j) &&& x1)).toNatClampNeg) + 1)) (f_J6_bitCount_0f7a4 ((g_t_fitting j) &&& x1)).toNatClampNeg) else v.1), (upd v.2 (f_J6_bitCount_0f7a4 ((g_t_fitting j) &&& x1)).toNatClampNeg ((v.2 (f_J6_bitCount_0f7a4 ((g_t_fitting j) &&& x1)).toNatClampNeg) + 1))))))
def oB_X1_mostLeft_26 (x1 : Int32) (x2 : Int32) (g_t_fitting : (Nat → Int32)) (j : Nat) (v : Int32 × (Nat → Int32)) : Prop := (if 256 ≤ (nI j) then True else (if x2 ≤ v.1 then True else ((j < 256) ∧ (if 8 < (f_J6_bitCount_0f7a4 ((g_t_fitting j) &&& x1)) then True else ((vp_in (f_J6_bitCount_0f7a4 ((g_t_fitting j) &&& x1)) 9) ∧ ((vp_in (f_J6_bitCount_0f7a4 ((g_t_fitting j) &&& x1)) 9) ∧ ((vp_in (f_J6_bitCount_0f7a4 ((g_t_fitting j) &&& x1)) 9) ∧ True)))))))
set_option maxHeartbeats 4000000 in
set_option maxRecDepth 100000 in
theorem l_X1_mostLeft_26 {p : Program} {l : Launch} {e : Env} {s : State} {m : MethodId} {args : Array Value} {below : List Frame} {meth : Method} {c : Code} {D : va_G} {cI cZ : ClassId} {Q : State → Prop} {A : Nat → Prop} (a_t a_t_fitting a_t_leftBy : Nat) (x1 : Int32) (x2 : Int32) (v_t_size : Int32) (v_t_question : Int32) (v_t_left : Int32) (g_t_fitting : (Nat → Int32)) (C : kC p s m args meth c cX1_mostLeft 6 wsX1_mostLeft RX1 D cI cZ A) (b : Nat) (hB : v_t_size = nI b) (hb31 : b < 2147483648) : ∀ (n j : Nat) (x3 : Int32) (g_t_leftBy : (Nat → Int32)), n = b - j → j < 2147483648 → lbA (oB_X1_mostLeft_26 x1 x2 g_t_fitting) (B_X1_mostLeft_26 x1 x2 g_t_fitting) j n (x3, g_t_leftBy) → ∀ (H : Heap) (locs : List Loc), kW D A s H locs [(a_t, .inr (1, [.ref a_t_fitting, .ref a_t_leftBy, .int v_t_size, .int v_t_question, .int v_t_left])), (a_t_fitting, .inl (cI, 256, .inl g_t_fitting)), (a_t_leftBy, .inl (cI, 9, .inl g_t_leftBy))] → ∀ (ls : Array Slot), lv_has ls 6 [(0, .ref a_t), (1, .int x1), (2, .int x2), (3, .int x3), (4, .int (nI j))] → (∀ (H : Heap) (locs : List Loc) (ls : Array Slot), kW D A s H locs [(a_t, .inr (1, [.ref a_t_fitting, .ref a_t_leftBy, .int v_t_size, .int v_t_question, .int v_t_left])), (a_t_fitting, .inl (cI, 256, .inl g_t_fitting)), (a_t_leftBy, .inl (cI, 9, .inl (lb (B_X1_mostLeft_26 x1 x2 g_t_fitting) j n (x3, g_t_leftBy)).2))] → lv_has ls 6 [(3, .int (lb (B_X1_mostLeft_26 x1 x2 g_t_fitting) j n (x3, g_t_leftBy)).1)] → W p l e ({ frames := 1, cells := 0, slots := 0, locals := 21 }) s m args below meth c H locs 0 0 Q (F0 m 98 ls [])) → W p l e ({ frames := 1, cells := 0, slots := 0, locals := 21 }) s m args below meth c H locs 0 0 Q (F0 m 26 ls []) := by
  have hx := C.hx
  have hb := C.hb
  intro n
  induction n with
  | zero =>
    intro j x3 g_t_leftBy hn hj hok0 H locs hw ls hl kk
    refine lv_iload hx hb dX1_mostLeft_26 (lv_at hl 4 rfl) ?_
    refine lv_aload_n hx hb dX1_mostLeft_28 rfl (lv_at hl 0 rfl) ?_
    refine k_get C hw (CC := RX1) (T := TX1) (N := 5) nX1_mostLeft_X1 0 rfl rfl 2 (by decide) (List.mem_of_getElem? (i := 2) rfl) rfl rfl dX1_mostLeft_29 ?_
    refine lv_icmp_ge (tgt := 98) hx hb dX1_mostLeft_32 (by decide) (fun c11 => ?_) (fun c11 => by rw [hB] at c11; exact absurd (nI_le (a := b) (b := j) (by omega) (by omega)) c11)
    exact kk _ _ _ hw (lv_sub hl [3] rfl)
  | succ n ih =>
    intro j x3 g_t_leftBy hn hj hok0 H locs hw ls hl kk
    have hok := hok0.1
    refine lv_iload hx hb dX1_mostLeft_26 (lv_at hl 4 rfl) ?_
    refine lv_aload_n hx hb dX1_mostLeft_28 rfl (lv_at hl 0 rfl) ?_
    refine k_get C hw (CC := RX1) (T := TX1) (N := 5) nX1_mostLeft_X1 0 rfl rfl 2 (by decide) (List.mem_of_getElem? (i := 2) rfl) rfl rfl dX1_mostLeft_29 ?_
    refine lv_icmp_ge (tgt := 98) hx hb dX1_mostLeft_32 (by decide) (fun c3 => by rw [hB] at c3; exact absurd c3 (nI_ge (a := j) (b := b) (by omega) (by omega))) (fun c3 => ?_)
    refine lv_iload hx hb dX1_mostLeft_35 (lv_at hl 4 rfl) ?_
    refine lv_sipush (v := 256) hx hb dX1_mostLeft_37 (by decide) ?_
    refine lv_icmp_ge (tgt := 98) hx hb dX1_mostLeft_40 (by decide) (fun c4 => ?_) (fun c4 => ?_)
    · have hB : B_X1_mostLeft_26 x1 x2 g_t_fitting j (x3, g_t_leftBy) = Sum.inr (x3, g_t_leftBy) := by
        unfold B_X1_mostLeft_26
        exact (if_pos c4).trans (rfl)
      rw [lb_b hB] at kk
      exact kk _ _ _ hw (lv_sub hl [3] rfl)
    · replace hok := Eq.mp (if_neg c4) hok
      refine lv_iload_n hx hb dX1_mostLeft_43 rfl (lv_at hl 3 rfl) ?_
      refine lv_iload_n hx hb dX1_mostLeft_44 rfl (lv_at hl 2 rfl) ?_
      refine lv_icmp_ge (tgt := 98) hx hb dX1_mostLeft_45 (by decide) (fun c5 => ?_) (fun c5 => ?_)
      · have hB : B_X1_mostLeft_26 x1 x2 g_t_fitting j (x3, g_t_leftBy) = Sum.inr (x3, g_t_leftBy) := by
          unfold B_X1_mostLeft_26
          exact (if_neg c4).trans ((if_pos c5).trans (rfl))
        rw [lb_b hB] at kk
        exact kk _ _ _ hw (lv_sub hl [3] rfl)
      · replace hok := Eq.mp (if_neg c5) hok
        refine lv_aload_n hx hb dX1_mostLeft_48 rfl (lv_at hl 0 rfl) ?_
        refine k_get C hw (CC := RX1) (T := TX1) (N := 5) nX1_mostLeft_X1 0 rfl rfl 0 (by decide) (List.mem_of_getElem? (i := 3) rfl) rfl rfl dX1_mostLeft_49 ?_
        refine lv_iload hx hb dX1_mostLeft_52 (lv_at hl 4 rfl) ?_
        obtain ⟨h6, hok⟩ := hok
        refine k_ialdN C hw 1 rfl j rfl h6 (by decide) dX1_mostLeft_54 ?_
        refine lv_iload_n hx hb dX1_mostLeft_55 rfl (lv_at hl 1 rfl) ?_
        refine lv_iand hx hb dX1_mostLeft_56 ?_
        refine k_callS (As := [.int ((g_t_fitting j) &&& x1)]) (rest := []) (n := 1) C hw (T_J6_bitCount_0f7a4 l D cI cZ ((g_t_fitting j) &&& x1)) gX1_mostLeft_J6_bitCount_0f7a4 rfl ⟨rfl, rfl⟩ (by decide +kernel) ⟨Nat.le_of_ble_eq_true rfl, Nat.le_of_ble_eq_true rfl⟩ [] rfl rfl [] rfl rfl rfl hl.1 rfl (Nat.le_of_ble_eq_true rfl) ⟨Nat.zero_le _, Nat.zero_le _⟩ dX1_mostLeft_57 (fun H locs hw => ?_)
        refine W.eq (g2 := F0 m 60 ls [.int (f_J6_bitCount_0f7a4 ((g_t_fitting j) &&& x1))]) rfl ?_
        replace hw : kW D _ s H locs [(a_t, .inr (1, [.ref a_t_fitting, .ref a_t_leftBy, .int v_t_size, .int v_t_question, .int v_t_left])), (a_t_fitting, .inl (cI, 256, .inl g_t_fitting)), (a_t_leftBy, .inl (cI, 9, .inl g_t_leftBy))] := hw
        refine lv_istore (lv' := [(5, .int (f_J6_bitCount_0f7a4 ((g_t_fitting j) &&& x1))), (0, .ref a_t), (1, .int x1), (2, .int x2), (3, .int x3), (4, .int (nI j))]) hx hb dX1_mostLeft_60 hl (by decide) rfl (fun ls hl => ?_)
        refine lv_iload hx hb dX1_mostLeft_62 (lv_at hl 0 rfl) ?_
        refine lv_bipush (v := 8) hx hb dX1_mostLeft_64 (by decide) ?_
        refine lv_icmp_gt (tgt := 92) hx hb dX1_mostLeft_66 (by decide) (fun c7 => ?_) (fun c7 => ?_)
        · refine lv_iinc (v := (nI (j + 1))) (lv' := [(4, .int (nI (j + 1))), (5, .int (f_J6_bitCount_0f7a4 ((g_t_fitting j) &&& x1))), (0, .ref a_t), (1, .int x1), (2, .int x2), (3, .int x3)]) hx hb dX1_mostLeft_92 hl (k := 5) rfl (nI_1 _) (by decide) rfl (fun ls hl => ?_)
          refine lv_goto (tgt := 26) hx hb dX1_mostLeft_95 (by decide) ?_
          have hB : B_X1_mostLeft_26 x1 x2 g_t_fitting j (x3, g_t_leftBy) = Sum.inl (x3, g_t_leftBy) := by
            unfold B_X1_mostLeft_26
            exact (if_neg c4).trans ((if_neg c5).trans ((if_pos c7).trans (rfl)))
          rw [lb_c hB] at kk
          have hok2 := lbA_c hB hok0
          exact ih (j + 1) x3 g_t_leftBy (by omega) (by omega) hok2 _ _ hw _ (lv_sub hl [2, 3, 4, 5, 0] rfl) kk
        · replace hok := Eq.mp (if_neg c7) hok
          refine lv_aload_n hx hb dX1_mostLeft_69 rfl (lv_at hl 1 rfl) ?_
          refine k_get C hw (CC := RX1) (T := TX1) (N := 5) nX1_mostLeft_X1 0 rfl rfl 1 (by decide) (List.mem_of_getElem? (i := 1) rfl) rfl rfl dX1_mostLeft_70 ?_
          refine lv_iload hx hb dX1_mostLeft_73 (lv_at hl 0 rfl) ?_
          refine lv_dup2_11 hx hb dX1_mostLeft_75 rfl rfl ?_
          obtain ⟨h8, hok⟩ := hok
          refine k_iald C hw 2 rfl h8 dX1_mostLeft_76 ?_
          refine lv_iconst (v := 1) hx hb dX1_mostLeft_77 (by decide) ?_
          refine lv_iadd hx hb dX1_mostLeft_78 ?_
          obtain ⟨h9, hok⟩ := hok
          refine k_iast C hw 2 rfl h9 dX1_mostLeft_79 (fun H locs hw => ?_)
          replace hw : kW D _ s H locs [(a_t, .inr (1, [.ref a_t_fitting, .ref a_t_leftBy, .int v_t_size, .int v_t_question, .int v_t_left])), (a_t_fitting, .inl (cI, 256, .inl g_t_fitting)), (a_t_leftBy, .inl (cI, 9, .inl (upd g_t_leftBy (f_J6_bitCount_0f7a4 ((g_t_fitting j) &&& x1)).toNatClampNeg ((g_t_leftBy (f_J6_bitCount_0f7a4 ((g_t_fitting j) &&& x1)).toNatClampNeg) + 1))))] := hw
          refine lv_iload_n hx hb dX1_mostLeft_80 rfl (lv_at hl 4 rfl) ?_
          refine lv_aload_n hx hb dX1_mostLeft_81 rfl (lv_at hl 1 rfl) ?_
          refine k_get C hw (CC := RX1) (T := TX1) (N := 5) nX1_mostLeft_X1 0 rfl rfl 1 (by decide) (List.mem_of_getElem? (i := 1) rfl) rfl rfl dX1_mostLeft_82 ?_
          refine lv_iload hx hb dX1_mostLeft_85 (lv_at hl 0 rfl) ?_
          obtain ⟨h10, hok⟩ := hok
          refine k_iald C hw 2 rfl h10 dX1_mostLeft_87 ?_
          refine k_max C (List.mem_of_getElem? (i := 4) rfl) (List.mem_of_getElem? (i := 5) rfl) (List.mem_of_getElem? (i := 6) rfl) (List.mem_of_getElem? (i := 7) rfl) hl.1 (Nat.le_of_ble_eq_true rfl) (Nat.le_of_ble_eq_true rfl) (Nat.zero_le _) (Nat.zero_le _) dX1_mostLeft_88 ?_
          refine lv_istore_n (lv' := [(3, .int (if x3 < ((upd g_t_leftBy (f_J6_bitCount_0f7a4 ((g_t_fitting j) &&& x1)).toNatClampNeg ((g_t_leftBy (f_J6_bitCount_0f7a4 ((g_t_fitting j) &&& x1)).toNatClampNeg) + 1)) (f_J6_bitCount_0f7a4 ((g_t_fitting j) &&& x1)).toNatClampNeg) then ((upd g_t_leftBy (f_J6_bitCount_0f7a4 ((g_t_fitting j) &&& x1)).toNatClampNeg ((g_t_leftBy (f_J6_bitCount_0f7a4 ((g_t_fitting j) &&& x1)).toNatClampNeg) + 1)) (f_J6_bitCount_0f7a4 ((g_t_fitting j) &&& x1)).toNatClampNeg) else x3)), (5, .int (f_J6_bitCount_0f7a4 ((g_t_fitting j) &&& x1))), (0, .ref a_t), (1, .int x1), (2, .int x2), (4, .int (nI j))]) hx hb dX1_mostLeft_91 rfl hl (by decide) rfl (fun ls hl => ?_)
          refine lv_iinc (v := (nI (j + 1))) (lv' := [(4, .int (nI (j + 1))), (3, .int (if x3 < ((upd g_t_leftBy (f_J6_bitCount_0f7a4 ((g_t_fitting j) &&& x1)).toNatClampNeg ((g_t_leftBy (f_J6_bitCount_0f7a4 ((g_t_fitting j) &&& x1)).toNatClampNeg) + 1)) (f_J6_bitCount_0f7a4 ((g_t_fitting j) &&& x1)).toNatClampNeg) then ((upd g_t_leftBy (f_J6_bitCount_0f7a4 ((g_t_fitting j) &&& x1)).toNatClampNeg ((g_t_leftBy (f_J6_bitCount_0f7a4 ((g_t_fitting j) &&& x1)).toNatClampNeg) + 1)) (f_J6_bitCount_0f7a4 ((g_t_fitting j) &&& x1)).toNatClampNeg) else x3)), (5, .int (f_J6_bitCount_0f7a4 ((g_t_fitting j) &&& x1))), (0, .ref a_t), (1, .int x1), (2, .int x2)]) hx hb dX1_mostLeft_92 hl (k := 5) rfl (nI_1 _) (by decide) rfl (fun ls hl => ?_)
          refine lv_goto (tgt := 26) hx hb dX1_mostLeft_95 (by decide) ?_
          have hB : B_X1_mostLeft_26 x1 x2 g_t_fitting j (x3, g_t_leftBy) = Sum.inl ((if x3 < ((upd g_t_leftBy (f_J6_bitCount_0f7a4 ((g_t_fitting j) &&& x1)).toNatClampNeg ((g_t_leftBy (f_J6_bitCount_0f7a4 ((g_t_fitting j) &&& x1)).toNatClampNeg) + 1)) (f_J6_bitCount_0f7a4 ((g_t_fitting j) &&& x1)).toNatClampNeg) then ((upd g_t_leftBy (f_J6_bitCount_0f7a4 ((g_t_fitting j) &&& x1)).toNatClampNeg ((g_t_leftBy (f_J6_bitCount_0f7a4 ((g_t_fitting j) &&& x1)).toNatClampNeg) + 1)) (f_J6_bitCount_0f7a4 ((g_t_fitting j) &&& x1)).toNatClampNeg) else x3), (upd g_t_leftBy (f_J6_bitCount_0f7a4 ((g_t_fitting j) &&& x1)).toNatClampNeg ((g_t_leftBy (f_J6_bitCount_0f7a4 ((g_t_fitting j) &&& x1)).toNatClampNeg) + 1))) := by
            unfold B_X1_mostLeft_26
            exact (if_neg c4).trans ((if_neg c5).trans ((if_neg c7).trans (rfl)))
          rw [lb_c hB] at kk
          have hok2 := lbA_c hB hok0
          exact ih (j + 1) (if x3 < ((upd g_t_leftBy (f_J6_bitCount_0f7a4 ((g_t_fitting j) &&& x1)).toNatClampNeg ((g_t_leftBy (f_J6_bitCount_0f7a4 ((g_t_fitting j) &&& x1)).toNatClampNeg) + 1)) (f_J6_bitCount_0f7a4 ((g_t_fitting j) &&& x1)).toNatClampNeg) then ((upd g_t_leftBy (f_J6_bitCount_0f7a4 ((g_t_fitting j) &&& x1)).toNatClampNeg ((g_t_leftBy (f_J6_bitCount_0f7a4 ((g_t_fitting j) &&& x1)).toNatClampNeg) + 1)) (f_J6_bitCount_0f7a4 ((g_t_fitting j) &&& x1)).toNatClampNeg) else x3) (upd g_t_leftBy (f_J6_bitCount_0f7a4 ((g_t_fitting j) &&& x1)).toNatClampNeg ((g_t_leftBy (f_J6_bitCount_0f7a4 ((g_t_fitting j) &&& x1)).toNatClampNeg) + 1)) (by omega) (by omega) hok2 _ _ hw _ (lv_sub hl [3, 4, 5, 1, 0] rfl) kk
def f_X1_mostLeft (v_t_size : Int32) (g_t_fitting : (Nat → Int32)) (g_t_leftBy : (Nat → Int32)) (p1 : Int32) (p2 : Int32) : Int32 × (Nat → Int32) := (lt (lb (B_X1_mostLeft_26 p1 p2 g_t_fitting) 0 ((v_t_size.toNatClampNeg) - 0) ((0 : Int32), (it B_X1_mostLeft_2 0 9 g_t_leftBy))) (fun z14 => (z14.1, z14.2)))
def o_X1_mostLeft (v_t_size : Int32) (g_t_fitting : (Nat → Int32)) (g_t_leftBy : (Nat → Int32)) (p1 : Int32) (p2 : Int32) : Prop := ((0 ≤ v_t_size) ∧ ((lbA (oB_X1_mostLeft_26 p1 p2 g_t_fitting) (B_X1_mostLeft_26 p1 p2 g_t_fitting) 0 ((v_t_size.toNatClampNeg) - 0) ((0 : Int32), (it B_X1_mostLeft_2 0 9 g_t_leftBy))) ∧ True))
set_option maxHeartbeats 4000000 in
set_option maxRecDepth 100000 in
theorem T_X1_mostLeft (l : Launch) (D : va_G) (cI cZ : ClassId) (a_t a_t_fitting a_t_leftBy : Nat) (v_t_size : Int32) (v_t_question : Int32) (v_t_left : Int32) (g_t_fitting : (Nat → Int32)) (g_t_leftBy : (Nat → Int32)) (p1 : Int32) (p2 : Int32) (hok : o_X1_mostLeft v_t_size g_t_fitting g_t_leftBy p1 p2) : CT l D cI cZ yX1_mostLeft wsX1_mostLeft ({ frames := 1, cells := 0, slots := 0, locals := 21 }) [.ref a_t, .int p1, .int p2] [(a_t, .inr (1, [.ref a_t_fitting, .ref a_t_leftBy, .int v_t_size, .int v_t_question, .int v_t_left])), (a_t_fitting, .inl (cI, 256, .inl g_t_fitting)), (a_t_leftBy, .inl (cI, 9, .inl g_t_leftBy))] (some (.int (f_X1_mostLeft v_t_size g_t_fitting g_t_leftBy p1 p2).1)) [(a_t, .inr (1, [.ref a_t_fitting, .ref a_t_leftBy, .int v_t_size, .int v_t_question, .int v_t_left])), (a_t_fitting, .inl (cI, 256, .inl g_t_fitting)), (a_t_leftBy, .inl (cI, 9, .inl (f_X1_mostLeft v_t_size g_t_fitting g_t_leftBy p1 p2).2))] := by
  refine CT.intro RX1 (by decide) rfl (Nat.le_of_ble_eq_true rfl) rfl ?_
  intro p e s m below meth c C hr hw ls hl
  have hx := C.hx
  have hb := C.hb
  replace hl : lv_has ls 6 [(0, .ref a_t), (1, .int p1), (2, .int p2)] := hl
  refine lv_iconst (v := 0) hx hb dX1_mostLeft_0 (by decide) ?_
  refine lv_istore_n (lv' := [(3, .int 0), (0, .ref a_t), (1, .int p1), (2, .int p2)]) hx hb dX1_mostLeft_1 rfl hl (by decide) rfl (fun ls hl => ?_)
  refine l_X1_mostLeft_2 a_t a_t_fitting a_t_leftBy p1 p2 v_t_size v_t_question v_t_left g_t_fitting C 9 0 g_t_leftBy (by decide) (by decide) _ _ hw _ (lv_sub hl [1, 2, 3, 0] rfl) (fun H locs ls hw hl => ?_)
  replace hw : kW D _ s H locs [(a_t, .inr (1, [.ref a_t_fitting, .ref a_t_leftBy, .int v_t_size, .int v_t_question, .int v_t_left])), (a_t_fitting, .inl (cI, 256, .inl g_t_fitting)), (a_t_leftBy, .inl (cI, 9, .inl (it B_X1_mostLeft_2 0 9 g_t_leftBy)))] := hw
  replace hl : lv_has ls 6 [(0, .ref a_t), (1, .int p1), (2, .int p2)] := hl
  refine lv_iconst (v := 0) hx hb dX1_mostLeft_21 (by decide) ?_
  refine lv_istore_n (lv' := [(3, .int 0), (0, .ref a_t), (1, .int p1), (2, .int p2)]) hx hb dX1_mostLeft_22 rfl hl (by decide) rfl (fun ls hl => ?_)
  refine lv_iconst (v := 0) hx hb dX1_mostLeft_23 (by decide) ?_
  refine lv_istore (lv' := [(4, .int 0), (3, .int 0), (0, .ref a_t), (1, .int p1), (2, .int p2)]) hx hb dX1_mostLeft_24 hl (by decide) rfl (fun ls hl => ?_)
  obtain ⟨h12, hok⟩ := hok
  obtain ⟨h13, hok⟩ := hok
  refine l_X1_mostLeft_26 a_t a_t_fitting a_t_leftBy p1 p2 v_t_size v_t_question v_t_left g_t_fitting C v_t_size.toNatClampNeg (nI_self h12) (clamp_lt _) ((v_t_size.toNatClampNeg) - 0) 0 (0 : Int32) (it B_X1_mostLeft_2 0 9 g_t_leftBy) rfl (by decide) h13 _ _ hw _ (lv_sub hl [2, 3, 4, 1, 0] rfl) (fun H locs ls hw hl => ?_)
  obtain ⟨z14, h15⟩ : ∃ z, (lb (B_X1_mostLeft_26 p1 p2 g_t_fitting) 0 ((v_t_size.toNatClampNeg) - 0) ((0 : Int32), (it B_X1_mostLeft_2 0 9 g_t_leftBy))) = z := ⟨_, rfl⟩
  replace hw := kW_cast (ws' := [(a_t, .inr (1, [.ref a_t_fitting, .ref a_t_leftBy, .int v_t_size, .int v_t_question, .int v_t_left])), (a_t_fitting, .inl (cI, 256, .inl g_t_fitting)), (a_t_leftBy, .inl (cI, 9, .inl z14.2))]) (by subst h15; rfl) hw
  replace hl : lv_has ls 6 [(3, .int z14.1)] := by subst h15; exact hl
  refine lv_iload_n hx hb dX1_mostLeft_98 rfl (lv_at hl 0 rfl) ?_
  rw [show f_X1_mostLeft v_t_size g_t_fitting g_t_leftBy p1 p2 = (z14.1, z14.2) from by
      unfold f_X1_mostLeft
      exact (lt_c h15).trans (rfl)]
  exact k_iret C hr hw dX1_mostLeft_99

theorem nX1_findQuestion_X1 : ∀ w ∈ wsX10, w ∈ wsX1_findQuestion := fun _ h => List.mem_cons_of_mem _ (List.mem_append_right _ h)
def B_X1_findQuestion_29 (v_t_size : Int32) (g_t_fitting : (Nat → Int32)) (j : Nat) (v : Int32 × Int32 × (Nat → Int32)) : Int32 × Int32 × (Nat → Int32) := (lt (f_X1_mostLeft v_t_size g_t_fitting v.2.2 (nI j) v.1) (fun z4 => (if v.1 ≤ z4.1 then (v.1, v.2.1, z4.2) else (z4.1, (nI j), z4.2))))
def oB_X1_findQuestion_29 (v_t_size : Int32) (g_t_fitting : (Nat → Int32)) (j : Nat) (v : Int32 × Int32 × (Nat → Int32)) : Prop := ((o_X1_mostLeft v_t_size g_t_fitting v.2.2 (nI j) v.1) ∧ True)
set_option maxHeartbeats 4000000 in
set_option maxRecDepth 100000 in
theorem l_X1_findQuestion_29 {p : Program} {l : Launch} {e : Env} {s : State} {m : MethodId} {args : Array Value} {below : List Frame} {meth : Method} {c : Code} {D : va_G} {cI cZ : ClassId} {Q : State → Prop} {A : Nat → Prop} (a_t a_t_fitting a_t_leftBy : Nat) (v_t_size : Int32) (v_t_left : Int32) (g_t_fitting : (Nat → Int32)) (C : kC p s m args meth c cX1_findQuestion 4 wsX1_findQuestion RX1 D cI cZ A) : ∀ (n j : Nat) (x1 : Int32) (v_t_question : Int32) (g_t_leftBy : (Nat → Int32)), n = 256 - j → j < 2147483648 → itA (oB_X1_findQuestion_29 v_t_size g_t_fitting) (B_X1_findQuestion_29 v_t_size g_t_fitting) j n (x1, v_t_question, g_t_leftBy) → ∀ (H : Heap) (locs : List Loc), kW D A s H locs [(a_t, .inr (1, [.ref a_t_fitting, .ref a_t_leftBy, .int v_t_size, .int v_t_question, .int v_t_left])), (a_t_fitting, .inl (cI, 256, .inl g_t_fitting)), (a_t_leftBy, .inl (cI, 9, .inl g_t_leftBy))] → ∀ (ls : Array Slot), lv_has ls 4 [(0, .ref a_t), (1, .int x1), (2, .int (nI j))] → (∀ (H : Heap) (locs : List Loc) (ls : Array Slot), kW D A s H locs [(a_t, .inr (1, [.ref a_t_fitting, .ref a_t_leftBy, .int v_t_size, .int (it (B_X1_findQuestion_29 v_t_size g_t_fitting) j n (x1, v_t_question, g_t_leftBy)).2.1, .int v_t_left])), (a_t_fitting, .inl (cI, 256, .inl g_t_fitting)), (a_t_leftBy, .inl (cI, 9, .inl (it (B_X1_findQuestion_29 v_t_size g_t_fitting) j n (x1, v_t_question, g_t_leftBy)).2.2))] → lv_has ls 4 [(0, .ref a_t), (1, .int (it (B_X1_findQuestion_29 v_t_size g_t_fitting) j n (x1, v_t_question, g_t_leftBy)).1)] → W p l e ({ frames := 2, cells := 0, slots := 0, locals := 46 }) s m args below meth c H locs 0 0 Q (F0 m 61 ls [])) → W p l e ({ frames := 2, cells := 0, slots := 0, locals := 46 }) s m args below meth c H locs 0 0 Q (F0 m 29 ls []) := by
  have hx := C.hx
  have hb := C.hb
  intro n
  induction n with
  | zero =>
    intro j x1 v_t_question g_t_leftBy hn hj hok0 H locs hw ls hl kk
    refine lv_iload_n hx hb dX1_findQuestion_29 rfl (lv_at hl 2 rfl) ?_
    refine lv_sipush (v := 256) hx hb dX1_findQuestion_30 (by decide) ?_
    refine lv_icmp_ge (tgt := 61) hx hb dX1_findQuestion_33 (by decide) (fun c7 => ?_) (fun c7 => by exact absurd (nI_le (a := 256) (b := j) (by omega) (by omega)) c7)
    exact kk _ _ _ hw (lv_sub hl [0, 1] rfl)
  | succ n ih =>
    intro j x1 v_t_question g_t_leftBy hn hj hok0 H locs hw ls hl kk
    have hok := hok0.1
    refine lv_iload_n hx hb dX1_findQuestion_29 rfl (lv_at hl 2 rfl) ?_
    refine lv_sipush (v := 256) hx hb dX1_findQuestion_30 (by decide) ?_
    refine lv_icmp_ge (tgt := 61) hx hb dX1_findQuestion_33 (by decide) (fun c2 => by exact absurd c2 (nI_ge (a := j) (b := 256) (by omega) (by omega))) (fun c2 => ?_)
    refine lv_aload_n hx hb dX1_findQuestion_36 rfl (lv_at hl 0 rfl) ?_
    refine lv_iload_n hx hb dX1_findQuestion_37 rfl (lv_at hl 2 rfl) ?_
    refine lv_iload_n hx hb dX1_findQuestion_38 rfl (lv_at hl 1 rfl) ?_
    obtain ⟨h3, hok⟩ := hok
    refine k_callV (As := [.int (nI j), .int x1]) (rest := []) (n := 2) (CC := RX1) (T := TX1) (N := 5) C hw (T_X1_mostLeft l D cI cZ a_t a_t_fitting a_t_leftBy v_t_size v_t_question v_t_left g_t_fitting g_t_leftBy (nI j) x1 h3) gX1_findQuestion_X1_mostLeft rfl ⟨rfl, rfl⟩ (by decide +kernel) ⟨Nat.le_of_ble_eq_true rfl, Nat.le_of_ble_eq_true rfl⟩ 0 rfl rfl [0, 1, 2] rfl rfl [a_t, a_t_fitting, a_t_leftBy] rfl rfl rfl hl.1 rfl (Nat.le_of_ble_eq_true rfl) ⟨Nat.zero_le _, Nat.zero_le _⟩ dX1_findQuestion_39 (fun H locs hw => ?_)
    obtain ⟨z4, h5⟩ : ∃ z, (f_X1_mostLeft v_t_size g_t_fitting g_t_leftBy (nI j) x1) = z := ⟨_, rfl⟩
    refine W.eq (g2 := F0 m 42 ls [.int z4.1]) (by subst h5; rfl) ?_
    replace hw := kW_cast (ws' := [(a_t, .inr (1, [.ref a_t_fitting, .ref a_t_leftBy, .int v_t_size, .int v_t_question, .int v_t_left])), (a_t_fitting, .inl (cI, 256, .inl g_t_fitting)), (a_t_leftBy, .inl (cI, 9, .inl z4.2))]) (by subst h5; rfl) hw
    refine lv_istore_n (lv' := [(3, .int z4.1), (0, .ref a_t), (1, .int x1), (2, .int (nI j))]) hx hb dX1_findQuestion_42 rfl hl (by decide) rfl (fun ls hl => ?_)
    refine lv_iload_n hx hb dX1_findQuestion_43 rfl (lv_at hl 0 rfl) ?_
    refine lv_iload_n hx hb dX1_findQuestion_44 rfl (lv_at hl 2 rfl) ?_
    refine lv_icmp_ge (tgt := 55) hx hb dX1_findQuestion_45 (by decide) (fun c6 => ?_) (fun c6 => ?_)
    · refine lv_iinc (v := (nI (j + 1))) (lv' := [(2, .int (nI (j + 1))), (3, .int z4.1), (0, .ref a_t), (1, .int x1)]) hx hb dX1_findQuestion_55 hl (k := 3) rfl (nI_1 _) (by decide) rfl (fun ls hl => ?_)
      refine lv_goto (tgt := 29) hx hb dX1_findQuestion_58 (by decide) ?_
      have hB : B_X1_findQuestion_29 v_t_size g_t_fitting j (x1, v_t_question, g_t_leftBy) = (x1, v_t_question, z4.2) := by
        unfold B_X1_findQuestion_29
        exact (lt_c h5).trans ((if_pos c6).trans (rfl))
      rw [it_c hB] at kk
      have hok2 := itA_c hB hok0
      exact ih (j + 1) x1 v_t_question z4.2 (by omega) (by omega) hok2 _ _ hw _ (lv_sub hl [2, 3, 0] rfl) kk
    · refine lv_iload_n hx hb dX1_findQuestion_48 rfl (lv_at hl 0 rfl) ?_
      refine lv_istore_n (lv' := [(1, .int z4.1), (3, .int z4.1), (0, .ref a_t), (2, .int (nI j))]) hx hb dX1_findQuestion_49 rfl hl (by decide) rfl (fun ls hl => ?_)
      refine lv_aload_n hx hb dX1_findQuestion_50 rfl (lv_at hl 2 rfl) ?_
      refine lv_iload_n hx hb dX1_findQuestion_51 rfl (lv_at hl 3 rfl) ?_
      refine k_put C hw (CC := RX1) (T := TX1) (N := 5) (v := .int (nI j)) nX1_findQuestion_X1 tyX1_ok nmX1 0 rfl rfl 3 (by decide) (List.mem_of_getElem? (i := 1) rfl) rfl rfl rfl rfl (Nat.le_of_ble_eq_true rfl) dX1_findQuestion_52 (fun H locs hw => ?_)
      replace hw : kW D _ s H locs [(a_t, .inr (1, [.ref a_t_fitting, .ref a_t_leftBy, .int v_t_size, .int (nI j), .int v_t_left])), (a_t_fitting, .inl (cI, 256, .inl g_t_fitting)), (a_t_leftBy, .inl (cI, 9, .inl z4.2))] := hw
      refine lv_iinc (v := (nI (j + 1))) (lv' := [(2, .int (nI (j + 1))), (1, .int z4.1), (3, .int z4.1), (0, .ref a_t)]) hx hb dX1_findQuestion_55 hl (k := 3) rfl (nI_1 _) (by decide) rfl (fun ls hl => ?_)
      refine lv_goto (tgt := 29) hx hb dX1_findQuestion_58 (by decide) ?_
      have hB : B_X1_findQuestion_29 v_t_size g_t_fitting j (x1, v_t_question, g_t_leftBy) = (z4.1, (nI j), z4.2) := by
        unfold B_X1_findQuestion_29
        exact (lt_c h5).trans ((if_neg c6).trans (rfl))
      rw [it_c hB] at kk
      have hok2 := itA_c hB hok0
      exact ih (j + 1) z4.1 (nI j) z4.2 (by omega) (by omega) hok2 _ _ hw _ (lv_sub hl [3, 1, 0] rfl) kk
def f_X1_findQuestion (v_t_size : Int32) (g_t_fitting : (Nat → Int32)) (g_t_leftBy : (Nat → Int32)) : Int32 × Int32 × (Nat → Int32) := (if v_t_size = 0 then ((-6), (-6), g_t_leftBy) else (lt (it (B_X1_findQuestion_29 v_t_size g_t_fitting) 0 256 ((v_t_size + 1), ((-6) : Int32), g_t_leftBy)) (fun z9 => (z9.2.1, z9.1, z9.2.2))))
def o_X1_findQuestion (v_t_size : Int32) (g_t_fitting : (Nat → Int32)) (g_t_leftBy : (Nat → Int32)) : Prop := (if v_t_size = 0 then True else ((itA (oB_X1_findQuestion_29 v_t_size g_t_fitting) (B_X1_findQuestion_29 v_t_size g_t_fitting) 0 256 ((v_t_size + 1), ((-6) : Int32), g_t_leftBy)) ∧ True))
set_option maxHeartbeats 4000000 in
set_option maxRecDepth 100000 in
theorem T_X1_findQuestion (l : Launch) (D : va_G) (cI cZ : ClassId) (a_t a_t_fitting a_t_leftBy : Nat) (v_t_size : Int32) (v_t_question : Int32) (v_t_left : Int32) (g_t_fitting : (Nat → Int32)) (g_t_leftBy : (Nat → Int32)) (hok : o_X1_findQuestion v_t_size g_t_fitting g_t_leftBy) : CT l D cI cZ yX1_findQuestion wsX1_findQuestion ({ frames := 2, cells := 0, slots := 0, locals := 46 }) [.ref a_t] [(a_t, .inr (1, [.ref a_t_fitting, .ref a_t_leftBy, .int v_t_size, .int v_t_question, .int v_t_left])), (a_t_fitting, .inl (cI, 256, .inl g_t_fitting)), (a_t_leftBy, .inl (cI, 9, .inl g_t_leftBy))] none [(a_t, .inr (1, [.ref a_t_fitting, .ref a_t_leftBy, .int v_t_size, .int (f_X1_findQuestion v_t_size g_t_fitting g_t_leftBy).1, .int (f_X1_findQuestion v_t_size g_t_fitting g_t_leftBy).2.1])), (a_t_fitting, .inl (cI, 256, .inl g_t_fitting)), (a_t_leftBy, .inl (cI, 9, .inl (f_X1_findQuestion v_t_size g_t_fitting g_t_leftBy).2.2))] := by
  refine CT.intro RX1 (by decide) rfl (Nat.le_of_ble_eq_true rfl) rfl ?_
  intro p e s m below meth c C hr hw ls hl
  have hx := C.hx
  have hb := C.hb
  replace hl : lv_has ls 4 [(0, .ref a_t)] := hl
  refine lv_aload_n hx hb dX1_findQuestion_0 rfl (lv_at hl 0 rfl) ?_
  refine lv_bipush (v := (-6)) hx hb dX1_findQuestion_1 (by decide) ?_
  refine k_put C hw (CC := RX1) (T := TX1) (N := 5) (v := .int (-6)) nX1_findQuestion_X1 tyX1_ok nmX1 0 rfl rfl 3 (by decide) (List.mem_of_getElem? (i := 1) rfl) rfl rfl rfl rfl (Nat.le_of_ble_eq_true rfl) dX1_findQuestion_3 (fun H locs hw => ?_)
  replace hw : kW D _ s H locs [(a_t, .inr (1, [.ref a_t_fitting, .ref a_t_leftBy, .int v_t_size, .int (-6), .int v_t_left])), (a_t_fitting, .inl (cI, 256, .inl g_t_fitting)), (a_t_leftBy, .inl (cI, 9, .inl g_t_leftBy))] := hw
  refine lv_aload_n hx hb dX1_findQuestion_6 rfl (lv_at hl 0 rfl) ?_
  refine lv_bipush (v := (-6)) hx hb dX1_findQuestion_7 (by decide) ?_
  refine k_put C hw (CC := RX1) (T := TX1) (N := 5) (v := .int (-6)) nX1_findQuestion_X1 tyX1_ok nmX1 0 rfl rfl 4 (by decide) (List.mem_of_getElem? (i := 2) rfl) rfl rfl rfl rfl (Nat.le_of_ble_eq_true rfl) dX1_findQuestion_9 (fun H locs hw => ?_)
  replace hw : kW D _ s H locs [(a_t, .inr (1, [.ref a_t_fitting, .ref a_t_leftBy, .int v_t_size, .int (-6), .int (-6)])), (a_t_fitting, .inl (cI, 256, .inl g_t_fitting)), (a_t_leftBy, .inl (cI, 9, .inl g_t_leftBy))] := hw
  refine lv_aload_n hx hb dX1_findQuestion_12 rfl (lv_at hl 0 rfl) ?_
  refine k_get C hw (CC := RX1) (T := TX1) (N := 5) nX1_findQuestion_X1 0 rfl rfl 2 (by decide) (List.mem_of_getElem? (i := 3) rfl) rfl rfl dX1_findQuestion_13 ?_
  refine lv_if_ne (tgt := 20) hx hb dX1_findQuestion_16 (by decide) (fun c1 => ?_) (fun c1 => ?_)
  · replace hok := Eq.mp (if_neg c1) hok
    refine lv_aload_n hx hb dX1_findQuestion_20 rfl (lv_at hl 0 rfl) ?_
    refine k_get C hw (CC := RX1) (T := TX1) (N := 5) nX1_findQuestion_X1 0 rfl rfl 2 (by decide) (List.mem_of_getElem? (i := 3) rfl) rfl rfl dX1_findQuestion_21 ?_
    refine lv_iconst (v := 1) hx hb dX1_findQuestion_24 (by decide) ?_
    refine lv_iadd hx hb dX1_findQuestion_25 ?_
    refine lv_istore_n (lv' := [(1, .int (v_t_size + 1)), (0, .ref a_t)]) hx hb dX1_findQuestion_26 rfl hl (by decide) rfl (fun ls hl => ?_)
    refine lv_iconst (v := 0) hx hb dX1_findQuestion_27 (by decide) ?_
    refine lv_istore_n (lv' := [(2, .int 0), (1, .int (v_t_size + 1)), (0, .ref a_t)]) hx hb dX1_findQuestion_28 rfl hl (by decide) rfl (fun ls hl => ?_)
    obtain ⟨h8, hok⟩ := hok
    refine l_X1_findQuestion_29 a_t a_t_fitting a_t_leftBy v_t_size ((-6) : Int32) g_t_fitting C 256 0 (v_t_size + 1) ((-6) : Int32) g_t_leftBy (by decide) (by decide) h8 _ _ hw _ (lv_sub hl [2, 1, 0] rfl) (fun H locs ls hw hl => ?_)
    obtain ⟨z9, h10⟩ : ∃ z, (it (B_X1_findQuestion_29 v_t_size g_t_fitting) 0 256 ((v_t_size + 1), ((-6) : Int32), g_t_leftBy)) = z := ⟨_, rfl⟩
    replace hw := kW_cast (ws' := [(a_t, .inr (1, [.ref a_t_fitting, .ref a_t_leftBy, .int v_t_size, .int z9.2.1, .int (-6)])), (a_t_fitting, .inl (cI, 256, .inl g_t_fitting)), (a_t_leftBy, .inl (cI, 9, .inl z9.2.2))]) (by subst h10; rfl) hw
    replace hl : lv_has ls 4 [(0, .ref a_t), (1, .int z9.1)] := by subst h10; exact hl
    refine lv_aload_n hx hb dX1_findQuestion_61 rfl (lv_at hl 0 rfl) ?_
    refine lv_iload_n hx hb dX1_findQuestion_62 rfl (lv_at hl 1 rfl) ?_
    refine k_put C hw (CC := RX1) (T := TX1) (N := 5) (v := .int z9.1) nX1_findQuestion_X1 tyX1_ok nmX1 0 rfl rfl 4 (by decide) (List.mem_of_getElem? (i := 2) rfl) rfl rfl rfl rfl (Nat.le_of_ble_eq_true rfl) dX1_findQuestion_63 (fun H locs hw => ?_)
    replace hw : kW D _ s H locs [(a_t, .inr (1, [.ref a_t_fitting, .ref a_t_leftBy, .int v_t_size, .int z9.2.1, .int z9.1])), (a_t_fitting, .inl (cI, 256, .inl g_t_fitting)), (a_t_leftBy, .inl (cI, 9, .inl z9.2.2))] := hw
    rw [show f_X1_findQuestion v_t_size g_t_fitting g_t_leftBy = (z9.2.1, z9.1, z9.2.2) from by
        unfold f_X1_findQuestion
        exact (if_neg c1).trans ((lt_c h10).trans (rfl))]
    exact k_vret C hr hw dX1_findQuestion_66
  · rw [show f_X1_findQuestion v_t_size g_t_fitting g_t_leftBy = ((-6), (-6), g_t_leftBy) from by
        unfold f_X1_findQuestion
        exact (if_pos c1).trans (rfl)]
    exact k_vret C hr hw dX1_findQuestion_19

theorem nX6_waysOn_X6 : ∀ w ∈ wsX60, w ∈ wsX6_waysOn := fun _ h => List.mem_cons_of_mem _ (List.mem_append_right _ h)
def B_X6_waysOn_5 (x1 : Int32) (x2 : Int32) (g_t_ways : (Nat → Int32)) (j : Nat) (v : Int32) : Int32 := (if ((x2 >>> ((nI j) &&& 31)) &&& 1) = 1 then (v + (g_t_ways (((x1 ||| ((1 : Int32) <<< ((nI j) &&& 31))) * 8) + (nI j)).toNatClampNeg)) else v)
def oB_X6_waysOn_5 (x1 : Int32) (x2 : Int32) (j : Nat) (v : Int32) : Prop := (if ((x2 >>> ((nI j) &&& 31)) &&& 1) = 1 then ((vp_in (((x1 ||| ((1 : Int32) <<< ((nI j) &&& 31))) * 8) + (nI j)) 2048) ∧ True) else True)
set_option maxHeartbeats 4000000 in
set_option maxRecDepth 100000 in
theorem l_X6_waysOn_5 {p : Program} {l : Launch} {e : Env} {s : State} {m : MethodId} {args : Array Value} {below : List Frame} {meth : Method} {c : Code} {D : va_G} {cI cZ : ClassId} {Q : State → Prop} {A : Nat → Prop} (a_t a_t_ways : Nat) (x1 : Int32) (x2 : Int32) (g_t_ways : (Nat → Int32)) (C : kC p s m args meth c cX6_waysOn 5 wsX6_waysOn RX6 D cI cZ A) : ∀ (n j : Nat) (x3 : Int32), n = 8 - j → j < 2147483648 → itA (oB_X6_waysOn_5 x1 x2) (B_X6_waysOn_5 x1 x2 g_t_ways) j n x3 → ∀ (H : Heap) (locs : List Loc), kW D A s H locs [(a_t, .inr (6, [.ref a_t_ways])), (a_t_ways, .inl (cI, 2048, .inl g_t_ways))] → ∀ (ls : Array Slot), lv_has ls 5 [(0, .ref a_t), (1, .int x1), (2, .int x2), (3, .int x3), (4, .int (nI j))] → (∀ (H : Heap) (locs : List Loc) (ls : Array Slot), kW D A s H locs [(a_t, .inr (6, [.ref a_t_ways])), (a_t_ways, .inl (cI, 2048, .inl g_t_ways))] → lv_has ls 5 [(3, .int (it (B_X6_waysOn_5 x1 x2 g_t_ways) j n x3))] → W p l e ({ frames := 0, cells := 0, slots := 0, locals := 0 }) s m args below meth c H locs 0 0 Q (F0 m 48 ls [])) → W p l e ({ frames := 0, cells := 0, slots := 0, locals := 0 }) s m args below meth c H locs 0 0 Q (F0 m 5 ls []) := by
  have hx := C.hx
  have hb := C.hb
  intro n
  induction n with
  | zero =>
    intro j x3 hn hj hok0 H locs hw ls hl kk
    refine lv_iload hx hb dX6_waysOn_5 (lv_at hl 4 rfl) ?_
    refine lv_bipush (v := 8) hx hb dX6_waysOn_7 (by decide) ?_
    refine lv_icmp_ge (tgt := 48) hx hb dX6_waysOn_9 (by decide) (fun c4 => ?_) (fun c4 => by exact absurd (nI_le (a := 8) (b := j) (by omega) (by omega)) c4)
    exact kk _ _ _ hw (lv_sub hl [3] rfl)
  | succ n ih =>
    intro j x3 hn hj hok0 H locs hw ls hl kk
    have hok := hok0.1
    refine lv_iload hx hb dX6_waysOn_5 (lv_at hl 4 rfl) ?_
    refine lv_bipush (v := 8) hx hb dX6_waysOn_7 (by decide) ?_
    refine lv_icmp_ge (tgt := 48) hx hb dX6_waysOn_9 (by decide) (fun c1 => by exact absurd c1 (nI_ge (a := j) (b := 8) (by omega) (by omega))) (fun c1 => ?_)
    refine lv_iload_n hx hb dX6_waysOn_12 rfl (lv_at hl 2 rfl) ?_
    refine lv_iload hx hb dX6_waysOn_13 (lv_at hl 4 rfl) ?_
    refine lv_ishr hx hb dX6_waysOn_15 ?_
    refine lv_iconst (v := 1) hx hb dX6_waysOn_16 (by decide) ?_
    refine lv_iand hx hb dX6_waysOn_17 ?_
    refine lv_iconst (v := 1) hx hb dX6_waysOn_18 (by decide) ?_
    refine lv_icmp_ne (tgt := 42) hx hb dX6_waysOn_19 (by decide) (fun c2 => ?_) (fun c2 => ?_)
    · refine lv_iinc (v := (nI (j + 1))) (lv' := [(4, .int (nI (j + 1))), (0, .ref a_t), (1, .int x1), (2, .int x2), (3, .int x3)]) hx hb dX6_waysOn_42 hl (k := 4) rfl (nI_1 _) (by decide) rfl (fun ls hl => ?_)
      refine lv_goto (tgt := 5) hx hb dX6_waysOn_45 (by decide) ?_
      have hB : B_X6_waysOn_5 x1 x2 g_t_ways j x3 = x3 := by
        unfold B_X6_waysOn_5
        exact (if_neg c2).trans (rfl)
      rw [it_c hB] at kk
      have hok2 := itA_c hB hok0
      exact ih (j + 1) x3 (by omega) (by omega) hok2 _ _ hw _ (lv_sub hl [1, 2, 3, 4, 0] rfl) kk
    · replace hok := Eq.mp (if_pos c2) hok
      refine lv_iload_n hx hb dX6_waysOn_22 rfl (lv_at hl 3 rfl) ?_
      refine lv_aload_n hx hb dX6_waysOn_23 rfl (lv_at hl 0 rfl) ?_
      refine k_get C hw (CC := RX6) (T := TX6) (N := 1) nX6_waysOn_X6 0 rfl rfl 0 (by decide) (List.mem_of_getElem? (i := 1) rfl) rfl rfl dX6_waysOn_24 ?_
      refine lv_iload_n hx hb dX6_waysOn_27 rfl (lv_at hl 1 rfl) ?_
      refine lv_iconst (v := 1) hx hb dX6_waysOn_28 (by decide) ?_
      refine lv_iload hx hb dX6_waysOn_29 (lv_at hl 4 rfl) ?_
      refine lv_ishl hx hb dX6_waysOn_31 ?_
      refine lv_ior hx hb dX6_waysOn_32 ?_
      refine lv_bipush (v := 8) hx hb dX6_waysOn_33 (by decide) ?_
      refine lv_imul hx hb dX6_waysOn_35 ?_
      refine lv_iload hx hb dX6_waysOn_36 (lv_at hl 4 rfl) ?_
      refine lv_iadd hx hb dX6_waysOn_38 ?_
      obtain ⟨h3, hok⟩ := hok
      refine k_iald C hw 1 rfl h3 dX6_waysOn_39 ?_
      refine lv_iadd hx hb dX6_waysOn_40 ?_
      refine lv_istore_n (lv' := [(3, .int (x3 + (g_t_ways (((x1 ||| ((1 : Int32) <<< ((nI j) &&& 31))) * 8) + (nI j)).toNatClampNeg))), (0, .ref a_t), (1, .int x1), (2, .int x2), (4, .int (nI j))]) hx hb dX6_waysOn_41 rfl hl (by decide) rfl (fun ls hl => ?_)
      refine lv_iinc (v := (nI (j + 1))) (lv' := [(4, .int (nI (j + 1))), (3, .int (x3 + (g_t_ways (((x1 ||| ((1 : Int32) <<< ((nI j) &&& 31))) * 8) + (nI j)).toNatClampNeg))), (0, .ref a_t), (1, .int x1), (2, .int x2)]) hx hb dX6_waysOn_42 hl (k := 4) rfl (nI_1 _) (by decide) rfl (fun ls hl => ?_)
      refine lv_goto (tgt := 5) hx hb dX6_waysOn_45 (by decide) ?_
      have hB : B_X6_waysOn_5 x1 x2 g_t_ways j x3 = (x3 + (g_t_ways (((x1 ||| ((1 : Int32) <<< ((nI j) &&& 31))) * 8) + (nI j)).toNatClampNeg)) := by
        unfold B_X6_waysOn_5
        exact (if_pos c2).trans (rfl)
      rw [it_c hB] at kk
      have hok2 := itA_c hB hok0
      exact ih (j + 1) (x3 + (g_t_ways (((x1 ||| ((1 : Int32) <<< ((nI j) &&& 31))) * 8) + (nI j)).toNatClampNeg)) (by omega) (by omega) hok2 _ _ hw _ (lv_sub hl [2, 3, 4, 1, 0] rfl) kk
def f_X6_waysOn (g_t_ways : (Nat → Int32)) (p1 : Int32) (p2 : Int32) : Int32 := (it (B_X6_waysOn_5 p1 p2 g_t_ways) 0 8 (0 : Int32))
def o_X6_waysOn (g_t_ways : (Nat → Int32)) (p1 : Int32) (p2 : Int32) : Prop := ((itA (oB_X6_waysOn_5 p1 p2) (B_X6_waysOn_5 p1 p2 g_t_ways) 0 8 (0 : Int32)) ∧ True)
set_option maxHeartbeats 4000000 in
set_option maxRecDepth 100000 in
theorem T_X6_waysOn (l : Launch) (D : va_G) (cI cZ : ClassId) (a_t a_t_ways : Nat) (g_t_ways : (Nat → Int32)) (p1 : Int32) (p2 : Int32) (hok : o_X6_waysOn g_t_ways p1 p2) : CT l D cI cZ yX6_waysOn wsX6_waysOn ({ frames := 0, cells := 0, slots := 0, locals := 0 }) [.ref a_t, .int p1, .int p2] [(a_t, .inr (6, [.ref a_t_ways])), (a_t_ways, .inl (cI, 2048, .inl g_t_ways))] (some (.int (f_X6_waysOn g_t_ways p1 p2))) [(a_t, .inr (6, [.ref a_t_ways])), (a_t_ways, .inl (cI, 2048, .inl g_t_ways))] := by
  refine CT.intro RX6 (by decide) rfl (Nat.le_of_ble_eq_true rfl) rfl ?_
  intro p e s m below meth c C hr hw ls hl
  have hx := C.hx
  have hb := C.hb
  replace hl : lv_has ls 5 [(0, .ref a_t), (1, .int p1), (2, .int p2)] := hl
  refine lv_iconst (v := 0) hx hb dX6_waysOn_0 (by decide) ?_
  refine lv_istore_n (lv' := [(3, .int 0), (0, .ref a_t), (1, .int p1), (2, .int p2)]) hx hb dX6_waysOn_1 rfl hl (by decide) rfl (fun ls hl => ?_)
  refine lv_iconst (v := 0) hx hb dX6_waysOn_2 (by decide) ?_
  refine lv_istore (lv' := [(4, .int 0), (3, .int 0), (0, .ref a_t), (1, .int p1), (2, .int p2)]) hx hb dX6_waysOn_3 hl (by decide) rfl (fun ls hl => ?_)
  obtain ⟨h5, hok⟩ := hok
  refine l_X6_waysOn_5 a_t a_t_ways p1 p2 g_t_ways C 8 0 (0 : Int32) (by decide) (by decide) h5 _ _ hw _ (lv_sub hl [2, 3, 4, 1, 0] rfl) (fun H locs ls hw hl => ?_)
  replace hw : kW D _ s H locs [(a_t, .inr (6, [.ref a_t_ways])), (a_t_ways, .inl (cI, 2048, .inl g_t_ways))] := hw
  replace hl : lv_has ls 5 [(3, .int (it (B_X6_waysOn_5 p1 p2 g_t_ways) 0 8 (0 : Int32)))] := hl
  refine lv_iload_n hx hb dX6_waysOn_48 rfl (lv_at hl 0 rfl) ?_
  rw [show f_X6_waysOn g_t_ways p1 p2 = (it (B_X6_waysOn_5 p1 p2 g_t_ways) 0 8 (0 : Int32)) from by
      unfold f_X6_waysOn
      exact rfl]
  exact k_iret C hr hw dX6_waysOn_49

theorem nX6_work_X3 : ∀ w ∈ wsX30, w ∈ wsX6_work := fun _ h => List.mem_cons_of_mem _ (List.mem_append_right _ h)
theorem nX6_work_X6 : ∀ w ∈ wsX60, w ∈ wsX6_work := fun _ h => List.mem_cons_of_mem _ (List.mem_append_left _ (List.mem_append_right _ h))
def B_X6_work_2 (j : Nat) (v : (Nat → Int32)) : (Nat → Int32) := (upd v (2040 + (nI j)).toNatClampNeg 1)
def oB_X6_work_2 (j : Nat) (v : (Nat → Int32)) : Prop := ((vp_in (2040 + (nI j)) 2048) ∧ True)
set_option maxHeartbeats 4000000 in
set_option maxRecDepth 100000 in
theorem l_X6_work_2 {p : Program} {l : Launch} {e : Env} {s : State} {m : MethodId} {args : Array Value} {below : List Frame} {meth : Method} {c : Code} {D : va_G} {cI cZ : ClassId} {Q : State → Prop} {A : Nat → Prop} (a_t a_t_ways a_r1 a_r1_of : Nat) (g_r1_of : (Nat → Int32)) (C : kC p s m args meth c cX6_work 4 wsX6_work RX6 D cI cZ A) : ∀ (n j : Nat) (g_t_ways : (Nat → Int32)), n = 8 - j → j < 2147483648 → itA oB_X6_work_2 B_X6_work_2 j n g_t_ways → ∀ (H : Heap) (locs : List Loc), kW D A s H locs [(a_t, .inr (6, [.ref a_t_ways])), (a_r1, .inr (3, [.ref a_r1_of])), (a_r1_of, .inl (cI, 8, .inl g_r1_of)), (a_t_ways, .inl (cI, 2048, .inl g_t_ways))] → ∀ (ls : Array Slot), lv_has ls 4 [(0, .ref a_t), (1, .ref a_r1), (2, .int (nI j))] → (∀ (H : Heap) (locs : List Loc) (ls : Array Slot), kW D A s H locs [(a_t, .inr (6, [.ref a_t_ways])), (a_r1, .inr (3, [.ref a_r1_of])), (a_r1_of, .inl (cI, 8, .inl g_r1_of)), (a_t_ways, .inl (cI, 2048, .inl (it B_X6_work_2 j n g_t_ways)))] → lv_has ls 4 [(0, .ref a_t), (1, .ref a_r1)] → W p l e ({ frames := 1, cells := 0, slots := 0, locals := 24 }) s m args below meth c H locs 0 0 Q (F0 m 25 ls [])) → W p l e ({ frames := 1, cells := 0, slots := 0, locals := 24 }) s m args below meth c H locs 0 0 Q (F0 m 2 ls []) := by
  have hx := C.hx
  have hb := C.hb
  intro n
  induction n with
  | zero =>
    intro j g_t_ways hn hj hok0 H locs hw ls hl kk
    refine lv_iload_n hx hb dX6_work_2 rfl (lv_at hl 2 rfl) ?_
    refine lv_bipush (v := 8) hx hb dX6_work_3 (by decide) ?_
    refine lv_icmp_ge (tgt := 25) hx hb dX6_work_5 (by decide) (fun c3 => ?_) (fun c3 => by exact absurd (nI_le (a := 8) (b := j) (by omega) (by omega)) c3)
    exact kk _ _ _ hw (lv_sub hl [0, 1] rfl)
  | succ n ih =>
    intro j g_t_ways hn hj hok0 H locs hw ls hl kk
    have hok := hok0.1
    refine lv_iload_n hx hb dX6_work_2 rfl (lv_at hl 2 rfl) ?_
    refine lv_bipush (v := 8) hx hb dX6_work_3 (by decide) ?_
    refine lv_icmp_ge (tgt := 25) hx hb dX6_work_5 (by decide) (fun c1 => by exact absurd c1 (nI_ge (a := j) (b := 8) (by omega) (by omega))) (fun c1 => ?_)
    refine lv_aload_n hx hb dX6_work_8 rfl (lv_at hl 0 rfl) ?_
    refine k_get C hw (CC := RX6) (T := TX6) (N := 1) nX6_work_X6 0 rfl rfl 0 (by decide) (List.mem_of_getElem? (i := 1) rfl) rfl rfl dX6_work_9 ?_
    refine lv_sipush (v := 2040) hx hb dX6_work_12 (by decide) ?_
    refine lv_iload_n hx hb dX6_work_15 rfl (lv_at hl 2 rfl) ?_
    refine lv_iadd hx hb dX6_work_16 ?_
    refine lv_iconst (v := 1) hx hb dX6_work_17 (by decide) ?_
    obtain ⟨h2, hok⟩ := hok
    refine k_iast C hw 3 rfl h2 dX6_work_18 (fun H locs hw => ?_)
    replace hw : kW D _ s H locs [(a_t, .inr (6, [.ref a_t_ways])), (a_r1, .inr (3, [.ref a_r1_of])), (a_r1_of, .inl (cI, 8, .inl g_r1_of)), (a_t_ways, .inl (cI, 2048, .inl (upd g_t_ways (2040 + (nI j)).toNatClampNeg 1)))] := hw
    refine lv_iinc (v := (nI (j + 1))) (lv' := [(2, .int (nI (j + 1))), (0, .ref a_t), (1, .ref a_r1)]) hx hb dX6_work_19 hl (k := 2) rfl (nI_1 _) (by decide) rfl (fun ls hl => ?_)
    refine lv_goto (tgt := 2) hx hb dX6_work_22 (by decide) ?_
    have hB : B_X6_work_2 j g_t_ways = (upd g_t_ways (2040 + (nI j)).toNatClampNeg 1) := by
      unfold B_X6_work_2
      exact rfl
    rw [it_c hB] at kk
    have hok2 := itA_c hB hok0
    exact ih (j + 1) (upd g_t_ways (2040 + (nI j)).toNatClampNeg 1) (by omega) (by omega) hok2 _ _ hw _ (lv_sub hl [1, 2, 0] rfl) kk
def B_X6_work_35 (x2 : Int32) (g_r1_of : (Nat → Int32)) (j : Nat) (v : (Nat → Int32)) : (Nat → Int32) := (if ((x2 >>> ((nI j) &&& 31)) &&& 1) = 1 then (lt (f_X6_waysOn v x2 ((255 &&& (x2 ^^^ (-1))) &&& ((g_r1_of j) ^^^ (-1)))) (fun z9 => (upd v ((x2 * 8) + (nI j)).toNatClampNeg z9))) else v)
def oB_X6_work_35 (x2 : Int32) (g_r1_of : (Nat → Int32)) (j : Nat) (v : (Nat → Int32)) : Prop := (if ((x2 >>> ((nI j) &&& 31)) &&& 1) = 1 then ((o_X6_waysOn v x2 ((255 &&& (x2 ^^^ (-1))) &&& ((g_r1_of j) ^^^ (-1)))) ∧ (lt (f_X6_waysOn v x2 ((255 &&& (x2 ^^^ (-1))) &&& ((g_r1_of j) ^^^ (-1)))) (fun z9 => ((vp_in ((x2 * 8) + (nI j)) 2048) ∧ True)))) else True)
set_option maxHeartbeats 4000000 in
set_option maxRecDepth 100000 in
theorem l_X6_work_35 {p : Program} {l : Launch} {e : Env} {s : State} {m : MethodId} {args : Array Value} {below : List Frame} {meth : Method} {c : Code} {D : va_G} {cI cZ : ClassId} {Q : State → Prop} {A : Nat → Prop} (a_t a_t_ways a_r1 a_r1_of : Nat) (x2 : Int32) (g_r1_of : (Nat → Int32)) (C : kC p s m args meth c cX6_work 4 wsX6_work RX6 D cI cZ A) : ∀ (n j : Nat) (g_t_ways : (Nat → Int32)), n = 8 - j → j < 2147483648 → itA (oB_X6_work_35 x2 g_r1_of) (B_X6_work_35 x2 g_r1_of) j n g_t_ways → ∀ (H : Heap) (locs : List Loc), kW D A s H locs [(a_t, .inr (6, [.ref a_t_ways])), (a_r1, .inr (3, [.ref a_r1_of])), (a_r1_of, .inl (cI, 8, .inl g_r1_of)), (a_t_ways, .inl (cI, 2048, .inl g_t_ways))] → ∀ (ls : Array Slot), lv_has ls 4 [(0, .ref a_t), (1, .ref a_r1), (2, .int x2), (3, .int (nI j))] → (∀ (H : Heap) (locs : List Loc) (ls : Array Slot), kW D A s H locs [(a_t, .inr (6, [.ref a_t_ways])), (a_r1, .inr (3, [.ref a_r1_of])), (a_r1_of, .inl (cI, 8, .inl g_r1_of)), (a_t_ways, .inl (cI, 2048, .inl (it (B_X6_work_35 x2 g_r1_of) j n g_t_ways)))] → lv_has ls 4 [(0, .ref a_t), (1, .ref a_r1), (2, .int x2)] → W p l e ({ frames := 1, cells := 0, slots := 0, locals := 24 }) s m args below meth c H locs 0 0 Q (F0 m 88 ls [])) → W p l e ({ frames := 1, cells := 0, slots := 0, locals := 24 }) s m args below meth c H locs 0 0 Q (F0 m 35 ls []) := by
  have hx := C.hx
  have hb := C.hb
  intro n
  induction n with
  | zero =>
    intro j g_t_ways hn hj hok0 H locs hw ls hl kk
    refine lv_iload_n hx hb dX6_work_35 rfl (lv_at hl 3 rfl) ?_
    refine lv_bipush (v := 8) hx hb dX6_work_36 (by decide) ?_
    refine lv_icmp_ge (tgt := 88) hx hb dX6_work_38 (by decide) (fun c12 => ?_) (fun c12 => by exact absurd (nI_le (a := 8) (b := j) (by omega) (by omega)) c12)
    exact kk _ _ _ hw (lv_sub hl [0, 1, 2] rfl)
  | succ n ih =>
    intro j g_t_ways hn hj hok0 H locs hw ls hl kk
    have hok := hok0.1
    refine lv_iload_n hx hb dX6_work_35 rfl (lv_at hl 3 rfl) ?_
    refine lv_bipush (v := 8) hx hb dX6_work_36 (by decide) ?_
    refine lv_icmp_ge (tgt := 88) hx hb dX6_work_38 (by decide) (fun c6 => by exact absurd c6 (nI_ge (a := j) (b := 8) (by omega) (by omega))) (fun c6 => ?_)
    refine lv_iload_n hx hb dX6_work_41 rfl (lv_at hl 2 rfl) ?_
    refine lv_iload_n hx hb dX6_work_42 rfl (lv_at hl 3 rfl) ?_
    refine lv_ishr hx hb dX6_work_43 ?_
    refine lv_iconst (v := 1) hx hb dX6_work_44 (by decide) ?_
    refine lv_iand hx hb dX6_work_45 ?_
    refine lv_iconst (v := 1) hx hb dX6_work_46 (by decide) ?_
    refine lv_icmp_ne (tgt := 82) hx hb dX6_work_47 (by decide) (fun c7 => ?_) (fun c7 => ?_)
    · refine lv_iinc (v := (nI (j + 1))) (lv' := [(3, .int (nI (j + 1))), (0, .ref a_t), (1, .ref a_r1), (2, .int x2)]) hx hb dX6_work_82 hl (k := 3) rfl (nI_1 _) (by decide) rfl (fun ls hl => ?_)
      refine lv_goto (tgt := 35) hx hb dX6_work_85 (by decide) ?_
      have hB : B_X6_work_35 x2 g_r1_of j g_t_ways = g_t_ways := by
        unfold B_X6_work_35
        exact (if_neg c7).trans (rfl)
      rw [it_c hB] at kk
      have hok2 := itA_c hB hok0
      exact ih (j + 1) g_t_ways (by omega) (by omega) hok2 _ _ hw _ (lv_sub hl [1, 2, 3, 0] rfl) kk
    · replace hok := Eq.mp (if_pos c7) hok
      refine lv_aload_n hx hb dX6_work_50 rfl (lv_at hl 0 rfl) ?_
      refine k_get C hw (CC := RX6) (T := TX6) (N := 1) nX6_work_X6 0 rfl rfl 0 (by decide) (List.mem_of_getElem? (i := 1) rfl) rfl rfl dX6_work_51 ?_
      refine lv_iload_n hx hb dX6_work_54 rfl (lv_at hl 2 rfl) ?_
      refine lv_bipush (v := 8) hx hb dX6_work_55 (by decide) ?_
      refine lv_imul hx hb dX6_work_57 ?_
      refine lv_iload_n hx hb dX6_work_58 rfl (lv_at hl 3 rfl) ?_
      refine lv_iadd hx hb dX6_work_59 ?_
      refine lv_aload_n hx hb dX6_work_60 rfl (lv_at hl 0 rfl) ?_
      refine lv_iload_n hx hb dX6_work_61 rfl (lv_at hl 2 rfl) ?_
      refine lv_sipush (v := 255) hx hb dX6_work_62 (by decide) ?_
      refine lv_iload_n hx hb dX6_work_65 rfl (lv_at hl 2 rfl) ?_
      refine lv_iconst (v := (-1)) hx hb dX6_work_66 (by decide) ?_
      refine lv_ixor hx hb dX6_work_67 ?_
      refine lv_iand hx hb dX6_work_68 ?_
      refine lv_aload_n hx hb dX6_work_69 rfl (lv_at hl 1 rfl) ?_
      refine k_getN C hw (CC := RX3) (T := TX3) (N := 1) nX6_work_X3 1 rfl rfl 0 (by decide) 5 rfl rfl rfl dX6_work_70 ?_
      refine lv_iload_n hx hb dX6_work_73 rfl (lv_at hl 3 rfl) ?_
      refine k_ialdN C hw 2 rfl j rfl (by omega) (by decide) dX6_work_74 ?_
      refine lv_iconst (v := (-1)) hx hb dX6_work_75 (by decide) ?_
      refine lv_ixor hx hb dX6_work_76 ?_
      refine lv_iand hx hb dX6_work_77 ?_
      obtain ⟨h8, hok⟩ := hok
      refine k_callV (As := [.int x2, .int ((255 &&& (x2 ^^^ (-1))) &&& ((g_r1_of j) ^^^ (-1)))]) (rest := [.int ((x2 * 8) + (nI j)), .ref a_t_ways]) (n := 2) (CC := RX6) (T := TX6) (N := 1) C hw (T_X6_waysOn l D cI cZ a_t a_t_ways g_t_ways x2 ((255 &&& (x2 ^^^ (-1))) &&& ((g_r1_of j) ^^^ (-1))) h8) gX6_work_X6_waysOn rfl ⟨rfl, rfl⟩ (by decide +kernel) ⟨Nat.le_of_ble_eq_true rfl, Nat.le_of_ble_eq_true rfl⟩ 0 rfl rfl [0, 3] rfl rfl [a_t, a_t_ways] rfl rfl rfl hl.1 rfl (Nat.le_of_ble_eq_true rfl) ⟨Nat.zero_le _, Nat.zero_le _⟩ dX6_work_78 (fun H locs hw => ?_)
      obtain ⟨z9, h10⟩ : ∃ z, (f_X6_waysOn g_t_ways x2 ((255 &&& (x2 ^^^ (-1))) &&& ((g_r1_of j) ^^^ (-1)))) = z := ⟨_, rfl⟩
      refine W.eq (g2 := F0 m 81 ls [.int z9, .int ((x2 * 8) + (nI j)), .ref a_t_ways]) (by subst h10; rfl) ?_
      replace hw := kW_cast (ws' := [(a_t, .inr (6, [.ref a_t_ways])), (a_r1, .inr (3, [.ref a_r1_of])), (a_r1_of, .inl (cI, 8, .inl g_r1_of)), (a_t_ways, .inl (cI, 2048, .inl g_t_ways))]) (by subst h10; rfl) hw
      replace hok := Eq.mp (lt_c h10) hok
      obtain ⟨h11, hok⟩ := hok
      refine k_iast C hw 3 rfl h11 dX6_work_81 (fun H locs hw => ?_)
      replace hw : kW D _ s H locs [(a_t, .inr (6, [.ref a_t_ways])), (a_r1, .inr (3, [.ref a_r1_of])), (a_r1_of, .inl (cI, 8, .inl g_r1_of)), (a_t_ways, .inl (cI, 2048, .inl (upd g_t_ways ((x2 * 8) + (nI j)).toNatClampNeg z9)))] := hw
      refine lv_iinc (v := (nI (j + 1))) (lv' := [(3, .int (nI (j + 1))), (0, .ref a_t), (1, .ref a_r1), (2, .int x2)]) hx hb dX6_work_82 hl (k := 3) rfl (nI_1 _) (by decide) rfl (fun ls hl => ?_)
      refine lv_goto (tgt := 35) hx hb dX6_work_85 (by decide) ?_
      have hB : B_X6_work_35 x2 g_r1_of j g_t_ways = (upd g_t_ways ((x2 * 8) + (nI j)).toNatClampNeg z9) := by
        unfold B_X6_work_35
        exact (if_pos c7).trans ((lt_c h10).trans (rfl))
      rw [it_c hB] at kk
      have hok2 := itA_c hB hok0
      exact ih (j + 1) (upd g_t_ways ((x2 * 8) + (nI j)).toNatClampNeg z9) (by omega) (by omega) hok2 _ _ hw _ (lv_sub hl [1, 2, 3, 0] rfl) kk
def B_X6_work_29 (g_r1_of : (Nat → Int32)) (n : Nat) (v : (Nat → Int32)) : (Nat → Int32) := (it (B_X6_work_35 (nI (n + 1)) g_r1_of) 0 8 v)
def oB_X6_work_29 (g_r1_of : (Nat → Int32)) (n : Nat) (v : (Nat → Int32)) : Prop := ((itA (oB_X6_work_35 (nI (n + 1)) g_r1_of) (B_X6_work_35 (nI (n + 1)) g_r1_of) 0 8 v) ∧ True)
set_option maxHeartbeats 4000000 in
set_option maxRecDepth 100000 in
theorem l_X6_work_29 {p : Program} {l : Launch} {e : Env} {s : State} {m : MethodId} {args : Array Value} {below : List Frame} {meth : Method} {c : Code} {D : va_G} {cI cZ : ClassId} {Q : State → Prop} {A : Nat → Prop} (a_t a_t_ways a_r1 a_r1_of : Nat) (g_r1_of : (Nat → Int32)) (C : kC p s m args meth c cX6_work 4 wsX6_work RX6 D cI cZ A) : ∀ (n : Nat) (g_t_ways : (Nat → Int32)), n ≤ 254 → itDA (oB_X6_work_29 g_r1_of) (B_X6_work_29 g_r1_of) n g_t_ways → ∀ (H : Heap) (locs : List Loc), kW D A s H locs [(a_t, .inr (6, [.ref a_t_ways])), (a_r1, .inr (3, [.ref a_r1_of])), (a_r1_of, .inl (cI, 8, .inl g_r1_of)), (a_t_ways, .inl (cI, 2048, .inl g_t_ways))] → ∀ (ls : Array Slot), lv_has ls 4 [(0, .ref a_t), (1, .ref a_r1), (2, .int (nI n))] → (∀ (H : Heap) (locs : List Loc) (ls : Array Slot), kW D A s H locs [(a_t, .inr (6, [.ref a_t_ways])), (a_r1, .inr (3, [.ref a_r1_of])), (a_r1_of, .inl (cI, 8, .inl g_r1_of)), (a_t_ways, .inl (cI, 2048, .inl (itD (B_X6_work_29 g_r1_of) n g_t_ways)))] → lv_has ls 4 [] → W p l e ({ frames := 1, cells := 0, slots := 0, locals := 24 }) s m args below meth c H locs 0 0 Q (F0 m 94 ls [])) → W p l e ({ frames := 1, cells := 0, slots := 0, locals := 24 }) s m args below meth c H locs 0 0 Q (F0 m 29 ls []) := by
  have hx := C.hx
  have hb := C.hb
  intro n
  induction n with
  | zero =>
    intro g_t_ways hn hok0 H locs hw ls hl kk
    refine lv_iload_n hx hb dX6_work_29 rfl (lv_at hl 2 rfl) ?_
    refine lv_if_le (tgt := 94) hx hb dX6_work_30 (by decide) (fun c7 => ?_) (fun c7 => absurd (by decide) c7)
    exact kk _ _ _ hw (lv_sub hl [] rfl)
  | succ n ih =>
    intro g_t_ways hn hok0 H locs hw ls hl kk
    have hok := hok0.1
    refine lv_iload_n hx hb dX6_work_29 rfl (lv_at hl 2 rfl) ?_
    refine lv_if_le (tgt := 94) hx hb dX6_work_30 (by decide) (fun c5 => absurd c5 (nI_nle (Nat.succ_pos _) (by omega))) (fun c5 => ?_)
    refine lv_iconst (v := 0) hx hb dX6_work_33 (by decide) ?_
    refine lv_istore_n (lv' := [(3, .int 0), (0, .ref a_t), (1, .ref a_r1), (2, .int (nI (n + 1)))]) hx hb dX6_work_34 rfl hl (by decide) rfl (fun ls hl => ?_)
    obtain ⟨h6, hok⟩ := hok
    refine l_X6_work_35 a_t a_t_ways a_r1 a_r1_of (nI (n + 1)) g_r1_of C 8 0 g_t_ways (by decide) (by decide) h6 _ _ hw _ (lv_sub hl [1, 2, 3, 0] rfl) (fun H locs ls hw hl => ?_)
    replace hw : kW D _ s H locs [(a_t, .inr (6, [.ref a_t_ways])), (a_r1, .inr (3, [.ref a_r1_of])), (a_r1_of, .inl (cI, 8, .inl g_r1_of)), (a_t_ways, .inl (cI, 2048, .inl (it (B_X6_work_35 (nI (n + 1)) g_r1_of) 0 8 g_t_ways)))] := hw
    replace hl : lv_has ls 4 [(0, .ref a_t), (1, .ref a_r1), (2, .int (nI (n + 1)))] := hl
    refine lv_iinc (v := (nI n)) (lv' := [(2, .int (nI n)), (0, .ref a_t), (1, .ref a_r1)]) hx hb dX6_work_88 hl (k := 2) rfl (pk_m1 _) (by decide) rfl (fun ls hl => ?_)
    refine lv_goto (tgt := 29) hx hb dX6_work_91 (by decide) ?_
    have hB : B_X6_work_29 g_r1_of n g_t_ways = (it (B_X6_work_35 (nI (n + 1)) g_r1_of) 0 8 g_t_ways) := by
      unfold B_X6_work_29
      exact rfl
    rw [itD_c hB] at kk
    have hok2 := itDA_c hB hok0
    exact ih (it (B_X6_work_35 (nI (n + 1)) g_r1_of) 0 8 g_t_ways) (by omega) hok2 _ _ hw _ (lv_sub hl [1, 2, 0] rfl) kk
def f_X6_work (g_r1_of : (Nat → Int32)) (g_t_ways : (Nat → Int32)) : (Nat → Int32) := (itD (B_X6_work_29 g_r1_of) 254 (it B_X6_work_2 0 8 g_t_ways))
def o_X6_work (g_r1_of : (Nat → Int32)) (g_t_ways : (Nat → Int32)) : Prop := ((itA oB_X6_work_2 B_X6_work_2 0 8 g_t_ways) ∧ ((itDA (oB_X6_work_29 g_r1_of) (B_X6_work_29 g_r1_of) 254 (it B_X6_work_2 0 8 g_t_ways)) ∧ True))
set_option maxHeartbeats 4000000 in
set_option maxRecDepth 100000 in
theorem T_X6_work (l : Launch) (D : va_G) (cI cZ : ClassId) (a_t a_t_ways a_r1 a_r1_of : Nat) (g_r1_of : (Nat → Int32)) (g_t_ways : (Nat → Int32)) (hok : o_X6_work g_r1_of g_t_ways) : CT l D cI cZ yX6_work wsX6_work ({ frames := 1, cells := 0, slots := 0, locals := 24 }) [.ref a_t, .ref a_r1] [(a_t, .inr (6, [.ref a_t_ways])), (a_r1, .inr (3, [.ref a_r1_of])), (a_r1_of, .inl (cI, 8, .inl g_r1_of)), (a_t_ways, .inl (cI, 2048, .inl g_t_ways))] none [(a_t, .inr (6, [.ref a_t_ways])), (a_r1, .inr (3, [.ref a_r1_of])), (a_r1_of, .inl (cI, 8, .inl g_r1_of)), (a_t_ways, .inl (cI, 2048, .inl (f_X6_work g_r1_of g_t_ways)))] := by
  refine CT.intro RX6 (by decide) rfl (Nat.le_of_ble_eq_true rfl) rfl ?_
  intro p e s m below meth c C hr hw ls hl
  have hx := C.hx
  have hb := C.hb
  replace hl : lv_has ls 4 [(0, .ref a_t), (1, .ref a_r1)] := hl
  refine lv_iconst (v := 0) hx hb dX6_work_0 (by decide) ?_
  refine lv_istore_n (lv' := [(2, .int 0), (0, .ref a_t), (1, .ref a_r1)]) hx hb dX6_work_1 rfl hl (by decide) rfl (fun ls hl => ?_)
  obtain ⟨h4, hok⟩ := hok
  refine l_X6_work_2 a_t a_t_ways a_r1 a_r1_of g_r1_of C 8 0 g_t_ways (by decide) (by decide) h4 _ _ hw _ (lv_sub hl [1, 2, 0] rfl) (fun H locs ls hw hl => ?_)
  replace hw : kW D _ s H locs [(a_t, .inr (6, [.ref a_t_ways])), (a_r1, .inr (3, [.ref a_r1_of])), (a_r1_of, .inl (cI, 8, .inl g_r1_of)), (a_t_ways, .inl (cI, 2048, .inl (it B_X6_work_2 0 8 g_t_ways)))] := hw
  replace hl : lv_has ls 4 [(0, .ref a_t), (1, .ref a_r1)] := hl
  refine lv_sipush (v := 254) hx hb dX6_work_25 (by decide) ?_
  refine lv_istore_n (lv' := [(2, .int 254), (0, .ref a_t), (1, .ref a_r1)]) hx hb dX6_work_28 rfl hl (by decide) rfl (fun ls hl => ?_)
  obtain ⟨h8, hok⟩ := hok
  refine l_X6_work_29 a_t a_t_ways a_r1 a_r1_of g_r1_of C 254 (it B_X6_work_2 0 8 g_t_ways) (by decide) h8 _ _ hw _ (lv_sub hl [1, 2, 0] rfl) (fun H locs ls hw hl => ?_)
  replace hw : kW D _ s H locs [(a_t, .inr (6, [.ref a_t_ways])), (a_r1, .inr (3, [.ref a_r1_of])), (a_r1_of, .inl (cI, 8, .inl g_r1_of)), (a_t_ways, .inl (cI, 2048, .inl (itD (B_X6_work_29 g_r1_of) 254 (it B_X6_work_2 0 8 g_t_ways))))] := hw
  replace hl : lv_has ls 4 [] := hl
  rw [show f_X6_work g_r1_of g_t_ways = (itD (B_X6_work_29 g_r1_of) 254 (it B_X6_work_2 0 8 g_t_ways)) from by
      unfold f_X6_work
      exact rfl]
  exact k_vret C hr hw dX6_work_94

def f_X6_howMany (g_t_ways : (Nat → Int32)) : Int32 := (f_X6_waysOn g_t_ways (0 : Int32) (255 : Int32))
def o_X6_howMany (g_t_ways : (Nat → Int32)) : Prop := ((o_X6_waysOn g_t_ways (0 : Int32) (255 : Int32)) ∧ True)
set_option maxHeartbeats 4000000 in
set_option maxRecDepth 100000 in
theorem T_X6_howMany (l : Launch) (D : va_G) (cI cZ : ClassId) (a_t a_t_ways : Nat) (g_t_ways : (Nat → Int32)) (hok : o_X6_howMany g_t_ways) : CT l D cI cZ yX6_howMany wsX6_howMany ({ frames := 1, cells := 0, slots := 0, locals := 24 }) [.ref a_t] [(a_t, .inr (6, [.ref a_t_ways])), (a_t_ways, .inl (cI, 2048, .inl g_t_ways))] (some (.int (f_X6_howMany g_t_ways))) [(a_t, .inr (6, [.ref a_t_ways])), (a_t_ways, .inl (cI, 2048, .inl g_t_ways))] := by
  refine CT.intro RX6 (by decide) rfl (Nat.le_of_ble_eq_true rfl) rfl ?_
  intro p e s m below meth c C hr hw ls hl
  have hx := C.hx
  have hb := C.hb
  replace hl : lv_has ls 1 [(0, .ref a_t)] := hl
  refine lv_aload_n hx hb dX6_howMany_0 rfl (lv_at hl 0 rfl) ?_
  refine lv_iconst (v := 0) hx hb dX6_howMany_1 (by decide) ?_
  refine lv_sipush (v := 255) hx hb dX6_howMany_2 (by decide) ?_
  obtain ⟨h1, hok⟩ := hok
  refine k_callV (As := [.int 0, .int 255]) (rest := []) (n := 2) (CC := RX6) (T := TX6) (N := 1) C hw (T_X6_waysOn l D cI cZ a_t a_t_ways g_t_ways (0 : Int32) (255 : Int32) h1) gX6_howMany_X6_waysOn rfl ⟨rfl, rfl⟩ (by decide +kernel) ⟨Nat.le_of_ble_eq_true rfl, Nat.le_of_ble_eq_true rfl⟩ 0 rfl rfl [0, 1] rfl rfl [a_t, a_t_ways] rfl rfl rfl hl.1 rfl (Nat.le_of_ble_eq_true rfl) ⟨Nat.zero_le _, Nat.zero_le _⟩ dX6_howMany_5 (fun H locs hw => ?_)
  refine W.eq (g2 := F0 m 8 ls [.int (f_X6_waysOn g_t_ways (0 : Int32) (255 : Int32))]) rfl ?_
  replace hw : kW D _ s H locs [(a_t, .inr (6, [.ref a_t_ways])), (a_t_ways, .inl (cI, 2048, .inl g_t_ways))] := hw
  rw [show f_X6_howMany g_t_ways = (f_X6_waysOn g_t_ways (0 : Int32) (255 : Int32)) from by
      unfold f_X6_howMany
      exact rfl]
  exact k_iret C hr hw dX6_howMany_8

theorem nX6_leastThatGoesOn_X6 : ∀ w ∈ wsX60, w ∈ wsX6_leastThatGoesOn := fun _ h => List.mem_cons_of_mem _ (List.mem_append_right _ h)
def B_X6_leastThatGoesOn_2 (x1 : Int32) (x2 : Int32) (g_t_ways : (Nat → Int32)) (j : Nat) (v : Unit) : (Unit) ⊕ ((Unit) ⊕ (Int32)) := (if ((x2 >>> ((nI j) &&& 31)) &&& 1) = 1 then (if (g_t_ways (((x1 ||| ((1 : Int32) <<< ((nI j) &&& 31))) * 8) + (nI j)).toNatClampNeg) ≤ 0 then Sum.inl () else Sum.inr (Sum.inr (nI j))) else Sum.inl ())
def oB_X6_leastThatGoesOn_2 (x1 : Int32) (x2 : Int32) (j : Nat) (v : Unit) : Prop := (if ((x2 >>> ((nI j) &&& 31)) &&& 1) = 1 then ((vp_in (((x1 ||| ((1 : Int32) <<< ((nI j) &&& 31))) * 8) + (nI j)) 2048) ∧ True) else True)
set_option maxHeartbeats 4000000 in
set_option maxRecDepth 100000 in
theorem l_X6_leastThatGoesOn_2 {p : Program} {l : Launch} {e : Env} {s : State} {m : MethodId} {args : Array Value} {below : List Frame} {meth : Method} {c : Code} {D : va_G} {cI cZ : ClassId} (a_t a_t_ways : Nat) (W0 : va_W) (x1 : Int32) (x2 : Int32) (g_t_ways : (Nat → Int32)) (RES : Int32) (C : kC p s m args meth c cX6_leastThatGoesOn 4 wsX6_leastThatGoesOn RX6 D cI cZ (va_A W0 s.heap.size)) (hr : meth.sig.returnType = some .int) : ∀ (n j : Nat), n = 8 - j → j < 2147483648 → lpA (oB_X6_leastThatGoesOn_2 x1 x2) (B_X6_leastThatGoesOn_2 x1 x2 g_t_ways) j n () → (∀ r, (lp (B_X6_leastThatGoesOn_2 x1 x2 g_t_ways) j n ()) = Sum.inr r → RES = r) → ∀ (H : Heap) (locs : List Loc), kW D (va_A W0 s.heap.size) s H locs [(a_t, .inr (6, [.ref a_t_ways])), (a_t_ways, .inl (cI, 2048, .inl g_t_ways))] → ∀ (ls : Array Slot), lv_has ls 4 [(0, .ref a_t), (1, .int x1), (2, .int x2), (3, .int (nI j))] → (lp (B_X6_leastThatGoesOn_2 x1 x2 g_t_ways) j n () = Sum.inl () → ∀ (H : Heap) (locs : List Loc) (ls : Array Slot), kW D (va_A W0 s.heap.size) s H locs [(a_t, .inr (6, [.ref a_t_ways])), (a_t_ways, .inl (cI, 2048, .inl g_t_ways))] → lv_has ls 4 [] → W p l e ({ frames := 0, cells := 0, slots := 0, locals := 0 }) s m args below meth c H locs 0 0 (MQ below (kQ D W0 s.heap.size (some (.int RES)) [(a_t, .inr (6, [.ref a_t_ways])), (a_t_ways, .inl (cI, 2048, .inl g_t_ways))]) args s 0 0 (va_A W0 s.heap.size)) (F0 m 43 ls [])) → W p l e ({ frames := 0, cells := 0, slots := 0, locals := 0 }) s m args below meth c H locs 0 0 (MQ below (kQ D W0 s.heap.size (some (.int RES)) [(a_t, .inr (6, [.ref a_t_ways])), (a_t_ways, .inl (cI, 2048, .inl g_t_ways))]) args s 0 0 (va_A W0 s.heap.size)) (F0 m 2 ls []) := by
  have hx := C.hx
  have hb := C.hb
  intro n
  induction n with
  | zero =>
    intro j hn hj hok0 hres H locs hw ls hl kk
    refine lv_iload_n hx hb dX6_leastThatGoesOn_2 rfl (lv_at hl 3 rfl) ?_
    refine lv_bipush (v := 8) hx hb dX6_leastThatGoesOn_3 (by decide) ?_
    refine lv_icmp_ge (tgt := 43) hx hb dX6_leastThatGoesOn_5 (by decide) (fun c5 => ?_) (fun c5 => by exact absurd (nI_le (a := 8) (b := j) (by omega) (by omega)) c5)
    exact kk  rfl _ _ _ hw (lv_sub hl [] rfl)
  | succ n ih =>
    intro j hn hj hok0 hres H locs hw ls hl kk
    have hok := hok0.1
    refine lv_iload_n hx hb dX6_leastThatGoesOn_2 rfl (lv_at hl 3 rfl) ?_
    refine lv_bipush (v := 8) hx hb dX6_leastThatGoesOn_3 (by decide) ?_
    refine lv_icmp_ge (tgt := 43) hx hb dX6_leastThatGoesOn_5 (by decide) (fun c1 => by exact absurd c1 (nI_ge (a := j) (b := 8) (by omega) (by omega))) (fun c1 => ?_)
    refine lv_iload_n hx hb dX6_leastThatGoesOn_8 rfl (lv_at hl 2 rfl) ?_
    refine lv_iload_n hx hb dX6_leastThatGoesOn_9 rfl (lv_at hl 3 rfl) ?_
    refine lv_ishr hx hb dX6_leastThatGoesOn_10 ?_
    refine lv_iconst (v := 1) hx hb dX6_leastThatGoesOn_11 (by decide) ?_
    refine lv_iand hx hb dX6_leastThatGoesOn_12 ?_
    refine lv_iconst (v := 1) hx hb dX6_leastThatGoesOn_13 (by decide) ?_
    refine lv_icmp_ne (tgt := 37) hx hb dX6_leastThatGoesOn_14 (by decide) (fun c2 => ?_) (fun c2 => ?_)
    · refine lv_iinc (v := (nI (j + 1))) (lv' := [(3, .int (nI (j + 1))), (0, .ref a_t), (1, .int x1), (2, .int x2)]) hx hb dX6_leastThatGoesOn_37 hl (k := 3) rfl (nI_1 _) (by decide) rfl (fun ls hl => ?_)
      refine lv_goto (tgt := 2) hx hb dX6_leastThatGoesOn_40 (by decide) ?_
      have hB : B_X6_leastThatGoesOn_2 x1 x2 g_t_ways j () = Sum.inl () := by
        unfold B_X6_leastThatGoesOn_2
        exact (if_neg c2).trans (rfl)
      rw [lp_c hB] at kk hres
      have hok2 := lpA_c hB hok0
      exact ih (j + 1)  (by omega) (by omega) hok2 hres _ _ hw _ (lv_sub hl [1, 2, 3, 0] rfl) kk
    · replace hok := Eq.mp (if_pos c2) hok
      refine lv_aload_n hx hb dX6_leastThatGoesOn_17 rfl (lv_at hl 0 rfl) ?_
      refine k_get C hw (CC := RX6) (T := TX6) (N := 1) nX6_leastThatGoesOn_X6 0 rfl rfl 0 (by decide) (List.mem_of_getElem? (i := 1) rfl) rfl rfl dX6_leastThatGoesOn_18 ?_
      refine lv_iload_n hx hb dX6_leastThatGoesOn_21 rfl (lv_at hl 1 rfl) ?_
      refine lv_iconst (v := 1) hx hb dX6_leastThatGoesOn_22 (by decide) ?_
      refine lv_iload_n hx hb dX6_leastThatGoesOn_23 rfl (lv_at hl 3 rfl) ?_
      refine lv_ishl hx hb dX6_leastThatGoesOn_24 ?_
      refine lv_ior hx hb dX6_leastThatGoesOn_25 ?_
      refine lv_bipush (v := 8) hx hb dX6_leastThatGoesOn_26 (by decide) ?_
      refine lv_imul hx hb dX6_leastThatGoesOn_28 ?_
      refine lv_iload_n hx hb dX6_leastThatGoesOn_29 rfl (lv_at hl 3 rfl) ?_
      refine lv_iadd hx hb dX6_leastThatGoesOn_30 ?_
      obtain ⟨h3, hok⟩ := hok
      refine k_iald C hw 1 rfl h3 dX6_leastThatGoesOn_31 ?_
      refine lv_if_le (tgt := 37) hx hb dX6_leastThatGoesOn_32 (by decide) (fun c4 => ?_) (fun c4 => ?_)
      · refine lv_iinc (v := (nI (j + 1))) (lv' := [(3, .int (nI (j + 1))), (0, .ref a_t), (1, .int x1), (2, .int x2)]) hx hb dX6_leastThatGoesOn_37 hl (k := 3) rfl (nI_1 _) (by decide) rfl (fun ls hl => ?_)
        refine lv_goto (tgt := 2) hx hb dX6_leastThatGoesOn_40 (by decide) ?_
        have hB : B_X6_leastThatGoesOn_2 x1 x2 g_t_ways j () = Sum.inl () := by
          unfold B_X6_leastThatGoesOn_2
          exact (if_pos c2).trans ((if_pos c4).trans (rfl))
        rw [lp_c hB] at kk hres
        have hok2 := lpA_c hB hok0
        exact ih (j + 1)  (by omega) (by omega) hok2 hres _ _ hw _ (lv_sub hl [1, 2, 3, 0] rfl) kk
      · refine lv_iload_n hx hb dX6_leastThatGoesOn_35 rfl (lv_at hl 3 rfl) ?_
        have hB : B_X6_leastThatGoesOn_2 x1 x2 g_t_ways j () = Sum.inr (Sum.inr (nI j)) := by
          unfold B_X6_leastThatGoesOn_2
          exact (if_pos c2).trans ((if_neg c4).trans (rfl))
        have hf := hres _ (lp_b hB)
        rw [hf]
        exact k_iret C hr hw dX6_leastThatGoesOn_36
def f_X6_leastThatGoesOn (g_t_ways : (Nat → Int32)) (p1 : Int32) (p2 : Int32) : Int32 := (Sum.elim (fun y => (-6)) id (lp (B_X6_leastThatGoesOn_2 p1 p2 g_t_ways) 0 8 ()))
def o_X6_leastThatGoesOn (g_t_ways : (Nat → Int32)) (p1 : Int32) (p2 : Int32) : Prop := ((lpA (oB_X6_leastThatGoesOn_2 p1 p2) (B_X6_leastThatGoesOn_2 p1 p2 g_t_ways) 0 8 ()) ∧ True)
set_option maxHeartbeats 4000000 in
set_option maxRecDepth 100000 in
theorem T_X6_leastThatGoesOn (l : Launch) (D : va_G) (cI cZ : ClassId) (a_t a_t_ways : Nat) (g_t_ways : (Nat → Int32)) (p1 : Int32) (p2 : Int32) (hok : o_X6_leastThatGoesOn g_t_ways p1 p2) : CT l D cI cZ yX6_leastThatGoesOn wsX6_leastThatGoesOn ({ frames := 0, cells := 0, slots := 0, locals := 0 }) [.ref a_t, .int p1, .int p2] [(a_t, .inr (6, [.ref a_t_ways])), (a_t_ways, .inl (cI, 2048, .inl g_t_ways))] (some (.int (f_X6_leastThatGoesOn g_t_ways p1 p2))) [(a_t, .inr (6, [.ref a_t_ways])), (a_t_ways, .inl (cI, 2048, .inl g_t_ways))] := by
  refine CT.intro RX6 (by decide) rfl (Nat.le_of_ble_eq_true rfl) rfl ?_
  intro p e s m below meth c C hr hw ls hl
  have hx := C.hx
  have hb := C.hb
  replace hl : lv_has ls 4 [(0, .ref a_t), (1, .int p1), (2, .int p2)] := hl
  refine lv_iconst (v := 0) hx hb dX6_leastThatGoesOn_0 (by decide) ?_
  refine lv_istore_n (lv' := [(3, .int 0), (0, .ref a_t), (1, .int p1), (2, .int p2)]) hx hb dX6_leastThatGoesOn_1 rfl hl (by decide) rfl (fun ls hl => ?_)
  obtain ⟨h6, hok⟩ := hok
  refine l_X6_leastThatGoesOn_2 a_t a_t_ways _ p1 p2 g_t_ways (f_X6_leastThatGoesOn g_t_ways p1 p2) C hr 8 0  (by decide) (by decide) h6 (fun r h => by unfold f_X6_leastThatGoesOn; exact congrArg (Sum.elim _ id) h) _ _ hw _ (lv_sub hl [1, 2, 3, 0] rfl) (fun h7 H locs ls hw hl => ?_)
  replace hw : kW D _ s H locs [(a_t, .inr (6, [.ref a_t_ways])), (a_t_ways, .inl (cI, 2048, .inl g_t_ways))] := hw
  replace hl : lv_has ls 4 [] := hl
  refine lv_bipush (v := (-6)) hx hb dX6_leastThatGoesOn_43 (by decide) ?_
  rw [show f_X6_leastThatGoesOn g_t_ways p1 p2 = (-6) from by
      unfold f_X6_leastThatGoesOn
      exact (congrArg (Sum.elim _ id) h7).trans (rfl)]
  exact k_iret C hr hw dX6_leastThatGoesOn_45

theorem nX6_least_X3 : ∀ w ∈ wsX30, w ∈ wsX6_least := fun _ h => List.mem_cons_of_mem _ (List.mem_append_left _ (List.mem_append_right _ h))
def B_X6_least_12 (g_t_ways : (Nat → Int32)) (g_r1_of : (Nat → Int32)) (j : Nat) (v : Int32 × Int32 × Int32) : (Int32 × Int32 × Int32) ⊕ ((Int32 × Int32 × Int32) ⊕ (Int32)) := (if (f_X6_leastThatGoesOn g_t_ways v.2.1 v.2.2) = (-6) then Sum.inr (Sum.inr (-6)) else Sum.inl (((v.1 * 10) + (f_X6_leastThatGoesOn g_t_ways v.2.1 v.2.2)), (v.2.1 ||| ((1 : Int32) <<< ((f_X6_leastThatGoesOn g_t_ways v.2.1 v.2.2) &&& 31))), ((255 &&& ((v.2.1 ||| ((1 : Int32) <<< ((f_X6_leastThatGoesOn g_t_ways v.2.1 v.2.2) &&& 31))) ^^^ (-1))) &&& ((g_r1_of (f_X6_leastThatGoesOn g_t_ways v.2.1 v.2.2).toNatClampNeg) ^^^ (-1)))))
def oB_X6_least_12 (g_t_ways : (Nat → Int32)) (j : Nat) (v : Int32 × Int32 × Int32) : Prop := ((o_X6_leastThatGoesOn g_t_ways v.2.1 v.2.2) ∧ (if (f_X6_leastThatGoesOn g_t_ways v.2.1 v.2.2) = (-6) then True else ((vp_in (f_X6_leastThatGoesOn g_t_ways v.2.1 v.2.2) 8) ∧ True)))
set_option maxHeartbeats 4000000 in
set_option maxRecDepth 100000 in
theorem l_X6_least_12 {p : Program} {l : Launch} {e : Env} {s : State} {m : MethodId} {args : Array Value} {below : List Frame} {meth : Method} {c : Code} {D : va_G} {cI cZ : ClassId} (a_t a_t_ways a_r1 a_r1_of : Nat) (W0 : va_W) (g_t_ways : (Nat → Int32)) (g_r1_of : (Nat → Int32)) (RES : Int32) (C : kC p s m args meth c cX6_least 7 wsX6_least RX6 D cI cZ (va_A W0 s.heap.size)) (hr : meth.sig.returnType = some .int) : ∀ (n j : Nat) (x2 : Int32) (x3 : Int32) (x4 : Int32), n = 8 - j → j < 2147483648 → lpA (oB_X6_least_12 g_t_ways) (B_X6_least_12 g_t_ways g_r1_of) j n (x2, x3, x4) → (∀ r, (lp (B_X6_least_12 g_t_ways g_r1_of) j n (x2, x3, x4)) = Sum.inr r → RES = r) → ∀ (H : Heap) (locs : List Loc), kW D (va_A W0 s.heap.size) s H locs [(a_t, .inr (6, [.ref a_t_ways])), (a_t_ways, .inl (cI, 2048, .inl g_t_ways)), (a_r1, .inr (3, [.ref a_r1_of])), (a_r1_of, .inl (cI, 8, .inl g_r1_of))] → ∀ (ls : Array Slot), lv_has ls 7 [(0, .ref a_t), (1, .ref a_r1), (2, .int x2), (3, .int x3), (4, .int x4), (5, .int (nI j))] → (∀ (y0 : Int32) (y1 : Int32) (y2 : Int32), lp (B_X6_least_12 g_t_ways g_r1_of) j n (x2, x3, x4) = Sum.inl (y0, y1, y2) → ∀ (H : Heap) (locs : List Loc) (ls : Array Slot), kW D (va_A W0 s.heap.size) s H locs [(a_t, .inr (6, [.ref a_t_ways])), (a_t_ways, .inl (cI, 2048, .inl g_t_ways)), (a_r1, .inr (3, [.ref a_r1_of])), (a_r1_of, .inl (cI, 8, .inl g_r1_of))] → lv_has ls 7 [(2, .int y0)] → W p l e ({ frames := 1, cells := 0, slots := 0, locals := 23 }) s m args below meth c H locs 0 0 (MQ below (kQ D W0 s.heap.size (some (.int RES)) [(a_t, .inr (6, [.ref a_t_ways])), (a_t_ways, .inl (cI, 2048, .inl g_t_ways)), (a_r1, .inr (3, [.ref a_r1_of])), (a_r1_of, .inl (cI, 8, .inl g_r1_of))]) args s 0 0 (va_A W0 s.heap.size)) (F0 m 78 ls [])) → W p l e ({ frames := 1, cells := 0, slots := 0, locals := 23 }) s m args below meth c H locs 0 0 (MQ below (kQ D W0 s.heap.size (some (.int RES)) [(a_t, .inr (6, [.ref a_t_ways])), (a_t_ways, .inl (cI, 2048, .inl g_t_ways)), (a_r1, .inr (3, [.ref a_r1_of])), (a_r1_of, .inl (cI, 8, .inl g_r1_of))]) args s 0 0 (va_A W0 s.heap.size)) (F0 m 12 ls []) := by
  have hx := C.hx
  have hb := C.hb
  intro n
  induction n with
  | zero =>
    intro j x2 x3 x4 hn hj hok0 hres H locs hw ls hl kk
    refine lv_iload hx hb dX6_least_12 (lv_at hl 5 rfl) ?_
    refine lv_bipush (v := 8) hx hb dX6_least_14 (by decide) ?_
    refine lv_icmp_ge (tgt := 78) hx hb dX6_least_16 (by decide) (fun c5 => ?_) (fun c5 => by exact absurd (nI_le (a := 8) (b := j) (by omega) (by omega)) c5)
    exact kk x2 x3 x4 rfl _ _ _ hw (lv_sub hl [2] rfl)
  | succ n ih =>
    intro j x2 x3 x4 hn hj hok0 hres H locs hw ls hl kk
    have hok := hok0.1
    refine lv_iload hx hb dX6_least_12 (lv_at hl 5 rfl) ?_
    refine lv_bipush (v := 8) hx hb dX6_least_14 (by decide) ?_
    refine lv_icmp_ge (tgt := 78) hx hb dX6_least_16 (by decide) (fun c1 => by exact absurd c1 (nI_ge (a := j) (b := 8) (by omega) (by omega))) (fun c1 => ?_)
    refine lv_aload_n hx hb dX6_least_19 rfl (lv_at hl 0 rfl) ?_
    refine lv_iload_n hx hb dX6_least_20 rfl (lv_at hl 3 rfl) ?_
    refine lv_iload hx hb dX6_least_21 (lv_at hl 4 rfl) ?_
    obtain ⟨h2, hok⟩ := hok
    refine k_callV (As := [.int x3, .int x4]) (rest := []) (n := 2) (CC := RX6) (T := TX6) (N := 1) C hw (T_X6_leastThatGoesOn l D cI cZ a_t a_t_ways g_t_ways x3 x4 h2) gX6_least_X6_leastThatGoesOn rfl ⟨rfl, rfl⟩ (by decide +kernel) ⟨Nat.le_of_ble_eq_true rfl, Nat.le_of_ble_eq_true rfl⟩ 0 rfl rfl [0, 1] rfl rfl [a_t, a_t_ways] rfl rfl rfl hl.1 rfl (Nat.le_of_ble_eq_true rfl) ⟨Nat.zero_le _, Nat.zero_le _⟩ dX6_least_23 (fun H locs hw => ?_)
    refine W.eq (g2 := F0 m 26 ls [.int (f_X6_leastThatGoesOn g_t_ways x3 x4)]) rfl ?_
    replace hw : kW D _ s H locs [(a_t, .inr (6, [.ref a_t_ways])), (a_t_ways, .inl (cI, 2048, .inl g_t_ways)), (a_r1, .inr (3, [.ref a_r1_of])), (a_r1_of, .inl (cI, 8, .inl g_r1_of))] := hw
    refine lv_istore (lv' := [(6, .int (f_X6_leastThatGoesOn g_t_ways x3 x4)), (0, .ref a_t), (1, .ref a_r1), (2, .int x2), (3, .int x3), (4, .int x4), (5, .int (nI j))]) hx hb dX6_least_26 hl (by decide) rfl (fun ls hl => ?_)
    refine lv_iload hx hb dX6_least_28 (lv_at hl 0 rfl) ?_
    refine lv_bipush (v := (-6)) hx hb dX6_least_30 (by decide) ?_
    refine lv_icmp_ne (tgt := 38) hx hb dX6_least_32 (by decide) (fun c3 => ?_) (fun c3 => ?_)
    · replace hok := Eq.mp (if_neg c3) hok
      refine lv_iload_n hx hb dX6_least_38 rfl (lv_at hl 3 rfl) ?_
      refine lv_bipush (v := 10) hx hb dX6_least_39 (by decide) ?_
      refine lv_imul hx hb dX6_least_41 ?_
      refine lv_iload hx hb dX6_least_42 (lv_at hl 0 rfl) ?_
      refine lv_iadd hx hb dX6_least_44 ?_
      refine lv_istore_n (lv' := [(2, .int ((x2 * 10) + (f_X6_leastThatGoesOn g_t_ways x3 x4))), (6, .int (f_X6_leastThatGoesOn g_t_ways x3 x4)), (0, .ref a_t), (1, .ref a_r1), (3, .int x3), (4, .int x4), (5, .int (nI j))]) hx hb dX6_least_45 rfl hl (by decide) rfl (fun ls hl => ?_)
      refine lv_iload_n hx hb dX6_least_46 rfl (lv_at hl 4 rfl) ?_
      refine lv_iconst (v := 1) hx hb dX6_least_47 (by decide) ?_
      refine lv_iload hx hb dX6_least_48 (lv_at hl 1 rfl) ?_
      refine lv_ishl hx hb dX6_least_50 ?_
      refine lv_ior hx hb dX6_least_51 ?_
      refine lv_istore_n (lv' := [(3, .int (x3 ||| ((1 : Int32) <<< ((f_X6_leastThatGoesOn g_t_ways x3 x4) &&& 31)))), (2, .int ((x2 * 10) + (f_X6_leastThatGoesOn g_t_ways x3 x4))), (6, .int (f_X6_leastThatGoesOn g_t_ways x3 x4)), (0, .ref a_t), (1, .ref a_r1), (4, .int x4), (5, .int (nI j))]) hx hb dX6_least_52 rfl hl (by decide) rfl (fun ls hl => ?_)
      refine lv_sipush (v := 255) hx hb dX6_least_53 (by decide) ?_
      refine lv_iload_n hx hb dX6_least_56 rfl (lv_at hl 0 rfl) ?_
      refine lv_iconst (v := (-1)) hx hb dX6_least_57 (by decide) ?_
      refine lv_ixor hx hb dX6_least_58 ?_
      refine lv_iand hx hb dX6_least_59 ?_
      refine lv_aload_n hx hb dX6_least_60 rfl (lv_at hl 4 rfl) ?_
      refine k_getN C hw (CC := RX3) (T := TX3) (N := 1) nX6_least_X3 2 rfl rfl 0 (by decide) 5 rfl rfl rfl dX6_least_61 ?_
      refine lv_iload hx hb dX6_least_64 (lv_at hl 2 rfl) ?_
      obtain ⟨h4, hok⟩ := hok
      refine k_iald C hw 3 rfl h4 dX6_least_66 ?_
      refine lv_iconst (v := (-1)) hx hb dX6_least_67 (by decide) ?_
      refine lv_ixor hx hb dX6_least_68 ?_
      refine lv_iand hx hb dX6_least_69 ?_
      refine lv_istore (lv' := [(4, .int ((255 &&& ((x3 ||| ((1 : Int32) <<< ((f_X6_leastThatGoesOn g_t_ways x3 x4) &&& 31))) ^^^ (-1))) &&& ((g_r1_of (f_X6_leastThatGoesOn g_t_ways x3 x4).toNatClampNeg) ^^^ (-1)))), (3, .int (x3 ||| ((1 : Int32) <<< ((f_X6_leastThatGoesOn g_t_ways x3 x4) &&& 31)))), (2, .int ((x2 * 10) + (f_X6_leastThatGoesOn g_t_ways x3 x4))), (6, .int (f_X6_leastThatGoesOn g_t_ways x3 x4)), (0, .ref a_t), (1, .ref a_r1), (5, .int (nI j))]) hx hb dX6_least_70 hl (by decide) rfl (fun ls hl => ?_)
      refine lv_iinc (v := (nI (j + 1))) (lv' := [(5, .int (nI (j + 1))), (4, .int ((255 &&& ((x3 ||| ((1 : Int32) <<< ((f_X6_leastThatGoesOn g_t_ways x3 x4) &&& 31))) ^^^ (-1))) &&& ((g_r1_of (f_X6_leastThatGoesOn g_t_ways x3 x4).toNatClampNeg) ^^^ (-1)))), (3, .int (x3 ||| ((1 : Int32) <<< ((f_X6_leastThatGoesOn g_t_ways x3 x4) &&& 31)))), (2, .int ((x2 * 10) + (f_X6_leastThatGoesOn g_t_ways x3 x4))), (6, .int (f_X6_leastThatGoesOn g_t_ways x3 x4)), (0, .ref a_t), (1, .ref a_r1)]) hx hb dX6_least_72 hl (k := 6) rfl (nI_1 _) (by decide) rfl (fun ls hl => ?_)
      refine lv_goto (tgt := 12) hx hb dX6_least_75 (by decide) ?_
      have hB : B_X6_least_12 g_t_ways g_r1_of j (x2, x3, x4) = Sum.inl (((x2 * 10) + (f_X6_leastThatGoesOn g_t_ways x3 x4)), (x3 ||| ((1 : Int32) <<< ((f_X6_leastThatGoesOn g_t_ways x3 x4) &&& 31))), ((255 &&& ((x3 ||| ((1 : Int32) <<< ((f_X6_leastThatGoesOn g_t_ways x3 x4) &&& 31))) ^^^ (-1))) &&& ((g_r1_of (f_X6_leastThatGoesOn g_t_ways x3 x4).toNatClampNeg) ^^^ (-1)))) := by
        unfold B_X6_least_12
        exact (if_neg c3).trans (rfl)
      rw [lp_c hB] at kk hres
      have hok2 := lpA_c hB hok0
      exact ih (j + 1) ((x2 * 10) + (f_X6_leastThatGoesOn g_t_ways x3 x4)) (x3 ||| ((1 : Int32) <<< ((f_X6_leastThatGoesOn g_t_ways x3 x4) &&& 31))) ((255 &&& ((x3 ||| ((1 : Int32) <<< ((f_X6_leastThatGoesOn g_t_ways x3 x4) &&& 31))) ^^^ (-1))) &&& ((g_r1_of (f_X6_leastThatGoesOn g_t_ways x3 x4).toNatClampNeg) ^^^ (-1))) (by omega) (by omega) hok2 hres _ _ hw _ (lv_sub hl [5, 6, 3, 2, 1, 0] rfl) kk
    · refine lv_bipush (v := (-6)) hx hb dX6_least_35 (by decide) ?_
      have hB : B_X6_least_12 g_t_ways g_r1_of j (x2, x3, x4) = Sum.inr (Sum.inr (-6)) := by
        unfold B_X6_least_12
        exact (if_pos c3).trans (rfl)
      have hf := hres _ (lp_b hB)
      rw [hf]
      exact k_iret C hr hw dX6_least_37
def f_X6_least (g_t_ways : (Nat → Int32)) (g_r1_of : (Nat → Int32)) : Int32 := (Sum.elim (fun y => y.1) id (lp (B_X6_least_12 g_t_ways g_r1_of) 0 8 ((0 : Int32), (0 : Int32), (255 : Int32))))
def o_X6_least (g_t_ways : (Nat → Int32)) (g_r1_of : (Nat → Int32)) : Prop := ((lpA (oB_X6_least_12 g_t_ways) (B_X6_least_12 g_t_ways g_r1_of) 0 8 ((0 : Int32), (0 : Int32), (255 : Int32))) ∧ True)
set_option maxHeartbeats 4000000 in
set_option maxRecDepth 100000 in
theorem T_X6_least (l : Launch) (D : va_G) (cI cZ : ClassId) (a_t a_t_ways a_r1 a_r1_of : Nat) (g_t_ways : (Nat → Int32)) (g_r1_of : (Nat → Int32)) (hok : o_X6_least g_t_ways g_r1_of) : CT l D cI cZ yX6_least wsX6_least ({ frames := 1, cells := 0, slots := 0, locals := 23 }) [.ref a_t, .ref a_r1] [(a_t, .inr (6, [.ref a_t_ways])), (a_t_ways, .inl (cI, 2048, .inl g_t_ways)), (a_r1, .inr (3, [.ref a_r1_of])), (a_r1_of, .inl (cI, 8, .inl g_r1_of))] (some (.int (f_X6_least g_t_ways g_r1_of))) [(a_t, .inr (6, [.ref a_t_ways])), (a_t_ways, .inl (cI, 2048, .inl g_t_ways)), (a_r1, .inr (3, [.ref a_r1_of])), (a_r1_of, .inl (cI, 8, .inl g_r1_of))] := by
  refine CT.intro RX6 (by decide) rfl (Nat.le_of_ble_eq_true rfl) rfl ?_
  intro p e s m below meth c C hr hw ls hl
  have hx := C.hx
  have hb := C.hb
  replace hl : lv_has ls 7 [(0, .ref a_t), (1, .ref a_r1)] := hl
  refine lv_iconst (v := 0) hx hb dX6_least_0 (by decide) ?_
  refine lv_istore_n (lv' := [(2, .int 0), (0, .ref a_t), (1, .ref a_r1)]) hx hb dX6_least_1 rfl hl (by decide) rfl (fun ls hl => ?_)
  refine lv_iconst (v := 0) hx hb dX6_least_2 (by decide) ?_
  refine lv_istore_n (lv' := [(3, .int 0), (2, .int 0), (0, .ref a_t), (1, .ref a_r1)]) hx hb dX6_least_3 rfl hl (by decide) rfl (fun ls hl => ?_)
  refine lv_sipush (v := 255) hx hb dX6_least_4 (by decide) ?_
  refine lv_istore (lv' := [(4, .int 255), (3, .int 0), (2, .int 0), (0, .ref a_t), (1, .ref a_r1)]) hx hb dX6_least_7 hl (by decide) rfl (fun ls hl => ?_)
  refine lv_iconst (v := 0) hx hb dX6_least_9 (by decide) ?_
  refine lv_istore (lv' := [(5, .int 0), (4, .int 255), (3, .int 0), (2, .int 0), (0, .ref a_t), (1, .ref a_r1)]) hx hb dX6_least_10 hl (by decide) rfl (fun ls hl => ?_)
  obtain ⟨h6, hok⟩ := hok
  refine l_X6_least_12 a_t a_t_ways a_r1 a_r1_of _ g_t_ways g_r1_of (f_X6_least g_t_ways g_r1_of) C hr 8 0 (0 : Int32) (0 : Int32) (255 : Int32) (by decide) (by decide) h6 (fun r h => by unfold f_X6_least; exact congrArg (Sum.elim _ id) h) _ _ hw _ (lv_sub hl [4, 5, 3, 2, 1, 0] rfl) (fun y7 y8 y9 h10 H locs ls hw hl => ?_)
  replace hw : kW D _ s H locs [(a_t, .inr (6, [.ref a_t_ways])), (a_t_ways, .inl (cI, 2048, .inl g_t_ways)), (a_r1, .inr (3, [.ref a_r1_of])), (a_r1_of, .inl (cI, 8, .inl g_r1_of))] := hw
  replace hl : lv_has ls 7 [(2, .int y7)] := hl
  refine lv_iload_n hx hb dX6_least_78 rfl (lv_at hl 0 rfl) ?_
  rw [show f_X6_least g_t_ways g_r1_of = y7 from by
      unfold f_X6_least
      exact (congrArg (Sum.elim _ id) h10).trans (rfl)]
  exact k_iret C hr hw dX6_least_79

