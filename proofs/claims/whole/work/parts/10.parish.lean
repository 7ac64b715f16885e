theorem nX5_copyFrom_X5 : ∀ w ∈ wsX50, w ∈ wsX5_copyFrom := fun _ h => List.mem_cons_of_mem _ (List.mem_append_right _ h)
def f_X5_copyFrom (v_r1_inside : Int32) (v_r1_next : Int32) (v_r1_year : Int32) (g_r1_wealth : (Nat → Int32)) (g_t_wealth : (Nat → Int32)) (g_r1_given : (Nat → Int32)) (g_t_given : (Nat → Int32)) (g_r1_row : (Nat → Int32)) (g_t_row : (Nat → Int32)) : Int32 × Int32 × Int32 × (Nat → Int32) × (Nat → Int32) × (Nat → Int32) := (v_r1_inside, v_r1_next, v_r1_year, (va_cpy g_r1_wealth g_t_wealth 0 0 8), (va_cpy g_r1_given g_t_given 0 0 64), (va_cpy g_r1_row g_t_row 0 0 8))
set_option maxHeartbeats 4000000 in
set_option maxRecDepth 100000 in
theorem T_X5_copyFrom (l : Launch) (D : va_G) (cI cZ : ClassId) (a_r1 a_r1_wealth a_r1_given a_r1_row a_t a_t_wealth a_t_given a_t_row : Nat) (v_r1_inside : Int32) (v_r1_next : Int32) (v_r1_year : Int32) (v_t_inside : Int32) (v_t_next : Int32) (v_t_year : Int32) (g_r1_wealth : (Nat → Int32)) (g_t_wealth : (Nat → Int32)) (g_r1_given : (Nat → Int32)) (g_t_given : (Nat → Int32)) (g_r1_row : (Nat → Int32)) (g_t_row : (Nat → Int32)) : CT l D cI cZ yX5_copyFrom wsX5_copyFrom ({ frames := 1, cells := 0, slots := 0, locals := 80 }) [.ref a_t, .ref a_r1] [(a_r1, .inr (5, [.ref a_r1_wealth, .ref a_r1_given, .ref a_r1_row, .int v_r1_inside, .int v_r1_next, .int v_r1_year])), (a_t, .inr (5, [.ref a_t_wealth, .ref a_t_given, .ref a_t_row, .int v_t_inside, .int v_t_next, .int v_t_year])), (a_r1_wealth, .inl (cI, 8, .inl g_r1_wealth)), (a_t_wealth, .inl (cI, 8, .inl g_t_wealth)), (a_r1_given, .inl (cI, 64, .inl g_r1_given)), (a_t_given, .inl (cI, 64, .inl g_t_given)), (a_r1_row, .inl (cI, 8, .inl g_r1_row)), (a_t_row, .inl (cI, 8, .inl g_t_row))] none [(a_r1, .inr (5, [.ref a_r1_wealth, .ref a_r1_given, .ref a_r1_row, .int v_r1_inside, .int v_r1_next, .int v_r1_year])), (a_t, .inr (5, [.ref a_t_wealth, .ref a_t_given, .ref a_t_row, .int (f_X5_copyFrom v_r1_inside v_r1_next v_r1_year g_r1_wealth g_t_wealth g_r1_given g_t_given g_r1_row g_t_row).1, .int (f_X5_copyFrom v_r1_inside v_r1_next v_r1_year g_r1_wealth g_t_wealth g_r1_given g_t_given g_r1_row g_t_row).2.1, .int (f_X5_copyFrom v_r1_inside v_r1_next v_r1_year g_r1_wealth g_t_wealth g_r1_given g_t_given g_r1_row g_t_row).2.2.1])), (a_r1_wealth, .inl (cI, 8, .inl g_r1_wealth)), (a_t_wealth, .inl (cI, 8, .inl (f_X5_copyFrom v_r1_inside v_r1_next v_r1_year g_r1_wealth g_t_wealth g_r1_given g_t_given g_r1_row g_t_row).2.2.2.1)), (a_r1_given, .inl (cI, 64, .inl g_r1_given)), (a_t_given, .inl (cI, 64, .inl (f_X5_copyFrom v_r1_inside v_r1_next v_r1_year g_r1_wealth g_t_wealth g_r1_given g_t_given g_r1_row g_t_row).2.2.2.2.1)), (a_r1_row, .inl (cI, 8, .inl g_r1_row)), (a_t_row, .inl (cI, 8, .inl (f_X5_copyFrom v_r1_inside v_r1_next v_r1_year g_r1_wealth g_t_wealth g_r1_given g_t_given g_r1_row g_t_row).2.2.2.2.2))] := by
  refine CT.intro RX5 (by decide) rfl (Nat.le_of_ble_eq_true rfl) rfl ?_
  intro p e s m below meth c C hr hw ls hl
  have hx := C.hx
  have hb := C.hb
  replace hl : lv_has ls 2 [(0, .ref a_t), (1, .ref a_r1)] := hl
  refine lv_aload_n hx hb dX5_copyFrom_0 rfl (lv_at hl 1 rfl) ?_
  refine k_get C hw (CC := RX5) (T := TX5) (N := 6) nX5_copyFrom_X5 0 rfl rfl 0 (by decide) (List.mem_of_getElem? (i := 1) rfl) rfl rfl dX5_copyFrom_1 ?_
  refine lv_iconst (v := 0) hx hb dX5_copyFrom_4 (by decide) ?_
  refine lv_aload_n hx hb dX5_copyFrom_5 rfl (lv_at hl 0 rfl) ?_
  refine k_get C hw (CC := RX5) (T := TX5) (N := 6) nX5_copyFrom_X5 1 rfl rfl 0 (by decide) (List.mem_of_getElem? (i := 1) rfl) rfl rfl dX5_copyFrom_6 ?_
  refine lv_iconst (v := 0) hx hb dX5_copyFrom_9 (by decide) ?_
  refine lv_bipush (v := 8) hx hb dX5_copyFrom_10 (by decide) ?_
  refine k_copy C hw (List.mem_of_getElem? (i := 2) rfl) (List.mem_of_getElem? (i := 3) rfl) (List.mem_of_getElem? (i := 4) rfl) (List.mem_of_getElem? (i := 5) rfl) hl.1 2 3 rfl rfl (by decide) (by decide) (by decide) (by decide) (by decide) (Nat.le_of_ble_eq_true rfl) (Nat.le_of_ble_eq_true rfl) dX5_copyFrom_12 (fun H locs hw => ?_)
  replace hw : kW D _ s H locs [(a_r1, .inr (5, [.ref a_r1_wealth, .ref a_r1_given, .ref a_r1_row, .int v_r1_inside, .int v_r1_next, .int v_r1_year])), (a_t, .inr (5, [.ref a_t_wealth, .ref a_t_given, .ref a_t_row, .int v_t_inside, .int v_t_next, .int v_t_year])), (a_r1_wealth, .inl (cI, 8, .inl g_r1_wealth)), (a_t_wealth, .inl (cI, 8, .inl (va_cpy g_r1_wealth g_t_wealth 0 0 8))), (a_r1_given, .inl (cI, 64, .inl g_r1_given)), (a_t_given, .inl (cI, 64, .inl g_t_given)), (a_r1_row, .inl (cI, 8, .inl g_r1_row)), (a_t_row, .inl (cI, 8, .inl g_t_row))] := hw
  refine lv_aload_n hx hb dX5_copyFrom_15 rfl (lv_at hl 1 rfl) ?_
  refine k_get C hw (CC := RX5) (T := TX5) (N := 6) nX5_copyFrom_X5 0 rfl rfl 1 (by decide) (List.mem_of_getElem? (i := 6) rfl) rfl rfl dX5_copyFrom_16 ?_
  refine lv_iconst (v := 0) hx hb dX5_copyFrom_19 (by decide) ?_
  refine lv_aload_n hx hb dX5_copyFrom_20 rfl (lv_at hl 0 rfl) ?_
  refine k_get C hw (CC := RX5) (T := TX5) (N := 6) nX5_copyFrom_X5 1 rfl rfl 1 (by decide) (List.mem_of_getElem? (i := 6) rfl) rfl rfl dX5_copyFrom_21 ?_
  refine lv_iconst (v := 0) hx hb dX5_copyFrom_24 (by decide) ?_
  refine lv_bipush (v := 64) hx hb dX5_copyFrom_25 (by decide) ?_
  refine k_copy C hw (List.mem_of_getElem? (i := 2) rfl) (List.mem_of_getElem? (i := 3) rfl) (List.mem_of_getElem? (i := 4) rfl) (List.mem_of_getElem? (i := 5) rfl) hl.1 4 5 rfl rfl (by decide) (by decide) (by decide) (by decide) (by decide) (Nat.le_of_ble_eq_true rfl) (Nat.le_of_ble_eq_true rfl) dX5_copyFrom_27 (fun H locs hw => ?_)
  replace hw : kW D _ s H locs [(a_r1, .inr (5, [.ref a_r1_wealth, .ref a_r1_given, .ref a_r1_row, .int v_r1_inside, .int v_r1_next, .int v_r1_year])), (a_t, .inr (5, [.ref a_t_wealth, .ref a_t_given, .ref a_t_row, .int v_t_inside, .int v_t_next, .int v_t_year])), (a_r1_wealth, .inl (cI, 8, .inl g_r1_wealth)), (a_t_wealth, .inl (cI, 8, .inl (va_cpy g_r1_wealth g_t_wealth 0 0 8))), (a_r1_given, .inl (cI, 64, .inl g_r1_given)), (a_t_given, .inl (cI, 64, .inl (va_cpy g_r1_given g_t_given 0 0 64))), (a_r1_row, .inl (cI, 8, .inl g_r1_row)), (a_t_row, .inl (cI, 8, .inl g_t_row))] := hw
  refine lv_aload_n hx hb dX5_copyFrom_30 rfl (lv_at hl 1 rfl) ?_
  refine k_get C hw (CC := RX5) (T := TX5) (N := 6) nX5_copyFrom_X5 0 rfl rfl 2 (by decide) (List.mem_of_getElem? (i := 7) rfl) rfl rfl dX5_copyFrom_31 ?_
  refine lv_iconst (v := 0) hx hb dX5_copyFrom_34 (by decide) ?_
  refine lv_aload_n hx hb dX5_copyFrom_35 rfl (lv_at hl 0 rfl) ?_
  refine k_get C hw (CC := RX5) (T := TX5) (N := 6) nX5_copyFrom_X5 1 rfl rfl 2 (by decide) (List.mem_of_getElem? (i := 7) rfl) rfl rfl dX5_copyFrom_36 ?_
  refine lv_iconst (v := 0) hx hb dX5_copyFrom_39 (by decide) ?_
  refine lv_bipush (v := 8) hx hb dX5_copyFrom_40 (by decide) ?_
  refine k_copy C hw (List.mem_of_getElem? (i := 2) rfl) (List.mem_of_getElem? (i := 3) rfl) (List.mem_of_getElem? (i := 4) rfl) (List.mem_of_getElem? (i := 5) rfl) hl.1 6 7 rfl rfl (by decide) (by decide) (by decide) (by decide) (by decide) (Nat.le_of_ble_eq_true rfl) (Nat.le_of_ble_eq_true rfl) dX5_copyFrom_42 (fun H locs hw => ?_)
  replace hw : kW D _ s H locs [(a_r1, .inr (5, [.ref a_r1_wealth, .ref a_r1_given, .ref a_r1_row, .int v_r1_inside, .int v_r1_next, .int v_r1_year])), (a_t, .inr (5, [.ref a_t_wealth, .ref a_t_given, .ref a_t_row, .int v_t_inside, .int v_t_next, .int v_t_year])), (a_r1_wealth, .inl (cI, 8, .inl g_r1_wealth)), (a_t_wealth, .inl (cI, 8, .inl (va_cpy g_r1_wealth g_t_wealth 0 0 8))), (a_r1_given, .inl (cI, 64, .inl g_r1_given)), (a_t_given, .inl (cI, 64, .inl (va_cpy g_r1_given g_t_given 0 0 64))), (a_r1_row, .inl (cI, 8, .inl g_r1_row)), (a_t_row, .inl (cI, 8, .inl (va_cpy g_r1_row g_t_row 0 0 8)))] := hw
  refine lv_aload_n hx hb dX5_copyFrom_45 rfl (lv_at hl 0 rfl) ?_
  refine lv_aload_n hx hb dX5_copyFrom_46 rfl (lv_at hl 1 rfl) ?_
  refine k_get C hw (CC := RX5) (T := TX5) (N := 6) nX5_copyFrom_X5 0 rfl rfl 3 (by decide) (List.mem_of_getElem? (i := 8) rfl) rfl rfl dX5_copyFrom_47 ?_
  refine k_put C hw (CC := RX5) (T := TX5) (N := 6) (v := .int v_r1_inside) nX5_copyFrom_X5 tyX5_ok nmX5 1 rfl rfl 3 (by decide) (List.mem_of_getElem? (i := 8) rfl) rfl rfl rfl rfl (Nat.le_of_ble_eq_true rfl) dX5_copyFrom_50 (fun H locs hw => ?_)
  replace hw : kW D _ s H locs [(a_r1, .inr (5, [.ref a_r1_wealth, .ref a_r1_given, .ref a_r1_row, .int v_r1_inside, .int v_r1_next, .int v_r1_year])), (a_t, .inr (5, [.ref a_t_wealth, .ref a_t_given, .ref a_t_row, .int v_r1_inside, .int v_t_next, .int v_t_year])), (a_r1_wealth, .inl (cI, 8, .inl g_r1_wealth)), (a_t_wealth, .inl (cI, 8, .inl (va_cpy g_r1_wealth g_t_wealth 0 0 8))), (a_r1_given, .inl (cI, 64, .inl g_r1_given)), (a_t_given, .inl (cI, 64, .inl (va_cpy g_r1_given g_t_given 0 0 64))), (a_r1_row, .inl (cI, 8, .inl g_r1_row)), (a_t_row, .inl (cI, 8, .inl (va_cpy g_r1_row g_t_row 0 0 8)))] := hw
  refine lv_aload_n hx hb dX5_copyFrom_53 rfl (lv_at hl 0 rfl) ?_
  refine lv_aload_n hx hb dX5_copyFrom_54 rfl (lv_at hl 1 rfl) ?_
  refine k_get C hw (CC := RX5) (T := TX5) (N := 6) nX5_copyFrom_X5 0 rfl rfl 4 (by decide) (List.mem_of_getElem? (i := 9) rfl) rfl rfl dX5_copyFrom_55 ?_
  refine k_put C hw (CC := RX5) (T := TX5) (N := 6) (v := .int v_r1_next) nX5_copyFrom_X5 tyX5_ok nmX5 1 rfl rfl 4 (by decide) (List.mem_of_getElem? (i := 9) rfl) rfl rfl rfl rfl (Nat.le_of_ble_eq_true rfl) dX5_copyFrom_58 (fun H locs hw => ?_)
  replace hw : kW D _ s H locs [(a_r1, .inr (5, [.ref a_r1_wealth, .ref a_r1_given, .ref a_r1_row, .int v_r1_inside, .int v_r1_next, .int v_r1_year])), (a_t, .inr (5, [.ref a_t_wealth, .ref a_t_given, .ref a_t_row, .int v_r1_inside, .int v_r1_next, .int v_t_year])), (a_r1_wealth, .inl (cI, 8, .inl g_r1_wealth)), (a_t_wealth, .inl (cI, 8, .inl (va_cpy g_r1_wealth g_t_wealth 0 0 8))), (a_r1_given, .inl (cI, 64, .inl g_r1_given)), (a_t_given, .inl (cI, 64, .inl (va_cpy g_r1_given g_t_given 0 0 64))), (a_r1_row, .inl (cI, 8, .inl g_r1_row)), (a_t_row, .inl (cI, 8, .inl (va_cpy g_r1_row g_t_row 0 0 8)))] := hw
  refine lv_aload_n hx hb dX5_copyFrom_61 rfl (lv_at hl 0 rfl) ?_
  refine lv_aload_n hx hb dX5_copyFrom_62 rfl (lv_at hl 1 rfl) ?_
  refine k_get C hw (CC := RX5) (T := TX5) (N := 6) nX5_copyFrom_X5 0 rfl rfl 5 (by decide) (List.mem_of_getElem? (i := 10) rfl) rfl rfl dX5_copyFrom_63 ?_
  refine k_put C hw (CC := RX5) (T := TX5) (N := 6) (v := .int v_r1_year) nX5_copyFrom_X5 tyX5_ok nmX5 1 rfl rfl 5 (by decide) (List.mem_of_getElem? (i := 10) rfl) rfl rfl rfl rfl (Nat.le_of_ble_eq_true rfl) dX5_copyFrom_66 (fun H locs hw => ?_)
  replace hw : kW D _ s H locs [(a_r1, .inr (5, [.ref a_r1_wealth, .ref a_r1_given, .ref a_r1_row, .int v_r1_inside, .int v_r1_next, .int v_r1_year])), (a_t, .inr (5, [.ref a_t_wealth, .ref a_t_given, .ref a_t_row, .int v_r1_inside, .int v_r1_next, .int v_r1_year])), (a_r1_wealth, .inl (cI, 8, .inl g_r1_wealth)), (a_t_wealth, .inl (cI, 8, .inl (va_cpy g_r1_wealth g_t_wealth 0 0 8))), (a_r1_given, .inl (cI, 64, .inl g_r1_given)), (a_t_given, .inl (cI, 64, .inl (va_cpy g_r1_given g_t_given 0 0 64))), (a_r1_row, .inl (cI, 8, .inl g_r1_row)), (a_t_row, .inl (cI, 8, .inl (va_cpy g_r1_row g_t_row 0 0 8)))] := hw
  rw [show f_X5_copyFrom v_r1_inside v_r1_next v_r1_year g_r1_wealth g_t_wealth g_r1_given g_t_given g_r1_row g_t_row = (v_r1_inside, v_r1_next, v_r1_year, (va_cpy g_r1_wealth g_t_wealth 0 0 8), (va_cpy g_r1_given g_t_given 0 0 64), (va_cpy g_r1_row g_t_row 0 0 8)) from by
      unfold f_X5_copyFrom
      exact rfl]
  exact k_vret C hr hw dX5_copyFrom_69

theorem nX5_isIn_X5 : ∀ w ∈ wsX50, w ∈ wsX5_isIn := fun _ h => List.mem_cons_of_mem _ (List.mem_append_right _ h)
def f_X5_isIn (v_t_inside : Int32) (p1 : Int32) : Int32 := (if ((v_t_inside >>> (p1 &&& 31)) &&& 1) = 1 then 1 else 0)
set_option maxHeartbeats 4000000 in
set_option maxRecDepth 100000 in
theorem T_X5_isIn (l : Launch) (D : va_G) (cI cZ : ClassId) (a_t a_t_wealth a_t_given a_t_row : Nat) (v_t_inside : Int32) (v_t_next : Int32) (v_t_year : Int32) (p1 : Int32) : CT l D cI cZ yX5_isIn wsX5_isIn ({ frames := 0, cells := 0, slots := 0, locals := 0 }) [.ref a_t, .int p1] [(a_t, .inr (5, [.ref a_t_wealth, .ref a_t_given, .ref a_t_row, .int v_t_inside, .int v_t_next, .int v_t_year]))] (some (.int (f_X5_isIn v_t_inside p1))) [(a_t, .inr (5, [.ref a_t_wealth, .ref a_t_given, .ref a_t_row, .int v_t_inside, .int v_t_next, .int v_t_year]))] := by
  refine CT.intro RX5 (by decide) rfl (Nat.le_of_ble_eq_true rfl) rfl ?_
  intro p e s m below meth c C hr hw ls hl
  have hx := C.hx
  have hb := C.hb
  replace hl : lv_has ls 2 [(0, .ref a_t), (1, .int p1)] := hl
  refine lv_aload_n hx hb dX5_isIn_0 rfl (lv_at hl 0 rfl) ?_
  refine k_get C hw (CC := RX5) (T := TX5) (N := 6) nX5_isIn_X5 0 rfl rfl 3 (by decide) (List.mem_of_getElem? (i := 1) rfl) rfl rfl dX5_isIn_1 ?_
  refine lv_iload_n hx hb dX5_isIn_4 rfl (lv_at hl 1 rfl) ?_
  refine lv_ishr hx hb dX5_isIn_5 ?_
  refine lv_iconst (v := 1) hx hb dX5_isIn_6 (by decide) ?_
  refine lv_iand hx hb dX5_isIn_7 ?_
  refine lv_iconst (v := 1) hx hb dX5_isIn_8 (by decide) ?_
  refine lv_icmp_ne (tgt := 16) hx hb dX5_isIn_9 (by decide) (fun c1 => ?_) (fun c1 => ?_)
  · refine lv_iconst (v := 0) hx hb dX5_isIn_16 (by decide) ?_
    rw [show f_X5_isIn v_t_inside p1 = 0 from by
        unfold f_X5_isIn
        exact (if_neg c1).trans (rfl)]
    exact k_zret (v := 0) C hr hw nz0 dX5_isIn_17
  · refine lv_iconst (v := 1) hx hb dX5_isIn_12 (by decide) ?_
    refine lv_goto (tgt := 17) hx hb dX5_isIn_13 (by decide) ?_
    rw [show f_X5_isIn v_t_inside p1 = 1 from by
        unfold f_X5_isIn
        exact (if_pos c1).trans (rfl)]
    exact k_zret (v := 1) C hr hw nz1 dX5_isIn_17

theorem nX5_setIn_X5 : ∀ w ∈ wsX50, w ∈ wsX5_setIn := fun _ h => List.mem_cons_of_mem _ (List.mem_append_right _ h)
def f_X5_setIn (v_t_inside : Int32) (p1 : Int32) (p2 : Int32) : Int32 := (if p2 = 0 then (v_t_inside &&& (((1 : Int32) <<< (p1 &&& 31)) ^^^ (-1))) else (v_t_inside ||| ((1 : Int32) <<< (p1 &&& 31))))
set_option maxHeartbeats 4000000 in
set_option maxRecDepth 100000 in
theorem T_X5_setIn (l : Launch) (D : va_G) (cI cZ : ClassId) (a_t a_t_wealth a_t_given a_t_row : Nat) (v_t_inside : Int32) (v_t_next : Int32) (v_t_year : Int32) (p1 : Int32) (p2 : Int32) : CT l D cI cZ yX5_setIn wsX5_setIn ({ frames := 0, cells := 0, slots := 0, locals := 0 }) [.ref a_t, .int p1, .int p2] [(a_t, .inr (5, [.ref a_t_wealth, .ref a_t_given, .ref a_t_row, .int v_t_inside, .int v_t_next, .int v_t_year]))] none [(a_t, .inr (5, [.ref a_t_wealth, .ref a_t_given, .ref a_t_row, .int (f_X5_setIn v_t_inside p1 p2), .int v_t_next, .int v_t_year]))] := by
  refine CT.intro RX5 (by decide) rfl (Nat.le_of_ble_eq_true rfl) rfl ?_
  intro p e s m below meth c C hr hw ls hl
  have hx := C.hx
  have hb := C.hb
  replace hl : lv_has ls 3 [(0, .ref a_t), (1, .int p1), (2, .int p2)] := hl
  refine lv_aload_n hx hb dX5_setIn_0 rfl (lv_at hl 0 rfl) ?_
  refine lv_iload_n hx hb dX5_setIn_1 rfl (lv_at hl 2 rfl) ?_
  refine lv_if_eq (tgt := 16) hx hb dX5_setIn_2 (by decide) (fun c1 => ?_) (fun c1 => ?_)
  · refine lv_aload_n hx hb dX5_setIn_16 rfl (lv_at hl 0 rfl) ?_
    refine k_get C hw (CC := RX5) (T := TX5) (N := 6) nX5_setIn_X5 0 rfl rfl 3 (by decide) (List.mem_of_getElem? (i := 1) rfl) rfl rfl dX5_setIn_17 ?_
    refine lv_iconst (v := 1) hx hb dX5_setIn_20 (by decide) ?_
    refine lv_iload_n hx hb dX5_setIn_21 rfl (lv_at hl 1 rfl) ?_
    refine lv_ishl hx hb dX5_setIn_22 ?_
    refine lv_iconst (v := (-1)) hx hb dX5_setIn_23 (by decide) ?_
    refine lv_ixor hx hb dX5_setIn_24 ?_
    refine lv_iand hx hb dX5_setIn_25 ?_
    refine k_put C hw (CC := RX5) (T := TX5) (N := 6) (v := .int (v_t_inside &&& (((1 : Int32) <<< (p1 &&& 31)) ^^^ (-1)))) nX5_setIn_X5 tyX5_ok nmX5 0 rfl rfl 3 (by decide) (List.mem_of_getElem? (i := 1) rfl) rfl rfl rfl rfl (Nat.le_of_ble_eq_true rfl) dX5_setIn_26 (fun H locs hw => ?_)
    replace hw : kW D _ s H locs [(a_t, .inr (5, [.ref a_t_wealth, .ref a_t_given, .ref a_t_row, .int (v_t_inside &&& (((1 : Int32) <<< (p1 &&& 31)) ^^^ (-1))), .int v_t_next, .int v_t_year]))] := hw
    rw [show f_X5_setIn v_t_inside p1 p2 = (v_t_inside &&& (((1 : Int32) <<< (p1 &&& 31)) ^^^ (-1))) from by
        unfold f_X5_setIn
        exact (if_pos c1).trans (rfl)]
    exact k_vret C hr hw dX5_setIn_29
  · refine lv_aload_n hx hb dX5_setIn_5 rfl (lv_at hl 0 rfl) ?_
    refine k_get C hw (CC := RX5) (T := TX5) (N := 6) nX5_setIn_X5 0 rfl rfl 3 (by decide) (List.mem_of_getElem? (i := 1) rfl) rfl rfl dX5_setIn_6 ?_
    refine lv_iconst (v := 1) hx hb dX5_setIn_9 (by decide) ?_
    refine lv_iload_n hx hb dX5_setIn_10 rfl (lv_at hl 1 rfl) ?_
    refine lv_ishl hx hb dX5_setIn_11 ?_
    refine lv_ior hx hb dX5_setIn_12 ?_
    refine lv_goto (tgt := 26) hx hb dX5_setIn_13 (by decide) ?_
    refine k_put C hw (CC := RX5) (T := TX5) (N := 6) (v := .int (v_t_inside ||| ((1 : Int32) <<< (p1 &&& 31)))) nX5_setIn_X5 tyX5_ok nmX5 0 rfl rfl 3 (by decide) (List.mem_of_getElem? (i := 1) rfl) rfl rfl rfl rfl (Nat.le_of_ble_eq_true rfl) dX5_setIn_26 (fun H locs hw => ?_)
    replace hw : kW D _ s H locs [(a_t, .inr (5, [.ref a_t_wealth, .ref a_t_given, .ref a_t_row, .int (v_t_inside ||| ((1 : Int32) <<< (p1 &&& 31))), .int v_t_next, .int v_t_year]))] := hw
    rw [show f_X5_setIn v_t_inside p1 p2 = (v_t_inside ||| ((1 : Int32) <<< (p1 &&& 31))) from by
        unfold f_X5_setIn
        exact (if_neg c1).trans (rfl)]
    exact k_vret C hr hw dX5_setIn_29

theorem nX5_wealthOf_X5 : ∀ w ∈ wsX50, w ∈ wsX5_wealthOf := fun _ h => List.mem_cons_of_mem _ (List.mem_append_right _ h)
def f_X5_wealthOf (g_t_wealth : (Nat → Int32)) (p1 : Int32) : Int32 := (if p1 < 0 then 0 else (if 8 ≤ p1 then 0 else (g_t_wealth p1.toNatClampNeg)))
def o_X5_wealthOf (p1 : Int32) : Prop := (if p1 < 0 then True else (if 8 ≤ p1 then True else ((vp_in p1 8) ∧ True)))
set_option maxHeartbeats 4000000 in
set_option maxRecDepth 100000 in
theorem T_X5_wealthOf (l : Launch) (D : va_G) (cI cZ : ClassId) (a_t a_t_wealth a_t_given a_t_row : Nat) (v_t_inside : Int32) (v_t_next : Int32) (v_t_year : Int32) (g_t_wealth : (Nat → Int32)) (p1 : Int32) (hok : o_X5_wealthOf p1) : CT l D cI cZ yX5_wealthOf wsX5_wealthOf ({ frames := 0, cells := 0, slots := 0, locals := 0 }) [.ref a_t, .int p1] [(a_t, .inr (5, [.ref a_t_wealth, .ref a_t_given, .ref a_t_row, .int v_t_inside, .int v_t_next, .int v_t_year])), (a_t_wealth, .inl (cI, 8, .inl g_t_wealth))] (some (.int (f_X5_wealthOf g_t_wealth p1))) [(a_t, .inr (5, [.ref a_t_wealth, .ref a_t_given, .ref a_t_row, .int v_t_inside, .int v_t_next, .int v_t_year])), (a_t_wealth, .inl (cI, 8, .inl g_t_wealth))] := by
  refine CT.intro RX5 (by decide) rfl (Nat.le_of_ble_eq_true rfl) rfl ?_
  intro p e s m below meth c C hr hw ls hl
  have hx := C.hx
  have hb := C.hb
  replace hl : lv_has ls 2 [(0, .ref a_t), (1, .int p1)] := hl
  refine lv_iload_n hx hb dX5_wealthOf_0 rfl (lv_at hl 1 rfl) ?_
  refine lv_if_lt (tgt := 19) hx hb dX5_wealthOf_1 (by decide) (fun c1 => ?_) (fun c1 => ?_)
  · refine lv_iconst (v := 0) hx hb dX5_wealthOf_19 (by decide) ?_
    rw [show f_X5_wealthOf g_t_wealth p1 = 0 from by
        unfold f_X5_wealthOf
        exact (if_pos c1).trans (rfl)]
    exact k_iret C hr hw dX5_wealthOf_20
  · replace hok := Eq.mp (if_neg c1) hok
    refine lv_iload_n hx hb dX5_wealthOf_4 rfl (lv_at hl 1 rfl) ?_
    refine lv_bipush (v := 8) hx hb dX5_wealthOf_5 (by decide) ?_
    refine lv_icmp_ge (tgt := 19) hx hb dX5_wealthOf_7 (by decide) (fun c2 => ?_) (fun c2 => ?_)
    · refine lv_iconst (v := 0) hx hb dX5_wealthOf_19 (by decide) ?_
      rw [show f_X5_wealthOf g_t_wealth p1 = 0 from by
          unfold f_X5_wealthOf
          exact (if_neg c1).trans ((if_pos c2).trans (rfl))]
      exact k_iret C hr hw dX5_wealthOf_20
    · replace hok := Eq.mp (if_neg c2) hok
      refine lv_aload_n hx hb dX5_wealthOf_10 rfl (lv_at hl 0 rfl) ?_
      refine k_get C hw (CC := RX5) (T := TX5) (N := 6) nX5_wealthOf_X5 0 rfl rfl 0 (by decide) (List.mem_of_getElem? (i := 1) rfl) rfl rfl dX5_wealthOf_11 ?_
      refine lv_iload_n hx hb dX5_wealthOf_14 rfl (lv_at hl 1 rfl) ?_
      obtain ⟨h3, hok⟩ := hok
      refine k_iald C hw 1 rfl h3 dX5_wealthOf_15 ?_
      refine lv_goto (tgt := 20) hx hb dX5_wealthOf_16 (by decide) ?_
      rw [show f_X5_wealthOf g_t_wealth p1 = (g_t_wealth p1.toNatClampNeg) from by
          unfold f_X5_wealthOf
          exact (if_neg c1).trans ((if_neg c2).trans (rfl))]
      exact k_iret C hr hw dX5_wealthOf_20

theorem nX5_houseAtNext_X5 : ∀ w ∈ wsX50, w ∈ wsX5_houseAtNext := fun _ h => List.mem_cons_of_mem _ (List.mem_append_right _ h)
def f_X5_houseAtNext (v_t_next : Int32) (g_t_row : (Nat → Int32)) : Int32 := (if v_t_next < 0 then (g_t_row 0) else (if 8 ≤ v_t_next then (g_t_row 0) else (g_t_row v_t_next.toNatClampNeg)))
def o_X5_houseAtNext (v_t_next : Int32) : Prop := (if v_t_next < 0 then True else (if 8 ≤ v_t_next then True else ((vp_in v_t_next 8) ∧ True)))
set_option maxHeartbeats 4000000 in
set_option maxRecDepth 100000 in
theorem T_X5_houseAtNext (l : Launch) (D : va_G) (cI cZ : ClassId) (a_t a_t_wealth a_t_given a_t_row : Nat) (v_t_inside : Int32) (v_t_next : Int32) (v_t_year : Int32) (g_t_row : (Nat → Int32)) (hok : o_X5_houseAtNext v_t_next) : CT l D cI cZ yX5_houseAtNext wsX5_houseAtNext ({ frames := 0, cells := 0, slots := 0, locals := 0 }) [.ref a_t] [(a_t, .inr (5, [.ref a_t_wealth, .ref a_t_given, .ref a_t_row, .int v_t_inside, .int v_t_next, .int v_t_year])), (a_t_row, .inl (cI, 8, .inl g_t_row))] (some (.int (f_X5_houseAtNext v_t_next g_t_row))) [(a_t, .inr (5, [.ref a_t_wealth, .ref a_t_given, .ref a_t_row, .int v_t_inside, .int v_t_next, .int v_t_year])), (a_t_row, .inl (cI, 8, .inl g_t_row))] := by
  refine CT.intro RX5 (by decide) rfl (Nat.le_of_ble_eq_true rfl) rfl ?_
  intro p e s m below meth c C hr hw ls hl
  have hx := C.hx
  have hb := C.hb
  replace hl : lv_has ls 1 [(0, .ref a_t)] := hl
  refine lv_aload_n hx hb dX5_houseAtNext_0 rfl (lv_at hl 0 rfl) ?_
  refine k_get C hw (CC := RX5) (T := TX5) (N := 6) nX5_houseAtNext_X5 0 rfl rfl 4 (by decide) (List.mem_of_getElem? (i := 1) rfl) rfl rfl dX5_houseAtNext_1 ?_
  refine lv_if_lt (tgt := 28) hx hb dX5_houseAtNext_4 (by decide) (fun c1 => ?_) (fun c1 => ?_)
  · refine lv_aload_n hx hb dX5_houseAtNext_28 rfl (lv_at hl 0 rfl) ?_
    refine k_get C hw (CC := RX5) (T := TX5) (N := 6) nX5_houseAtNext_X5 0 rfl rfl 2 (by decide) (List.mem_of_getElem? (i := 2) rfl) rfl rfl dX5_houseAtNext_29 ?_
    refine lv_iconst (v := 0) hx hb dX5_houseAtNext_32 (by decide) ?_
    refine k_ialdN C hw 1 rfl 0 rfl (by decide) (by decide) dX5_houseAtNext_33 ?_
    rw [show f_X5_houseAtNext v_t_next g_t_row = (g_t_row 0) from by
        unfold f_X5_houseAtNext
        exact (if_pos c1).trans (rfl)]
    exact k_iret C hr hw dX5_houseAtNext_34
  · replace hok := Eq.mp (if_neg c1) hok
    refine lv_aload_n hx hb dX5_houseAtNext_7 rfl (lv_at hl 0 rfl) ?_
    refine k_get C hw (CC := RX5) (T := TX5) (N := 6) nX5_houseAtNext_X5 0 rfl rfl 4 (by decide) (List.mem_of_getElem? (i := 1) rfl) rfl rfl dX5_houseAtNext_8 ?_
    refine lv_bipush (v := 8) hx hb dX5_houseAtNext_11 (by decide) ?_
    refine lv_icmp_ge (tgt := 28) hx hb dX5_houseAtNext_13 (by decide) (fun c2 => ?_) (fun c2 => ?_)
    · refine lv_aload_n hx hb dX5_houseAtNext_28 rfl (lv_at hl 0 rfl) ?_
      refine k_get C hw (CC := RX5) (T := TX5) (N := 6) nX5_houseAtNext_X5 0 rfl rfl 2 (by decide) (List.mem_of_getElem? (i := 2) rfl) rfl rfl dX5_houseAtNext_29 ?_
      refine lv_iconst (v := 0) hx hb dX5_houseAtNext_32 (by decide) ?_
      refine k_ialdN C hw 1 rfl 0 rfl (by decide) (by decide) dX5_houseAtNext_33 ?_
      rw [show f_X5_houseAtNext v_t_next g_t_row = (g_t_row 0) from by
          unfold f_X5_houseAtNext
          exact (if_neg c1).trans ((if_pos c2).trans (rfl))]
      exact k_iret C hr hw dX5_houseAtNext_34
    · replace hok := Eq.mp (if_neg c2) hok
      refine lv_aload_n hx hb dX5_houseAtNext_16 rfl (lv_at hl 0 rfl) ?_
      refine k_get C hw (CC := RX5) (T := TX5) (N := 6) nX5_houseAtNext_X5 0 rfl rfl 2 (by decide) (List.mem_of_getElem? (i := 2) rfl) rfl rfl dX5_houseAtNext_17 ?_
      refine lv_aload_n hx hb dX5_houseAtNext_20 rfl (lv_at hl 0 rfl) ?_
      refine k_get C hw (CC := RX5) (T := TX5) (N := 6) nX5_houseAtNext_X5 0 rfl rfl 4 (by decide) (List.mem_of_getElem? (i := 1) rfl) rfl rfl dX5_houseAtNext_21 ?_
      obtain ⟨h3, hok⟩ := hok
      refine k_iald C hw 1 rfl h3 dX5_houseAtNext_24 ?_
      refine lv_goto (tgt := 34) hx hb dX5_houseAtNext_25 (by decide) ?_
      rw [show f_X5_houseAtNext v_t_next g_t_row = (g_t_row v_t_next.toNatClampNeg) from by
          unfold f_X5_houseAtNext
          exact (if_neg c1).trans ((if_neg c2).trans (rfl))]
      exact k_iret C hr hw dX5_houseAtNext_34

theorem nX5_rowNumber_X5 : ∀ w ∈ wsX50, w ∈ wsX5_rowNumber := fun _ h => List.mem_cons_of_mem _ (List.mem_append_right _ h)
def B_X5_rowNumber_4 (g_t_row : (Nat → Int32)) (j : Nat) (v : Int32) : Int32 := ((v * 10) + (g_t_row j))
set_option maxHeartbeats 4000000 in
set_option maxRecDepth 100000 in
theorem l_X5_rowNumber_4 {p : Program} {l : Launch} {e : Env} {s : State} {m : MethodId} {args : Array Value} {below : List Frame} {meth : Method} {c : Code} {D : va_G} {cI cZ : ClassId} {Q : State → Prop} {A : Nat → Prop} (a_t a_t_wealth a_t_given a_t_row : Nat) (v_t_inside : Int32) (v_t_next : Int32) (v_t_year : Int32) (g_t_row : (Nat → Int32)) (C : kC p s m args meth c cX5_rowNumber 3 wsX5_rowNumber RX5 D cI cZ A) : ∀ (n j : Nat) (x1 : Int32), n = 8 - j → j < 2147483648 → ∀ (H : Heap) (locs : List Loc), kW D A s H locs [(a_t, .inr (5, [.ref a_t_wealth, .ref a_t_given, .ref a_t_row, .int v_t_inside, .int v_t_next, .int v_t_year])), (a_t_row, .inl (cI, 8, .inl g_t_row))] → ∀ (ls : Array Slot), lv_has ls 3 [(0, .ref a_t), (1, .int x1), (2, .int (nI j))] → (∀ (H : Heap) (locs : List Loc) (ls : Array Slot), kW D A s H locs [(a_t, .inr (5, [.ref a_t_wealth, .ref a_t_given, .ref a_t_row, .int v_t_inside, .int v_t_next, .int v_t_year])), (a_t_row, .inl (cI, 8, .inl g_t_row))] → lv_has ls 3 [(1, .int (it (B_X5_rowNumber_4 g_t_row) j n x1))] → W p l e ({ frames := 0, cells := 0, slots := 0, locals := 0 }) s m args below meth c H locs 0 0 Q (F0 m 28 ls [])) → W p l e ({ frames := 0, cells := 0, slots := 0, locals := 0 }) s m args below meth c H locs 0 0 Q (F0 m 4 ls []) := by
  have hx := C.hx
  have hb := C.hb
  intro n
  induction n with
  | zero =>
    intro j x1 hn hj H locs hw ls hl kk
    refine lv_iload_n hx hb dX5_rowNumber_4 rfl (lv_at hl 2 rfl) ?_
    refine lv_bipush (v := 8) hx hb dX5_rowNumber_5 (by decide) ?_
    refine lv_icmp_ge (tgt := 28) hx hb dX5_rowNumber_7 (by decide) (fun c2 => ?_) (fun c2 => by exact absurd (nI_le (a := 8) (b := j) (by omega) (by omega)) c2)
    exact kk _ _ _ hw (lv_sub hl [1] rfl)
  | succ n ih =>
    intro j x1 hn hj H locs hw ls hl kk
    refine lv_iload_n hx hb dX5_rowNumber_4 rfl (lv_at hl 2 rfl) ?_
    refine lv_bipush (v := 8) hx hb dX5_rowNumber_5 (by decide) ?_
    refine lv_icmp_ge (tgt := 28) hx hb dX5_rowNumber_7 (by decide) (fun c1 => by exact absurd c1 (nI_ge (a := j) (b := 8) (by omega) (by omega))) (fun c1 => ?_)
    refine lv_iload_n hx hb dX5_rowNumber_10 rfl (lv_at hl 1 rfl) ?_
    refine lv_bipush (v := 10) hx hb dX5_rowNumber_11 (by decide) ?_
    refine lv_imul hx hb dX5_rowNumber_13 ?_
    refine lv_aload_n hx hb dX5_rowNumber_14 rfl (lv_at hl 0 rfl) ?_
    refine k_get C hw (CC := RX5) (T := TX5) (N := 6) nX5_rowNumber_X5 0 rfl rfl 2 (by decide) (List.mem_of_getElem? (i := 1) rfl) rfl rfl dX5_rowNumber_15 ?_
    refine lv_iload_n hx hb dX5_rowNumber_18 rfl (lv_at hl 2 rfl) ?_
    refine k_ialdN C hw 1 rfl j rfl (by omega) (by decide) dX5_rowNumber_19 ?_
    refine lv_iadd hx hb dX5_rowNumber_20 ?_
    refine lv_istore_n (lv' := [(1, .int ((x1 * 10) + (g_t_row j))), (0, .ref a_t), (2, .int (nI j))]) hx hb dX5_rowNumber_21 rfl hl (by decide) rfl (fun ls hl => ?_)
    refine lv_iinc (v := (nI (j + 1))) (lv' := [(2, .int (nI (j + 1))), (1, .int ((x1 * 10) + (g_t_row j))), (0, .ref a_t)]) hx hb dX5_rowNumber_22 hl (k := 2) rfl (nI_1 _) (by decide) rfl (fun ls hl => ?_)
    refine lv_goto (tgt := 4) hx hb dX5_rowNumber_25 (by decide) ?_
    have hB : B_X5_rowNumber_4 g_t_row j x1 = ((x1 * 10) + (g_t_row j)) := by
      unfold B_X5_rowNumber_4
      exact rfl
    rw [it_c hB] at kk
    exact ih (j + 1) ((x1 * 10) + (g_t_row j)) (by omega) (by omega) _ _ hw _ (lv_sub hl [2, 1, 0] rfl) kk
def f_X5_rowNumber (g_t_row : (Nat → Int32)) : Int32 := (it (B_X5_rowNumber_4 g_t_row) 0 8 (0 : Int32))
set_option maxHeartbeats 4000000 in
set_option maxRecDepth 100000 in
theorem T_X5_rowNumber (l : Launch) (D : va_G) (cI cZ : ClassId) (a_t a_t_wealth a_t_given a_t_row : Nat) (v_t_inside : Int32) (v_t_next : Int32) (v_t_year : Int32) (g_t_row : (Nat → Int32)) : CT l D cI cZ yX5_rowNumber wsX5_rowNumber ({ frames := 0, cells := 0, slots := 0, locals := 0 }) [.ref a_t] [(a_t, .inr (5, [.ref a_t_wealth, .ref a_t_given, .ref a_t_row, .int v_t_inside, .int v_t_next, .int v_t_year])), (a_t_row, .inl (cI, 8, .inl g_t_row))] (some (.int (f_X5_rowNumber g_t_row))) [(a_t, .inr (5, [.ref a_t_wealth, .ref a_t_given, .ref a_t_row, .int v_t_inside, .int v_t_next, .int v_t_year])), (a_t_row, .inl (cI, 8, .inl g_t_row))] := by
  refine CT.intro RX5 (by decide) rfl (Nat.le_of_ble_eq_true rfl) rfl ?_
  intro p e s m below meth c C hr hw ls hl
  have hx := C.hx
  have hb := C.hb
  replace hl : lv_has ls 3 [(0, .ref a_t)] := hl
  refine lv_iconst (v := 0) hx hb dX5_rowNumber_0 (by decide) ?_
  refine lv_istore_n (lv' := [(1, .int 0), (0, .ref a_t)]) hx hb dX5_rowNumber_1 rfl hl (by decide) rfl (fun ls hl => ?_)
  refine lv_iconst (v := 0) hx hb dX5_rowNumber_2 (by decide) ?_
  refine lv_istore_n (lv' := [(2, .int 0), (1, .int 0), (0, .ref a_t)]) hx hb dX5_rowNumber_3 rfl hl (by decide) rfl (fun ls hl => ?_)
  refine l_X5_rowNumber_4 a_t a_t_wealth a_t_given a_t_row v_t_inside v_t_next v_t_year g_t_row C 8 0 (0 : Int32) (by decide) (by decide) _ _ hw _ (lv_sub hl [2, 1, 0] rfl) (fun H locs ls hw hl => ?_)
  replace hw : kW D _ s H locs [(a_t, .inr (5, [.ref a_t_wealth, .ref a_t_given, .ref a_t_row, .int v_t_inside, .int v_t_next, .int v_t_year])), (a_t_row, .inl (cI, 8, .inl g_t_row))] := hw
  replace hl : lv_has ls 3 [(1, .int (it (B_X5_rowNumber_4 g_t_row) 0 8 (0 : Int32)))] := hl
  refine lv_iload_n hx hb dX5_rowNumber_28 rfl (lv_at hl 0 rfl) ?_
  rw [show f_X5_rowNumber g_t_row = (it (B_X5_rowNumber_4 g_t_row) 0 8 (0 : Int32)) from by
      unfold f_X5_rowNumber
      exact rfl]
  exact k_iret C hr hw dX5_rowNumber_29

theorem nX5_setRow_X5 : ∀ w ∈ wsX50, w ∈ wsX5_setRow := fun _ h => List.mem_cons_of_mem _ (List.mem_append_right _ h)
def B_X5_setRow_5 (n : Nat) (v : Int32 × (Nat → Int32)) : Int32 × (Nat → Int32) := ((v.1 / 10), (upd v.2 n (v.1 - v.1 / 10 * 10)))
set_option maxHeartbeats 4000000 in
set_option maxRecDepth 100000 in
theorem l_X5_setRow_5 {p : Program} {l : Launch} {e : Env} {s : State} {m : MethodId} {args : Array Value} {below : List Frame} {meth : Method} {c : Code} {D : va_G} {cI cZ : ClassId} {Q : State → Prop} {A : Nat → Prop} (a_t a_t_wealth a_t_given a_t_row : Nat) (v_t_inside : Int32) (v_t_next : Int32) (v_t_year : Int32) (C : kC p s m args meth c cX5_setRow 4 wsX5_setRow RX5 D cI cZ A) : ∀ (n : Nat) (x2 : Int32) (g_t_row : (Nat → Int32)), n ≤ 8 → ∀ (H : Heap) (locs : List Loc), kW D A s H locs [(a_t, .inr (5, [.ref a_t_wealth, .ref a_t_given, .ref a_t_row, .int v_t_inside, .int v_t_next, .int v_t_year])), (a_t_row, .inl (cI, 8, .inl g_t_row))] → ∀ (ls : Array Slot), lv_has ls 4 [(0, .ref a_t), (2, .int x2), (3, .int (nI n + (-1)))] → (∀ (H : Heap) (locs : List Loc) (ls : Array Slot), kW D A s H locs [(a_t, .inr (5, [.ref a_t_wealth, .ref a_t_given, .ref a_t_row, .int v_t_inside, .int v_t_next, .int v_t_year])), (a_t_row, .inl (cI, 8, .inl (itD B_X5_setRow_5 n (x2, g_t_row)).2))] → lv_has ls 4 [] → W p l e ({ frames := 0, cells := 0, slots := 0, locals := 0 }) s m args below meth c H locs 0 0 Q (F0 m 30 ls [])) → W p l e ({ frames := 0, cells := 0, slots := 0, locals := 0 }) s m args below meth c H locs 0 0 Q (F0 m 5 ls []) := by
  have hx := C.hx
  have hb := C.hb
  intro n
  induction n with
  | zero =>
    intro x2 g_t_row hn H locs hw ls hl kk
    refine lv_iload_n hx hb dX5_setRow_5 rfl (lv_at hl 2 rfl) ?_
    refine lv_if_lt (tgt := 30) hx hb dX5_setRow_6 (by decide) (fun c2 => ?_) (fun c2 => absurd (by decide) c2)
    exact kk _ _ _ hw (lv_sub hl [] rfl)
  | succ n ih =>
    intro x2 g_t_row hn H locs hw ls hl kk
    replace hl : lv_has ls 4 [(0, .ref a_t), (2, .int x2), (3, .int (nI n))] := by
      rw [← pk_m1]
      exact hl
    refine lv_iload_n hx hb dX5_setRow_5 rfl (lv_at hl 2 rfl) ?_
    refine lv_if_lt (tgt := 30) hx hb dX5_setRow_6 (by decide) (fun c1 => absurd c1 (nI_pos (by omega))) (fun c1 => ?_)
    refine lv_aload_n hx hb dX5_setRow_9 rfl (lv_at hl 0 rfl) ?_
    refine k_get C hw (CC := RX5) (T := TX5) (N := 6) nX5_setRow_X5 0 rfl rfl 2 (by decide) (List.mem_of_getElem? (i := 1) rfl) rfl rfl dX5_setRow_10 ?_
    refine lv_iload_n hx hb dX5_setRow_13 rfl (lv_at hl 2 rfl) ?_
    refine lv_iload_n hx hb dX5_setRow_14 rfl (lv_at hl 1 rfl) ?_
    refine lv_bipush (v := 10) hx hb dX5_setRow_15 (by decide) ?_
    refine lv_irem hx hb dX5_setRow_17 (by decide) ?_
    refine k_iastN C hw 1 rfl n rfl (by omega) (by decide) dX5_setRow_18 (fun H locs hw => ?_)
    replace hw : kW D _ s H locs [(a_t, .inr (5, [.ref a_t_wealth, .ref a_t_given, .ref a_t_row, .int v_t_inside, .int v_t_next, .int v_t_year])), (a_t_row, .inl (cI, 8, .inl (upd g_t_row n (x2 - x2 / 10 * 10))))] := hw
    refine lv_iload_n hx hb dX5_setRow_19 rfl (lv_at hl 1 rfl) ?_
    refine lv_bipush (v := 10) hx hb dX5_setRow_20 (by decide) ?_
    refine lv_idiv hx hb dX5_setRow_22 (by decide) ?_
    refine lv_istore_n (lv' := [(2, .int (x2 / 10)), (0, .ref a_t), (3, .int (nI n))]) hx hb dX5_setRow_23 rfl hl (by decide) rfl (fun ls hl => ?_)
    refine lv_iinc (v := ((nI n) + (-1))) (lv' := [(3, .int ((nI n) + (-1))), (2, .int (x2 / 10)), (0, .ref a_t)]) hx hb dX5_setRow_24 hl (k := 2) rfl (rfl) (by decide) rfl (fun ls hl => ?_)
    refine lv_goto (tgt := 5) hx hb dX5_setRow_27 (by decide) ?_
    have hB : B_X5_setRow_5 n (x2, g_t_row) = ((x2 / 10), (upd g_t_row n (x2 - x2 / 10 * 10))) := by
      unfold B_X5_setRow_5
      exact rfl
    rw [itD_c hB] at kk
    exact ih (x2 / 10) (upd g_t_row n (x2 - x2 / 10 * 10)) (by omega) _ _ hw _ (lv_sub hl [2, 1, 0] rfl) kk
def f_X5_setRow (g_t_row : (Nat → Int32)) (p1 : Int32) : (Nat → Int32) := (itD B_X5_setRow_5 8 (p1, g_t_row)).2
set_option maxHeartbeats 4000000 in
set_option maxRecDepth 100000 in
theorem T_X5_setRow (l : Launch) (D : va_G) (cI cZ : ClassId) (a_t a_t_wealth a_t_given a_t_row : Nat) (v_t_inside : Int32) (v_t_next : Int32) (v_t_year : Int32) (g_t_row : (Nat → Int32)) (p1 : Int32) : CT l D cI cZ yX5_setRow wsX5_setRow ({ frames := 0, cells := 0, slots := 0, locals := 0 }) [.ref a_t, .int p1] [(a_t, .inr (5, [.ref a_t_wealth, .ref a_t_given, .ref a_t_row, .int v_t_inside, .int v_t_next, .int v_t_year])), (a_t_row, .inl (cI, 8, .inl g_t_row))] none [(a_t, .inr (5, [.ref a_t_wealth, .ref a_t_given, .ref a_t_row, .int v_t_inside, .int v_t_next, .int v_t_year])), (a_t_row, .inl (cI, 8, .inl (f_X5_setRow g_t_row p1)))] := by
  refine CT.intro RX5 (by decide) rfl (Nat.le_of_ble_eq_true rfl) rfl ?_
  intro p e s m below meth c C hr hw ls hl
  have hx := C.hx
  have hb := C.hb
  replace hl : lv_has ls 4 [(0, .ref a_t), (1, .int p1)] := hl
  refine lv_iload_n hx hb dX5_setRow_0 rfl (lv_at hl 1 rfl) ?_
  refine lv_istore_n (lv' := [(2, .int p1), (0, .ref a_t), (1, .int p1)]) hx hb dX5_setRow_1 rfl hl (by decide) rfl (fun ls hl => ?_)
  refine lv_bipush (v := 7) hx hb dX5_setRow_2 (by decide) ?_
  refine lv_istore_n (lv' := [(3, .int 7), (2, .int p1), (0, .ref a_t), (1, .int p1)]) hx hb dX5_setRow_4 rfl hl (by decide) rfl (fun ls hl => ?_)
  have hl2 : lv_has ls 4 [(0, .ref a_t), (2, .int p1), (3, .int (nI 8 + (-1)))] := by
    exact (lv_sub hl [2, 1, 0] rfl)
  refine l_X5_setRow_5 a_t a_t_wealth a_t_given a_t_row v_t_inside v_t_next v_t_year C 8 p1 g_t_row (by decide) _ _ hw _ hl2 (fun H locs ls hw hl => ?_)
  replace hw : kW D _ s H locs [(a_t, .inr (5, [.ref a_t_wealth, .ref a_t_given, .ref a_t_row, .int v_t_inside, .int v_t_next, .int v_t_year])), (a_t_row, .inl (cI, 8, .inl (itD B_X5_setRow_5 8 (p1, g_t_row)).2))] := hw
  replace hl : lv_has ls 4 [] := hl
  rw [show f_X5_setRow g_t_row p1 = (itD B_X5_setRow_5 8 (p1, g_t_row)).2 from by
      unfold f_X5_setRow
      exact rfl]
  exact k_vret C hr hw dX5_setRow_30

theorem nX5_placeOf_X5 : ∀ w ∈ wsX50, w ∈ wsX5_placeOf := fun _ h => List.mem_cons_of_mem _ (List.mem_append_right _ h)
def B_X5_placeOf_2 (x1 : Int32) (g_t_row : (Nat → Int32)) (j : Nat) (v : Unit) : (Unit) ⊕ ((Unit) ⊕ (Int32)) := (if (g_t_row j) = x1 then Sum.inr (Sum.inr (nI j)) else Sum.inl ())
set_option maxHeartbeats 4000000 in
set_option maxRecDepth 100000 in
theorem l_X5_placeOf_2 {p : Program} {l : Launch} {e : Env} {s : State} {m : MethodId} {args : Array Value} {below : List Frame} {meth : Method} {c : Code} {D : va_G} {cI cZ : ClassId} (a_t a_t_wealth a_t_given a_t_row : Nat) (W0 : va_W) (x1 : Int32) (v_t_inside : Int32) (v_t_next : Int32) (v_t_year : Int32) (g_t_row : (Nat → Int32)) (RES : Int32) (C : kC p s m args meth c cX5_placeOf 3 wsX5_placeOf RX5 D cI cZ (va_A W0 s.heap.size)) (hr : meth.sig.returnType = some .int) : ∀ (n j : Nat), n = 8 - j → j < 2147483648 → (∀ r, (lp (B_X5_placeOf_2 x1 g_t_row) j n ()) = Sum.inr r → RES = r) → ∀ (H : Heap) (locs : List Loc), kW D (va_A W0 s.heap.size) s H locs [(a_t, .inr (5, [.ref a_t_wealth, .ref a_t_given, .ref a_t_row, .int v_t_inside, .int v_t_next, .int v_t_year])), (a_t_row, .inl (cI, 8, .inl g_t_row))] → ∀ (ls : Array Slot), lv_has ls 3 [(0, .ref a_t), (1, .int x1), (2, .int (nI j))] → (lp (B_X5_placeOf_2 x1 g_t_row) j n () = Sum.inl () → ∀ (H : Heap) (locs : List Loc) (ls : Array Slot), kW D (va_A W0 s.heap.size) s H locs [(a_t, .inr (5, [.ref a_t_wealth, .ref a_t_given, .ref a_t_row, .int v_t_inside, .int v_t_next, .int v_t_year])), (a_t_row, .inl (cI, 8, .inl g_t_row))] → lv_has ls 3 [] → W p l e ({ frames := 0, cells := 0, slots := 0, locals := 0 }) s m args below meth c H locs 0 0 (MQ below (kQ D W0 s.heap.size (some (.int RES)) [(a_t, .inr (5, [.ref a_t_wealth, .ref a_t_given, .ref a_t_row, .int v_t_inside, .int v_t_next, .int v_t_year])), (a_t_row, .inl (cI, 8, .inl g_t_row))]) args s 0 0 (va_A W0 s.heap.size)) (F0 m 26 ls [])) → W p l e ({ frames := 0, cells := 0, slots := 0, locals := 0 }) s m args below meth c H locs 0 0 (MQ below (kQ D W0 s.heap.size (some (.int RES)) [(a_t, .inr (5, [.ref a_t_wealth, .ref a_t_given, .ref a_t_row, .int v_t_inside, .int v_t_next, .int v_t_year])), (a_t_row, .inl (cI, 8, .inl g_t_row))]) args s 0 0 (va_A W0 s.heap.size)) (F0 m 2 ls []) := by
  have hx := C.hx
  have hb := C.hb
  intro n
  induction n with
  | zero =>
    intro j hn hj hres H locs hw ls hl kk
    refine lv_iload_n hx hb dX5_placeOf_2 rfl (lv_at hl 2 rfl) ?_
    refine lv_bipush (v := 8) hx hb dX5_placeOf_3 (by decide) ?_
    refine lv_icmp_ge (tgt := 26) hx hb dX5_placeOf_5 (by decide) (fun c3 => ?_) (fun c3 => by exact absurd (nI_le (a := 8) (b := j) (by omega) (by omega)) c3)
    exact kk  rfl _ _ _ hw (lv_sub hl [] rfl)
  | succ n ih =>
    intro j hn hj hres H locs hw ls hl kk
    refine lv_iload_n hx hb dX5_placeOf_2 rfl (lv_at hl 2 rfl) ?_
    refine lv_bipush (v := 8) hx hb dX5_placeOf_3 (by decide) ?_
    refine lv_icmp_ge (tgt := 26) hx hb dX5_placeOf_5 (by decide) (fun c1 => by exact absurd c1 (nI_ge (a := j) (b := 8) (by omega) (by omega))) (fun c1 => ?_)
    refine lv_aload_n hx hb dX5_placeOf_8 rfl (lv_at hl 0 rfl) ?_
    refine k_get C hw (CC := RX5) (T := TX5) (N := 6) nX5_placeOf_X5 0 rfl rfl 2 (by decide) (List.mem_of_getElem? (i := 1) rfl) rfl rfl dX5_placeOf_9 ?_
    refine lv_iload_n hx hb dX5_placeOf_12 rfl (lv_at hl 2 rfl) ?_
    refine k_ialdN C hw 1 rfl j rfl (by omega) (by decide) dX5_placeOf_13 ?_
    refine lv_iload_n hx hb dX5_placeOf_14 rfl (lv_at hl 1 rfl) ?_
    refine lv_icmp_ne (tgt := 20) hx hb dX5_placeOf_15 (by decide) (fun c2 => ?_) (fun c2 => ?_)
    · refine lv_iinc (v := (nI (j + 1))) (lv' := [(2, .int (nI (j + 1))), (0, .ref a_t), (1, .int x1)]) hx hb dX5_placeOf_20 hl (k := 2) rfl (nI_1 _) (by decide) rfl (fun ls hl => ?_)
      refine lv_goto (tgt := 2) hx hb dX5_placeOf_23 (by decide) ?_
      have hB : B_X5_placeOf_2 x1 g_t_row j () = Sum.inl () := by
        unfold B_X5_placeOf_2
        exact (if_neg c2).trans (rfl)
      rw [lp_c hB] at kk hres
      exact ih (j + 1)  (by omega) (by omega) hres _ _ hw _ (lv_sub hl [1, 2, 0] rfl) kk
    · refine lv_iload_n hx hb dX5_placeOf_18 rfl (lv_at hl 2 rfl) ?_
      have hB : B_X5_placeOf_2 x1 g_t_row j () = Sum.inr (Sum.inr (nI j)) := by
        unfold B_X5_placeOf_2
        exact (if_pos c2).trans (rfl)
      have hf := hres _ (lp_b hB)
      rw [hf]
      exact k_iret C hr hw dX5_placeOf_19
def f_X5_placeOf (g_t_row : (Nat → Int32)) (p1 : Int32) : Int32 := (Sum.elim (fun y => (-6)) id (lp (B_X5_placeOf_2 p1 g_t_row) 0 8 ()))
set_option maxHeartbeats 4000000 in
set_option maxRecDepth 100000 in
theorem T_X5_placeOf (l : Launch) (D : va_G) (cI cZ : ClassId) (a_t a_t_wealth a_t_given a_t_row : Nat) (v_t_inside : Int32) (v_t_next : Int32) (v_t_year : Int32) (g_t_row : (Nat → Int32)) (p1 : Int32) : CT l D cI cZ yX5_placeOf wsX5_placeOf ({ frames := 0, cells := 0, slots := 0, locals := 0 }) [.ref a_t, .int p1] [(a_t, .inr (5, [.ref a_t_wealth, .ref a_t_given, .ref a_t_row, .int v_t_inside, .int v_t_next, .int v_t_year])), (a_t_row, .inl (cI, 8, .inl g_t_row))] (some (.int (f_X5_placeOf g_t_row p1))) [(a_t, .inr (5, [.ref a_t_wealth, .ref a_t_given, .ref a_t_row, .int v_t_inside, .int v_t_next, .int v_t_year])), (a_t_row, .inl (cI, 8, .inl g_t_row))] := by
  refine CT.intro RX5 (by decide) rfl (Nat.le_of_ble_eq_true rfl) rfl ?_
  intro p e s m below meth c C hr hw ls hl
  have hx := C.hx
  have hb := C.hb
  replace hl : lv_has ls 3 [(0, .ref a_t), (1, .int p1)] := hl
  refine lv_iconst (v := 0) hx hb dX5_placeOf_0 (by decide) ?_
  refine lv_istore_n (lv' := [(2, .int 0), (0, .ref a_t), (1, .int p1)]) hx hb dX5_placeOf_1 rfl hl (by decide) rfl (fun ls hl => ?_)
  refine l_X5_placeOf_2 a_t a_t_wealth a_t_given a_t_row _ p1 v_t_inside v_t_next v_t_year g_t_row (f_X5_placeOf g_t_row p1) C hr 8 0  (by decide) (by decide) (fun r h => by unfold f_X5_placeOf; exact congrArg (Sum.elim _ id) h) _ _ hw _ (lv_sub hl [1, 2, 0] rfl) (fun h4 H locs ls hw hl => ?_)
  replace hw : kW D _ s H locs [(a_t, .inr (5, [.ref a_t_wealth, .ref a_t_given, .ref a_t_row, .int v_t_inside, .int v_t_next, .int v_t_year])), (a_t_row, .inl (cI, 8, .inl g_t_row))] := hw
  replace hl : lv_has ls 3 [] := hl
  refine lv_bipush (v := (-6)) hx hb dX5_placeOf_26 (by decide) ?_
  rw [show f_X5_placeOf g_t_row p1 = (-6) from by
      unfold f_X5_placeOf
      exact (congrArg (Sum.elim _ id) h4).trans (rfl)]
  exact k_iret C hr hw dX5_placeOf_28

theorem nX5_wealthInAll_X5 : ∀ w ∈ wsX50, w ∈ wsX5_wealthInAll := fun _ h => List.mem_cons_of_mem _ (List.mem_append_right _ h)
def B_X5_wealthInAll_4 (g_t_wealth : (Nat → Int32)) (j : Nat) (v : Int32) : Int32 := (v + (g_t_wealth j))
set_option maxHeartbeats 4000000 in
set_option maxRecDepth 100000 in
theorem l_X5_wealthInAll_4 {p : Program} {l : Launch} {e : Env} {s : State} {m : MethodId} {args : Array Value} {below : List Frame} {meth : Method} {c : Code} {D : va_G} {cI cZ : ClassId} {Q : State → Prop} {A : Nat → Prop} (a_t a_t_wealth a_t_given a_t_row : Nat) (v_t_inside : Int32) (v_t_next : Int32) (v_t_year : Int32) (g_t_wealth : (Nat → Int32)) (C : kC p s m args meth c cX5_wealthInAll 3 wsX5_wealthInAll RX5 D cI cZ A) : ∀ (n j : Nat) (x1 : Int32), n = 8 - j → j < 2147483648 → ∀ (H : Heap) (locs : List Loc), kW D A s H locs [(a_t, .inr (5, [.ref a_t_wealth, .ref a_t_given, .ref a_t_row, .int v_t_inside, .int v_t_next, .int v_t_year])), (a_t_wealth, .inl (cI, 8, .inl g_t_wealth))] → ∀ (ls : Array Slot), lv_has ls 3 [(0, .ref a_t), (1, .int x1), (2, .int (nI j))] → (∀ (H : Heap) (locs : List Loc) (ls : Array Slot), kW D A s H locs [(a_t, .inr (5, [.ref a_t_wealth, .ref a_t_given, .ref a_t_row, .int v_t_inside, .int v_t_next, .int v_t_year])), (a_t_wealth, .inl (cI, 8, .inl g_t_wealth))] → lv_has ls 3 [(1, .int (it (B_X5_wealthInAll_4 g_t_wealth) j n x1))] → W p l e ({ frames := 0, cells := 0, slots := 0, locals := 0 }) s m args below meth c H locs 0 0 Q (F0 m 25 ls [])) → W p l e ({ frames := 0, cells := 0, slots := 0, locals := 0 }) s m args below meth c H locs 0 0 Q (F0 m 4 ls []) := by
  have hx := C.hx
  have hb := C.hb
  intro n
  induction n with
  | zero =>
    intro j x1 hn hj H locs hw ls hl kk
    refine lv_iload_n hx hb dX5_wealthInAll_4 rfl (lv_at hl 2 rfl) ?_
    refine lv_bipush (v := 8) hx hb dX5_wealthInAll_5 (by decide) ?_
    refine lv_icmp_ge (tgt := 25) hx hb dX5_wealthInAll_7 (by decide) (fun c2 => ?_) (fun c2 => by exact absurd (nI_le (a := 8) (b := j) (by omega) (by omega)) c2)
    exact kk _ _ _ hw (lv_sub hl [1] rfl)
  | succ n ih =>
    intro j x1 hn hj H locs hw ls hl kk
    refine lv_iload_n hx hb dX5_wealthInAll_4 rfl (lv_at hl 2 rfl) ?_
    refine lv_bipush (v := 8) hx hb dX5_wealthInAll_5 (by decide) ?_
    refine lv_icmp_ge (tgt := 25) hx hb dX5_wealthInAll_7 (by decide) (fun c1 => by exact absurd c1 (nI_ge (a := j) (b := 8) (by omega) (by omega))) (fun c1 => ?_)
    refine lv_iload_n hx hb dX5_wealthInAll_10 rfl (lv_at hl 1 rfl) ?_
    refine lv_aload_n hx hb dX5_wealthInAll_11 rfl (lv_at hl 0 rfl) ?_
    refine k_get C hw (CC := RX5) (T := TX5) (N := 6) nX5_wealthInAll_X5 0 rfl rfl 0 (by decide) (List.mem_of_getElem? (i := 1) rfl) rfl rfl dX5_wealthInAll_12 ?_
    refine lv_iload_n hx hb dX5_wealthInAll_15 rfl (lv_at hl 2 rfl) ?_
    refine k_ialdN C hw 1 rfl j rfl (by omega) (by decide) dX5_wealthInAll_16 ?_
    refine lv_iadd hx hb dX5_wealthInAll_17 ?_
    refine lv_istore_n (lv' := [(1, .int (x1 + (g_t_wealth j))), (0, .ref a_t), (2, .int (nI j))]) hx hb dX5_wealthInAll_18 rfl hl (by decide) rfl (fun ls hl => ?_)
    refine lv_iinc (v := (nI (j + 1))) (lv' := [(2, .int (nI (j + 1))), (1, .int (x1 + (g_t_wealth j))), (0, .ref a_t)]) hx hb dX5_wealthInAll_19 hl (k := 2) rfl (nI_1 _) (by decide) rfl (fun ls hl => ?_)
    refine lv_goto (tgt := 4) hx hb dX5_wealthInAll_22 (by decide) ?_
    have hB : B_X5_wealthInAll_4 g_t_wealth j x1 = (x1 + (g_t_wealth j)) := by
      unfold B_X5_wealthInAll_4
      exact rfl
    rw [it_c hB] at kk
    exact ih (j + 1) (x1 + (g_t_wealth j)) (by omega) (by omega) _ _ hw _ (lv_sub hl [2, 1, 0] rfl) kk
def f_X5_wealthInAll (g_t_wealth : (Nat → Int32)) : Int32 := (it (B_X5_wealthInAll_4 g_t_wealth) 0 8 (0 : Int32))
set_option maxHeartbeats 4000000 in
set_option maxRecDepth 100000 in
theorem T_X5_wealthInAll (l : Launch) (D : va_G) (cI cZ : ClassId) (a_t a_t_wealth a_t_given a_t_row : Nat) (v_t_inside : Int32) (v_t_next : Int32) (v_t_year : Int32) (g_t_wealth : (Nat → Int32)) : CT l D cI cZ yX5_wealthInAll wsX5_wealthInAll ({ frames := 0, cells := 0, slots := 0, locals := 0 }) [.ref a_t] [(a_t, .inr (5, [.ref a_t_wealth, .ref a_t_given, .ref a_t_row, .int v_t_inside, .int v_t_next, .int v_t_year])), (a_t_wealth, .inl (cI, 8, .inl g_t_wealth))] (some (.int (f_X5_wealthInAll g_t_wealth))) [(a_t, .inr (5, [.ref a_t_wealth, .ref a_t_given, .ref a_t_row, .int v_t_inside, .int v_t_next, .int v_t_year])), (a_t_wealth, .inl (cI, 8, .inl g_t_wealth))] := by
  refine CT.intro RX5 (by decide) rfl (Nat.le_of_ble_eq_true rfl) rfl ?_
  intro p e s m below meth c C hr hw ls hl
  have hx := C.hx
  have hb := C.hb
  replace hl : lv_has ls 3 [(0, .ref a_t)] := hl
  refine lv_iconst (v := 0) hx hb dX5_wealthInAll_0 (by decide) ?_
  refine lv_istore_n (lv' := [(1, .int 0), (0, .ref a_t)]) hx hb dX5_wealthInAll_1 rfl hl (by decide) rfl (fun ls hl => ?_)
  refine lv_iconst (v := 0) hx hb dX5_wealthInAll_2 (by decide) ?_
  refine lv_istore_n (lv' := [(2, .int 0), (1, .int 0), (0, .ref a_t)]) hx hb dX5_wealthInAll_3 rfl hl (by decide) rfl (fun ls hl => ?_)
  refine l_X5_wealthInAll_4 a_t a_t_wealth a_t_given a_t_row v_t_inside v_t_next v_t_year g_t_wealth C 8 0 (0 : Int32) (by decide) (by decide) _ _ hw _ (lv_sub hl [2, 1, 0] rfl) (fun H locs ls hw hl => ?_)
  replace hw : kW D _ s H locs [(a_t, .inr (5, [.ref a_t_wealth, .ref a_t_given, .ref a_t_row, .int v_t_inside, .int v_t_next, .int v_t_year])), (a_t_wealth, .inl (cI, 8, .inl g_t_wealth))] := hw
  replace hl : lv_has ls 3 [(1, .int (it (B_X5_wealthInAll_4 g_t_wealth) 0 8 (0 : Int32)))] := hl
  refine lv_iload_n hx hb dX5_wealthInAll_25 rfl (lv_at hl 0 rfl) ?_
  rw [show f_X5_wealthInAll g_t_wealth = (it (B_X5_wealthInAll_4 g_t_wealth) 0 8 (0 : Int32)) from by
      unfold f_X5_wealthInAll
      exact rfl]
  exact k_iret C hr hw dX5_wealthInAll_26

theorem nX5_poorest_X5 : ∀ w ∈ wsX50, w ∈ wsX5_poorest := fun _ h => List.mem_cons_of_mem _ (List.mem_append_right _ h)
def B_X5_poorest_9 (g_t_row : (Nat → Int32)) (g_t_wealth : (Nat → Int32)) (j : Nat) (v : Int32) : Int32 := (if (f_X5_wealthOf g_t_wealth v) ≤ (f_X5_wealthOf g_t_wealth (g_t_row j)) then v else (g_t_row j))
def oB_X5_poorest_9 (g_t_row : (Nat → Int32)) (j : Nat) (v : Int32) : Prop := ((o_X5_wealthOf (g_t_row j)) ∧ ((o_X5_wealthOf v) ∧ True))
set_option maxHeartbeats 4000000 in
set_option maxRecDepth 100000 in
theorem l_X5_poorest_9 {p : Program} {l : Launch} {e : Env} {s : State} {m : MethodId} {args : Array Value} {below : List Frame} {meth : Method} {c : Code} {D : va_G} {cI cZ : ClassId} {Q : State → Prop} {A : Nat → Prop} (a_t a_t_wealth a_t_given a_t_row : Nat) (v_t_inside : Int32) (v_t_next : Int32) (v_t_year : Int32) (g_t_row : (Nat → Int32)) (g_t_wealth : (Nat → Int32)) (C : kC p s m args meth c cX5_poorest 3 wsX5_poorest RX5 D cI cZ A) : ∀ (n j : Nat) (x1 : Int32), n = 8 - j → j < 2147483648 → itA (oB_X5_poorest_9 g_t_row) (B_X5_poorest_9 g_t_row g_t_wealth) j n x1 → ∀ (H : Heap) (locs : List Loc), kW D A s H locs [(a_t, .inr (5, [.ref a_t_wealth, .ref a_t_given, .ref a_t_row, .int v_t_inside, .int v_t_next, .int v_t_year])), (a_t_row, .inl (cI, 8, .inl g_t_row)), (a_t_wealth, .inl (cI, 8, .inl g_t_wealth))] → ∀ (ls : Array Slot), lv_has ls 3 [(0, .ref a_t), (1, .int x1), (2, .int (nI j))] → (∀ (H : Heap) (locs : List Loc) (ls : Array Slot), kW D A s H locs [(a_t, .inr (5, [.ref a_t_wealth, .ref a_t_given, .ref a_t_row, .int v_t_inside, .int v_t_next, .int v_t_year])), (a_t_row, .inl (cI, 8, .inl g_t_row)), (a_t_wealth, .inl (cI, 8, .inl g_t_wealth))] → lv_has ls 3 [(1, .int (it (B_X5_poorest_9 g_t_row g_t_wealth) j n x1))] → W p l e ({ frames := 1, cells := 0, slots := 0, locals := 21 }) s m args below meth c H locs 0 0 Q (F0 m 46 ls [])) → W p l e ({ frames := 1, cells := 0, slots := 0, locals := 21 }) s m args below meth c H locs 0 0 Q (F0 m 9 ls []) := by
  have hx := C.hx
  have hb := C.hb
  intro n
  induction n with
  | zero =>
    intro j x1 hn hj hok0 H locs hw ls hl kk
    refine lv_iload_n hx hb dX5_poorest_9 rfl (lv_at hl 2 rfl) ?_
    refine lv_bipush (v := 8) hx hb dX5_poorest_10 (by decide) ?_
    refine lv_icmp_ge (tgt := 46) hx hb dX5_poorest_12 (by decide) (fun c5 => ?_) (fun c5 => by exact absurd (nI_le (a := 8) (b := j) (by omega) (by omega)) c5)
    exact kk _ _ _ hw (lv_sub hl [1] rfl)
  | succ n ih =>
    intro j x1 hn hj hok0 H locs hw ls hl kk
    have hok := hok0.1
    refine lv_iload_n hx hb dX5_poorest_9 rfl (lv_at hl 2 rfl) ?_
    refine lv_bipush (v := 8) hx hb dX5_poorest_10 (by decide) ?_
    refine lv_icmp_ge (tgt := 46) hx hb dX5_poorest_12 (by decide) (fun c1 => by exact absurd c1 (nI_ge (a := j) (b := 8) (by omega) (by omega))) (fun c1 => ?_)
    refine lv_aload_n hx hb dX5_poorest_15 rfl (lv_at hl 0 rfl) ?_
    refine lv_aload_n hx hb dX5_poorest_16 rfl (lv_at hl 0 rfl) ?_
    refine k_get C hw (CC := RX5) (T := TX5) (N := 6) nX5_poorest_X5 0 rfl rfl 2 (by decide) (List.mem_of_getElem? (i := 1) rfl) rfl rfl dX5_poorest_17 ?_
    refine lv_iload_n hx hb dX5_poorest_20 rfl (lv_at hl 2 rfl) ?_
    refine k_ialdN C hw 1 rfl j rfl (by omega) (by decide) dX5_poorest_21 ?_
    obtain ⟨h2, hok⟩ := hok
    refine k_callV (As := [.int (g_t_row j)]) (rest := []) (n := 1) (CC := RX5) (T := TX5) (N := 6) C hw (T_X5_wealthOf l D cI cZ a_t a_t_wealth a_t_given a_t_row v_t_inside v_t_next v_t_year g_t_wealth (g_t_row j) h2) gX5_poorest_X5_wealthOf rfl ⟨rfl, rfl⟩ (by decide +kernel) ⟨Nat.le_of_ble_eq_true rfl, Nat.le_of_ble_eq_true rfl⟩ 0 rfl rfl [0, 2] rfl rfl [a_t, a_t_wealth] rfl rfl rfl hl.1 rfl (Nat.le_of_ble_eq_true rfl) ⟨Nat.zero_le _, Nat.zero_le _⟩ dX5_poorest_22 (fun H locs hw => ?_)
    refine W.eq (g2 := F0 m 25 ls [.int (f_X5_wealthOf g_t_wealth (g_t_row j))]) rfl ?_
    replace hw : kW D _ s H locs [(a_t, .inr (5, [.ref a_t_wealth, .ref a_t_given, .ref a_t_row, .int v_t_inside, .int v_t_next, .int v_t_year])), (a_t_row, .inl (cI, 8, .inl g_t_row)), (a_t_wealth, .inl (cI, 8, .inl g_t_wealth))] := hw
    refine lv_aload_n hx hb dX5_poorest_25 rfl (lv_at hl 0 rfl) ?_
    refine lv_iload_n hx hb dX5_poorest_26 rfl (lv_at hl 1 rfl) ?_
    obtain ⟨h3, hok⟩ := hok
    refine k_callV (As := [.int x1]) (rest := [.int (f_X5_wealthOf g_t_wealth (g_t_row j))]) (n := 1) (CC := RX5) (T := TX5) (N := 6) C hw (T_X5_wealthOf l D cI cZ a_t a_t_wealth a_t_given a_t_row v_t_inside v_t_next v_t_year g_t_wealth x1 h3) gX5_poorest_X5_wealthOf rfl ⟨rfl, rfl⟩ (by decide +kernel) ⟨Nat.le_of_ble_eq_true rfl, Nat.le_of_ble_eq_true rfl⟩ 0 rfl rfl [0, 2] rfl rfl [a_t, a_t_wealth] rfl rfl rfl hl.1 rfl (Nat.le_of_ble_eq_true rfl) ⟨Nat.zero_le _, Nat.zero_le _⟩ dX5_poorest_27 (fun H locs hw => ?_)
    refine W.eq (g2 := F0 m 30 ls [.int (f_X5_wealthOf g_t_wealth x1), .int (f_X5_wealthOf g_t_wealth (g_t_row j))]) rfl ?_
    replace hw : kW D _ s H locs [(a_t, .inr (5, [.ref a_t_wealth, .ref a_t_given, .ref a_t_row, .int v_t_inside, .int v_t_next, .int v_t_year])), (a_t_row, .inl (cI, 8, .inl g_t_row)), (a_t_wealth, .inl (cI, 8, .inl g_t_wealth))] := hw
    refine lv_icmp_ge (tgt := 40) hx hb dX5_poorest_30 (by decide) (fun c4 => ?_) (fun c4 => ?_)
    · refine lv_iinc (v := (nI (j + 1))) (lv' := [(2, .int (nI (j + 1))), (0, .ref a_t), (1, .int x1)]) hx hb dX5_poorest_40 hl (k := 2) rfl (nI_1 _) (by decide) rfl (fun ls hl => ?_)
      refine lv_goto (tgt := 9) hx hb dX5_poorest_43 (by decide) ?_
      have hB : B_X5_poorest_9 g_t_row g_t_wealth j x1 = x1 := by
        unfold B_X5_poorest_9
        exact (if_pos c4).trans (rfl)
      rw [it_c hB] at kk
      have hok2 := itA_c hB hok0
      exact ih (j + 1) x1 (by omega) (by omega) hok2 _ _ hw _ (lv_sub hl [1, 2, 0] rfl) kk
    · refine lv_aload_n hx hb dX5_poorest_33 rfl (lv_at hl 0 rfl) ?_
      refine k_get C hw (CC := RX5) (T := TX5) (N := 6) nX5_poorest_X5 0 rfl rfl 2 (by decide) (List.mem_of_getElem? (i := 1) rfl) rfl rfl dX5_poorest_34 ?_
      refine lv_iload_n hx hb dX5_poorest_37 rfl (lv_at hl 2 rfl) ?_
      refine k_ialdN C hw 1 rfl j rfl (by omega) (by decide) dX5_poorest_38 ?_
      refine lv_istore_n (lv' := [(1, .int (g_t_row j)), (0, .ref a_t), (2, .int (nI j))]) hx hb dX5_poorest_39 rfl hl (by decide) rfl (fun ls hl => ?_)
      refine lv_iinc (v := (nI (j + 1))) (lv' := [(2, .int (nI (j + 1))), (1, .int (g_t_row j)), (0, .ref a_t)]) hx hb dX5_poorest_40 hl (k := 2) rfl (nI_1 _) (by decide) rfl (fun ls hl => ?_)
      refine lv_goto (tgt := 9) hx hb dX5_poorest_43 (by decide) ?_
      have hB : B_X5_poorest_9 g_t_row g_t_wealth j x1 = (g_t_row j) := by
        unfold B_X5_poorest_9
        exact (if_neg c4).trans (rfl)
      rw [it_c hB] at kk
      have hok2 := itA_c hB hok0
      exact ih (j + 1) (g_t_row j) (by omega) (by omega) hok2 _ _ hw _ (lv_sub hl [2, 1, 0] rfl) kk
def f_X5_poorest (g_t_row : (Nat → Int32)) (g_t_wealth : (Nat → Int32)) : Int32 := (it (B_X5_poorest_9 g_t_row g_t_wealth) 1 7 (g_t_row 0))
def o_X5_poorest (g_t_row : (Nat → Int32)) (g_t_wealth : (Nat → Int32)) : Prop := ((itA (oB_X5_poorest_9 g_t_row) (B_X5_poorest_9 g_t_row g_t_wealth) 1 7 (g_t_row 0)) ∧ True)
set_option maxHeartbeats 4000000 in
set_option maxRecDepth 100000 in
theorem T_X5_poorest (l : Launch) (D : va_G) (cI cZ : ClassId) (a_t a_t_wealth a_t_given a_t_row : Nat) (v_t_inside : Int32) (v_t_next : Int32) (v_t_year : Int32) (g_t_row : (Nat → Int32)) (g_t_wealth : (Nat → Int32)) (hok : o_X5_poorest g_t_row g_t_wealth) : CT l D cI cZ yX5_poorest wsX5_poorest ({ frames := 1, cells := 0, slots := 0, locals := 21 }) [.ref a_t] [(a_t, .inr (5, [.ref a_t_wealth, .ref a_t_given, .ref a_t_row, .int v_t_inside, .int v_t_next, .int v_t_year])), (a_t_row, .inl (cI, 8, .inl g_t_row)), (a_t_wealth, .inl (cI, 8, .inl g_t_wealth))] (some (.int (f_X5_poorest g_t_row g_t_wealth))) [(a_t, .inr (5, [.ref a_t_wealth, .ref a_t_given, .ref a_t_row, .int v_t_inside, .int v_t_next, .int v_t_year])), (a_t_row, .inl (cI, 8, .inl g_t_row)), (a_t_wealth, .inl (cI, 8, .inl g_t_wealth))] := by
  refine CT.intro RX5 (by decide) rfl (Nat.le_of_ble_eq_true rfl) rfl ?_
  intro p e s m below meth c C hr hw ls hl
  have hx := C.hx
  have hb := C.hb
  replace hl : lv_has ls 3 [(0, .ref a_t)] := hl
  refine lv_aload_n hx hb dX5_poorest_0 rfl (lv_at hl 0 rfl) ?_
  refine k_get C hw (CC := RX5) (T := TX5) (N := 6) nX5_poorest_X5 0 rfl rfl 2 (by decide) (List.mem_of_getElem? (i := 1) rfl) rfl rfl dX5_poorest_1 ?_
  refine lv_iconst (v := 0) hx hb dX5_poorest_4 (by decide) ?_
  refine k_ialdN C hw 1 rfl 0 rfl (by decide) (by decide) dX5_poorest_5 ?_
  refine lv_istore_n (lv' := [(1, .int (g_t_row 0)), (0, .ref a_t)]) hx hb dX5_poorest_6 rfl hl (by decide) rfl (fun ls hl => ?_)
  refine lv_iconst (v := 1) hx hb dX5_poorest_7 (by decide) ?_
  refine lv_istore_n (lv' := [(2, .int 1), (1, .int (g_t_row 0)), (0, .ref a_t)]) hx hb dX5_poorest_8 rfl hl (by decide) rfl (fun ls hl => ?_)
  obtain ⟨h6, hok⟩ := hok
  refine l_X5_poorest_9 a_t a_t_wealth a_t_given a_t_row v_t_inside v_t_next v_t_year g_t_row g_t_wealth C 7 1 (g_t_row 0) (by decide) (by decide) h6 _ _ hw _ (lv_sub hl [2, 1, 0] rfl) (fun H locs ls hw hl => ?_)
  replace hw : kW D _ s H locs [(a_t, .inr (5, [.ref a_t_wealth, .ref a_t_given, .ref a_t_row, .int v_t_inside, .int v_t_next, .int v_t_year])), (a_t_row, .inl (cI, 8, .inl g_t_row)), (a_t_wealth, .inl (cI, 8, .inl g_t_wealth))] := hw
  replace hl : lv_has ls 3 [(1, .int (it (B_X5_poorest_9 g_t_row g_t_wealth) 1 7 (g_t_row 0)))] := hl
  refine lv_iload_n hx hb dX5_poorest_46 rfl (lv_at hl 0 rfl) ?_
  rw [show f_X5_poorest g_t_row g_t_wealth = (it (B_X5_poorest_9 g_t_row g_t_wealth) 1 7 (g_t_row 0)) from by
      unfold f_X5_poorest
      exact rfl]
  exact k_iret C hr hw dX5_poorest_47

theorem nX5_dueOf_X5 : ∀ w ∈ wsX50, w ∈ wsX5_dueOf := fun _ h => List.mem_cons_of_mem _ (List.mem_append_right _ h)
def B_X5_dueOf_4 (x1 : Int32) (g_t_given : (Nat → Int32)) (j : Nat) (v : Int32) : Int32 := (v + ((g_t_given ((x1 * 8) + (nI j)).toNatClampNeg) - (g_t_given (((nI j) * 8) + x1).toNatClampNeg)))
def oB_X5_dueOf_4 (x1 : Int32) (j : Nat) (v : Int32) : Prop := ((vp_in ((x1 * 8) + (nI j)) 64) ∧ ((vp_in (((nI j) * 8) + x1) 64) ∧ True))
set_option maxHeartbeats 4000000 in
set_option maxRecDepth 100000 in
theorem l_X5_dueOf_4 {p : Program} {l : Launch} {e : Env} {s : State} {m : MethodId} {args : Array Value} {below : List Frame} {meth : Method} {c : Code} {D : va_G} {cI cZ : ClassId} {Q : State → Prop} {A : Nat → Prop} (a_t a_t_wealth a_t_given a_t_row : Nat) (x1 : Int32) (v_t_inside : Int32) (v_t_next : Int32) (v_t_year : Int32) (g_t_given : (Nat → Int32)) (C : kC p s m args meth c cX5_dueOf 4 wsX5_dueOf RX5 D cI cZ A) : ∀ (n j : Nat) (x2 : Int32), n = 8 - j → j < 2147483648 → itA (oB_X5_dueOf_4 x1) (B_X5_dueOf_4 x1 g_t_given) j n x2 → ∀ (H : Heap) (locs : List Loc), kW D A s H locs [(a_t, .inr (5, [.ref a_t_wealth, .ref a_t_given, .ref a_t_row, .int v_t_inside, .int v_t_next, .int v_t_year])), (a_t_given, .inl (cI, 64, .inl g_t_given))] → ∀ (ls : Array Slot), lv_has ls 4 [(0, .ref a_t), (1, .int x1), (2, .int x2), (3, .int (nI j))] → (∀ (H : Heap) (locs : List Loc) (ls : Array Slot), kW D A s H locs [(a_t, .inr (5, [.ref a_t_wealth, .ref a_t_given, .ref a_t_row, .int v_t_inside, .int v_t_next, .int v_t_year])), (a_t_given, .inl (cI, 64, .inl g_t_given))] → lv_has ls 4 [(2, .int (it (B_X5_dueOf_4 x1 g_t_given) j n x2))] → W p l e ({ frames := 0, cells := 0, slots := 0, locals := 0 }) s m args below meth c H locs 0 0 Q (F0 m 42 ls [])) → W p l e ({ frames := 0, cells := 0, slots := 0, locals := 0 }) s m args below meth c H locs 0 0 Q (F0 m 4 ls []) := by
  have hx := C.hx
  have hb := C.hb
  intro n
  induction n with
  | zero =>
    intro j x2 hn hj hok0 H locs hw ls hl kk
    refine lv_iload_n hx hb dX5_dueOf_4 rfl (lv_at hl 3 rfl) ?_
    refine lv_bipush (v := 8) hx hb dX5_dueOf_5 (by decide) ?_
    refine lv_icmp_ge (tgt := 42) hx hb dX5_dueOf_7 (by decide) (fun c4 => ?_) (fun c4 => by exact absurd (nI_le (a := 8) (b := j) (by omega) (by omega)) c4)
    exact kk _ _ _ hw (lv_sub hl [2] rfl)
  | succ n ih =>
    intro j x2 hn hj hok0 H locs hw ls hl kk
    have hok := hok0.1
    refine lv_iload_n hx hb dX5_dueOf_4 rfl (lv_at hl 3 rfl) ?_
    refine lv_bipush (v := 8) hx hb dX5_dueOf_5 (by decide) ?_
    refine lv_icmp_ge (tgt := 42) hx hb dX5_dueOf_7 (by decide) (fun c1 => by exact absurd c1 (nI_ge (a := j) (b := 8) (by omega) (by omega))) (fun c1 => ?_)
    refine lv_iload_n hx hb dX5_dueOf_10 rfl (lv_at hl 2 rfl) ?_
    refine lv_aload_n hx hb dX5_dueOf_11 rfl (lv_at hl 0 rfl) ?_
    refine k_get C hw (CC := RX5) (T := TX5) (N := 6) nX5_dueOf_X5 0 rfl rfl 1 (by decide) (List.mem_of_getElem? (i := 1) rfl) rfl rfl dX5_dueOf_12 ?_
    refine lv_iload_n hx hb dX5_dueOf_15 rfl (lv_at hl 1 rfl) ?_
    refine lv_bipush (v := 8) hx hb dX5_dueOf_16 (by decide) ?_
    refine lv_imul hx hb dX5_dueOf_18 ?_
    refine lv_iload_n hx hb dX5_dueOf_19 rfl (lv_at hl 3 rfl) ?_
    refine lv_iadd hx hb dX5_dueOf_20 ?_
    obtain ⟨h2, hok⟩ := hok
    refine k_iald C hw 1 rfl h2 dX5_dueOf_21 ?_
    refine lv_aload_n hx hb dX5_dueOf_22 rfl (lv_at hl 0 rfl) ?_
    refine k_get C hw (CC := RX5) (T := TX5) (N := 6) nX5_dueOf_X5 0 rfl rfl 1 (by decide) (List.mem_of_getElem? (i := 1) rfl) rfl rfl dX5_dueOf_23 ?_
    refine lv_iload_n hx hb dX5_dueOf_26 rfl (lv_at hl 3 rfl) ?_
    refine lv_bipush (v := 8) hx hb dX5_dueOf_27 (by decide) ?_
    refine lv_imul hx hb dX5_dueOf_29 ?_
    refine lv_iload_n hx hb dX5_dueOf_30 rfl (lv_at hl 1 rfl) ?_
    refine lv_iadd hx hb dX5_dueOf_31 ?_
    obtain ⟨h3, hok⟩ := hok
    refine k_iald C hw 1 rfl h3 dX5_dueOf_32 ?_
    refine lv_isub hx hb dX5_dueOf_33 ?_
    refine lv_iadd hx hb dX5_dueOf_34 ?_
    refine lv_istore_n (lv' := [(2, .int (x2 + ((g_t_given ((x1 * 8) + (nI j)).toNatClampNeg) - (g_t_given (((nI j) * 8) + x1).toNatClampNeg)))), (0, .ref a_t), (1, .int x1), (3, .int (nI j))]) hx hb dX5_dueOf_35 rfl hl (by decide) rfl (fun ls hl => ?_)
    refine lv_iinc (v := (nI (j + 1))) (lv' := [(3, .int (nI (j + 1))), (2, .int (x2 + ((g_t_given ((x1 * 8) + (nI j)).toNatClampNeg) - (g_t_given (((nI j) * 8) + x1).toNatClampNeg)))), (0, .ref a_t), (1, .int x1)]) hx hb dX5_dueOf_36 hl (k := 3) rfl (nI_1 _) (by decide) rfl (fun ls hl => ?_)
    refine lv_goto (tgt := 4) hx hb dX5_dueOf_39 (by decide) ?_
    have hB : B_X5_dueOf_4 x1 g_t_given j x2 = (x2 + ((g_t_given ((x1 * 8) + (nI j)).toNatClampNeg) - (g_t_given (((nI j) * 8) + x1).toNatClampNeg))) := by
      unfold B_X5_dueOf_4
      exact rfl
    rw [it_c hB] at kk
    have hok2 := itA_c hB hok0
    exact ih (j + 1) (x2 + ((g_t_given ((x1 * 8) + (nI j)).toNatClampNeg) - (g_t_given (((nI j) * 8) + x1).toNatClampNeg))) (by omega) (by omega) hok2 _ _ hw _ (lv_sub hl [2, 3, 1, 0] rfl) kk
def f_X5_dueOf (g_t_given : (Nat → Int32)) (p1 : Int32) : Int32 := (it (B_X5_dueOf_4 p1 g_t_given) 0 8 (0 : Int32))
def o_X5_dueOf (g_t_given : (Nat → Int32)) (p1 : Int32) : Prop := ((itA (oB_X5_dueOf_4 p1) (B_X5_dueOf_4 p1 g_t_given) 0 8 (0 : Int32)) ∧ True)
set_option maxHeartbeats 4000000 in
set_option maxRecDepth 100000 in
theorem T_X5_dueOf (l : Launch) (D : va_G) (cI cZ : ClassId) (a_t a_t_wealth a_t_given a_t_row : Nat) (v_t_inside : Int32) (v_t_next : Int32) (v_t_year : Int32) (g_t_given : (Nat → Int32)) (p1 : Int32) (hok : o_X5_dueOf g_t_given p1) : CT l D cI cZ yX5_dueOf wsX5_dueOf ({ frames := 0, cells := 0, slots := 0, locals := 0 }) [.ref a_t, .int p1] [(a_t, .inr (5, [.ref a_t_wealth, .ref a_t_given, .ref a_t_row, .int v_t_inside, .int v_t_next, .int v_t_year])), (a_t_given, .inl (cI, 64, .inl g_t_given))] (some (.int (f_X5_dueOf g_t_given p1))) [(a_t, .inr (5, [.ref a_t_wealth, .ref a_t_given, .ref a_t_row, .int v_t_inside, .int v_t_next, .int v_t_year])), (a_t_given, .inl (cI, 64, .inl g_t_given))] := by
  refine CT.intro RX5 (by decide) rfl (Nat.le_of_ble_eq_true rfl) rfl ?_
  intro p e s m below meth c C hr hw ls hl
  have hx := C.hx
  have hb := C.hb
  replace hl : lv_has ls 4 [(0, .ref a_t), (1, .int p1)] := hl
  refine lv_iconst (v := 0) hx hb dX5_dueOf_0 (by decide) ?_
  refine lv_istore_n (lv' := [(2, .int 0), (0, .ref a_t), (1, .int p1)]) hx hb dX5_dueOf_1 rfl hl (by decide) rfl (fun ls hl => ?_)
  refine lv_iconst (v := 0) hx hb dX5_dueOf_2 (by decide) ?_
  refine lv_istore_n (lv' := [(3, .int 0), (2, .int 0), (0, .ref a_t), (1, .int p1)]) hx hb dX5_dueOf_3 rfl hl (by decide) rfl (fun ls hl => ?_)
  obtain ⟨h5, hok⟩ := hok
  refine l_X5_dueOf_4 a_t a_t_wealth a_t_given a_t_row p1 v_t_inside v_t_next v_t_year g_t_given C 8 0 (0 : Int32) (by decide) (by decide) h5 _ _ hw _ (lv_sub hl [2, 3, 1, 0] rfl) (fun H locs ls hw hl => ?_)
  replace hw : kW D _ s H locs [(a_t, .inr (5, [.ref a_t_wealth, .ref a_t_given, .ref a_t_row, .int v_t_inside, .int v_t_next, .int v_t_year])), (a_t_given, .inl (cI, 64, .inl g_t_given))] := hw
  replace hl : lv_has ls 4 [(2, .int (it (B_X5_dueOf_4 p1 g_t_given) 0 8 (0 : Int32)))] := hl
  refine lv_iload_n hx hb dX5_dueOf_42 rfl (lv_at hl 0 rfl) ?_
  rw [show f_X5_dueOf g_t_given p1 = (it (B_X5_dueOf_4 p1 g_t_given) 0 8 (0 : Int32)) from by
      unfold f_X5_dueOf
      exact rfl]
  exact k_iret C hr hw dX5_dueOf_43

def f_X5_reasonAgainstGift (v_t_inside : Int32) (g_t_wealth : (Nat → Int32)) (p1 : Int32) (p2 : Int32) (p3 : Int32) : Int32 := (if p1 = p2 then 2 else (if (f_X5_isIn v_t_inside p1) = 0 then (if (f_X5_isIn v_t_inside p2) = 0 then 3 else (if p3 ≤ (f_X5_wealthOf g_t_wealth p1) then 0 else 4)) else 3))
def o_X5_reasonAgainstGift (v_t_inside : Int32) (p1 : Int32) (p2 : Int32) : Prop := (if p1 = p2 then True else (if (f_X5_isIn v_t_inside p1) = 0 then (if (f_X5_isIn v_t_inside p2) = 0 then True else ((o_X5_wealthOf p1) ∧ True)) else True))
set_option maxHeartbeats 4000000 in
set_option maxRecDepth 100000 in
theorem T_X5_reasonAgainstGift (l : Launch) (D : va_G) (cI cZ : ClassId) (a_t a_t_wealth a_t_given a_t_row : Nat) (v_t_inside : Int32) (v_t_next : Int32) (v_t_year : Int32) (g_t_wealth : (Nat → Int32)) (p1 : Int32) (p2 : Int32) (p3 : Int32) (hok : o_X5_reasonAgainstGift v_t_inside p1 p2) : CT l D cI cZ yX5_reasonAgainstGift wsX5_reasonAgainstGift ({ frames := 1, cells := 0, slots := 0, locals := 21 }) [.ref a_t, .int p1, .int p2, .int p3] [(a_t, .inr (5, [.ref a_t_wealth, .ref a_t_given, .ref a_t_row, .int v_t_inside, .int v_t_next, .int v_t_year])), (a_t_wealth, .inl (cI, 8, .inl g_t_wealth))] (some (.int (f_X5_reasonAgainstGift v_t_inside g_t_wealth p1 p2 p3))) [(a_t, .inr (5, [.ref a_t_wealth, .ref a_t_given, .ref a_t_row, .int v_t_inside, .int v_t_next, .int v_t_year])), (a_t_wealth, .inl (cI, 8, .inl g_t_wealth))] := by
  refine CT.intro RX5 (by decide) rfl (Nat.le_of_ble_eq_true rfl) rfl ?_
  intro p e s m below meth c C hr hw ls hl
  have hx := C.hx
  have hb := C.hb
  replace hl : lv_has ls 4 [(0, .ref a_t), (1, .int p1), (2, .int p2), (3, .int p3)] := hl
  refine lv_iload_n hx hb dX5_reasonAgainstGift_0 rfl (lv_at hl 1 rfl) ?_
  refine lv_iload_n hx hb dX5_reasonAgainstGift_1 rfl (lv_at hl 2 rfl) ?_
  refine lv_icmp_ne (tgt := 7) hx hb dX5_reasonAgainstGift_2 (by decide) (fun c1 => ?_) (fun c1 => ?_)
  · replace hok := Eq.mp (if_neg c1) hok
    refine lv_aload_n hx hb dX5_reasonAgainstGift_7 rfl (lv_at hl 0 rfl) ?_
    refine lv_iload_n hx hb dX5_reasonAgainstGift_8 rfl (lv_at hl 1 rfl) ?_
    refine k_callV (As := [.int p1]) (rest := []) (n := 1) (CC := RX5) (T := TX5) (N := 6) C hw (T_X5_isIn l D cI cZ a_t a_t_wealth a_t_given a_t_row v_t_inside v_t_next v_t_year p1) gX5_reasonAgainstGift_X5_isIn rfl ⟨rfl, rfl⟩ (by decide +kernel) ⟨Nat.le_of_ble_eq_true rfl, Nat.le_of_ble_eq_true rfl⟩ 0 rfl rfl [0] rfl rfl [a_t] rfl rfl rfl hl.1 rfl (Nat.le_of_ble_eq_true rfl) ⟨Nat.zero_le _, Nat.zero_le _⟩ dX5_reasonAgainstGift_9 (fun H locs hw => ?_)
    refine W.eq (g2 := F0 m 12 ls [.int (f_X5_isIn v_t_inside p1)]) rfl ?_
    replace hw : kW D _ s H locs [(a_t, .inr (5, [.ref a_t_wealth, .ref a_t_given, .ref a_t_row, .int v_t_inside, .int v_t_next, .int v_t_year])), (a_t_wealth, .inl (cI, 8, .inl g_t_wealth))] := hw
    refine lv_if_ne (tgt := 23) hx hb dX5_reasonAgainstGift_12 (by decide) (fun c2 => ?_) (fun c2 => ?_)
    · refine lv_iconst (v := 3) hx hb dX5_reasonAgainstGift_23 (by decide) ?_
      rw [show f_X5_reasonAgainstGift v_t_inside g_t_wealth p1 p2 p3 = 3 from by
          unfold f_X5_reasonAgainstGift
          exact (if_neg c1).trans ((if_neg c2).trans (rfl))]
      exact k_iret C hr hw dX5_reasonAgainstGift_24
    · replace hok := Eq.mp (if_pos c2) hok
      refine lv_aload_n hx hb dX5_reasonAgainstGift_15 rfl (lv_at hl 0 rfl) ?_
      refine lv_iload_n hx hb dX5_reasonAgainstGift_16 rfl (lv_at hl 2 rfl) ?_
      refine k_callV (As := [.int p2]) (rest := []) (n := 1) (CC := RX5) (T := TX5) (N := 6) C hw (T_X5_isIn l D cI cZ a_t a_t_wealth a_t_given a_t_row v_t_inside v_t_next v_t_year p2) gX5_reasonAgainstGift_X5_isIn rfl ⟨rfl, rfl⟩ (by decide +kernel) ⟨Nat.le_of_ble_eq_true rfl, Nat.le_of_ble_eq_true rfl⟩ 0 rfl rfl [0] rfl rfl [a_t] rfl rfl rfl hl.1 rfl (Nat.le_of_ble_eq_true rfl) ⟨Nat.zero_le _, Nat.zero_le _⟩ dX5_reasonAgainstGift_17 (fun H locs hw => ?_)
      refine W.eq (g2 := F0 m 20 ls [.int (f_X5_isIn v_t_inside p2)]) rfl ?_
      replace hw : kW D _ s H locs [(a_t, .inr (5, [.ref a_t_wealth, .ref a_t_given, .ref a_t_row, .int v_t_inside, .int v_t_next, .int v_t_year])), (a_t_wealth, .inl (cI, 8, .inl g_t_wealth))] := hw
      refine lv_if_ne (tgt := 25) hx hb dX5_reasonAgainstGift_20 (by decide) (fun c3 => ?_) (fun c3 => ?_)
      · replace hok := Eq.mp (if_neg c3) hok
        refine lv_aload_n hx hb dX5_reasonAgainstGift_25 rfl (lv_at hl 0 rfl) ?_
        refine lv_iload_n hx hb dX5_reasonAgainstGift_26 rfl (lv_at hl 1 rfl) ?_
        obtain ⟨h4, hok⟩ := hok
        refine k_callV (As := [.int p1]) (rest := []) (n := 1) (CC := RX5) (T := TX5) (N := 6) C hw (T_X5_wealthOf l D cI cZ a_t a_t_wealth a_t_given a_t_row v_t_inside v_t_next v_t_year g_t_wealth p1 h4) gX5_reasonAgainstGift_X5_wealthOf rfl ⟨rfl, rfl⟩ (by decide +kernel) ⟨Nat.le_of_ble_eq_true rfl, Nat.le_of_ble_eq_true rfl⟩ 0 rfl rfl [0, 1] rfl rfl [a_t, a_t_wealth] rfl rfl rfl hl.1 rfl (Nat.le_of_ble_eq_true rfl) ⟨Nat.zero_le _, Nat.zero_le _⟩ dX5_reasonAgainstGift_27 (fun H locs hw => ?_)
        refine W.eq (g2 := F0 m 30 ls [.int (f_X5_wealthOf g_t_wealth p1)]) rfl ?_
        replace hw : kW D _ s H locs [(a_t, .inr (5, [.ref a_t_wealth, .ref a_t_given, .ref a_t_row, .int v_t_inside, .int v_t_next, .int v_t_year])), (a_t_wealth, .inl (cI, 8, .inl g_t_wealth))] := hw
        refine lv_iload_n hx hb dX5_reasonAgainstGift_30 rfl (lv_at hl 3 rfl) ?_
        refine lv_icmp_ge (tgt := 38) hx hb dX5_reasonAgainstGift_31 (by decide) (fun c5 => ?_) (fun c5 => ?_)
        · refine lv_iconst (v := 0) hx hb dX5_reasonAgainstGift_38 (by decide) ?_
          rw [show f_X5_reasonAgainstGift v_t_inside g_t_wealth p1 p2 p3 = 0 from by
              unfold f_X5_reasonAgainstGift
              exact (if_neg c1).trans ((if_pos c2).trans ((if_neg c3).trans ((if_pos c5).trans (rfl))))]
          exact k_iret C hr hw dX5_reasonAgainstGift_39
        · refine lv_iconst (v := 4) hx hb dX5_reasonAgainstGift_34 (by decide) ?_
          refine lv_goto (tgt := 39) hx hb dX5_reasonAgainstGift_35 (by decide) ?_
          rw [show f_X5_reasonAgainstGift v_t_inside g_t_wealth p1 p2 p3 = 4 from by
              unfold f_X5_reasonAgainstGift
              exact (if_neg c1).trans ((if_pos c2).trans ((if_neg c3).trans ((if_neg c5).trans (rfl))))]
          exact k_iret C hr hw dX5_reasonAgainstGift_39
      · refine lv_iconst (v := 3) hx hb dX5_reasonAgainstGift_23 (by decide) ?_
        rw [show f_X5_reasonAgainstGift v_t_inside g_t_wealth p1 p2 p3 = 3 from by
            unfold f_X5_reasonAgainstGift
            exact (if_neg c1).trans ((if_pos c2).trans ((if_pos c3).trans (rfl)))]
        exact k_iret C hr hw dX5_reasonAgainstGift_24
  · refine lv_iconst (v := 2) hx hb dX5_reasonAgainstGift_5 (by decide) ?_
    rw [show f_X5_reasonAgainstGift v_t_inside g_t_wealth p1 p2 p3 = 2 from by
        unfold f_X5_reasonAgainstGift
        exact (if_pos c1).trans (rfl)]
    exact k_iret C hr hw dX5_reasonAgainstGift_6

theorem nX5_reasonAgainst_X5 : ∀ w ∈ wsX50, w ∈ wsX5_reasonAgainst := fun _ h => List.mem_cons_of_mem _ (List.mem_append_right _ h)
def f_X5_reasonAgainst (v_t_inside : Int32) (v_t_year : Int32) (g_t_wealth : (Nat → Int32)) (p1 : Int32) (p2 : Int32) (p3 : Int32) (p4 : Int32) : Int32 := (if p1 = 0 then (if (f_X5_isIn v_t_inside p2) = 0 then 0 else 1) else (if p1 = 1 then (if (f_X5_isIn v_t_inside p2) = 0 then 1 else 0) else (if p1 = 2 then (f_X5_reasonAgainstGift v_t_inside g_t_wealth p2 p3 p4) else (if p1 = 3 then (if p2 = p3 then 2 else 0) else (if v_t_year < 99 then 0 else 5)))))
def o_X5_reasonAgainst (v_t_inside : Int32) (p1 : Int32) (p2 : Int32) (p3 : Int32) : Prop := (if p1 = 0 then True else (if p1 = 1 then True else (if p1 = 2 then ((o_X5_reasonAgainstGift v_t_inside p2 p3) ∧ True) else True)))
set_option maxHeartbeats 4000000 in
set_option maxRecDepth 100000 in
theorem T_X5_reasonAgainst (l : Launch) (D : va_G) (cI cZ : ClassId) (a_t a_t_wealth a_t_given a_t_row : Nat) (v_t_inside : Int32) (v_t_next : Int32) (v_t_year : Int32) (g_t_wealth : (Nat → Int32)) (p1 : Int32) (p2 : Int32) (p3 : Int32) (p4 : Int32) (hok : o_X5_reasonAgainst v_t_inside p1 p2 p3) : CT l D cI cZ yX5_reasonAgainst wsX5_reasonAgainst ({ frames := 2, cells := 0, slots := 0, locals := 44 }) [.ref a_t, .int p1, .int p2, .int p3, .int p4] [(a_t, .inr (5, [.ref a_t_wealth, .ref a_t_given, .ref a_t_row, .int v_t_inside, .int v_t_next, .int v_t_year])), (a_t_wealth, .inl (cI, 8, .inl g_t_wealth))] (some (.int (f_X5_reasonAgainst v_t_inside v_t_year g_t_wealth p1 p2 p3 p4))) [(a_t, .inr (5, [.ref a_t_wealth, .ref a_t_given, .ref a_t_row, .int v_t_inside, .int v_t_next, .int v_t_year])), (a_t_wealth, .inl (cI, 8, .inl g_t_wealth))] := by
  refine CT.intro RX5 (by decide) rfl (Nat.le_of_ble_eq_true rfl) rfl ?_
  intro p e s m below meth c C hr hw ls hl
  have hx := C.hx
  have hb := C.hb
  replace hl : lv_has ls 5 [(0, .ref a_t), (1, .int p1), (2, .int p2), (3, .int p3), (4, .int p4)] := hl
  refine lv_iload_n hx hb dX5_reasonAgainst_0 rfl (lv_at hl 1 rfl) ?_
  by_cases c1 : p1 = 0
  · refine lv_tableIn (tgt := 32) hx hb dX5_reasonAgainst_1 (by rw [c1]; decide) (by rw [c1]; decide) (by rw [c1]; rfl) (by decide) ?_
    refine lv_aload_n hx hb dX5_reasonAgainst_32 rfl (lv_at hl 0 rfl) ?_
    refine lv_iload_n hx hb dX5_reasonAgainst_33 rfl (lv_at hl 2 rfl) ?_
    refine k_callV (As := [.int p2]) (rest := []) (n := 1) (CC := RX5) (T := TX5) (N := 6) C hw (T_X5_isIn l D cI cZ a_t a_t_wealth a_t_given a_t_row v_t_inside v_t_next v_t_year p2) gX5_reasonAgainst_X5_isIn rfl ⟨rfl, rfl⟩ (by decide +kernel) ⟨Nat.le_of_ble_eq_true rfl, Nat.le_of_ble_eq_true rfl⟩ 0 rfl rfl [0] rfl rfl [a_t] rfl rfl rfl hl.1 rfl (Nat.le_of_ble_eq_true rfl) ⟨Nat.zero_le _, Nat.zero_le _⟩ dX5_reasonAgainst_34 (fun H locs hw => ?_)
    refine W.eq (g2 := F0 m 37 ls [.int (f_X5_isIn v_t_inside p2)]) rfl ?_
    replace hw : kW D _ s H locs [(a_t, .inr (5, [.ref a_t_wealth, .ref a_t_given, .ref a_t_row, .int v_t_inside, .int v_t_next, .int v_t_year])), (a_t_wealth, .inl (cI, 8, .inl g_t_wealth))] := hw
    refine lv_if_eq (tgt := 44) hx hb dX5_reasonAgainst_37 (by decide) (fun c2 => ?_) (fun c2 => ?_)
    · refine lv_iconst (v := 0) hx hb dX5_reasonAgainst_44 (by decide) ?_
      rw [show f_X5_reasonAgainst v_t_inside v_t_year g_t_wealth p1 p2 p3 p4 = 0 from by
          unfold f_X5_reasonAgainst
          exact (if_pos c1).trans ((if_pos c2).trans (rfl))]
      exact k_iret C hr hw dX5_reasonAgainst_45
    · refine lv_iconst (v := 1) hx hb dX5_reasonAgainst_40 (by decide) ?_
      refine lv_goto (tgt := 45) hx hb dX5_reasonAgainst_41 (by decide) ?_
      rw [show f_X5_reasonAgainst v_t_inside v_t_year g_t_wealth p1 p2 p3 p4 = 1 from by
          unfold f_X5_reasonAgainst
          exact (if_pos c1).trans ((if_neg c2).trans (rfl))]
      exact k_iret C hr hw dX5_reasonAgainst_45
  · replace hok := Eq.mp (if_neg c1) hok
    by_cases c3 : p1 = 1
    · refine lv_tableIn (tgt := 46) hx hb dX5_reasonAgainst_1 (by rw [c3]; decide) (by rw [c3]; decide) (by rw [c3]; rfl) (by decide) ?_
      refine lv_aload_n hx hb dX5_reasonAgainst_46 rfl (lv_at hl 0 rfl) ?_
      refine lv_iload_n hx hb dX5_reasonAgainst_47 rfl (lv_at hl 2 rfl) ?_
      refine k_callV (As := [.int p2]) (rest := []) (n := 1) (CC := RX5) (T := TX5) (N := 6) C hw (T_X5_isIn l D cI cZ a_t a_t_wealth a_t_given a_t_row v_t_inside v_t_next v_t_year p2) gX5_reasonAgainst_X5_isIn rfl ⟨rfl, rfl⟩ (by decide +kernel) ⟨Nat.le_of_ble_eq_true rfl, Nat.le_of_ble_eq_true rfl⟩ 0 rfl rfl [0] rfl rfl [a_t] rfl rfl rfl hl.1 rfl (Nat.le_of_ble_eq_true rfl) ⟨Nat.zero_le _, Nat.zero_le _⟩ dX5_reasonAgainst_48 (fun H locs hw => ?_)
      refine W.eq (g2 := F0 m 51 ls [.int (f_X5_isIn v_t_inside p2)]) rfl ?_
      replace hw : kW D _ s H locs [(a_t, .inr (5, [.ref a_t_wealth, .ref a_t_given, .ref a_t_row, .int v_t_inside, .int v_t_next, .int v_t_year])), (a_t_wealth, .inl (cI, 8, .inl g_t_wealth))] := hw
      refine lv_if_eq (tgt := 58) hx hb dX5_reasonAgainst_51 (by decide) (fun c4 => ?_) (fun c4 => ?_)
      · refine lv_iconst (v := 1) hx hb dX5_reasonAgainst_58 (by decide) ?_
        rw [show f_X5_reasonAgainst v_t_inside v_t_year g_t_wealth p1 p2 p3 p4 = 1 from by
            unfold f_X5_reasonAgainst
            exact (if_neg c1).trans ((if_pos c3).trans ((if_pos c4).trans (rfl)))]
        exact k_iret C hr hw dX5_reasonAgainst_59
      · refine lv_iconst (v := 0) hx hb dX5_reasonAgainst_54 (by decide) ?_
        refine lv_goto (tgt := 59) hx hb dX5_reasonAgainst_55 (by decide) ?_
        rw [show f_X5_reasonAgainst v_t_inside v_t_year g_t_wealth p1 p2 p3 p4 = 0 from by
            unfold f_X5_reasonAgainst
            exact (if_neg c1).trans ((if_pos c3).trans ((if_neg c4).trans (rfl)))]
        exact k_iret C hr hw dX5_reasonAgainst_59
    · replace hok := Eq.mp (if_neg c3) hok
      by_cases c5 : p1 = 2
      · replace hok := Eq.mp (if_pos c5) hok
        refine lv_tableIn (tgt := 60) hx hb dX5_reasonAgainst_1 (by rw [c5]; decide) (by rw [c5]; decide) (by rw [c5]; rfl) (by decide) ?_
        refine lv_aload_n hx hb dX5_reasonAgainst_60 rfl (lv_at hl 0 rfl) ?_
        refine lv_iload_n hx hb dX5_reasonAgainst_61 rfl (lv_at hl 2 rfl) ?_
        refine lv_iload_n hx hb dX5_reasonAgainst_62 rfl (lv_at hl 3 rfl) ?_
        refine lv_iload hx hb dX5_reasonAgainst_63 (lv_at hl 4 rfl) ?_
        obtain ⟨h6, hok⟩ := hok
        refine k_callV (As := [.int p2, .int p3, .int p4]) (rest := []) (n := 3) (CC := RX5) (T := TX5) (N := 6) C hw (T_X5_reasonAgainstGift l D cI cZ a_t a_t_wealth a_t_given a_t_row v_t_inside v_t_next v_t_year g_t_wealth p2 p3 p4 h6) gX5_reasonAgainst_X5_reasonAgainstGift rfl ⟨rfl, rfl⟩ (by decide +kernel) ⟨Nat.le_of_ble_eq_true rfl, Nat.le_of_ble_eq_true rfl⟩ 0 rfl rfl [0, 1] rfl rfl [a_t, a_t_wealth] rfl rfl rfl hl.1 rfl (Nat.le_of_ble_eq_true rfl) ⟨Nat.zero_le _, Nat.zero_le _⟩ dX5_reasonAgainst_65 (fun H locs hw => ?_)
        refine W.eq (g2 := F0 m 68 ls [.int (f_X5_reasonAgainstGift v_t_inside g_t_wealth p2 p3 p4)]) rfl ?_
        replace hw : kW D _ s H locs [(a_t, .inr (5, [.ref a_t_wealth, .ref a_t_given, .ref a_t_row, .int v_t_inside, .int v_t_next, .int v_t_year])), (a_t_wealth, .inl (cI, 8, .inl g_t_wealth))] := hw
        rw [show f_X5_reasonAgainst v_t_inside v_t_year g_t_wealth p1 p2 p3 p4 = (f_X5_reasonAgainstGift v_t_inside g_t_wealth p2 p3 p4) from by
            unfold f_X5_reasonAgainst
            exact (if_neg c1).trans ((if_neg c3).trans ((if_pos c5).trans (rfl)))]
        exact k_iret C hr hw dX5_reasonAgainst_68
      · by_cases c7 : p1 = 3
        · refine lv_tableIn (tgt := 69) hx hb dX5_reasonAgainst_1 (by rw [c7]; decide) (by rw [c7]; decide) (by rw [c7]; rfl) (by decide) ?_
          refine lv_iload_n hx hb dX5_reasonAgainst_69 rfl (lv_at hl 2 rfl) ?_
          refine lv_iload_n hx hb dX5_reasonAgainst_70 rfl (lv_at hl 3 rfl) ?_
          refine lv_icmp_ne (tgt := 78) hx hb dX5_reasonAgainst_71 (by decide) (fun c8 => ?_) (fun c8 => ?_)
          · refine lv_iconst (v := 0) hx hb dX5_reasonAgainst_78 (by decide) ?_
            rw [show f_X5_reasonAgainst v_t_inside v_t_year g_t_wealth p1 p2 p3 p4 = 0 from by
                unfold f_X5_reasonAgainst
                exact (if_neg c1).trans ((if_neg c3).trans ((if_neg c5).trans ((if_pos c7).trans ((if_neg c8).trans (rfl)))))]
            exact k_iret C hr hw dX5_reasonAgainst_79
          · refine lv_iconst (v := 2) hx hb dX5_reasonAgainst_74 (by decide) ?_
            refine lv_goto (tgt := 79) hx hb dX5_reasonAgainst_75 (by decide) ?_
            rw [show f_X5_reasonAgainst v_t_inside v_t_year g_t_wealth p1 p2 p3 p4 = 2 from by
                unfold f_X5_reasonAgainst
                exact (if_neg c1).trans ((if_neg c3).trans ((if_neg c5).trans ((if_pos c7).trans ((if_pos c8).trans (rfl)))))]
            exact k_iret C hr hw dX5_reasonAgainst_79
        · refine lv_tableOut (tgt := 80) hx hb dX5_reasonAgainst_1 (tab_out4 c1 c3 c5 c7) (by decide) ?_
          refine lv_aload_n hx hb dX5_reasonAgainst_80 rfl (lv_at hl 0 rfl) ?_
          refine k_get C hw (CC := RX5) (T := TX5) (N := 6) nX5_reasonAgainst_X5 0 rfl rfl 5 (by decide) (List.mem_of_getElem? (i := 1) rfl) rfl rfl dX5_reasonAgainst_81 ?_
          refine lv_bipush (v := 99) hx hb dX5_reasonAgainst_84 (by decide) ?_
          refine lv_icmp_lt (tgt := 93) hx hb dX5_reasonAgainst_86 (by decide) (fun c9 => ?_) (fun c9 => ?_)
          · refine lv_iconst (v := 0) hx hb dX5_reasonAgainst_93 (by decide) ?_
            rw [show f_X5_reasonAgainst v_t_inside v_t_year g_t_wealth p1 p2 p3 p4 = 0 from by
                unfold f_X5_reasonAgainst
                exact (if_neg c1).trans ((if_neg c3).trans ((if_neg c5).trans ((if_neg c7).trans ((if_pos c9).trans (rfl)))))]
            exact k_iret C hr hw dX5_reasonAgainst_94
          · refine lv_iconst (v := 5) hx hb dX5_reasonAgainst_89 (by decide) ?_
            refine lv_goto (tgt := 94) hx hb dX5_reasonAgainst_90 (by decide) ?_
            rw [show f_X5_reasonAgainst v_t_inside v_t_year g_t_wealth p1 p2 p3 p4 = 5 from by
                unfold f_X5_reasonAgainst
                exact (if_neg c1).trans ((if_neg c3).trans ((if_neg c5).trans ((if_neg c7).trans ((if_neg c9).trans (rfl)))))]
            exact k_iret C hr hw dX5_reasonAgainst_94

theorem nX5_passYear_X5 : ∀ w ∈ wsX50, w ∈ wsX5_passYear := fun _ h => List.mem_cons_of_mem _ (List.mem_append_right _ h)
def f_X5_passYear (v_t_next : Int32) (v_t_year : Int32) (g_t_row : (Nat → Int32)) : Int32 × Int32 × Int32 := (((1 : Int32) <<< ((f_X5_houseAtNext v_t_next g_t_row) &&& 31)), ((v_t_next + 1) - (v_t_next + 1) / 8 * 8), (v_t_year + 1))
def o_X5_passYear (v_t_next : Int32) : Prop := ((o_X5_houseAtNext v_t_next) ∧ True)
set_option maxHeartbeats 4000000 in
set_option maxRecDepth 100000 in
theorem T_X5_passYear (l : Launch) (D : va_G) (cI cZ : ClassId) (a_t a_t_wealth a_t_given a_t_row : Nat) (v_t_inside : Int32) (v_t_next : Int32) (v_t_year : Int32) (g_t_row : (Nat → Int32)) (hok : o_X5_passYear v_t_next) : CT l D cI cZ yX5_passYear wsX5_passYear ({ frames := 1, cells := 0, slots := 0, locals := 20 }) [.ref a_t] [(a_t, .inr (5, [.ref a_t_wealth, .ref a_t_given, .ref a_t_row, .int v_t_inside, .int v_t_next, .int v_t_year])), (a_t_row, .inl (cI, 8, .inl g_t_row))] none [(a_t, .inr (5, [.ref a_t_wealth, .ref a_t_given, .ref a_t_row, .int (f_X5_passYear v_t_next v_t_year g_t_row).1, .int (f_X5_passYear v_t_next v_t_year g_t_row).2.1, .int (f_X5_passYear v_t_next v_t_year g_t_row).2.2])), (a_t_row, .inl (cI, 8, .inl g_t_row))] := by
  refine CT.intro RX5 (by decide) rfl (Nat.le_of_ble_eq_true rfl) rfl ?_
  intro p e s m below meth c C hr hw ls hl
  have hx := C.hx
  have hb := C.hb
  replace hl : lv_has ls 1 [(0, .ref a_t)] := hl
  refine lv_aload_n hx hb dX5_passYear_0 rfl (lv_at hl 0 rfl) ?_
  refine lv_iconst (v := 1) hx hb dX5_passYear_1 (by decide) ?_
  refine lv_aload_n hx hb dX5_passYear_2 rfl (lv_at hl 0 rfl) ?_
  obtain ⟨h1, hok⟩ := hok
  refine k_callV (As := []) (rest := [.int 1, .ref a_t]) (n := 0) (CC := RX5) (T := TX5) (N := 6) C hw (T_X5_houseAtNext l D cI cZ a_t a_t_wealth a_t_given a_t_row v_t_inside v_t_next v_t_year g_t_row h1) gX5_passYear_X5_houseAtNext rfl ⟨rfl, rfl⟩ (by decide +kernel) ⟨Nat.le_of_ble_eq_true rfl, Nat.le_of_ble_eq_true rfl⟩ 0 rfl rfl [0, 1] rfl rfl [a_t, a_t_row] rfl rfl rfl hl.1 rfl (Nat.le_of_ble_eq_true rfl) ⟨Nat.zero_le _, Nat.zero_le _⟩ dX5_passYear_3 (fun H locs hw => ?_)
  refine W.eq (g2 := F0 m 6 ls [.int (f_X5_houseAtNext v_t_next g_t_row), .int 1, .ref a_t]) rfl ?_
  replace hw : kW D _ s H locs [(a_t, .inr (5, [.ref a_t_wealth, .ref a_t_given, .ref a_t_row, .int v_t_inside, .int v_t_next, .int v_t_year])), (a_t_row, .inl (cI, 8, .inl g_t_row))] := hw
  refine lv_ishl hx hb dX5_passYear_6 ?_
  refine k_put C hw (CC := RX5) (T := TX5) (N := 6) (v := .int ((1 : Int32) <<< ((f_X5_houseAtNext v_t_next g_t_row) &&& 31))) nX5_passYear_X5 tyX5_ok nmX5 0 rfl rfl 3 (by decide) (List.mem_of_getElem? (i := 1) rfl) rfl rfl rfl rfl (Nat.le_of_ble_eq_true rfl) dX5_passYear_7 (fun H locs hw => ?_)
  replace hw : kW D _ s H locs [(a_t, .inr (5, [.ref a_t_wealth, .ref a_t_given, .ref a_t_row, .int ((1 : Int32) <<< ((f_X5_houseAtNext v_t_next g_t_row) &&& 31)), .int v_t_next, .int v_t_year])), (a_t_row, .inl (cI, 8, .inl g_t_row))] := hw
  refine lv_aload_n hx hb dX5_passYear_10 rfl (lv_at hl 0 rfl) ?_
  refine lv_aload_n hx hb dX5_passYear_11 rfl (lv_at hl 0 rfl) ?_
  refine k_get C hw (CC := RX5) (T := TX5) (N := 6) nX5_passYear_X5 0 rfl rfl 4 (by decide) (List.mem_of_getElem? (i := 2) rfl) rfl rfl dX5_passYear_12 ?_
  refine lv_iconst (v := 1) hx hb dX5_passYear_15 (by decide) ?_
  refine lv_iadd hx hb dX5_passYear_16 ?_
  refine lv_bipush (v := 8) hx hb dX5_passYear_17 (by decide) ?_
  refine lv_irem hx hb dX5_passYear_19 (by decide) ?_
  refine k_put C hw (CC := RX5) (T := TX5) (N := 6) (v := .int ((v_t_next + 1) - (v_t_next + 1) / 8 * 8)) nX5_passYear_X5 tyX5_ok nmX5 0 rfl rfl 4 (by decide) (List.mem_of_getElem? (i := 2) rfl) rfl rfl rfl rfl (Nat.le_of_ble_eq_true rfl) dX5_passYear_20 (fun H locs hw => ?_)
  replace hw : kW D _ s H locs [(a_t, .inr (5, [.ref a_t_wealth, .ref a_t_given, .ref a_t_row, .int ((1 : Int32) <<< ((f_X5_houseAtNext v_t_next g_t_row) &&& 31)), .int ((v_t_next + 1) - (v_t_next + 1) / 8 * 8), .int v_t_year])), (a_t_row, .inl (cI, 8, .inl g_t_row))] := hw
  refine lv_aload_n hx hb dX5_passYear_23 rfl (lv_at hl 0 rfl) ?_
  refine lv_dup hx hb dX5_passYear_24 rfl ?_
  refine k_get C hw (CC := RX5) (T := TX5) (N := 6) nX5_passYear_X5 0 rfl rfl 5 (by decide) (List.mem_of_getElem? (i := 3) rfl) rfl rfl dX5_passYear_25 ?_
  refine lv_iconst (v := 1) hx hb dX5_passYear_28 (by decide) ?_
  refine lv_iadd hx hb dX5_passYear_29 ?_
  refine k_put C hw (CC := RX5) (T := TX5) (N := 6) (v := .int (v_t_year + 1)) nX5_passYear_X5 tyX5_ok nmX5 0 rfl rfl 5 (by decide) (List.mem_of_getElem? (i := 3) rfl) rfl rfl rfl rfl (Nat.le_of_ble_eq_true rfl) dX5_passYear_30 (fun H locs hw => ?_)
  replace hw : kW D _ s H locs [(a_t, .inr (5, [.ref a_t_wealth, .ref a_t_given, .ref a_t_row, .int ((1 : Int32) <<< ((f_X5_houseAtNext v_t_next g_t_row) &&& 31)), .int ((v_t_next + 1) - (v_t_next + 1) / 8 * 8), .int (v_t_year + 1)])), (a_t_row, .inl (cI, 8, .inl g_t_row))] := hw
  rw [show f_X5_passYear v_t_next v_t_year g_t_row = (((1 : Int32) <<< ((f_X5_houseAtNext v_t_next g_t_row) &&& 31)), ((v_t_next + 1) - (v_t_next + 1) / 8 * 8), (v_t_year + 1)) from by
      unfold f_X5_passYear
      exact rfl]
  exact k_vret C hr hw dX5_passYear_33

theorem nX5_hand_X5 : ∀ w ∈ wsX50, w ∈ wsX5_hand := fun _ h => List.mem_cons_of_mem _ (List.mem_append_right _ h)
def f_X5_hand (g_t_wealth : (Nat → Int32)) (g_t_given : (Nat → Int32)) (p1 : Int32) (p2 : Int32) (p3 : Int32) : (Nat → Int32) × (Nat → Int32) := (if p1 < 0 then (g_t_wealth, g_t_given) else (if 8 ≤ p1 then (g_t_wealth, g_t_given) else (if p2 < 0 then (g_t_wealth, g_t_given) else (if p2 < 8 then ((upd (upd g_t_wealth p1.toNatClampNeg ((g_t_wealth p1.toNatClampNeg) - p3)) p2.toNatClampNeg (if 999 < (((upd g_t_wealth p1.toNatClampNeg ((g_t_wealth p1.toNatClampNeg) - p3)) p2.toNatClampNeg) + p3) then 999 else (((upd g_t_wealth p1.toNatClampNeg ((g_t_wealth p1.toNatClampNeg) - p3)) p2.toNatClampNeg) + p3))), (upd g_t_given ((p1 * 8) + p2).toNatClampNeg (if 999 < ((g_t_given ((p1 * 8) + p2).toNatClampNeg) + p3) then 999 else ((g_t_given ((p1 * 8) + p2).toNatClampNeg) + p3)))) else (g_t_wealth, g_t_given)))))
def o_X5_hand (p1 : Int32) (p2 : Int32) : Prop := (if p1 < 0 then True else (if 8 ≤ p1 then True else (if p2 < 0 then True else (if p2 < 8 then ((vp_in p1 8) ∧ ((vp_in p1 8) ∧ ((vp_in p2 8) ∧ ((vp_in p2 8) ∧ ((vp_in ((p1 * 8) + p2) 64) ∧ ((vp_in ((p1 * 8) + p2) 64) ∧ True)))))) else True))))
set_option maxHeartbeats 4000000 in
set_option maxRecDepth 100000 in
theorem T_X5_hand (l : Launch) (D : va_G) (cI cZ : ClassId) (a_t a_t_wealth a_t_given a_t_row : Nat) (v_t_inside : Int32) (v_t_next : Int32) (v_t_year : Int32) (g_t_wealth : (Nat → Int32)) (g_t_given : (Nat → Int32)) (p1 : Int32) (p2 : Int32) (p3 : Int32) (hok : o_X5_hand p1 p2) : CT l D cI cZ yX5_hand wsX5_hand ({ frames := 1, cells := 0, slots := 0, locals := 21 }) [.ref a_t, .int p1, .int p2, .int p3] [(a_t, .inr (5, [.ref a_t_wealth, .ref a_t_given, .ref a_t_row, .int v_t_inside, .int v_t_next, .int v_t_year])), (a_t_wealth, .inl (cI, 8, .inl g_t_wealth)), (a_t_given, .inl (cI, 64, .inl g_t_given))] none [(a_t, .inr (5, [.ref a_t_wealth, .ref a_t_given, .ref a_t_row, .int v_t_inside, .int v_t_next, .int v_t_year])), (a_t_wealth, .inl (cI, 8, .inl (f_X5_hand g_t_wealth g_t_given p1 p2 p3).1)), (a_t_given, .inl (cI, 64, .inl (f_X5_hand g_t_wealth g_t_given p1 p2 p3).2))] := by
  refine CT.intro RX5 (by decide) rfl (Nat.le_of_ble_eq_true rfl) rfl ?_
  intro p e s m below meth c C hr hw ls hl
  have hx := C.hx
  have hb := C.hb
  replace hl : lv_has ls 5 [(0, .ref a_t), (1, .int p1), (2, .int p2), (3, .int p3)] := hl
  refine lv_iload_n hx hb dX5_hand_0 rfl (lv_at hl 1 rfl) ?_
  refine lv_if_lt (tgt := 20) hx hb dX5_hand_1 (by decide) (fun c1 => ?_) (fun c1 => ?_)
  · rw [show f_X5_hand g_t_wealth g_t_given p1 p2 p3 = (g_t_wealth, g_t_given) from by
        unfold f_X5_hand
        exact (if_pos c1).trans (rfl)]
    exact k_vret C hr hw dX5_hand_20
  · replace hok := Eq.mp (if_neg c1) hok
    refine lv_iload_n hx hb dX5_hand_4 rfl (lv_at hl 1 rfl) ?_
    refine lv_bipush (v := 8) hx hb dX5_hand_5 (by decide) ?_
    refine lv_icmp_ge (tgt := 20) hx hb dX5_hand_7 (by decide) (fun c2 => ?_) (fun c2 => ?_)
    · rw [show f_X5_hand g_t_wealth g_t_given p1 p2 p3 = (g_t_wealth, g_t_given) from by
          unfold f_X5_hand
          exact (if_neg c1).trans ((if_pos c2).trans (rfl))]
      exact k_vret C hr hw dX5_hand_20
    · replace hok := Eq.mp (if_neg c2) hok
      refine lv_iload_n hx hb dX5_hand_10 rfl (lv_at hl 2 rfl) ?_
      refine lv_if_lt (tgt := 20) hx hb dX5_hand_11 (by decide) (fun c3 => ?_) (fun c3 => ?_)
      · rw [show f_X5_hand g_t_wealth g_t_given p1 p2 p3 = (g_t_wealth, g_t_given) from by
            unfold f_X5_hand
            exact (if_neg c1).trans ((if_neg c2).trans ((if_pos c3).trans (rfl)))]
        exact k_vret C hr hw dX5_hand_20
      · replace hok := Eq.mp (if_neg c3) hok
        refine lv_iload_n hx hb dX5_hand_14 rfl (lv_at hl 2 rfl) ?_
        refine lv_bipush (v := 8) hx hb dX5_hand_15 (by decide) ?_
        refine lv_icmp_lt (tgt := 21) hx hb dX5_hand_17 (by decide) (fun c4 => ?_) (fun c4 => ?_)
        · replace hok := Eq.mp (if_pos c4) hok
          refine lv_aload_n hx hb dX5_hand_21 rfl (lv_at hl 0 rfl) ?_
          refine k_get C hw (CC := RX5) (T := TX5) (N := 6) nX5_hand_X5 0 rfl rfl 0 (by decide) (List.mem_of_getElem? (i := 1) rfl) rfl rfl dX5_hand_22 ?_
          refine lv_iload_n hx hb dX5_hand_25 rfl (lv_at hl 1 rfl) ?_
          refine lv_dup2_11 hx hb dX5_hand_26 rfl rfl ?_
          obtain ⟨h5, hok⟩ := hok
          refine k_iald C hw 1 rfl h5 dX5_hand_27 ?_
          refine lv_iload_n hx hb dX5_hand_28 rfl (lv_at hl 3 rfl) ?_
          refine lv_isub hx hb dX5_hand_29 ?_
          obtain ⟨h6, hok⟩ := hok
          refine k_iast C hw 1 rfl h6 dX5_hand_30 (fun H locs hw => ?_)
          replace hw : kW D _ s H locs [(a_t, .inr (5, [.ref a_t_wealth, .ref a_t_given, .ref a_t_row, .int v_t_inside, .int v_t_next, .int v_t_year])), (a_t_wealth, .inl (cI, 8, .inl (upd g_t_wealth p1.toNatClampNeg ((g_t_wealth p1.toNatClampNeg) - p3)))), (a_t_given, .inl (cI, 64, .inl g_t_given))] := hw
          refine lv_aload_n hx hb dX5_hand_31 rfl (lv_at hl 0 rfl) ?_
          refine k_get C hw (CC := RX5) (T := TX5) (N := 6) nX5_hand_X5 0 rfl rfl 0 (by decide) (List.mem_of_getElem? (i := 1) rfl) rfl rfl dX5_hand_32 ?_
          refine lv_iload_n hx hb dX5_hand_35 rfl (lv_at hl 2 rfl) ?_
          refine lv_aload_n hx hb dX5_hand_36 rfl (lv_at hl 0 rfl) ?_
          refine k_get C hw (CC := RX5) (T := TX5) (N := 6) nX5_hand_X5 0 rfl rfl 0 (by decide) (List.mem_of_getElem? (i := 1) rfl) rfl rfl dX5_hand_37 ?_
          refine lv_iload_n hx hb dX5_hand_40 rfl (lv_at hl 2 rfl) ?_
          obtain ⟨h7, hok⟩ := hok
          refine k_iald C hw 1 rfl h7 dX5_hand_41 ?_
          refine lv_iload_n hx hb dX5_hand_42 rfl (lv_at hl 3 rfl) ?_
          refine lv_iadd hx hb dX5_hand_43 ?_
          refine lv_sipush (v := 999) hx hb dX5_hand_44 (by decide) ?_
          refine k_min C (List.mem_of_getElem? (i := 2) rfl) (List.mem_of_getElem? (i := 3) rfl) (List.mem_of_getElem? (i := 4) rfl) (List.mem_of_getElem? (i := 5) rfl) hl.1 (Nat.le_of_ble_eq_true rfl) (Nat.le_of_ble_eq_true rfl) (Nat.zero_le _) (Nat.zero_le _) dX5_hand_47 ?_
          obtain ⟨h8, hok⟩ := hok
          refine k_iast C hw 1 rfl h8 dX5_hand_50 (fun H locs hw => ?_)
          replace hw : kW D _ s H locs [(a_t, .inr (5, [.ref a_t_wealth, .ref a_t_given, .ref a_t_row, .int v_t_inside, .int v_t_next, .int v_t_year])), (a_t_wealth, .inl (cI, 8, .inl (upd (upd g_t_wealth p1.toNatClampNeg ((g_t_wealth p1.toNatClampNeg) - p3)) p2.toNatClampNeg (if 999 < (((upd g_t_wealth p1.toNatClampNeg ((g_t_wealth p1.toNatClampNeg) - p3)) p2.toNatClampNeg) + p3) then 999 else (((upd g_t_wealth p1.toNatClampNeg ((g_t_wealth p1.toNatClampNeg) - p3)) p2.toNatClampNeg) + p3))))), (a_t_given, .inl (cI, 64, .inl g_t_given))] := hw
          refine lv_iload_n hx hb dX5_hand_51 rfl (lv_at hl 1 rfl) ?_
          refine lv_bipush (v := 8) hx hb dX5_hand_52 (by decide) ?_
          refine lv_imul hx hb dX5_hand_54 ?_
          refine lv_iload_n hx hb dX5_hand_55 rfl (lv_at hl 2 rfl) ?_
          refine lv_iadd hx hb dX5_hand_56 ?_
          refine lv_istore (lv' := [(4, .int ((p1 * 8) + p2)), (0, .ref a_t), (1, .int p1), (2, .int p2), (3, .int p3)]) hx hb dX5_hand_57 hl (by decide) rfl (fun ls hl => ?_)
          refine lv_aload_n hx hb dX5_hand_59 rfl (lv_at hl 1 rfl) ?_
          refine k_get C hw (CC := RX5) (T := TX5) (N := 6) nX5_hand_X5 0 rfl rfl 1 (by decide) (List.mem_of_getElem? (i := 6) rfl) rfl rfl dX5_hand_60 ?_
          refine lv_iload hx hb dX5_hand_63 (lv_at hl 0 rfl) ?_
          refine lv_aload_n hx hb dX5_hand_65 rfl (lv_at hl 1 rfl) ?_
          refine k_get C hw (CC := RX5) (T := TX5) (N := 6) nX5_hand_X5 0 rfl rfl 1 (by decide) (List.mem_of_getElem? (i := 6) rfl) rfl rfl dX5_hand_66 ?_
          refine lv_iload hx hb dX5_hand_69 (lv_at hl 0 rfl) ?_
          obtain ⟨h9, hok⟩ := hok
          refine k_iald C hw 2 rfl h9 dX5_hand_71 ?_
          refine lv_iload_n hx hb dX5_hand_72 rfl (lv_at hl 4 rfl) ?_
          refine lv_iadd hx hb dX5_hand_73 ?_
          refine lv_sipush (v := 999) hx hb dX5_hand_74 (by decide) ?_
          refine k_min C (List.mem_of_getElem? (i := 2) rfl) (List.mem_of_getElem? (i := 3) rfl) (List.mem_of_getElem? (i := 4) rfl) (List.mem_of_getElem? (i := 5) rfl) hl.1 (Nat.le_of_ble_eq_true rfl) (Nat.le_of_ble_eq_true rfl) (Nat.zero_le _) (Nat.zero_le _) dX5_hand_77 ?_
          obtain ⟨h10, hok⟩ := hok
          refine k_iast C hw 2 rfl h10 dX5_hand_80 (fun H locs hw => ?_)
          replace hw : kW D _ s H locs [(a_t, .inr (5, [.ref a_t_wealth, .ref a_t_given, .ref a_t_row, .int v_t_inside, .int v_t_next, .int v_t_year])), (a_t_wealth, .inl (cI, 8, .inl (upd (upd g_t_wealth p1.toNatClampNeg ((g_t_wealth p1.toNatClampNeg) - p3)) p2.toNatClampNeg (if 999 < (((upd g_t_wealth p1.toNatClampNeg ((g_t_wealth p1.toNatClampNeg) - p3)) p2.toNatClampNeg) + p3) then 999 else (((upd g_t_wealth p1.toNatClampNeg ((g_t_wealth p1.toNatClampNeg) - p3)) p2.toNatClampNeg) + p3))))), (a_t_given, .inl (cI, 64, .inl (upd g_t_given ((p1 * 8) + p2).toNatClampNeg (if 999 < ((g_t_given ((p1 * 8) + p2).toNatClampNeg) + p3) then 999 else ((g_t_given ((p1 * 8) + p2).toNatClampNeg) + p3)))))] := hw
          rw [show f_X5_hand g_t_wealth g_t_given p1 p2 p3 = ((upd (upd g_t_wealth p1.toNatClampNeg ((g_t_wealth p1.toNatClampNeg) - p3)) p2.toNatClampNeg (if 999 < (((upd g_t_wealth p1.toNatClampNeg ((g_t_wealth p1.toNatClampNeg) - p3)) p2.toNatClampNeg) + p3) then 999 else (((upd g_t_wealth p1.toNatClampNeg ((g_t_wealth p1.toNatClampNeg) - p3)) p2.toNatClampNeg) + p3))), (upd g_t_given ((p1 * 8) + p2).toNatClampNeg (if 999 < ((g_t_given ((p1 * 8) + p2).toNatClampNeg) + p3) then 999 else ((g_t_given ((p1 * 8) + p2).toNatClampNeg) + p3)))) from by
              unfold f_X5_hand
              exact (if_neg c1).trans ((if_neg c2).trans ((if_neg c3).trans ((if_pos c4).trans (rfl))))]
          exact k_vret C hr hw dX5_hand_81
        · rw [show f_X5_hand g_t_wealth g_t_given p1 p2 p3 = (g_t_wealth, g_t_given) from by
              unfold f_X5_hand
              exact (if_neg c1).trans ((if_neg c2).trans ((if_neg c3).trans ((if_neg c4).trans (rfl))))]
          exact k_vret C hr hw dX5_hand_20

theorem nX5_changePlaces_X5 : ∀ w ∈ wsX50, w ∈ wsX5_changePlaces := fun _ h => List.mem_cons_of_mem _ (List.mem_append_right _ h)
def B_X5_changePlaces_2 (x1 : Int32) (x2 : Int32) (j : Nat) (v : (Nat → Int32)) : (Nat → Int32) := (if (v j) = x1 then (upd v j x2) else (if (v j) = x2 then (upd v j x1) else v))
set_option maxHeartbeats 4000000 in
set_option maxRecDepth 100000 in
theorem l_X5_changePlaces_2 {p : Program} {l : Launch} {e : Env} {s : State} {m : MethodId} {args : Array Value} {below : List Frame} {meth : Method} {c : Code} {D : va_G} {cI cZ : ClassId} {Q : State → Prop} {A : Nat → Prop} (a_t a_t_wealth a_t_given a_t_row : Nat) (x1 : Int32) (x2 : Int32) (v_t_inside : Int32) (v_t_next : Int32) (v_t_year : Int32) (C : kC p s m args meth c cX5_changePlaces 4 wsX5_changePlaces RX5 D cI cZ A) : ∀ (n j : Nat) (g_t_row : (Nat → Int32)), n = 8 - j → j < 2147483648 → ∀ (H : Heap) (locs : List Loc), kW D A s H locs [(a_t, .inr (5, [.ref a_t_wealth, .ref a_t_given, .ref a_t_row, .int v_t_inside, .int v_t_next, .int v_t_year])), (a_t_row, .inl (cI, 8, .inl g_t_row))] → ∀ (ls : Array Slot), lv_has ls 4 [(0, .ref a_t), (1, .int x1), (2, .int x2), (3, .int (nI j))] → (∀ (H : Heap) (locs : List Loc) (ls : Array Slot), kW D A s H locs [(a_t, .inr (5, [.ref a_t_wealth, .ref a_t_given, .ref a_t_row, .int v_t_inside, .int v_t_next, .int v_t_year])), (a_t_row, .inl (cI, 8, .inl (it (B_X5_changePlaces_2 x1 x2) j n g_t_row)))] → lv_has ls 4 [] → W p l e ({ frames := 0, cells := 0, slots := 0, locals := 0 }) s m args below meth c H locs 0 0 Q (F0 m 51 ls [])) → W p l e ({ frames := 0, cells := 0, slots := 0, locals := 0 }) s m args below meth c H locs 0 0 Q (F0 m 2 ls []) := by
  have hx := C.hx
  have hb := C.hb
  intro n
  induction n with
  | zero =>
    intro j g_t_row hn hj H locs hw ls hl kk
    refine lv_iload_n hx hb dX5_changePlaces_2 rfl (lv_at hl 3 rfl) ?_
    refine lv_bipush (v := 8) hx hb dX5_changePlaces_3 (by decide) ?_
    refine lv_icmp_ge (tgt := 51) hx hb dX5_changePlaces_5 (by decide) (fun c4 => ?_) (fun c4 => by exact absurd (nI_le (a := 8) (b := j) (by omega) (by omega)) c4)
    exact kk _ _ _ hw (lv_sub hl [] rfl)
  | succ n ih =>
    intro j g_t_row hn hj H locs hw ls hl kk
    refine lv_iload_n hx hb dX5_changePlaces_2 rfl (lv_at hl 3 rfl) ?_
    refine lv_bipush (v := 8) hx hb dX5_changePlaces_3 (by decide) ?_
    refine lv_icmp_ge (tgt := 51) hx hb dX5_changePlaces_5 (by decide) (fun c1 => by exact absurd c1 (nI_ge (a := j) (b := 8) (by omega) (by omega))) (fun c1 => ?_)
    refine lv_aload_n hx hb dX5_changePlaces_8 rfl (lv_at hl 0 rfl) ?_
    refine k_get C hw (CC := RX5) (T := TX5) (N := 6) nX5_changePlaces_X5 0 rfl rfl 2 (by decide) (List.mem_of_getElem? (i := 1) rfl) rfl rfl dX5_changePlaces_9 ?_
    refine lv_iload_n hx hb dX5_changePlaces_12 rfl (lv_at hl 3 rfl) ?_
    refine k_ialdN C hw 1 rfl j rfl (by omega) (by decide) dX5_changePlaces_13 ?_
    refine lv_iload_n hx hb dX5_changePlaces_14 rfl (lv_at hl 1 rfl) ?_
    refine lv_icmp_ne (tgt := 28) hx hb dX5_changePlaces_15 (by decide) (fun c2 => ?_) (fun c2 => ?_)
    · refine lv_aload_n hx hb dX5_changePlaces_28 rfl (lv_at hl 0 rfl) ?_
      refine k_get C hw (CC := RX5) (T := TX5) (N := 6) nX5_changePlaces_X5 0 rfl rfl 2 (by decide) (List.mem_of_getElem? (i := 1) rfl) rfl rfl dX5_changePlaces_29 ?_
      refine lv_iload_n hx hb dX5_changePlaces_32 rfl (lv_at hl 3 rfl) ?_
      refine k_ialdN C hw 1 rfl j rfl (by omega) (by decide) dX5_changePlaces_33 ?_
      refine lv_iload_n hx hb dX5_changePlaces_34 rfl (lv_at hl 2 rfl) ?_
      refine lv_icmp_ne (tgt := 45) hx hb dX5_changePlaces_35 (by decide) (fun c3 => ?_) (fun c3 => ?_)
      · refine lv_iinc (v := (nI (j + 1))) (lv' := [(3, .int (nI (j + 1))), (0, .ref a_t), (1, .int x1), (2, .int x2)]) hx hb dX5_changePlaces_45 hl (k := 3) rfl (nI_1 _) (by decide) rfl (fun ls hl => ?_)
        refine lv_goto (tgt := 2) hx hb dX5_changePlaces_48 (by decide) ?_
        have hB : B_X5_changePlaces_2 x1 x2 j g_t_row = g_t_row := by
          unfold B_X5_changePlaces_2
          exact (if_neg c2).trans ((if_neg c3).trans (rfl))
        rw [it_c hB] at kk
        exact ih (j + 1) g_t_row (by omega) (by omega) _ _ hw _ (lv_sub hl [1, 2, 3, 0] rfl) kk
      · refine lv_aload_n hx hb dX5_changePlaces_38 rfl (lv_at hl 0 rfl) ?_
        refine k_get C hw (CC := RX5) (T := TX5) (N := 6) nX5_changePlaces_X5 0 rfl rfl 2 (by decide) (List.mem_of_getElem? (i := 1) rfl) rfl rfl dX5_changePlaces_39 ?_
        refine lv_iload_n hx hb dX5_changePlaces_42 rfl (lv_at hl 3 rfl) ?_
        refine lv_iload_n hx hb dX5_changePlaces_43 rfl (lv_at hl 1 rfl) ?_
        refine k_iastN C hw 1 rfl j rfl (by omega) (by decide) dX5_changePlaces_44 (fun H locs hw => ?_)
        replace hw : kW D _ s H locs [(a_t, .inr (5, [.ref a_t_wealth, .ref a_t_given, .ref a_t_row, .int v_t_inside, .int v_t_next, .int v_t_year])), (a_t_row, .inl (cI, 8, .inl (upd g_t_row j x1)))] := hw
        refine lv_iinc (v := (nI (j + 1))) (lv' := [(3, .int (nI (j + 1))), (0, .ref a_t), (1, .int x1), (2, .int x2)]) hx hb dX5_changePlaces_45 hl (k := 3) rfl (nI_1 _) (by decide) rfl (fun ls hl => ?_)
        refine lv_goto (tgt := 2) hx hb dX5_changePlaces_48 (by decide) ?_
        have hB : B_X5_changePlaces_2 x1 x2 j g_t_row = (upd g_t_row j x1) := by
          unfold B_X5_changePlaces_2
          exact (if_neg c2).trans ((if_pos c3).trans (rfl))
        rw [it_c hB] at kk
        exact ih (j + 1) (upd g_t_row j x1) (by omega) (by omega) _ _ hw _ (lv_sub hl [1, 2, 3, 0] rfl) kk
    · refine lv_aload_n hx hb dX5_changePlaces_18 rfl (lv_at hl 0 rfl) ?_
      refine k_get C hw (CC := RX5) (T := TX5) (N := 6) nX5_changePlaces_X5 0 rfl rfl 2 (by decide) (List.mem_of_getElem? (i := 1) rfl) rfl rfl dX5_changePlaces_19 ?_
      refine lv_iload_n hx hb dX5_changePlaces_22 rfl (lv_at hl 3 rfl) ?_
      refine lv_iload_n hx hb dX5_changePlaces_23 rfl (lv_at hl 2 rfl) ?_
      refine k_iastN C hw 1 rfl j rfl (by omega) (by decide) dX5_changePlaces_24 (fun H locs hw => ?_)
      replace hw : kW D _ s H locs [(a_t, .inr (5, [.ref a_t_wealth, .ref a_t_given, .ref a_t_row, .int v_t_inside, .int v_t_next, .int v_t_year])), (a_t_row, .inl (cI, 8, .inl (upd g_t_row j x2)))] := hw
      refine lv_goto (tgt := 45) hx hb dX5_changePlaces_25 (by decide) ?_
      refine lv_iinc (v := (nI (j + 1))) (lv' := [(3, .int (nI (j + 1))), (0, .ref a_t), (1, .int x1), (2, .int x2)]) hx hb dX5_changePlaces_45 hl (k := 3) rfl (nI_1 _) (by decide) rfl (fun ls hl => ?_)
      refine lv_goto (tgt := 2) hx hb dX5_changePlaces_48 (by decide) ?_
      have hB : B_X5_changePlaces_2 x1 x2 j g_t_row = (upd g_t_row j x2) := by
        unfold B_X5_changePlaces_2
        exact (if_pos c2).trans (rfl)
      rw [it_c hB] at kk
      exact ih (j + 1) (upd g_t_row j x2) (by omega) (by omega) _ _ hw _ (lv_sub hl [1, 2, 3, 0] rfl) kk
def f_X5_changePlaces (g_t_row : (Nat → Int32)) (p1 : Int32) (p2 : Int32) : (Nat → Int32) := (it (B_X5_changePlaces_2 p1 p2) 0 8 g_t_row)
set_option maxHeartbeats 4000000 in
set_option maxRecDepth 100000 in
theorem T_X5_changePlaces (l : Launch) (D : va_G) (cI cZ : ClassId) (a_t a_t_wealth a_t_given a_t_row : Nat) (v_t_inside : Int32) (v_t_next : Int32) (v_t_year : Int32) (g_t_row : (Nat → Int32)) (p1 : Int32) (p2 : Int32) : CT l D cI cZ yX5_changePlaces wsX5_changePlaces ({ frames := 0, cells := 0, slots := 0, locals := 0 }) [.ref a_t, .int p1, .int p2] [(a_t, .inr (5, [.ref a_t_wealth, .ref a_t_given, .ref a_t_row, .int v_t_inside, .int v_t_next, .int v_t_year])), (a_t_row, .inl (cI, 8, .inl g_t_row))] none [(a_t, .inr (5, [.ref a_t_wealth, .ref a_t_given, .ref a_t_row, .int v_t_inside, .int v_t_next, .int v_t_year])), (a_t_row, .inl (cI, 8, .inl (f_X5_changePlaces g_t_row p1 p2)))] := by
  refine CT.intro RX5 (by decide) rfl (Nat.le_of_ble_eq_true rfl) rfl ?_
  intro p e s m below meth c C hr hw ls hl
  have hx := C.hx
  have hb := C.hb
  replace hl : lv_has ls 4 [(0, .ref a_t), (1, .int p1), (2, .int p2)] := hl
  refine lv_iconst (v := 0) hx hb dX5_changePlaces_0 (by decide) ?_
  refine lv_istore_n (lv' := [(3, .int 0), (0, .ref a_t), (1, .int p1), (2, .int p2)]) hx hb dX5_changePlaces_1 rfl hl (by decide) rfl (fun ls hl => ?_)
  refine l_X5_changePlaces_2 a_t a_t_wealth a_t_given a_t_row p1 p2 v_t_inside v_t_next v_t_year C 8 0 g_t_row (by decide) (by decide) _ _ hw _ (lv_sub hl [1, 2, 3, 0] rfl) (fun H locs ls hw hl => ?_)
  replace hw : kW D _ s H locs [(a_t, .inr (5, [.ref a_t_wealth, .ref a_t_given, .ref a_t_row, .int v_t_inside, .int v_t_next, .int v_t_year])), (a_t_row, .inl (cI, 8, .inl (it (B_X5_changePlaces_2 p1 p2) 0 8 g_t_row)))] := hw
  replace hl : lv_has ls 4 [] := hl
  rw [show f_X5_changePlaces g_t_row p1 p2 = (it (B_X5_changePlaces_2 p1 p2) 0 8 g_t_row) from by
      unfold f_X5_changePlaces
      exact rfl]
  exact k_vret C hr hw dX5_changePlaces_51

def f_X5_perform (v_t_inside : Int32) (v_t_next : Int32) (v_t_year : Int32) (g_t_row : (Nat → Int32)) (g_t_wealth : (Nat → Int32)) (g_t_given : (Nat → Int32)) (p1 : Int32) (p2 : Int32) (p3 : Int32) (p4 : Int32) : Int32 × Int32 × Int32 × (Nat → Int32) × (Nat → Int32) × (Nat → Int32) := (if p1 = 0 then (lt (f_X5_setIn v_t_inside p2 (1 : Int32)) (fun z2 => (z2, v_t_next, v_t_year, g_t_row, g_t_wealth, g_t_given))) else (if p1 = 1 then (lt (f_X5_setIn v_t_inside p2 (0 : Int32)) (fun z5 => (z5, v_t_next, v_t_year, g_t_row, g_t_wealth, g_t_given))) else (if p1 = 2 then (lt (f_X5_hand g_t_wealth g_t_given p2 p3 p4) (fun z9 => (v_t_inside, v_t_next, v_t_year, g_t_row, z9.1, z9.2))) else (if p1 = 3 then (lt (f_X5_changePlaces g_t_row p2 p3) (fun z12 => (v_t_inside, v_t_next, v_t_year, z12, g_t_wealth, g_t_given))) else (lt (f_X5_passYear v_t_next v_t_year g_t_row) (fun z15 => (z15.1, z15.2.1, z15.2.2, g_t_row, g_t_wealth, g_t_given)))))))
def o_X5_perform (v_t_next : Int32) (p1 : Int32) (p2 : Int32) (p3 : Int32) : Prop := (if p1 = 0 then True else (if p1 = 1 then True else (if p1 = 2 then ((o_X5_hand p2 p3) ∧ True) else (if p1 = 3 then True else ((o_X5_passYear v_t_next) ∧ True)))))
set_option maxHeartbeats 4000000 in
set_option maxRecDepth 100000 in
theorem T_X5_perform (l : Launch) (D : va_G) (cI cZ : ClassId) (a_t a_t_wealth a_t_given a_t_row : Nat) (v_t_inside : Int32) (v_t_next : Int32) (v_t_year : Int32) (g_t_row : (Nat → Int32)) (g_t_wealth : (Nat → Int32)) (g_t_given : (Nat → Int32)) (p1 : Int32) (p2 : Int32) (p3 : Int32) (p4 : Int32) (hok : o_X5_perform v_t_next p1 p2 p3) : CT l D cI cZ yX5_perform wsX5_perform ({ frames := 2, cells := 0, slots := 0, locals := 45 }) [.ref a_t, .int p1, .int p2, .int p3, .int p4] [(a_t, .inr (5, [.ref a_t_wealth, .ref a_t_given, .ref a_t_row, .int v_t_inside, .int v_t_next, .int v_t_year])), (a_t_row, .inl (cI, 8, .inl g_t_row)), (a_t_wealth, .inl (cI, 8, .inl g_t_wealth)), (a_t_given, .inl (cI, 64, .inl g_t_given))] none [(a_t, .inr (5, [.ref a_t_wealth, .ref a_t_given, .ref a_t_row, .int (f_X5_perform v_t_inside v_t_next v_t_year g_t_row g_t_wealth g_t_given p1 p2 p3 p4).1, .int (f_X5_perform v_t_inside v_t_next v_t_year g_t_row g_t_wealth g_t_given p1 p2 p3 p4).2.1, .int (f_X5_perform v_t_inside v_t_next v_t_year g_t_row g_t_wealth g_t_given p1 p2 p3 p4).2.2.1])), (a_t_row, .inl (cI, 8, .inl (f_X5_perform v_t_inside v_t_next v_t_year g_t_row g_t_wealth g_t_given p1 p2 p3 p4).2.2.2.1)), (a_t_wealth, .inl (cI, 8, .inl (f_X5_perform v_t_inside v_t_next v_t_year g_t_row g_t_wealth g_t_given p1 p2 p3 p4).2.2.2.2.1)), (a_t_given, .inl (cI, 64, .inl (f_X5_perform v_t_inside v_t_next v_t_year g_t_row g_t_wealth g_t_given p1 p2 p3 p4).2.2.2.2.2))] := by
  refine CT.intro RX5 (by decide) rfl (Nat.le_of_ble_eq_true rfl) rfl ?_
  intro p e s m below meth c C hr hw ls hl
  have hx := C.hx
  have hb := C.hb
  replace hl : lv_has ls 5 [(0, .ref a_t), (1, .int p1), (2, .int p2), (3, .int p3), (4, .int p4)] := hl
  refine lv_iload_n hx hb dX5_perform_0 rfl (lv_at hl 1 rfl) ?_
  by_cases c1 : p1 = 0
  · refine lv_tableIn (tgt := 32) hx hb dX5_perform_1 (by rw [c1]; decide) (by rw [c1]; decide) (by rw [c1]; rfl) (by decide) ?_
    refine lv_aload_n hx hb dX5_perform_32 rfl (lv_at hl 0 rfl) ?_
    refine lv_iload_n hx hb dX5_perform_33 rfl (lv_at hl 2 rfl) ?_
    refine lv_iconst (v := 1) hx hb dX5_perform_34 (by decide) ?_
    refine k_callV (As := [.int p2, .int 1]) (rest := []) (n := 2) (CC := RX5) (T := TX5) (N := 6) C hw (T_X5_setIn l D cI cZ a_t a_t_wealth a_t_given a_t_row v_t_inside v_t_next v_t_year p2 (1 : Int32)) gX5_perform_X5_setIn rfl ⟨rfl, rfl⟩ (by decide +kernel) ⟨Nat.le_of_ble_eq_true rfl, Nat.le_of_ble_eq_true rfl⟩ 0 rfl rfl [0] rfl rfl [a_t] rfl rfl rfl hl.1 rfl (Nat.le_of_ble_eq_true rfl) ⟨Nat.zero_le _, Nat.zero_le _⟩ dX5_perform_35 (fun H locs hw => ?_)
    obtain ⟨z2, h3⟩ : ∃ z, (f_X5_setIn v_t_inside p2 (1 : Int32)) = z := ⟨_, rfl⟩
    refine W.eq (g2 := F0 m 38 ls []) (by subst h3; rfl) ?_
    replace hw := kW_cast (ws' := [(a_t, .inr (5, [.ref a_t_wealth, .ref a_t_given, .ref a_t_row, .int z2, .int v_t_next, .int v_t_year])), (a_t_row, .inl (cI, 8, .inl g_t_row)), (a_t_wealth, .inl (cI, 8, .inl g_t_wealth)), (a_t_given, .inl (cI, 64, .inl g_t_given))]) (by subst h3; rfl) hw
    refine lv_goto (tgt := 74) hx hb dX5_perform_38 (by decide) ?_
    rw [show f_X5_perform v_t_inside v_t_next v_t_year g_t_row g_t_wealth g_t_given p1 p2 p3 p4 = (z2, v_t_next, v_t_year, g_t_row, g_t_wealth, g_t_given) from by
        unfold f_X5_perform
        exact (if_pos c1).trans ((lt_c h3).trans (rfl))]
    exact k_vret C hr hw dX5_perform_74
  · replace hok := Eq.mp (if_neg c1) hok
    by_cases c4 : p1 = 1
    · refine lv_tableIn (tgt := 41) hx hb dX5_perform_1 (by rw [c4]; decide) (by rw [c4]; decide) (by rw [c4]; rfl) (by decide) ?_
      refine lv_aload_n hx hb dX5_perform_41 rfl (lv_at hl 0 rfl) ?_
      refine lv_iload_n hx hb dX5_perform_42 rfl (lv_at hl 2 rfl) ?_
      refine lv_iconst (v := 0) hx hb dX5_perform_43 (by decide) ?_
      refine k_callV (As := [.int p2, .int 0]) (rest := []) (n := 2) (CC := RX5) (T := TX5) (N := 6) C hw (T_X5_setIn l D cI cZ a_t a_t_wealth a_t_given a_t_row v_t_inside v_t_next v_t_year p2 (0 : Int32)) gX5_perform_X5_setIn rfl ⟨rfl, rfl⟩ (by decide +kernel) ⟨Nat.le_of_ble_eq_true rfl, Nat.le_of_ble_eq_true rfl⟩ 0 rfl rfl [0] rfl rfl [a_t] rfl rfl rfl hl.1 rfl (Nat.le_of_ble_eq_true rfl) ⟨Nat.zero_le _, Nat.zero_le _⟩ dX5_perform_44 (fun H locs hw => ?_)
      obtain ⟨z5, h6⟩ : ∃ z, (f_X5_setIn v_t_inside p2 (0 : Int32)) = z := ⟨_, rfl⟩
      refine W.eq (g2 := F0 m 47 ls []) (by subst h6; rfl) ?_
      replace hw := kW_cast (ws' := [(a_t, .inr (5, [.ref a_t_wealth, .ref a_t_given, .ref a_t_row, .int z5, .int v_t_next, .int v_t_year])), (a_t_row, .inl (cI, 8, .inl g_t_row)), (a_t_wealth, .inl (cI, 8, .inl g_t_wealth)), (a_t_given, .inl (cI, 64, .inl g_t_given))]) (by subst h6; rfl) hw
      refine lv_goto (tgt := 74) hx hb dX5_perform_47 (by decide) ?_
      rw [show f_X5_perform v_t_inside v_t_next v_t_year g_t_row g_t_wealth g_t_given p1 p2 p3 p4 = (z5, v_t_next, v_t_year, g_t_row, g_t_wealth, g_t_given) from by
          unfold f_X5_perform
          exact (if_neg c1).trans ((if_pos c4).trans ((lt_c h6).trans (rfl)))]
      exact k_vret C hr hw dX5_perform_74
    · replace hok := Eq.mp (if_neg c4) hok
      by_cases c7 : p1 = 2
      · replace hok := Eq.mp (if_pos c7) hok
        refine lv_tableIn (tgt := 50) hx hb dX5_perform_1 (by rw [c7]; decide) (by rw [c7]; decide) (by rw [c7]; rfl) (by decide) ?_
        refine lv_aload_n hx hb dX5_perform_50 rfl (lv_at hl 0 rfl) ?_
        refine lv_iload_n hx hb dX5_perform_51 rfl (lv_at hl 2 rfl) ?_
        refine lv_iload_n hx hb dX5_perform_52 rfl (lv_at hl 3 rfl) ?_
        refine lv_iload hx hb dX5_perform_53 (lv_at hl 4 rfl) ?_
        obtain ⟨h8, hok⟩ := hok
        refine k_callV (As := [.int p2, .int p3, .int p4]) (rest := []) (n := 3) (CC := RX5) (T := TX5) (N := 6) C hw (T_X5_hand l D cI cZ a_t a_t_wealth a_t_given a_t_row v_t_inside v_t_next v_t_year g_t_wealth g_t_given p2 p3 p4 h8) gX5_perform_X5_hand rfl ⟨rfl, rfl⟩ (by decide +kernel) ⟨Nat.le_of_ble_eq_true rfl, Nat.le_of_ble_eq_true rfl⟩ 0 rfl rfl [0, 2, 3] rfl rfl [a_t, a_t_wealth, a_t_given] rfl rfl rfl hl.1 rfl (Nat.le_of_ble_eq_true rfl) ⟨Nat.zero_le _, Nat.zero_le _⟩ dX5_perform_55 (fun H locs hw => ?_)
        obtain ⟨z9, h10⟩ : ∃ z, (f_X5_hand g_t_wealth g_t_given p2 p3 p4) = z := ⟨_, rfl⟩
        refine W.eq (g2 := F0 m 58 ls []) (by subst h10; rfl) ?_
        replace hw := kW_cast (ws' := [(a_t, .inr (5, [.ref a_t_wealth, .ref a_t_given, .ref a_t_row, .int v_t_inside, .int v_t_next, .int v_t_year])), (a_t_row, .inl (cI, 8, .inl g_t_row)), (a_t_wealth, .inl (cI, 8, .inl z9.1)), (a_t_given, .inl (cI, 64, .inl z9.2))]) (by subst h10; rfl) hw
        refine lv_goto (tgt := 74) hx hb dX5_perform_58 (by decide) ?_
        rw [show f_X5_perform v_t_inside v_t_next v_t_year g_t_row g_t_wealth g_t_given p1 p2 p3 p4 = (v_t_inside, v_t_next, v_t_year, g_t_row, z9.1, z9.2) from by
            unfold f_X5_perform
            exact (if_neg c1).trans ((if_neg c4).trans ((if_pos c7).trans ((lt_c h10).trans (rfl))))]
        exact k_vret C hr hw dX5_perform_74
      · replace hok := Eq.mp (if_neg c7) hok
        by_cases c11 : p1 = 3
        · refine lv_tableIn (tgt := 61) hx hb dX5_perform_1 (by rw [c11]; decide) (by rw [c11]; decide) (by rw [c11]; rfl) (by decide) ?_
          refine lv_aload_n hx hb dX5_perform_61 rfl (lv_at hl 0 rfl) ?_
          refine lv_iload_n hx hb dX5_perform_62 rfl (lv_at hl 2 rfl) ?_
          refine lv_iload_n hx hb dX5_perform_63 rfl (lv_at hl 3 rfl) ?_
          refine k_callV (As := [.int p2, .int p3]) (rest := []) (n := 2) (CC := RX5) (T := TX5) (N := 6) C hw (T_X5_changePlaces l D cI cZ a_t a_t_wealth a_t_given a_t_row v_t_inside v_t_next v_t_year g_t_row p2 p3) gX5_perform_X5_changePlaces rfl ⟨rfl, rfl⟩ (by decide +kernel) ⟨Nat.le_of_ble_eq_true rfl, Nat.le_of_ble_eq_true rfl⟩ 0 rfl rfl [0, 1] rfl rfl [a_t, a_t_row] rfl rfl rfl hl.1 rfl (Nat.le_of_ble_eq_true rfl) ⟨Nat.zero_le _, Nat.zero_le _⟩ dX5_perform_64 (fun H locs hw => ?_)
          obtain ⟨z12, h13⟩ : ∃ z, (f_X5_changePlaces g_t_row p2 p3) = z := ⟨_, rfl⟩
          refine W.eq (g2 := F0 m 67 ls []) (by subst h13; rfl) ?_
          replace hw := kW_cast (ws' := [(a_t, .inr (5, [.ref a_t_wealth, .ref a_t_given, .ref a_t_row, .int v_t_inside, .int v_t_next, .int v_t_year])), (a_t_row, .inl (cI, 8, .inl z12)), (a_t_wealth, .inl (cI, 8, .inl g_t_wealth)), (a_t_given, .inl (cI, 64, .inl g_t_given))]) (by subst h13; rfl) hw
          refine lv_goto (tgt := 74) hx hb dX5_perform_67 (by decide) ?_
          rw [show f_X5_perform v_t_inside v_t_next v_t_year g_t_row g_t_wealth g_t_given p1 p2 p3 p4 = (v_t_inside, v_t_next, v_t_year, z12, g_t_wealth, g_t_given) from by
              unfold f_X5_perform
              exact (if_neg c1).trans ((if_neg c4).trans ((if_neg c7).trans ((if_pos c11).trans ((lt_c h13).trans (rfl)))))]
          exact k_vret C hr hw dX5_perform_74
        · replace hok := Eq.mp (if_neg c11) hok
          refine lv_tableOut (tgt := 70) hx hb dX5_perform_1 (tab_out4 c1 c4 c7 c11) (by decide) ?_
          refine lv_aload_n hx hb dX5_perform_70 rfl (lv_at hl 0 rfl) ?_
          obtain ⟨h14, hok⟩ := hok
          refine k_callV (As := []) (rest := []) (n := 0) (CC := RX5) (T := TX5) (N := 6) C hw (T_X5_passYear l D cI cZ a_t a_t_wealth a_t_given a_t_row v_t_inside v_t_next v_t_year g_t_row h14) gX5_perform_X5_passYear rfl ⟨rfl, rfl⟩ (by decide +kernel) ⟨Nat.le_of_ble_eq_true rfl, Nat.le_of_ble_eq_true rfl⟩ 0 rfl rfl [0, 1] rfl rfl [a_t, a_t_row] rfl rfl rfl hl.1 rfl (Nat.le_of_ble_eq_true rfl) ⟨Nat.zero_le _, Nat.zero_le _⟩ dX5_perform_71 (fun H locs hw => ?_)
          obtain ⟨z15, h16⟩ : ∃ z, (f_X5_passYear v_t_next v_t_year g_t_row) = z := ⟨_, rfl⟩
          refine W.eq (g2 := F0 m 74 ls []) (by subst h16; rfl) ?_
          replace hw := kW_cast (ws' := [(a_t, .inr (5, [.ref a_t_wealth, .ref a_t_given, .ref a_t_row, .int z15.1, .int z15.2.1, .int z15.2.2])), (a_t_row, .inl (cI, 8, .inl g_t_row)), (a_t_wealth, .inl (cI, 8, .inl g_t_wealth)), (a_t_given, .inl (cI, 64, .inl g_t_given))]) (by subst h16; rfl) hw
          rw [show f_X5_perform v_t_inside v_t_next v_t_year g_t_row g_t_wealth g_t_given p1 p2 p3 p4 = (z15.1, z15.2.1, z15.2.2, g_t_row, g_t_wealth, g_t_given) from by
              unfold f_X5_perform
              exact (if_neg c1).trans ((if_neg c4).trans ((if_neg c7).trans ((if_neg c11).trans ((lt_c h16).trans (rfl)))))]
          exact k_vret C hr hw dX5_perform_74

