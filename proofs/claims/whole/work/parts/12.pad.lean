theorem nX4_clear_X4 : ∀ w ∈ wsX40, w ∈ wsX4_clear := fun _ h => List.mem_cons_of_mem _ (List.mem_append_right _ h)
def f_X4_clear : Int32 × Int32 × Int32 × Int32 := (0, 0, (-6), 0)
set_option maxHeartbeats 4000000 in
set_option maxRecDepth 100000 in
theorem T_X4_clear (l : Launch) (D : va_G) (cI cZ : ClassId) (a_t a_t_kinds a_t_ones a_t_others a_t_amounts : Nat) (v_t_acts : Int32) (v_t_signs : Int32) (v_t_wrongPlace : Int32) (v_t_expected : Int32) (v_t_one : Int32) (v_t_other : Int32) : CT l D cI cZ yX4_clear wsX4_clear ({ frames := 0, cells := 0, slots := 0, locals := 0 }) [.ref a_t] [(a_t, .inr (4, [.ref a_t_kinds, .ref a_t_ones, .ref a_t_others, .ref a_t_amounts, .int v_t_acts, .int v_t_signs, .int v_t_wrongPlace, .int v_t_expected, .int v_t_one, .int v_t_other]))] none [(a_t, .inr (4, [.ref a_t_kinds, .ref a_t_ones, .ref a_t_others, .ref a_t_amounts, .int f_X4_clear.1, .int f_X4_clear.2.1, .int f_X4_clear.2.2.1, .int f_X4_clear.2.2.2, .int v_t_one, .int v_t_other]))] := by
  refine CT.intro RX4 (by decide) rfl (Nat.le_of_ble_eq_true rfl) rfl ?_
  intro p e s m below meth c C hr hw ls hl
  have hx := C.hx
  have hb := C.hb
  replace hl : lv_has ls 1 [(0, .ref a_t)] := hl
  refine lv_aload_n hx hb dX4_clear_0 rfl (lv_at hl 0 rfl) ?_
  refine lv_iconst (v := 0) hx hb dX4_clear_1 (by decide) ?_
  refine k_put C hw (CC := RX4) (T := TX4) (N := 10) (v := .int 0) nX4_clear_X4 tyX4_ok nmX4 0 rfl rfl 4 (by decide) (List.mem_of_getElem? (i := 1) rfl) rfl rfl rfl rfl (Nat.le_of_ble_eq_true rfl) dX4_clear_2 (fun H locs hw => ?_)
  replace hw : kW D _ s H locs [(a_t, .inr (4, [.ref a_t_kinds, .ref a_t_ones, .ref a_t_others, .ref a_t_amounts, .int 0, .int v_t_signs, .int v_t_wrongPlace, .int v_t_expected, .int v_t_one, .int v_t_other]))] := hw
  refine lv_aload_n hx hb dX4_clear_5 rfl (lv_at hl 0 rfl) ?_
  refine lv_iconst (v := 0) hx hb dX4_clear_6 (by decide) ?_
  refine k_put C hw (CC := RX4) (T := TX4) (N := 10) (v := .int 0) nX4_clear_X4 tyX4_ok nmX4 0 rfl rfl 5 (by decide) (List.mem_of_getElem? (i := 2) rfl) rfl rfl rfl rfl (Nat.le_of_ble_eq_true rfl) dX4_clear_7 (fun H locs hw => ?_)
  replace hw : kW D _ s H locs [(a_t, .inr (4, [.ref a_t_kinds, .ref a_t_ones, .ref a_t_others, .ref a_t_amounts, .int 0, .int 0, .int v_t_wrongPlace, .int v_t_expected, .int v_t_one, .int v_t_other]))] := hw
  refine lv_aload_n hx hb dX4_clear_10 rfl (lv_at hl 0 rfl) ?_
  refine lv_bipush (v := (-6)) hx hb dX4_clear_11 (by decide) ?_
  refine k_put C hw (CC := RX4) (T := TX4) (N := 10) (v := .int (-6)) nX4_clear_X4 tyX4_ok nmX4 0 rfl rfl 6 (by decide) (List.mem_of_getElem? (i := 3) rfl) rfl rfl rfl rfl (Nat.le_of_ble_eq_true rfl) dX4_clear_13 (fun H locs hw => ?_)
  replace hw : kW D _ s H locs [(a_t, .inr (4, [.ref a_t_kinds, .ref a_t_ones, .ref a_t_others, .ref a_t_amounts, .int 0, .int 0, .int (-6), .int v_t_expected, .int v_t_one, .int v_t_other]))] := hw
  refine lv_aload_n hx hb dX4_clear_16 rfl (lv_at hl 0 rfl) ?_
  refine lv_iconst (v := 0) hx hb dX4_clear_17 (by decide) ?_
  refine k_put C hw (CC := RX4) (T := TX4) (N := 10) (v := .int 0) nX4_clear_X4 tyX4_ok nmX4 0 rfl rfl 7 (by decide) (List.mem_of_getElem? (i := 4) rfl) rfl rfl rfl rfl (Nat.le_of_ble_eq_true rfl) dX4_clear_18 (fun H locs hw => ?_)
  replace hw : kW D _ s H locs [(a_t, .inr (4, [.ref a_t_kinds, .ref a_t_ones, .ref a_t_others, .ref a_t_amounts, .int 0, .int 0, .int (-6), .int 0, .int v_t_one, .int v_t_other]))] := hw
  rw [show f_X4_clear = (0, 0, (-6), 0) from by
      unfold f_X4_clear
      exact rfl]
  exact k_vret C hr hw dX4_clear_21

theorem nX4_faultPlace_X4 : ∀ w ∈ wsX40, w ∈ wsX4_faultPlace := fun _ h => List.mem_cons_of_mem _ (List.mem_append_right _ h)
def f_X4_faultPlace (v_t_signs : Int32) (v_t_wrongPlace : Int32) (v_t_expected : Int32) : Int32 := (if v_t_wrongPlace = (-6) then (if v_t_expected = 0 then (-6) else v_t_signs) else v_t_wrongPlace)
set_option maxHeartbeats 4000000 in
set_option maxRecDepth 100000 in
theorem T_X4_faultPlace (l : Launch) (D : va_G) (cI cZ : ClassId) (a_t a_t_kinds a_t_ones a_t_others a_t_amounts : Nat) (v_t_acts : Int32) (v_t_signs : Int32) (v_t_wrongPlace : Int32) (v_t_expected : Int32) (v_t_one : Int32) (v_t_other : Int32) : CT l D cI cZ yX4_faultPlace wsX4_faultPlace ({ frames := 0, cells := 0, slots := 0, locals := 0 }) [.ref a_t] [(a_t, .inr (4, [.ref a_t_kinds, .ref a_t_ones, .ref a_t_others, .ref a_t_amounts, .int v_t_acts, .int v_t_signs, .int v_t_wrongPlace, .int v_t_expected, .int v_t_one, .int v_t_other]))] (some (.int (f_X4_faultPlace v_t_signs v_t_wrongPlace v_t_expected))) [(a_t, .inr (4, [.ref a_t_kinds, .ref a_t_ones, .ref a_t_others, .ref a_t_amounts, .int v_t_acts, .int v_t_signs, .int v_t_wrongPlace, .int v_t_expected, .int v_t_one, .int v_t_other]))] := by
  refine CT.intro RX4 (by decide) rfl (Nat.le_of_ble_eq_true rfl) rfl ?_
  intro p e s m below meth c C hr hw ls hl
  have hx := C.hx
  have hb := C.hb
  replace hl : lv_has ls 1 [(0, .ref a_t)] := hl
  refine lv_aload_n hx hb dX4_faultPlace_0 rfl (lv_at hl 0 rfl) ?_
  refine k_get C hw (CC := RX4) (T := TX4) (N := 10) nX4_faultPlace_X4 0 rfl rfl 6 (by decide) (List.mem_of_getElem? (i := 1) rfl) rfl rfl dX4_faultPlace_1 ?_
  refine lv_bipush (v := (-6)) hx hb dX4_faultPlace_4 (by decide) ?_
  refine lv_icmp_eq (tgt := 14) hx hb dX4_faultPlace_6 (by decide) (fun c1 => ?_) (fun c1 => ?_)
  · refine lv_aload_n hx hb dX4_faultPlace_14 rfl (lv_at hl 0 rfl) ?_
    refine k_get C hw (CC := RX4) (T := TX4) (N := 10) nX4_faultPlace_X4 0 rfl rfl 7 (by decide) (List.mem_of_getElem? (i := 2) rfl) rfl rfl dX4_faultPlace_15 ?_
    refine lv_if_ne (tgt := 26) hx hb dX4_faultPlace_18 (by decide) (fun c2 => ?_) (fun c2 => ?_)
    · refine lv_aload_n hx hb dX4_faultPlace_26 rfl (lv_at hl 0 rfl) ?_
      refine k_get C hw (CC := RX4) (T := TX4) (N := 10) nX4_faultPlace_X4 0 rfl rfl 5 (by decide) (List.mem_of_getElem? (i := 3) rfl) rfl rfl dX4_faultPlace_27 ?_
      rw [show f_X4_faultPlace v_t_signs v_t_wrongPlace v_t_expected = v_t_signs from by
          unfold f_X4_faultPlace
          exact (if_pos c1).trans ((if_neg c2).trans (rfl))]
      exact k_iret C hr hw dX4_faultPlace_30
    · refine lv_bipush (v := (-6)) hx hb dX4_faultPlace_21 (by decide) ?_
      refine lv_goto (tgt := 30) hx hb dX4_faultPlace_23 (by decide) ?_
      rw [show f_X4_faultPlace v_t_signs v_t_wrongPlace v_t_expected = (-6) from by
          unfold f_X4_faultPlace
          exact (if_pos c1).trans ((if_pos c2).trans (rfl))]
      exact k_iret C hr hw dX4_faultPlace_30
  · refine lv_aload_n hx hb dX4_faultPlace_9 rfl (lv_at hl 0 rfl) ?_
    refine k_get C hw (CC := RX4) (T := TX4) (N := 10) nX4_faultPlace_X4 0 rfl rfl 6 (by decide) (List.mem_of_getElem? (i := 1) rfl) rfl rfl dX4_faultPlace_10 ?_
    rw [show f_X4_faultPlace v_t_signs v_t_wrongPlace v_t_expected = v_t_wrongPlace from by
        unfold f_X4_faultPlace
        exact (if_neg c1).trans (rfl)]
    exact k_iret C hr hw dX4_faultPlace_13

def f_X4_isLetter (p1 : Int32) : Int32 := (if p1 < 65 then 0 else (if 73 ≤ p1 then 0 else 1))
set_option maxHeartbeats 4000000 in
set_option maxRecDepth 100000 in
theorem T_X4_isLetter (l : Launch) (D : va_G) (cI cZ : ClassId) (p1 : Int32) : CT l D cI cZ yX4_isLetter wsX4_isLetter ({ frames := 0, cells := 0, slots := 0, locals := 0 }) [.int p1] [] (some (.int (f_X4_isLetter p1))) [] := by
  refine CT.intro RX4 (by decide) rfl (Nat.le_of_ble_eq_true rfl) rfl ?_
  intro p e s m below meth c C hr hw ls hl
  have hx := C.hx
  have hb := C.hb
  replace hl : lv_has ls 1 [(0, .int p1)] := hl
  refine lv_iload_n hx hb dX4_isLetter_0 rfl (lv_at hl 0 rfl) ?_
  refine lv_bipush (v := 65) hx hb dX4_isLetter_1 (by decide) ?_
  refine lv_icmp_lt (tgt := 16) hx hb dX4_isLetter_3 (by decide) (fun c1 => ?_) (fun c1 => ?_)
  · refine lv_iconst (v := 0) hx hb dX4_isLetter_16 (by decide) ?_
    rw [show f_X4_isLetter p1 = 0 from by
        unfold f_X4_isLetter
        exact (if_pos c1).trans (rfl)]
    exact k_zret (v := 0) C hr hw nz0 dX4_isLetter_17
  · refine lv_iload_n hx hb dX4_isLetter_6 rfl (lv_at hl 0 rfl) ?_
    refine lv_bipush (v := 73) hx hb dX4_isLetter_7 (by decide) ?_
    refine lv_icmp_ge (tgt := 16) hx hb dX4_isLetter_9 (by decide) (fun c2 => ?_) (fun c2 => ?_)
    · refine lv_iconst (v := 0) hx hb dX4_isLetter_16 (by decide) ?_
      rw [show f_X4_isLetter p1 = 0 from by
          unfold f_X4_isLetter
          exact (if_neg c1).trans ((if_pos c2).trans (rfl))]
      exact k_zret (v := 0) C hr hw nz0 dX4_isLetter_17
    · refine lv_iconst (v := 1) hx hb dX4_isLetter_12 (by decide) ?_
      refine lv_goto (tgt := 17) hx hb dX4_isLetter_13 (by decide) ?_
      rw [show f_X4_isLetter p1 = 1 from by
          unfold f_X4_isLetter
          exact (if_neg c1).trans ((if_neg c2).trans (rfl))]
      exact k_zret (v := 1) C hr hw nz1 dX4_isLetter_17

theorem nX4_addAct_X4 : ∀ w ∈ wsX40, w ∈ wsX4_addAct := fun _ h => List.mem_cons_of_mem _ (List.mem_append_right _ h)
def f_X4_addAct (v_t_acts : Int32) (v_t_one : Int32) (v_t_other : Int32) (g_t_kinds : (Nat → Int32)) (g_t_ones : (Nat → Int32)) (g_t_others : (Nat → Int32)) (g_t_amounts : (Nat → Int32)) (p1 : Int32) (p2 : Int32) : Int32 × Int32 × (Nat → Int32) × (Nat → Int32) × (Nat → Int32) × (Nat → Int32) := (if 60 ≤ v_t_acts then (v_t_acts, 0, g_t_kinds, g_t_ones, g_t_others, g_t_amounts) else ((v_t_acts + 1), 0, (upd g_t_kinds v_t_acts.toNatClampNeg p1), (upd g_t_ones v_t_acts.toNatClampNeg v_t_one), (upd g_t_others v_t_acts.toNatClampNeg v_t_other), (upd g_t_amounts v_t_acts.toNatClampNeg p2)))
def o_X4_addAct (v_t_acts : Int32) : Prop := (if 60 ≤ v_t_acts then True else ((vp_in v_t_acts 60) ∧ ((vp_in v_t_acts 60) ∧ ((vp_in v_t_acts 60) ∧ ((vp_in v_t_acts 60) ∧ True)))))
set_option maxHeartbeats 4000000 in
set_option maxRecDepth 100000 in
theorem T_X4_addAct (l : Launch) (D : va_G) (cI cZ : ClassId) (a_t a_t_kinds a_t_ones a_t_others a_t_amounts : Nat) (v_t_acts : Int32) (v_t_signs : Int32) (v_t_wrongPlace : Int32) (v_t_expected : Int32) (v_t_one : Int32) (v_t_other : Int32) (g_t_kinds : (Nat → Int32)) (g_t_ones : (Nat → Int32)) (g_t_others : (Nat → Int32)) (g_t_amounts : (Nat → Int32)) (p1 : Int32) (p2 : Int32) (hok : o_X4_addAct v_t_acts) : CT l D cI cZ yX4_addAct wsX4_addAct ({ frames := 0, cells := 0, slots := 0, locals := 0 }) [.ref a_t, .int p1, .int p2] [(a_t, .inr (4, [.ref a_t_kinds, .ref a_t_ones, .ref a_t_others, .ref a_t_amounts, .int v_t_acts, .int v_t_signs, .int v_t_wrongPlace, .int v_t_expected, .int v_t_one, .int v_t_other])), (a_t_kinds, .inl (cI, 60, .inl g_t_kinds)), (a_t_ones, .inl (cI, 60, .inl g_t_ones)), (a_t_others, .inl (cI, 60, .inl g_t_others)), (a_t_amounts, .inl (cI, 60, .inl g_t_amounts))] none [(a_t, .inr (4, [.ref a_t_kinds, .ref a_t_ones, .ref a_t_others, .ref a_t_amounts, .int (f_X4_addAct v_t_acts v_t_one v_t_other g_t_kinds g_t_ones g_t_others g_t_amounts p1 p2).1, .int v_t_signs, .int v_t_wrongPlace, .int (f_X4_addAct v_t_acts v_t_one v_t_other g_t_kinds g_t_ones g_t_others g_t_amounts p1 p2).2.1, .int v_t_one, .int v_t_other])), (a_t_kinds, .inl (cI, 60, .inl (f_X4_addAct v_t_acts v_t_one v_t_other g_t_kinds g_t_ones g_t_others g_t_amounts p1 p2).2.2.1)), (a_t_ones, .inl (cI, 60, .inl (f_X4_addAct v_t_acts v_t_one v_t_other g_t_kinds g_t_ones g_t_others g_t_amounts p1 p2).2.2.2.1)), (a_t_others, .inl (cI, 60, .inl (f_X4_addAct v_t_acts v_t_one v_t_other g_t_kinds g_t_ones g_t_others g_t_amounts p1 p2).2.2.2.2.1)), (a_t_amounts, .inl (cI, 60, .inl (f_X4_addAct v_t_acts v_t_one v_t_other g_t_kinds g_t_ones g_t_others g_t_amounts p1 p2).2.2.2.2.2))] := by
  refine CT.intro RX4 (by decide) rfl (Nat.le_of_ble_eq_true rfl) rfl ?_
  intro p e s m below meth c C hr hw ls hl
  have hx := C.hx
  have hb := C.hb
  replace hl : lv_has ls 3 [(0, .ref a_t), (1, .int p1), (2, .int p2)] := hl
  refine lv_aload_n hx hb dX4_addAct_0 rfl (lv_at hl 0 rfl) ?_
  refine k_get C hw (CC := RX4) (T := TX4) (N := 10) nX4_addAct_X4 0 rfl rfl 4 (by decide) (List.mem_of_getElem? (i := 1) rfl) rfl rfl dX4_addAct_1 ?_
  refine lv_bipush (v := 60) hx hb dX4_addAct_4 (by decide) ?_
  refine lv_icmp_ge (tgt := 65) hx hb dX4_addAct_6 (by decide) (fun c1 => ?_) (fun c1 => ?_)
  · refine lv_aload_n hx hb dX4_addAct_65 rfl (lv_at hl 0 rfl) ?_
    refine lv_iconst (v := 0) hx hb dX4_addAct_66 (by decide) ?_
    refine k_put C hw (CC := RX4) (T := TX4) (N := 10) (v := .int 0) nX4_addAct_X4 tyX4_ok nmX4 0 rfl rfl 7 (by decide) (List.mem_of_getElem? (i := 8) rfl) rfl rfl rfl rfl (Nat.le_of_ble_eq_true rfl) dX4_addAct_67 (fun H locs hw => ?_)
    replace hw : kW D _ s H locs [(a_t, .inr (4, [.ref a_t_kinds, .ref a_t_ones, .ref a_t_others, .ref a_t_amounts, .int v_t_acts, .int v_t_signs, .int v_t_wrongPlace, .int 0, .int v_t_one, .int v_t_other])), (a_t_kinds, .inl (cI, 60, .inl g_t_kinds)), (a_t_ones, .inl (cI, 60, .inl g_t_ones)), (a_t_others, .inl (cI, 60, .inl g_t_others)), (a_t_amounts, .inl (cI, 60, .inl g_t_amounts))] := hw
    rw [show f_X4_addAct v_t_acts v_t_one v_t_other g_t_kinds g_t_ones g_t_others g_t_amounts p1 p2 = (v_t_acts, 0, g_t_kinds, g_t_ones, g_t_others, g_t_amounts) from by
        unfold f_X4_addAct
        exact (if_pos c1).trans (rfl)]
    exact k_vret C hr hw dX4_addAct_70
  · replace hok := Eq.mp (if_neg c1) hok
    refine lv_aload_n hx hb dX4_addAct_9 rfl (lv_at hl 0 rfl) ?_
    refine k_get C hw (CC := RX4) (T := TX4) (N := 10) nX4_addAct_X4 0 rfl rfl 0 (by decide) (List.mem_of_getElem? (i := 2) rfl) rfl rfl dX4_addAct_10 ?_
    refine lv_aload_n hx hb dX4_addAct_13 rfl (lv_at hl 0 rfl) ?_
    refine k_get C hw (CC := RX4) (T := TX4) (N := 10) nX4_addAct_X4 0 rfl rfl 4 (by decide) (List.mem_of_getElem? (i := 1) rfl) rfl rfl dX4_addAct_14 ?_
    refine lv_iload_n hx hb dX4_addAct_17 rfl (lv_at hl 1 rfl) ?_
    obtain ⟨h2, hok⟩ := hok
    refine k_iast C hw 1 rfl h2 dX4_addAct_18 (fun H locs hw => ?_)
    replace hw : kW D _ s H locs [(a_t, .inr (4, [.ref a_t_kinds, .ref a_t_ones, .ref a_t_others, .ref a_t_amounts, .int v_t_acts, .int v_t_signs, .int v_t_wrongPlace, .int v_t_expected, .int v_t_one, .int v_t_other])), (a_t_kinds, .inl (cI, 60, .inl (upd g_t_kinds v_t_acts.toNatClampNeg p1))), (a_t_ones, .inl (cI, 60, .inl g_t_ones)), (a_t_others, .inl (cI, 60, .inl g_t_others)), (a_t_amounts, .inl (cI, 60, .inl g_t_amounts))] := hw
    refine lv_aload_n hx hb dX4_addAct_19 rfl (lv_at hl 0 rfl) ?_
    refine k_get C hw (CC := RX4) (T := TX4) (N := 10) nX4_addAct_X4 0 rfl rfl 1 (by decide) (List.mem_of_getElem? (i := 3) rfl) rfl rfl dX4_addAct_20 ?_
    refine lv_aload_n hx hb dX4_addAct_23 rfl (lv_at hl 0 rfl) ?_
    refine k_get C hw (CC := RX4) (T := TX4) (N := 10) nX4_addAct_X4 0 rfl rfl 4 (by decide) (List.mem_of_getElem? (i := 1) rfl) rfl rfl dX4_addAct_24 ?_
    refine lv_aload_n hx hb dX4_addAct_27 rfl (lv_at hl 0 rfl) ?_
    refine k_get C hw (CC := RX4) (T := TX4) (N := 10) nX4_addAct_X4 0 rfl rfl 8 (by decide) (List.mem_of_getElem? (i := 4) rfl) rfl rfl dX4_addAct_28 ?_
    obtain ⟨h3, hok⟩ := hok
    refine k_iast C hw 2 rfl h3 dX4_addAct_31 (fun H locs hw => ?_)
    replace hw : kW D _ s H locs [(a_t, .inr (4, [.ref a_t_kinds, .ref a_t_ones, .ref a_t_others, .ref a_t_amounts, .int v_t_acts, .int v_t_signs, .int v_t_wrongPlace, .int v_t_expected, .int v_t_one, .int v_t_other])), (a_t_kinds, .inl (cI, 60, .inl (upd g_t_kinds v_t_acts.toNatClampNeg p1))), (a_t_ones, .inl (cI, 60, .inl (upd g_t_ones v_t_acts.toNatClampNeg v_t_one))), (a_t_others, .inl (cI, 60, .inl g_t_others)), (a_t_amounts, .inl (cI, 60, .inl g_t_amounts))] := hw
    refine lv_aload_n hx hb dX4_addAct_32 rfl (lv_at hl 0 rfl) ?_
    refine k_get C hw (CC := RX4) (T := TX4) (N := 10) nX4_addAct_X4 0 rfl rfl 2 (by decide) (List.mem_of_getElem? (i := 5) rfl) rfl rfl dX4_addAct_33 ?_
    refine lv_aload_n hx hb dX4_addAct_36 rfl (lv_at hl 0 rfl) ?_
    refine k_get C hw (CC := RX4) (T := TX4) (N := 10) nX4_addAct_X4 0 rfl rfl 4 (by decide) (List.mem_of_getElem? (i := 1) rfl) rfl rfl dX4_addAct_37 ?_
    refine lv_aload_n hx hb dX4_addAct_40 rfl (lv_at hl 0 rfl) ?_
    refine k_get C hw (CC := RX4) (T := TX4) (N := 10) nX4_addAct_X4 0 rfl rfl 9 (by decide) (List.mem_of_getElem? (i := 6) rfl) rfl rfl dX4_addAct_41 ?_
    obtain ⟨h4, hok⟩ := hok
    refine k_iast C hw 3 rfl h4 dX4_addAct_44 (fun H locs hw => ?_)
    replace hw : kW D _ s H locs [(a_t, .inr (4, [.ref a_t_kinds, .ref a_t_ones, .ref a_t_others, .ref a_t_amounts, .int v_t_acts, .int v_t_signs, .int v_t_wrongPlace, .int v_t_expected, .int v_t_one, .int v_t_other])), (a_t_kinds, .inl (cI, 60, .inl (upd g_t_kinds v_t_acts.toNatClampNeg p1))), (a_t_ones, .inl (cI, 60, .inl (upd g_t_ones v_t_acts.toNatClampNeg v_t_one))), (a_t_others, .inl (cI, 60, .inl (upd g_t_others v_t_acts.toNatClampNeg v_t_other))), (a_t_amounts, .inl (cI, 60, .inl g_t_amounts))] := hw
    refine lv_aload_n hx hb dX4_addAct_45 rfl (lv_at hl 0 rfl) ?_
    refine k_get C hw (CC := RX4) (T := TX4) (N := 10) nX4_addAct_X4 0 rfl rfl 3 (by decide) (List.mem_of_getElem? (i := 7) rfl) rfl rfl dX4_addAct_46 ?_
    refine lv_aload_n hx hb dX4_addAct_49 rfl (lv_at hl 0 rfl) ?_
    refine k_get C hw (CC := RX4) (T := TX4) (N := 10) nX4_addAct_X4 0 rfl rfl 4 (by decide) (List.mem_of_getElem? (i := 1) rfl) rfl rfl dX4_addAct_50 ?_
    refine lv_iload_n hx hb dX4_addAct_53 rfl (lv_at hl 2 rfl) ?_
    obtain ⟨h5, hok⟩ := hok
    refine k_iast C hw 4 rfl h5 dX4_addAct_54 (fun H locs hw => ?_)
    replace hw : kW D _ s H locs [(a_t, .inr (4, [.ref a_t_kinds, .ref a_t_ones, .ref a_t_others, .ref a_t_amounts, .int v_t_acts, .int v_t_signs, .int v_t_wrongPlace, .int v_t_expected, .int v_t_one, .int v_t_other])), (a_t_kinds, .inl (cI, 60, .inl (upd g_t_kinds v_t_acts.toNatClampNeg p1))), (a_t_ones, .inl (cI, 60, .inl (upd g_t_ones v_t_acts.toNatClampNeg v_t_one))), (a_t_others, .inl (cI, 60, .inl (upd g_t_others v_t_acts.toNatClampNeg v_t_other))), (a_t_amounts, .inl (cI, 60, .inl (upd g_t_amounts v_t_acts.toNatClampNeg p2)))] := hw
    refine lv_aload_n hx hb dX4_addAct_55 rfl (lv_at hl 0 rfl) ?_
    refine lv_dup hx hb dX4_addAct_56 rfl ?_
    refine k_get C hw (CC := RX4) (T := TX4) (N := 10) nX4_addAct_X4 0 rfl rfl 4 (by decide) (List.mem_of_getElem? (i := 1) rfl) rfl rfl dX4_addAct_57 ?_
    refine lv_iconst (v := 1) hx hb dX4_addAct_60 (by decide) ?_
    refine lv_iadd hx hb dX4_addAct_61 ?_
    refine k_put C hw (CC := RX4) (T := TX4) (N := 10) (v := .int (v_t_acts + 1)) nX4_addAct_X4 tyX4_ok nmX4 0 rfl rfl 4 (by decide) (List.mem_of_getElem? (i := 1) rfl) rfl rfl rfl rfl (Nat.le_of_ble_eq_true rfl) dX4_addAct_62 (fun H locs hw => ?_)
    replace hw : kW D _ s H locs [(a_t, .inr (4, [.ref a_t_kinds, .ref a_t_ones, .ref a_t_others, .ref a_t_amounts, .int (v_t_acts + 1), .int v_t_signs, .int v_t_wrongPlace, .int v_t_expected, .int v_t_one, .int v_t_other])), (a_t_kinds, .inl (cI, 60, .inl (upd g_t_kinds v_t_acts.toNatClampNeg p1))), (a_t_ones, .inl (cI, 60, .inl (upd g_t_ones v_t_acts.toNatClampNeg v_t_one))), (a_t_others, .inl (cI, 60, .inl (upd g_t_others v_t_acts.toNatClampNeg v_t_other))), (a_t_amounts, .inl (cI, 60, .inl (upd g_t_amounts v_t_acts.toNatClampNeg p2)))] := hw
    refine lv_aload_n hx hb dX4_addAct_65 rfl (lv_at hl 0 rfl) ?_
    refine lv_iconst (v := 0) hx hb dX4_addAct_66 (by decide) ?_
    refine k_put C hw (CC := RX4) (T := TX4) (N := 10) (v := .int 0) nX4_addAct_X4 tyX4_ok nmX4 0 rfl rfl 7 (by decide) (List.mem_of_getElem? (i := 8) rfl) rfl rfl rfl rfl (Nat.le_of_ble_eq_true rfl) dX4_addAct_67 (fun H locs hw => ?_)
    replace hw : kW D _ s H locs [(a_t, .inr (4, [.ref a_t_kinds, .ref a_t_ones, .ref a_t_others, .ref a_t_amounts, .int (v_t_acts + 1), .int v_t_signs, .int v_t_wrongPlace, .int 0, .int v_t_one, .int v_t_other])), (a_t_kinds, .inl (cI, 60, .inl (upd g_t_kinds v_t_acts.toNatClampNeg p1))), (a_t_ones, .inl (cI, 60, .inl (upd g_t_ones v_t_acts.toNatClampNeg v_t_one))), (a_t_others, .inl (cI, 60, .inl (upd g_t_others v_t_acts.toNatClampNeg v_t_other))), (a_t_amounts, .inl (cI, 60, .inl (upd g_t_amounts v_t_acts.toNatClampNeg p2)))] := hw
    rw [show f_X4_addAct v_t_acts v_t_one v_t_other g_t_kinds g_t_ones g_t_others g_t_amounts p1 p2 = ((v_t_acts + 1), 0, (upd g_t_kinds v_t_acts.toNatClampNeg p1), (upd g_t_ones v_t_acts.toNatClampNeg v_t_one), (upd g_t_others v_t_acts.toNatClampNeg v_t_other), (upd g_t_amounts v_t_acts.toNatClampNeg p2)) from by
        unfold f_X4_addAct
        exact (if_neg c1).trans (rfl)]
    exact k_vret C hr hw dX4_addAct_70

theorem nX4_readAnotherHouse_X4 : ∀ w ∈ wsX40, w ∈ wsX4_readAnotherHouse := fun _ h => List.mem_cons_of_mem _ (List.mem_append_right _ h)
def f_X4_readAnotherHouse (v_t_acts : Int32) (v_t_expected : Int32) (v_t_one : Int32) (v_t_other : Int32) (g_t_kinds : (Nat → Int32)) (g_t_ones : (Nat → Int32)) (g_t_others : (Nat → Int32)) (g_t_amounts : (Nat → Int32)) (p1 : Int32) : Int32 × Int32 × Int32 × Int32 × Int32 × (Nat → Int32) × (Nat → Int32) × (Nat → Int32) × (Nat → Int32) := (if (f_X4_isLetter p1) = 0 then (0, v_t_acts, v_t_expected, v_t_one, v_t_other, g_t_kinds, g_t_ones, g_t_others, g_t_amounts) else (if v_t_expected = 4 then (1, v_t_acts, 5, (p1 - 65), v_t_other, g_t_kinds, g_t_ones, g_t_others, g_t_amounts) else (if v_t_expected = 2 then (1, v_t_acts, 3, v_t_one, (p1 - 65), g_t_kinds, g_t_ones, g_t_others, g_t_amounts) else (lt (f_X4_addAct v_t_acts v_t_one (p1 - 65) g_t_kinds g_t_ones g_t_others g_t_amounts (3 : Int32) (0 : Int32)) (fun z5 => (1, z5.1, z5.2.1, v_t_one, (p1 - 65), z5.2.2.1, z5.2.2.2.1, z5.2.2.2.2.1, z5.2.2.2.2.2))))))
def o_X4_readAnotherHouse (v_t_acts : Int32) (v_t_expected : Int32) (p1 : Int32) : Prop := (if (f_X4_isLetter p1) = 0 then True else (if v_t_expected = 4 then True else (if v_t_expected = 2 then True else ((o_X4_addAct v_t_acts) ∧ True))))
set_option maxHeartbeats 4000000 in
set_option maxRecDepth 100000 in
theorem T_X4_readAnotherHouse (l : Launch) (D : va_G) (cI cZ : ClassId) (a_t a_t_kinds a_t_ones a_t_others a_t_amounts : Nat) (v_t_acts : Int32) (v_t_signs : Int32) (v_t_wrongPlace : Int32) (v_t_expected : Int32) (v_t_one : Int32) (v_t_other : Int32) (g_t_kinds : (Nat → Int32)) (g_t_ones : (Nat → Int32)) (g_t_others : (Nat → Int32)) (g_t_amounts : (Nat → Int32)) (p1 : Int32) (hok : o_X4_readAnotherHouse v_t_acts v_t_expected p1) : CT l D cI cZ yX4_readAnotherHouse wsX4_readAnotherHouse ({ frames := 1, cells := 0, slots := 0, locals := 22 }) [.ref a_t, .int p1] [(a_t, .inr (4, [.ref a_t_kinds, .ref a_t_ones, .ref a_t_others, .ref a_t_amounts, .int v_t_acts, .int v_t_signs, .int v_t_wrongPlace, .int v_t_expected, .int v_t_one, .int v_t_other])), (a_t_kinds, .inl (cI, 60, .inl g_t_kinds)), (a_t_ones, .inl (cI, 60, .inl g_t_ones)), (a_t_others, .inl (cI, 60, .inl g_t_others)), (a_t_amounts, .inl (cI, 60, .inl g_t_amounts))] (some (.int (f_X4_readAnotherHouse v_t_acts v_t_expected v_t_one v_t_other g_t_kinds g_t_ones g_t_others g_t_amounts p1).1)) [(a_t, .inr (4, [.ref a_t_kinds, .ref a_t_ones, .ref a_t_others, .ref a_t_amounts, .int (f_X4_readAnotherHouse v_t_acts v_t_expected v_t_one v_t_other g_t_kinds g_t_ones g_t_others g_t_amounts p1).2.1, .int v_t_signs, .int v_t_wrongPlace, .int (f_X4_readAnotherHouse v_t_acts v_t_expected v_t_one v_t_other g_t_kinds g_t_ones g_t_others g_t_amounts p1).2.2.1, .int (f_X4_readAnotherHouse v_t_acts v_t_expected v_t_one v_t_other g_t_kinds g_t_ones g_t_others g_t_amounts p1).2.2.2.1, .int (f_X4_readAnotherHouse v_t_acts v_t_expected v_t_one v_t_other g_t_kinds g_t_ones g_t_others g_t_amounts p1).2.2.2.2.1])), (a_t_kinds, .inl (cI, 60, .inl (f_X4_readAnotherHouse v_t_acts v_t_expected v_t_one v_t_other g_t_kinds g_t_ones g_t_others g_t_amounts p1).2.2.2.2.2.1)), (a_t_ones, .inl (cI, 60, .inl (f_X4_readAnotherHouse v_t_acts v_t_expected v_t_one v_t_other g_t_kinds g_t_ones g_t_others g_t_amounts p1).2.2.2.2.2.2.1)), (a_t_others, .inl (cI, 60, .inl (f_X4_readAnotherHouse v_t_acts v_t_expected v_t_one v_t_other g_t_kinds g_t_ones g_t_others g_t_amounts p1).2.2.2.2.2.2.2.1)), (a_t_amounts, .inl (cI, 60, .inl (f_X4_readAnotherHouse v_t_acts v_t_expected v_t_one v_t_other g_t_kinds g_t_ones g_t_others g_t_amounts p1).2.2.2.2.2.2.2.2))] := by
  refine CT.intro RX4 (by decide) rfl (Nat.le_of_ble_eq_true rfl) rfl ?_
  intro p e s m below meth c C hr hw ls hl
  have hx := C.hx
  have hb := C.hb
  replace hl : lv_has ls 2 [(0, .ref a_t), (1, .int p1)] := hl
  refine lv_iload_n hx hb dX4_readAnotherHouse_0 rfl (lv_at hl 1 rfl) ?_
  refine k_callS (As := [.int p1]) (rest := []) (n := 1) C hw (T_X4_isLetter l D cI cZ p1) gX4_readAnotherHouse_X4_isLetter rfl ⟨rfl, rfl⟩ (by decide +kernel) ⟨Nat.le_of_ble_eq_true rfl, Nat.le_of_ble_eq_true rfl⟩ [] rfl rfl [] rfl rfl rfl hl.1 rfl (Nat.le_of_ble_eq_true rfl) ⟨Nat.zero_le _, Nat.zero_le _⟩ dX4_readAnotherHouse_1 (fun H locs hw => ?_)
  refine W.eq (g2 := F0 m 4 ls [.int (f_X4_isLetter p1)]) rfl ?_
  replace hw : kW D _ s H locs [(a_t, .inr (4, [.ref a_t_kinds, .ref a_t_ones, .ref a_t_others, .ref a_t_amounts, .int v_t_acts, .int v_t_signs, .int v_t_wrongPlace, .int v_t_expected, .int v_t_one, .int v_t_other])), (a_t_kinds, .inl (cI, 60, .inl g_t_kinds)), (a_t_ones, .inl (cI, 60, .inl g_t_ones)), (a_t_others, .inl (cI, 60, .inl g_t_others)), (a_t_amounts, .inl (cI, 60, .inl g_t_amounts))] := hw
  refine lv_if_ne (tgt := 9) hx hb dX4_readAnotherHouse_4 (by decide) (fun c1 => ?_) (fun c1 => ?_)
  · replace hok := Eq.mp (if_neg c1) hok
    refine lv_aload_n hx hb dX4_readAnotherHouse_9 rfl (lv_at hl 0 rfl) ?_
    refine k_get C hw (CC := RX4) (T := TX4) (N := 10) nX4_readAnotherHouse_X4 0 rfl rfl 7 (by decide) (List.mem_of_getElem? (i := 1) rfl) rfl rfl dX4_readAnotherHouse_10 ?_
    refine lv_iconst (v := 4) hx hb dX4_readAnotherHouse_13 (by decide) ?_
    refine lv_icmp_ne (tgt := 32) hx hb dX4_readAnotherHouse_14 (by decide) (fun c2 => ?_) (fun c2 => ?_)
    · replace hok := Eq.mp (if_neg c2) hok
      refine lv_aload_n hx hb dX4_readAnotherHouse_32 rfl (lv_at hl 0 rfl) ?_
      refine lv_iload_n hx hb dX4_readAnotherHouse_33 rfl (lv_at hl 1 rfl) ?_
      refine lv_bipush (v := 65) hx hb dX4_readAnotherHouse_34 (by decide) ?_
      refine lv_isub hx hb dX4_readAnotherHouse_36 ?_
      refine k_put C hw (CC := RX4) (T := TX4) (N := 10) (v := .int (p1 - 65)) nX4_readAnotherHouse_X4 tyX4_ok nmX4 0 rfl rfl 9 (by decide) (List.mem_of_getElem? (i := 3) rfl) rfl rfl rfl rfl (Nat.le_of_ble_eq_true rfl) dX4_readAnotherHouse_37 (fun H locs hw => ?_)
      replace hw : kW D _ s H locs [(a_t, .inr (4, [.ref a_t_kinds, .ref a_t_ones, .ref a_t_others, .ref a_t_amounts, .int v_t_acts, .int v_t_signs, .int v_t_wrongPlace, .int v_t_expected, .int v_t_one, .int (p1 - 65)])), (a_t_kinds, .inl (cI, 60, .inl g_t_kinds)), (a_t_ones, .inl (cI, 60, .inl g_t_ones)), (a_t_others, .inl (cI, 60, .inl g_t_others)), (a_t_amounts, .inl (cI, 60, .inl g_t_amounts))] := hw
      refine lv_aload_n hx hb dX4_readAnotherHouse_40 rfl (lv_at hl 0 rfl) ?_
      refine k_get C hw (CC := RX4) (T := TX4) (N := 10) nX4_readAnotherHouse_X4 0 rfl rfl 7 (by decide) (List.mem_of_getElem? (i := 1) rfl) rfl rfl dX4_readAnotherHouse_41 ?_
      refine lv_iconst (v := 2) hx hb dX4_readAnotherHouse_44 (by decide) ?_
      refine lv_icmp_ne (tgt := 56) hx hb dX4_readAnotherHouse_45 (by decide) (fun c3 => ?_) (fun c3 => ?_)
      · replace hok := Eq.mp (if_neg c3) hok
        refine lv_aload_n hx hb dX4_readAnotherHouse_56 rfl (lv_at hl 0 rfl) ?_
        refine lv_iconst (v := 3) hx hb dX4_readAnotherHouse_57 (by decide) ?_
        refine lv_iconst (v := 0) hx hb dX4_readAnotherHouse_58 (by decide) ?_
        obtain ⟨h4, hok⟩ := hok
        refine k_callV (As := [.int 3, .int 0]) (rest := []) (n := 2) (CC := RX4) (T := TX4) (N := 10) C hw (T_X4_addAct l D cI cZ a_t a_t_kinds a_t_ones a_t_others a_t_amounts v_t_acts v_t_signs v_t_wrongPlace v_t_expected v_t_one (p1 - 65) g_t_kinds g_t_ones g_t_others g_t_amounts (3 : Int32) (0 : Int32) h4) gX4_readAnotherHouse_X4_addAct rfl ⟨rfl, rfl⟩ (by decide +kernel) ⟨Nat.le_of_ble_eq_true rfl, Nat.le_of_ble_eq_true rfl⟩ 0 rfl rfl [0, 1, 2, 3, 4] rfl rfl [a_t, a_t_kinds, a_t_ones, a_t_others, a_t_amounts] rfl rfl rfl hl.1 rfl (Nat.le_of_ble_eq_true rfl) ⟨Nat.zero_le _, Nat.zero_le _⟩ dX4_readAnotherHouse_59 (fun H locs hw => ?_)
        obtain ⟨z5, h6⟩ : ∃ z, (f_X4_addAct v_t_acts v_t_one (p1 - 65) g_t_kinds g_t_ones g_t_others g_t_amounts (3 : Int32) (0 : Int32)) = z := ⟨_, rfl⟩
        refine W.eq (g2 := F0 m 62 ls []) (by subst h6; rfl) ?_
        replace hw := kW_cast (ws' := [(a_t, .inr (4, [.ref a_t_kinds, .ref a_t_ones, .ref a_t_others, .ref a_t_amounts, .int z5.1, .int v_t_signs, .int v_t_wrongPlace, .int z5.2.1, .int v_t_one, .int (p1 - 65)])), (a_t_kinds, .inl (cI, 60, .inl z5.2.2.1)), (a_t_ones, .inl (cI, 60, .inl z5.2.2.2.1)), (a_t_others, .inl (cI, 60, .inl z5.2.2.2.2.1)), (a_t_amounts, .inl (cI, 60, .inl z5.2.2.2.2.2))]) (by subst h6; rfl) hw
        refine lv_iconst (v := 1) hx hb dX4_readAnotherHouse_62 (by decide) ?_
        rw [show f_X4_readAnotherHouse v_t_acts v_t_expected v_t_one v_t_other g_t_kinds g_t_ones g_t_others g_t_amounts p1 = (1, z5.1, z5.2.1, v_t_one, (p1 - 65), z5.2.2.1, z5.2.2.2.1, z5.2.2.2.2.1, z5.2.2.2.2.2) from by
            unfold f_X4_readAnotherHouse
            exact (if_neg c1).trans ((if_neg c2).trans ((if_neg c3).trans ((lt_c h6).trans (rfl))))]
        exact k_zret (v := 1) C hr hw nz1 dX4_readAnotherHouse_63
      · refine lv_aload_n hx hb dX4_readAnotherHouse_48 rfl (lv_at hl 0 rfl) ?_
        refine lv_iconst (v := 3) hx hb dX4_readAnotherHouse_49 (by decide) ?_
        refine k_put C hw (CC := RX4) (T := TX4) (N := 10) (v := .int 3) nX4_readAnotherHouse_X4 tyX4_ok nmX4 0 rfl rfl 7 (by decide) (List.mem_of_getElem? (i := 1) rfl) rfl rfl rfl rfl (Nat.le_of_ble_eq_true rfl) dX4_readAnotherHouse_50 (fun H locs hw => ?_)
        replace hw : kW D _ s H locs [(a_t, .inr (4, [.ref a_t_kinds, .ref a_t_ones, .ref a_t_others, .ref a_t_amounts, .int v_t_acts, .int v_t_signs, .int v_t_wrongPlace, .int 3, .int v_t_one, .int (p1 - 65)])), (a_t_kinds, .inl (cI, 60, .inl g_t_kinds)), (a_t_ones, .inl (cI, 60, .inl g_t_ones)), (a_t_others, .inl (cI, 60, .inl g_t_others)), (a_t_amounts, .inl (cI, 60, .inl g_t_amounts))] := hw
        refine lv_goto (tgt := 62) hx hb dX4_readAnotherHouse_53 (by decide) ?_
        refine lv_iconst (v := 1) hx hb dX4_readAnotherHouse_62 (by decide) ?_
        rw [show f_X4_readAnotherHouse v_t_acts v_t_expected v_t_one v_t_other g_t_kinds g_t_ones g_t_others g_t_amounts p1 = (1, v_t_acts, 3, v_t_one, (p1 - 65), g_t_kinds, g_t_ones, g_t_others, g_t_amounts) from by
            unfold f_X4_readAnotherHouse
            exact (if_neg c1).trans ((if_neg c2).trans ((if_pos c3).trans (rfl)))]
        exact k_zret (v := 1) C hr hw nz1 dX4_readAnotherHouse_63
    · refine lv_aload_n hx hb dX4_readAnotherHouse_17 rfl (lv_at hl 0 rfl) ?_
      refine lv_iload_n hx hb dX4_readAnotherHouse_18 rfl (lv_at hl 1 rfl) ?_
      refine lv_bipush (v := 65) hx hb dX4_readAnotherHouse_19 (by decide) ?_
      refine lv_isub hx hb dX4_readAnotherHouse_21 ?_
      refine k_put C hw (CC := RX4) (T := TX4) (N := 10) (v := .int (p1 - 65)) nX4_readAnotherHouse_X4 tyX4_ok nmX4 0 rfl rfl 8 (by decide) (List.mem_of_getElem? (i := 2) rfl) rfl rfl rfl rfl (Nat.le_of_ble_eq_true rfl) dX4_readAnotherHouse_22 (fun H locs hw => ?_)
      replace hw : kW D _ s H locs [(a_t, .inr (4, [.ref a_t_kinds, .ref a_t_ones, .ref a_t_others, .ref a_t_amounts, .int v_t_acts, .int v_t_signs, .int v_t_wrongPlace, .int v_t_expected, .int (p1 - 65), .int v_t_other])), (a_t_kinds, .inl (cI, 60, .inl g_t_kinds)), (a_t_ones, .inl (cI, 60, .inl g_t_ones)), (a_t_others, .inl (cI, 60, .inl g_t_others)), (a_t_amounts, .inl (cI, 60, .inl g_t_amounts))] := hw
      refine lv_aload_n hx hb dX4_readAnotherHouse_25 rfl (lv_at hl 0 rfl) ?_
      refine lv_iconst (v := 5) hx hb dX4_readAnotherHouse_26 (by decide) ?_
      refine k_put C hw (CC := RX4) (T := TX4) (N := 10) (v := .int 5) nX4_readAnotherHouse_X4 tyX4_ok nmX4 0 rfl rfl 7 (by decide) (List.mem_of_getElem? (i := 1) rfl) rfl rfl rfl rfl (Nat.le_of_ble_eq_true rfl) dX4_readAnotherHouse_27 (fun H locs hw => ?_)
      replace hw : kW D _ s H locs [(a_t, .inr (4, [.ref a_t_kinds, .ref a_t_ones, .ref a_t_others, .ref a_t_amounts, .int v_t_acts, .int v_t_signs, .int v_t_wrongPlace, .int 5, .int (p1 - 65), .int v_t_other])), (a_t_kinds, .inl (cI, 60, .inl g_t_kinds)), (a_t_ones, .inl (cI, 60, .inl g_t_ones)), (a_t_others, .inl (cI, 60, .inl g_t_others)), (a_t_amounts, .inl (cI, 60, .inl g_t_amounts))] := hw
      refine lv_iconst (v := 1) hx hb dX4_readAnotherHouse_30 (by decide) ?_
      rw [show f_X4_readAnotherHouse v_t_acts v_t_expected v_t_one v_t_other g_t_kinds g_t_ones g_t_others g_t_amounts p1 = (1, v_t_acts, 5, (p1 - 65), v_t_other, g_t_kinds, g_t_ones, g_t_others, g_t_amounts) from by
          unfold f_X4_readAnotherHouse
          exact (if_neg c1).trans ((if_pos c2).trans (rfl))]
      exact k_zret (v := 1) C hr hw nz1 dX4_readAnotherHouse_31
  · refine lv_iconst (v := 0) hx hb dX4_readAnotherHouse_7 (by decide) ?_
    rw [show f_X4_readAnotherHouse v_t_acts v_t_expected v_t_one v_t_other g_t_kinds g_t_ones g_t_others g_t_amounts p1 = (0, v_t_acts, v_t_expected, v_t_one, v_t_other, g_t_kinds, g_t_ones, g_t_others, g_t_amounts) from by
        unfold f_X4_readAnotherHouse
        exact (if_pos c1).trans (rfl)]
    exact k_zret (v := 0) C hr hw nz0 dX4_readAnotherHouse_8

theorem nX4_readStart_X4 : ∀ w ∈ wsX40, w ∈ wsX4_readStart := fun _ h => List.mem_cons_of_mem _ (List.mem_append_right _ h)
def f_X4_readStart (v_t_acts : Int32) (v_t_expected : Int32) (v_t_one : Int32) (v_t_other : Int32) (g_t_kinds : (Nat → Int32)) (g_t_ones : (Nat → Int32)) (g_t_others : (Nat → Int32)) (g_t_amounts : (Nat → Int32)) (p1 : Int32) : Int32 × Int32 × Int32 × Int32 × (Nat → Int32) × (Nat → Int32) × (Nat → Int32) × (Nat → Int32) := (if (f_X4_isLetter p1) = 0 then (if p1 = 120 then (1, v_t_acts, 4, v_t_one, g_t_kinds, g_t_ones, g_t_others, g_t_amounts) else (if p1 = 46 then (lt (f_X4_addAct v_t_acts v_t_one v_t_other g_t_kinds g_t_ones g_t_others g_t_amounts (4 : Int32) (0 : Int32)) (fun z5 => (1, z5.1, z5.2.1, v_t_one, z5.2.2.1, z5.2.2.2.1, z5.2.2.2.2.1, z5.2.2.2.2.2))) else (0, v_t_acts, v_t_expected, v_t_one, g_t_kinds, g_t_ones, g_t_others, g_t_amounts))) else (1, v_t_acts, 1, (p1 - 65), g_t_kinds, g_t_ones, g_t_others, g_t_amounts))
def o_X4_readStart (v_t_acts : Int32) (p1 : Int32) : Prop := (if (f_X4_isLetter p1) = 0 then (if p1 = 120 then True else (if p1 = 46 then ((o_X4_addAct v_t_acts) ∧ True) else True)) else True)
set_option maxHeartbeats 4000000 in
set_option maxRecDepth 100000 in
theorem T_X4_readStart (l : Launch) (D : va_G) (cI cZ : ClassId) (a_t a_t_kinds a_t_ones a_t_others a_t_amounts : Nat) (v_t_acts : Int32) (v_t_signs : Int32) (v_t_wrongPlace : Int32) (v_t_expected : Int32) (v_t_one : Int32) (v_t_other : Int32) (g_t_kinds : (Nat → Int32)) (g_t_ones : (Nat → Int32)) (g_t_others : (Nat → Int32)) (g_t_amounts : (Nat → Int32)) (p1 : Int32) (hok : o_X4_readStart v_t_acts p1) : CT l D cI cZ yX4_readStart wsX4_readStart ({ frames := 1, cells := 0, slots := 0, locals := 22 }) [.ref a_t, .int p1] [(a_t, .inr (4, [.ref a_t_kinds, .ref a_t_ones, .ref a_t_others, .ref a_t_amounts, .int v_t_acts, .int v_t_signs, .int v_t_wrongPlace, .int v_t_expected, .int v_t_one, .int v_t_other])), (a_t_kinds, .inl (cI, 60, .inl g_t_kinds)), (a_t_ones, .inl (cI, 60, .inl g_t_ones)), (a_t_others, .inl (cI, 60, .inl g_t_others)), (a_t_amounts, .inl (cI, 60, .inl g_t_amounts))] (some (.int (f_X4_readStart v_t_acts v_t_expected v_t_one v_t_other g_t_kinds g_t_ones g_t_others g_t_amounts p1).1)) [(a_t, .inr (4, [.ref a_t_kinds, .ref a_t_ones, .ref a_t_others, .ref a_t_amounts, .int (f_X4_readStart v_t_acts v_t_expected v_t_one v_t_other g_t_kinds g_t_ones g_t_others g_t_amounts p1).2.1, .int v_t_signs, .int v_t_wrongPlace, .int (f_X4_readStart v_t_acts v_t_expected v_t_one v_t_other g_t_kinds g_t_ones g_t_others g_t_amounts p1).2.2.1, .int (f_X4_readStart v_t_acts v_t_expected v_t_one v_t_other g_t_kinds g_t_ones g_t_others g_t_amounts p1).2.2.2.1, .int v_t_other])), (a_t_kinds, .inl (cI, 60, .inl (f_X4_readStart v_t_acts v_t_expected v_t_one v_t_other g_t_kinds g_t_ones g_t_others g_t_amounts p1).2.2.2.2.1)), (a_t_ones, .inl (cI, 60, .inl (f_X4_readStart v_t_acts v_t_expected v_t_one v_t_other g_t_kinds g_t_ones g_t_others g_t_amounts p1).2.2.2.2.2.1)), (a_t_others, .inl (cI, 60, .inl (f_X4_readStart v_t_acts v_t_expected v_t_one v_t_other g_t_kinds g_t_ones g_t_others g_t_amounts p1).2.2.2.2.2.2.1)), (a_t_amounts, .inl (cI, 60, .inl (f_X4_readStart v_t_acts v_t_expected v_t_one v_t_other g_t_kinds g_t_ones g_t_others g_t_amounts p1).2.2.2.2.2.2.2))] := by
  refine CT.intro RX4 (by decide) rfl (Nat.le_of_ble_eq_true rfl) rfl ?_
  intro p e s m below meth c C hr hw ls hl
  have hx := C.hx
  have hb := C.hb
  replace hl : lv_has ls 2 [(0, .ref a_t), (1, .int p1)] := hl
  refine lv_iload_n hx hb dX4_readStart_0 rfl (lv_at hl 1 rfl) ?_
  refine k_callS (As := [.int p1]) (rest := []) (n := 1) C hw (T_X4_isLetter l D cI cZ p1) gX4_readStart_X4_isLetter rfl ⟨rfl, rfl⟩ (by decide +kernel) ⟨Nat.le_of_ble_eq_true rfl, Nat.le_of_ble_eq_true rfl⟩ [] rfl rfl [] rfl rfl rfl hl.1 rfl (Nat.le_of_ble_eq_true rfl) ⟨Nat.zero_le _, Nat.zero_le _⟩ dX4_readStart_1 (fun H locs hw => ?_)
  refine W.eq (g2 := F0 m 4 ls [.int (f_X4_isLetter p1)]) rfl ?_
  replace hw : kW D _ s H locs [(a_t, .inr (4, [.ref a_t_kinds, .ref a_t_ones, .ref a_t_others, .ref a_t_amounts, .int v_t_acts, .int v_t_signs, .int v_t_wrongPlace, .int v_t_expected, .int v_t_one, .int v_t_other])), (a_t_kinds, .inl (cI, 60, .inl g_t_kinds)), (a_t_ones, .inl (cI, 60, .inl g_t_ones)), (a_t_others, .inl (cI, 60, .inl g_t_others)), (a_t_amounts, .inl (cI, 60, .inl g_t_amounts))] := hw
  refine lv_if_eq (tgt := 22) hx hb dX4_readStart_4 (by decide) (fun c1 => ?_) (fun c1 => ?_)
  · replace hok := Eq.mp (if_pos c1) hok
    refine lv_iload_n hx hb dX4_readStart_22 rfl (lv_at hl 1 rfl) ?_
    refine lv_bipush (v := 120) hx hb dX4_readStart_23 (by decide) ?_
    refine lv_icmp_ne (tgt := 35) hx hb dX4_readStart_25 (by decide) (fun c2 => ?_) (fun c2 => ?_)
    · replace hok := Eq.mp (if_neg c2) hok
      refine lv_iload_n hx hb dX4_readStart_35 rfl (lv_at hl 1 rfl) ?_
      refine lv_bipush (v := 46) hx hb dX4_readStart_36 (by decide) ?_
      refine lv_icmp_ne (tgt := 49) hx hb dX4_readStart_38 (by decide) (fun c3 => ?_) (fun c3 => ?_)
      · refine lv_iconst (v := 0) hx hb dX4_readStart_49 (by decide) ?_
        rw [show f_X4_readStart v_t_acts v_t_expected v_t_one v_t_other g_t_kinds g_t_ones g_t_others g_t_amounts p1 = (0, v_t_acts, v_t_expected, v_t_one, g_t_kinds, g_t_ones, g_t_others, g_t_amounts) from by
            unfold f_X4_readStart
            exact (if_pos c1).trans ((if_neg c2).trans ((if_neg c3).trans (rfl)))]
        exact k_zret (v := 0) C hr hw nz0 dX4_readStart_50
      · replace hok := Eq.mp (if_pos c3) hok
        refine lv_aload_n hx hb dX4_readStart_41 rfl (lv_at hl 0 rfl) ?_
        refine lv_iconst (v := 4) hx hb dX4_readStart_42 (by decide) ?_
        refine lv_iconst (v := 0) hx hb dX4_readStart_43 (by decide) ?_
        obtain ⟨h4, hok⟩ := hok
        refine k_callV (As := [.int 4, .int 0]) (rest := []) (n := 2) (CC := RX4) (T := TX4) (N := 10) C hw (T_X4_addAct l D cI cZ a_t a_t_kinds a_t_ones a_t_others a_t_amounts v_t_acts v_t_signs v_t_wrongPlace v_t_expected v_t_one v_t_other g_t_kinds g_t_ones g_t_others g_t_amounts (4 : Int32) (0 : Int32) h4) gX4_readStart_X4_addAct rfl ⟨rfl, rfl⟩ (by decide +kernel) ⟨Nat.le_of_ble_eq_true rfl, Nat.le_of_ble_eq_true rfl⟩ 0 rfl rfl [0, 1, 2, 3, 4] rfl rfl [a_t, a_t_kinds, a_t_ones, a_t_others, a_t_amounts] rfl rfl rfl hl.1 rfl (Nat.le_of_ble_eq_true rfl) ⟨Nat.zero_le _, Nat.zero_le _⟩ dX4_readStart_44 (fun H locs hw => ?_)
        obtain ⟨z5, h6⟩ : ∃ z, (f_X4_addAct v_t_acts v_t_one v_t_other g_t_kinds g_t_ones g_t_others g_t_amounts (4 : Int32) (0 : Int32)) = z := ⟨_, rfl⟩
        refine W.eq (g2 := F0 m 47 ls []) (by subst h6; rfl) ?_
        replace hw := kW_cast (ws' := [(a_t, .inr (4, [.ref a_t_kinds, .ref a_t_ones, .ref a_t_others, .ref a_t_amounts, .int z5.1, .int v_t_signs, .int v_t_wrongPlace, .int z5.2.1, .int v_t_one, .int v_t_other])), (a_t_kinds, .inl (cI, 60, .inl z5.2.2.1)), (a_t_ones, .inl (cI, 60, .inl z5.2.2.2.1)), (a_t_others, .inl (cI, 60, .inl z5.2.2.2.2.1)), (a_t_amounts, .inl (cI, 60, .inl z5.2.2.2.2.2))]) (by subst h6; rfl) hw
        refine lv_iconst (v := 1) hx hb dX4_readStart_47 (by decide) ?_
        rw [show f_X4_readStart v_t_acts v_t_expected v_t_one v_t_other g_t_kinds g_t_ones g_t_others g_t_amounts p1 = (1, z5.1, z5.2.1, v_t_one, z5.2.2.1, z5.2.2.2.1, z5.2.2.2.2.1, z5.2.2.2.2.2) from by
            unfold f_X4_readStart
            exact (if_pos c1).trans ((if_neg c2).trans ((if_pos c3).trans ((lt_c h6).trans (rfl))))]
        exact k_zret (v := 1) C hr hw nz1 dX4_readStart_48
    · refine lv_aload_n hx hb dX4_readStart_28 rfl (lv_at hl 0 rfl) ?_
      refine lv_iconst (v := 4) hx hb dX4_readStart_29 (by decide) ?_
      refine k_put C hw (CC := RX4) (T := TX4) (N := 10) (v := .int 4) nX4_readStart_X4 tyX4_ok nmX4 0 rfl rfl 7 (by decide) (List.mem_of_getElem? (i := 2) rfl) rfl rfl rfl rfl (Nat.le_of_ble_eq_true rfl) dX4_readStart_30 (fun H locs hw => ?_)
      replace hw : kW D _ s H locs [(a_t, .inr (4, [.ref a_t_kinds, .ref a_t_ones, .ref a_t_others, .ref a_t_amounts, .int v_t_acts, .int v_t_signs, .int v_t_wrongPlace, .int 4, .int v_t_one, .int v_t_other])), (a_t_kinds, .inl (cI, 60, .inl g_t_kinds)), (a_t_ones, .inl (cI, 60, .inl g_t_ones)), (a_t_others, .inl (cI, 60, .inl g_t_others)), (a_t_amounts, .inl (cI, 60, .inl g_t_amounts))] := hw
      refine lv_iconst (v := 1) hx hb dX4_readStart_33 (by decide) ?_
      rw [show f_X4_readStart v_t_acts v_t_expected v_t_one v_t_other g_t_kinds g_t_ones g_t_others g_t_amounts p1 = (1, v_t_acts, 4, v_t_one, g_t_kinds, g_t_ones, g_t_others, g_t_amounts) from by
          unfold f_X4_readStart
          exact (if_pos c1).trans ((if_pos c2).trans (rfl))]
      exact k_zret (v := 1) C hr hw nz1 dX4_readStart_34
  · refine lv_aload_n hx hb dX4_readStart_7 rfl (lv_at hl 0 rfl) ?_
    refine lv_iload_n hx hb dX4_readStart_8 rfl (lv_at hl 1 rfl) ?_
    refine lv_bipush (v := 65) hx hb dX4_readStart_9 (by decide) ?_
    refine lv_isub hx hb dX4_readStart_11 ?_
    refine k_put C hw (CC := RX4) (T := TX4) (N := 10) (v := .int (p1 - 65)) nX4_readStart_X4 tyX4_ok nmX4 0 rfl rfl 8 (by decide) (List.mem_of_getElem? (i := 1) rfl) rfl rfl rfl rfl (Nat.le_of_ble_eq_true rfl) dX4_readStart_12 (fun H locs hw => ?_)
    replace hw : kW D _ s H locs [(a_t, .inr (4, [.ref a_t_kinds, .ref a_t_ones, .ref a_t_others, .ref a_t_amounts, .int v_t_acts, .int v_t_signs, .int v_t_wrongPlace, .int v_t_expected, .int (p1 - 65), .int v_t_other])), (a_t_kinds, .inl (cI, 60, .inl g_t_kinds)), (a_t_ones, .inl (cI, 60, .inl g_t_ones)), (a_t_others, .inl (cI, 60, .inl g_t_others)), (a_t_amounts, .inl (cI, 60, .inl g_t_amounts))] := hw
    refine lv_aload_n hx hb dX4_readStart_15 rfl (lv_at hl 0 rfl) ?_
    refine lv_iconst (v := 1) hx hb dX4_readStart_16 (by decide) ?_
    refine k_put C hw (CC := RX4) (T := TX4) (N := 10) (v := .int 1) nX4_readStart_X4 tyX4_ok nmX4 0 rfl rfl 7 (by decide) (List.mem_of_getElem? (i := 2) rfl) rfl rfl rfl rfl (Nat.le_of_ble_eq_true rfl) dX4_readStart_17 (fun H locs hw => ?_)
    replace hw : kW D _ s H locs [(a_t, .inr (4, [.ref a_t_kinds, .ref a_t_ones, .ref a_t_others, .ref a_t_amounts, .int v_t_acts, .int v_t_signs, .int v_t_wrongPlace, .int 1, .int (p1 - 65), .int v_t_other])), (a_t_kinds, .inl (cI, 60, .inl g_t_kinds)), (a_t_ones, .inl (cI, 60, .inl g_t_ones)), (a_t_others, .inl (cI, 60, .inl g_t_others)), (a_t_amounts, .inl (cI, 60, .inl g_t_amounts))] := hw
    refine lv_iconst (v := 1) hx hb dX4_readStart_20 (by decide) ?_
    rw [show f_X4_readStart v_t_acts v_t_expected v_t_one v_t_other g_t_kinds g_t_ones g_t_others g_t_amounts p1 = (1, v_t_acts, 1, (p1 - 65), g_t_kinds, g_t_ones, g_t_others, g_t_amounts) from by
        unfold f_X4_readStart
        exact (if_neg c1).trans (rfl)]
    exact k_zret (v := 1) C hr hw nz1 dX4_readStart_21

theorem nX4_readDeed_X4 : ∀ w ∈ wsX40, w ∈ wsX4_readDeed := fun _ h => List.mem_cons_of_mem _ (List.mem_append_right _ h)
def f_X4_readDeed (v_t_acts : Int32) (v_t_expected : Int32) (v_t_one : Int32) (v_t_other : Int32) (g_t_kinds : (Nat → Int32)) (g_t_ones : (Nat → Int32)) (g_t_others : (Nat → Int32)) (g_t_amounts : (Nat → Int32)) (p1 : Int32) : Int32 × Int32 × Int32 × (Nat → Int32) × (Nat → Int32) × (Nat → Int32) × (Nat → Int32) := (if p1 = 94 then (lt (f_X4_addAct v_t_acts v_t_one v_t_other g_t_kinds g_t_ones g_t_others g_t_amounts (0 : Int32) (0 : Int32)) (fun z8 => (1, z8.1, z8.2.1, z8.2.2.1, z8.2.2.2.1, z8.2.2.2.2.1, z8.2.2.2.2.2))) else (if p1 = 95 then (lt (f_X4_addAct v_t_acts v_t_one v_t_other g_t_kinds g_t_ones g_t_others g_t_amounts (1 : Int32) (0 : Int32)) (fun z5 => (1, z5.1, z5.2.1, z5.2.2.1, z5.2.2.2.1, z5.2.2.2.2.1, z5.2.2.2.2.2))) else (if p1 = 62 then (1, v_t_acts, 2, g_t_kinds, g_t_ones, g_t_others, g_t_amounts) else (0, v_t_acts, v_t_expected, g_t_kinds, g_t_ones, g_t_others, g_t_amounts))))
def o_X4_readDeed (v_t_acts : Int32) (p1 : Int32) : Prop := (if p1 = 94 then ((o_X4_addAct v_t_acts) ∧ True) else (if p1 = 95 then ((o_X4_addAct v_t_acts) ∧ True) else True))
set_option maxHeartbeats 4000000 in
set_option maxRecDepth 100000 in
theorem T_X4_readDeed (l : Launch) (D : va_G) (cI cZ : ClassId) (a_t a_t_kinds a_t_ones a_t_others a_t_amounts : Nat) (v_t_acts : Int32) (v_t_signs : Int32) (v_t_wrongPlace : Int32) (v_t_expected : Int32) (v_t_one : Int32) (v_t_other : Int32) (g_t_kinds : (Nat → Int32)) (g_t_ones : (Nat → Int32)) (g_t_others : (Nat → Int32)) (g_t_amounts : (Nat → Int32)) (p1 : Int32) (hok : o_X4_readDeed v_t_acts p1) : CT l D cI cZ yX4_readDeed wsX4_readDeed ({ frames := 1, cells := 0, slots := 0, locals := 22 }) [.ref a_t, .int p1] [(a_t, .inr (4, [.ref a_t_kinds, .ref a_t_ones, .ref a_t_others, .ref a_t_amounts, .int v_t_acts, .int v_t_signs, .int v_t_wrongPlace, .int v_t_expected, .int v_t_one, .int v_t_other])), (a_t_kinds, .inl (cI, 60, .inl g_t_kinds)), (a_t_ones, .inl (cI, 60, .inl g_t_ones)), (a_t_others, .inl (cI, 60, .inl g_t_others)), (a_t_amounts, .inl (cI, 60, .inl g_t_amounts))] (some (.int (f_X4_readDeed v_t_acts v_t_expected v_t_one v_t_other g_t_kinds g_t_ones g_t_others g_t_amounts p1).1)) [(a_t, .inr (4, [.ref a_t_kinds, .ref a_t_ones, .ref a_t_others, .ref a_t_amounts, .int (f_X4_readDeed v_t_acts v_t_expected v_t_one v_t_other g_t_kinds g_t_ones g_t_others g_t_amounts p1).2.1, .int v_t_signs, .int v_t_wrongPlace, .int (f_X4_readDeed v_t_acts v_t_expected v_t_one v_t_other g_t_kinds g_t_ones g_t_others g_t_amounts p1).2.2.1, .int v_t_one, .int v_t_other])), (a_t_kinds, .inl (cI, 60, .inl (f_X4_readDeed v_t_acts v_t_expected v_t_one v_t_other g_t_kinds g_t_ones g_t_others g_t_amounts p1).2.2.2.1)), (a_t_ones, .inl (cI, 60, .inl (f_X4_readDeed v_t_acts v_t_expected v_t_one v_t_other g_t_kinds g_t_ones g_t_others g_t_amounts p1).2.2.2.2.1)), (a_t_others, .inl (cI, 60, .inl (f_X4_readDeed v_t_acts v_t_expected v_t_one v_t_other g_t_kinds g_t_ones g_t_others g_t_amounts p1).2.2.2.2.2.1)), (a_t_amounts, .inl (cI, 60, .inl (f_X4_readDeed v_t_acts v_t_expected v_t_one v_t_other g_t_kinds g_t_ones g_t_others g_t_amounts p1).2.2.2.2.2.2))] := by
  refine CT.intro RX4 (by decide) rfl (Nat.le_of_ble_eq_true rfl) rfl ?_
  intro p e s m below meth c C hr hw ls hl
  have hx := C.hx
  have hb := C.hb
  replace hl : lv_has ls 2 [(0, .ref a_t), (1, .int p1)] := hl
  refine lv_iload_n hx hb dX4_readDeed_0 rfl (lv_at hl 1 rfl) ?_
  refine lv_bipush (v := 94) hx hb dX4_readDeed_1 (by decide) ?_
  refine lv_icmp_ne (tgt := 14) hx hb dX4_readDeed_3 (by decide) (fun c1 => ?_) (fun c1 => ?_)
  · replace hok := Eq.mp (if_neg c1) hok
    refine lv_iload_n hx hb dX4_readDeed_14 rfl (lv_at hl 1 rfl) ?_
    refine lv_bipush (v := 95) hx hb dX4_readDeed_15 (by decide) ?_
    refine lv_icmp_ne (tgt := 28) hx hb dX4_readDeed_17 (by decide) (fun c2 => ?_) (fun c2 => ?_)
    · refine lv_iload_n hx hb dX4_readDeed_28 rfl (lv_at hl 1 rfl) ?_
      refine lv_bipush (v := 62) hx hb dX4_readDeed_29 (by decide) ?_
      refine lv_icmp_ne (tgt := 41) hx hb dX4_readDeed_31 (by decide) (fun c3 => ?_) (fun c3 => ?_)
      · refine lv_iconst (v := 0) hx hb dX4_readDeed_41 (by decide) ?_
        rw [show f_X4_readDeed v_t_acts v_t_expected v_t_one v_t_other g_t_kinds g_t_ones g_t_others g_t_amounts p1 = (0, v_t_acts, v_t_expected, g_t_kinds, g_t_ones, g_t_others, g_t_amounts) from by
            unfold f_X4_readDeed
            exact (if_neg c1).trans ((if_neg c2).trans ((if_neg c3).trans (rfl)))]
        exact k_zret (v := 0) C hr hw nz0 dX4_readDeed_42
      · refine lv_aload_n hx hb dX4_readDeed_34 rfl (lv_at hl 0 rfl) ?_
        refine lv_iconst (v := 2) hx hb dX4_readDeed_35 (by decide) ?_
        refine k_put C hw (CC := RX4) (T := TX4) (N := 10) (v := .int 2) nX4_readDeed_X4 tyX4_ok nmX4 0 rfl rfl 7 (by decide) (List.mem_of_getElem? (i := 1) rfl) rfl rfl rfl rfl (Nat.le_of_ble_eq_true rfl) dX4_readDeed_36 (fun H locs hw => ?_)
        replace hw : kW D _ s H locs [(a_t, .inr (4, [.ref a_t_kinds, .ref a_t_ones, .ref a_t_others, .ref a_t_amounts, .int v_t_acts, .int v_t_signs, .int v_t_wrongPlace, .int 2, .int v_t_one, .int v_t_other])), (a_t_kinds, .inl (cI, 60, .inl g_t_kinds)), (a_t_ones, .inl (cI, 60, .inl g_t_ones)), (a_t_others, .inl (cI, 60, .inl g_t_others)), (a_t_amounts, .inl (cI, 60, .inl g_t_amounts))] := hw
        refine lv_iconst (v := 1) hx hb dX4_readDeed_39 (by decide) ?_
        rw [show f_X4_readDeed v_t_acts v_t_expected v_t_one v_t_other g_t_kinds g_t_ones g_t_others g_t_amounts p1 = (1, v_t_acts, 2, g_t_kinds, g_t_ones, g_t_others, g_t_amounts) from by
            unfold f_X4_readDeed
            exact (if_neg c1).trans ((if_neg c2).trans ((if_pos c3).trans (rfl)))]
        exact k_zret (v := 1) C hr hw nz1 dX4_readDeed_40
    · replace hok := Eq.mp (if_pos c2) hok
      refine lv_aload_n hx hb dX4_readDeed_20 rfl (lv_at hl 0 rfl) ?_
      refine lv_iconst (v := 1) hx hb dX4_readDeed_21 (by decide) ?_
      refine lv_iconst (v := 0) hx hb dX4_readDeed_22 (by decide) ?_
      obtain ⟨h4, hok⟩ := hok
      refine k_callV (As := [.int 1, .int 0]) (rest := []) (n := 2) (CC := RX4) (T := TX4) (N := 10) C hw (T_X4_addAct l D cI cZ a_t a_t_kinds a_t_ones a_t_others a_t_amounts v_t_acts v_t_signs v_t_wrongPlace v_t_expected v_t_one v_t_other g_t_kinds g_t_ones g_t_others g_t_amounts (1 : Int32) (0 : Int32) h4) gX4_readDeed_X4_addAct rfl ⟨rfl, rfl⟩ (by decide +kernel) ⟨Nat.le_of_ble_eq_true rfl, Nat.le_of_ble_eq_true rfl⟩ 0 rfl rfl [0, 1, 2, 3, 4] rfl rfl [a_t, a_t_kinds, a_t_ones, a_t_others, a_t_amounts] rfl rfl rfl hl.1 rfl (Nat.le_of_ble_eq_true rfl) ⟨Nat.zero_le _, Nat.zero_le _⟩ dX4_readDeed_23 (fun H locs hw => ?_)
      obtain ⟨z5, h6⟩ : ∃ z, (f_X4_addAct v_t_acts v_t_one v_t_other g_t_kinds g_t_ones g_t_others g_t_amounts (1 : Int32) (0 : Int32)) = z := ⟨_, rfl⟩
      refine W.eq (g2 := F0 m 26 ls []) (by subst h6; rfl) ?_
      replace hw := kW_cast (ws' := [(a_t, .inr (4, [.ref a_t_kinds, .ref a_t_ones, .ref a_t_others, .ref a_t_amounts, .int z5.1, .int v_t_signs, .int v_t_wrongPlace, .int z5.2.1, .int v_t_one, .int v_t_other])), (a_t_kinds, .inl (cI, 60, .inl z5.2.2.1)), (a_t_ones, .inl (cI, 60, .inl z5.2.2.2.1)), (a_t_others, .inl (cI, 60, .inl z5.2.2.2.2.1)), (a_t_amounts, .inl (cI, 60, .inl z5.2.2.2.2.2))]) (by subst h6; rfl) hw
      refine lv_iconst (v := 1) hx hb dX4_readDeed_26 (by decide) ?_
      rw [show f_X4_readDeed v_t_acts v_t_expected v_t_one v_t_other g_t_kinds g_t_ones g_t_others g_t_amounts p1 = (1, z5.1, z5.2.1, z5.2.2.1, z5.2.2.2.1, z5.2.2.2.2.1, z5.2.2.2.2.2) from by
          unfold f_X4_readDeed
          exact (if_neg c1).trans ((if_pos c2).trans ((lt_c h6).trans (rfl)))]
      exact k_zret (v := 1) C hr hw nz1 dX4_readDeed_27
  · replace hok := Eq.mp (if_pos c1) hok
    refine lv_aload_n hx hb dX4_readDeed_6 rfl (lv_at hl 0 rfl) ?_
    refine lv_iconst (v := 0) hx hb dX4_readDeed_7 (by decide) ?_
    refine lv_iconst (v := 0) hx hb dX4_readDeed_8 (by decide) ?_
    obtain ⟨h7, hok⟩ := hok
    refine k_callV (As := [.int 0, .int 0]) (rest := []) (n := 2) (CC := RX4) (T := TX4) (N := 10) C hw (T_X4_addAct l D cI cZ a_t a_t_kinds a_t_ones a_t_others a_t_amounts v_t_acts v_t_signs v_t_wrongPlace v_t_expected v_t_one v_t_other g_t_kinds g_t_ones g_t_others g_t_amounts (0 : Int32) (0 : Int32) h7) gX4_readDeed_X4_addAct rfl ⟨rfl, rfl⟩ (by decide +kernel) ⟨Nat.le_of_ble_eq_true rfl, Nat.le_of_ble_eq_true rfl⟩ 0 rfl rfl [0, 1, 2, 3, 4] rfl rfl [a_t, a_t_kinds, a_t_ones, a_t_others, a_t_amounts] rfl rfl rfl hl.1 rfl (Nat.le_of_ble_eq_true rfl) ⟨Nat.zero_le _, Nat.zero_le _⟩ dX4_readDeed_9 (fun H locs hw => ?_)
    obtain ⟨z8, h9⟩ : ∃ z, (f_X4_addAct v_t_acts v_t_one v_t_other g_t_kinds g_t_ones g_t_others g_t_amounts (0 : Int32) (0 : Int32)) = z := ⟨_, rfl⟩
    refine W.eq (g2 := F0 m 12 ls []) (by subst h9; rfl) ?_
    replace hw := kW_cast (ws' := [(a_t, .inr (4, [.ref a_t_kinds, .ref a_t_ones, .ref a_t_others, .ref a_t_amounts, .int z8.1, .int v_t_signs, .int v_t_wrongPlace, .int z8.2.1, .int v_t_one, .int v_t_other])), (a_t_kinds, .inl (cI, 60, .inl z8.2.2.1)), (a_t_ones, .inl (cI, 60, .inl z8.2.2.2.1)), (a_t_others, .inl (cI, 60, .inl z8.2.2.2.2.1)), (a_t_amounts, .inl (cI, 60, .inl z8.2.2.2.2.2))]) (by subst h9; rfl) hw
    refine lv_iconst (v := 1) hx hb dX4_readDeed_12 (by decide) ?_
    rw [show f_X4_readDeed v_t_acts v_t_expected v_t_one v_t_other g_t_kinds g_t_ones g_t_others g_t_amounts p1 = (1, z8.1, z8.2.1, z8.2.2.1, z8.2.2.2.1, z8.2.2.2.2.1, z8.2.2.2.2.2) from by
        unfold f_X4_readDeed
        exact (if_pos c1).trans ((lt_c h9).trans (rfl))]
    exact k_zret (v := 1) C hr hw nz1 dX4_readDeed_13

def f_X4_readAmount (v_t_acts : Int32) (v_t_expected : Int32) (v_t_one : Int32) (v_t_other : Int32) (g_t_kinds : (Nat → Int32)) (g_t_ones : (Nat → Int32)) (g_t_others : (Nat → Int32)) (g_t_amounts : (Nat → Int32)) (p1 : Int32) : Int32 × Int32 × Int32 × (Nat → Int32) × (Nat → Int32) × (Nat → Int32) × (Nat → Int32) := (if p1 < 49 then (0, v_t_acts, v_t_expected, g_t_kinds, g_t_ones, g_t_others, g_t_amounts) else (if p1 ≤ 57 then (lt (f_X4_addAct v_t_acts v_t_one v_t_other g_t_kinds g_t_ones g_t_others g_t_amounts (2 : Int32) (p1 - 48)) (fun z4 => (1, z4.1, z4.2.1, z4.2.2.1, z4.2.2.2.1, z4.2.2.2.2.1, z4.2.2.2.2.2))) else (0, v_t_acts, v_t_expected, g_t_kinds, g_t_ones, g_t_others, g_t_amounts)))
def o_X4_readAmount (v_t_acts : Int32) (p1 : Int32) : Prop := (if p1 < 49 then True else (if p1 ≤ 57 then ((o_X4_addAct v_t_acts) ∧ True) else True))
set_option maxHeartbeats 4000000 in
set_option maxRecDepth 100000 in
theorem T_X4_readAmount (l : Launch) (D : va_G) (cI cZ : ClassId) (a_t a_t_kinds a_t_ones a_t_others a_t_amounts : Nat) (v_t_acts : Int32) (v_t_signs : Int32) (v_t_wrongPlace : Int32) (v_t_expected : Int32) (v_t_one : Int32) (v_t_other : Int32) (g_t_kinds : (Nat → Int32)) (g_t_ones : (Nat → Int32)) (g_t_others : (Nat → Int32)) (g_t_amounts : (Nat → Int32)) (p1 : Int32) (hok : o_X4_readAmount v_t_acts p1) : CT l D cI cZ yX4_readAmount wsX4_readAmount ({ frames := 1, cells := 0, slots := 0, locals := 22 }) [.ref a_t, .int p1] [(a_t, .inr (4, [.ref a_t_kinds, .ref a_t_ones, .ref a_t_others, .ref a_t_amounts, .int v_t_acts, .int v_t_signs, .int v_t_wrongPlace, .int v_t_expected, .int v_t_one, .int v_t_other])), (a_t_kinds, .inl (cI, 60, .inl g_t_kinds)), (a_t_ones, .inl (cI, 60, .inl g_t_ones)), (a_t_others, .inl (cI, 60, .inl g_t_others)), (a_t_amounts, .inl (cI, 60, .inl g_t_amounts))] (some (.int (f_X4_readAmount v_t_acts v_t_expected v_t_one v_t_other g_t_kinds g_t_ones g_t_others g_t_amounts p1).1)) [(a_t, .inr (4, [.ref a_t_kinds, .ref a_t_ones, .ref a_t_others, .ref a_t_amounts, .int (f_X4_readAmount v_t_acts v_t_expected v_t_one v_t_other g_t_kinds g_t_ones g_t_others g_t_amounts p1).2.1, .int v_t_signs, .int v_t_wrongPlace, .int (f_X4_readAmount v_t_acts v_t_expected v_t_one v_t_other g_t_kinds g_t_ones g_t_others g_t_amounts p1).2.2.1, .int v_t_one, .int v_t_other])), (a_t_kinds, .inl (cI, 60, .inl (f_X4_readAmount v_t_acts v_t_expected v_t_one v_t_other g_t_kinds g_t_ones g_t_others g_t_amounts p1).2.2.2.1)), (a_t_ones, .inl (cI, 60, .inl (f_X4_readAmount v_t_acts v_t_expected v_t_one v_t_other g_t_kinds g_t_ones g_t_others g_t_amounts p1).2.2.2.2.1)), (a_t_others, .inl (cI, 60, .inl (f_X4_readAmount v_t_acts v_t_expected v_t_one v_t_other g_t_kinds g_t_ones g_t_others g_t_amounts p1).2.2.2.2.2.1)), (a_t_amounts, .inl (cI, 60, .inl (f_X4_readAmount v_t_acts v_t_expected v_t_one v_t_other g_t_kinds g_t_ones g_t_others g_t_amounts p1).2.2.2.2.2.2))] := by
  refine CT.intro RX4 (by decide) rfl (Nat.le_of_ble_eq_true rfl) rfl ?_
  intro p e s m below meth c C hr hw ls hl
  have hx := C.hx
  have hb := C.hb
  replace hl : lv_has ls 2 [(0, .ref a_t), (1, .int p1)] := hl
  refine lv_iload_n hx hb dX4_readAmount_0 rfl (lv_at hl 1 rfl) ?_
  refine lv_bipush (v := 49) hx hb dX4_readAmount_1 (by decide) ?_
  refine lv_icmp_lt (tgt := 12) hx hb dX4_readAmount_3 (by decide) (fun c1 => ?_) (fun c1 => ?_)
  · refine lv_iconst (v := 0) hx hb dX4_readAmount_12 (by decide) ?_
    rw [show f_X4_readAmount v_t_acts v_t_expected v_t_one v_t_other g_t_kinds g_t_ones g_t_others g_t_amounts p1 = (0, v_t_acts, v_t_expected, g_t_kinds, g_t_ones, g_t_others, g_t_amounts) from by
        unfold f_X4_readAmount
        exact (if_pos c1).trans (rfl)]
    exact k_zret (v := 0) C hr hw nz0 dX4_readAmount_13
  · replace hok := Eq.mp (if_neg c1) hok
    refine lv_iload_n hx hb dX4_readAmount_6 rfl (lv_at hl 1 rfl) ?_
    refine lv_bipush (v := 57) hx hb dX4_readAmount_7 (by decide) ?_
    refine lv_icmp_le (tgt := 14) hx hb dX4_readAmount_9 (by decide) (fun c2 => ?_) (fun c2 => ?_)
    · replace hok := Eq.mp (if_pos c2) hok
      refine lv_aload_n hx hb dX4_readAmount_14 rfl (lv_at hl 0 rfl) ?_
      refine lv_iconst (v := 2) hx hb dX4_readAmount_15 (by decide) ?_
      refine lv_iload_n hx hb dX4_readAmount_16 rfl (lv_at hl 1 rfl) ?_
      refine lv_bipush (v := 48) hx hb dX4_readAmount_17 (by decide) ?_
      refine lv_isub hx hb dX4_readAmount_19 ?_
      obtain ⟨h3, hok⟩ := hok
      refine k_callV (As := [.int 2, .int (p1 - 48)]) (rest := []) (n := 2) (CC := RX4) (T := TX4) (N := 10) C hw (T_X4_addAct l D cI cZ a_t a_t_kinds a_t_ones a_t_others a_t_amounts v_t_acts v_t_signs v_t_wrongPlace v_t_expected v_t_one v_t_other g_t_kinds g_t_ones g_t_others g_t_amounts (2 : Int32) (p1 - 48) h3) gX4_readAmount_X4_addAct rfl ⟨rfl, rfl⟩ (by decide +kernel) ⟨Nat.le_of_ble_eq_true rfl, Nat.le_of_ble_eq_true rfl⟩ 0 rfl rfl [0, 1, 2, 3, 4] rfl rfl [a_t, a_t_kinds, a_t_ones, a_t_others, a_t_amounts] rfl rfl rfl hl.1 rfl (Nat.le_of_ble_eq_true rfl) ⟨Nat.zero_le _, Nat.zero_le _⟩ dX4_readAmount_20 (fun H locs hw => ?_)
      obtain ⟨z4, h5⟩ : ∃ z, (f_X4_addAct v_t_acts v_t_one v_t_other g_t_kinds g_t_ones g_t_others g_t_amounts (2 : Int32) (p1 - 48)) = z := ⟨_, rfl⟩
      refine W.eq (g2 := F0 m 23 ls []) (by subst h5; rfl) ?_
      replace hw := kW_cast (ws' := [(a_t, .inr (4, [.ref a_t_kinds, .ref a_t_ones, .ref a_t_others, .ref a_t_amounts, .int z4.1, .int v_t_signs, .int v_t_wrongPlace, .int z4.2.1, .int v_t_one, .int v_t_other])), (a_t_kinds, .inl (cI, 60, .inl z4.2.2.1)), (a_t_ones, .inl (cI, 60, .inl z4.2.2.2.1)), (a_t_others, .inl (cI, 60, .inl z4.2.2.2.2.1)), (a_t_amounts, .inl (cI, 60, .inl z4.2.2.2.2.2))]) (by subst h5; rfl) hw
      refine lv_iconst (v := 1) hx hb dX4_readAmount_23 (by decide) ?_
      rw [show f_X4_readAmount v_t_acts v_t_expected v_t_one v_t_other g_t_kinds g_t_ones g_t_others g_t_amounts p1 = (1, z4.1, z4.2.1, z4.2.2.1, z4.2.2.2.1, z4.2.2.2.2.1, z4.2.2.2.2.2) from by
          unfold f_X4_readAmount
          exact (if_neg c1).trans ((if_pos c2).trans ((lt_c h5).trans (rfl)))]
      exact k_zret (v := 1) C hr hw nz1 dX4_readAmount_24
    · refine lv_iconst (v := 0) hx hb dX4_readAmount_12 (by decide) ?_
      rw [show f_X4_readAmount v_t_acts v_t_expected v_t_one v_t_other g_t_kinds g_t_ones g_t_others g_t_amounts p1 = (0, v_t_acts, v_t_expected, g_t_kinds, g_t_ones, g_t_others, g_t_amounts) from by
          unfold f_X4_readAmount
          exact (if_neg c1).trans ((if_neg c2).trans (rfl))]
      exact k_zret (v := 0) C hr hw nz0 dX4_readAmount_13

theorem nX4_read_X4 : ∀ w ∈ wsX40, w ∈ wsX4_read := fun _ h => List.mem_cons_of_mem _ (List.mem_append_right _ h)
def f_X4_read (v_t_acts : Int32) (v_t_expected : Int32) (v_t_one : Int32) (v_t_other : Int32) (g_t_kinds : (Nat → Int32)) (g_t_ones : (Nat → Int32)) (g_t_others : (Nat → Int32)) (g_t_amounts : (Nat → Int32)) (p1 : Int32) : Int32 × Int32 × Int32 × Int32 × Int32 × (Nat → Int32) × (Nat → Int32) × (Nat → Int32) × (Nat → Int32) := (if v_t_expected = 0 then (lt (f_X4_readStart v_t_acts v_t_expected v_t_one v_t_other g_t_kinds g_t_ones g_t_others g_t_amounts p1) (fun z3 => (z3.1, z3.2.1, z3.2.2.1, z3.2.2.2.1, v_t_other, z3.2.2.2.2.1, z3.2.2.2.2.2.1, z3.2.2.2.2.2.2.1, z3.2.2.2.2.2.2.2))) else (if v_t_expected = 1 then (lt (f_X4_readDeed v_t_acts v_t_expected v_t_one v_t_other g_t_kinds g_t_ones g_t_others g_t_amounts p1) (fun z8 => (z8.1, z8.2.1, z8.2.2.1, v_t_one, v_t_other, z8.2.2.2.1, z8.2.2.2.2.1, z8.2.2.2.2.2.1, z8.2.2.2.2.2.2))) else (if v_t_expected = 2 then (lt (f_X4_readAnotherHouse v_t_acts v_t_expected v_t_one v_t_other g_t_kinds g_t_ones g_t_others g_t_amounts p1) (fun z13 => (z13.1, z13.2.1, z13.2.2.1, z13.2.2.2.1, z13.2.2.2.2.1, z13.2.2.2.2.2.1, z13.2.2.2.2.2.2.1, z13.2.2.2.2.2.2.2.1, z13.2.2.2.2.2.2.2.2))) else (if v_t_expected = 3 then (lt (f_X4_readAmount v_t_acts v_t_expected v_t_one v_t_other g_t_kinds g_t_ones g_t_others g_t_amounts p1) (fun z18 => (z18.1, z18.2.1, z18.2.2.1, v_t_one, v_t_other, z18.2.2.2.1, z18.2.2.2.2.1, z18.2.2.2.2.2.1, z18.2.2.2.2.2.2))) else (lt (f_X4_readAnotherHouse v_t_acts v_t_expected v_t_one v_t_other g_t_kinds g_t_ones g_t_others g_t_amounts p1) (fun z22 => (z22.1, z22.2.1, z22.2.2.1, z22.2.2.2.1, z22.2.2.2.2.1, z22.2.2.2.2.2.1, z22.2.2.2.2.2.2.1, z22.2.2.2.2.2.2.2.1, z22.2.2.2.2.2.2.2.2)))))))
def o_X4_read (v_t_acts : Int32) (v_t_expected : Int32) (v_t_one : Int32) (v_t_other : Int32) (g_t_kinds : (Nat → Int32)) (g_t_ones : (Nat → Int32)) (g_t_others : (Nat → Int32)) (g_t_amounts : (Nat → Int32)) (p1 : Int32) : Prop := (if v_t_expected = 0 then ((o_X4_readStart v_t_acts p1) ∧ (lt (f_X4_readStart v_t_acts v_t_expected v_t_one v_t_other g_t_kinds g_t_ones g_t_others g_t_amounts p1) (fun z3 => ((narrow .boolean (.int z3.1) = .int z3.1) ∧ True)))) else (if v_t_expected = 1 then ((o_X4_readDeed v_t_acts p1) ∧ (lt (f_X4_readDeed v_t_acts v_t_expected v_t_one v_t_other g_t_kinds g_t_ones g_t_others g_t_amounts p1) (fun z8 => ((narrow .boolean (.int z8.1) = .int z8.1) ∧ True)))) else (if v_t_expected = 2 then ((o_X4_readAnotherHouse v_t_acts v_t_expected p1) ∧ (lt (f_X4_readAnotherHouse v_t_acts v_t_expected v_t_one v_t_other g_t_kinds g_t_ones g_t_others g_t_amounts p1) (fun z13 => ((narrow .boolean (.int z13.1) = .int z13.1) ∧ True)))) else (if v_t_expected = 3 then ((o_X4_readAmount v_t_acts p1) ∧ (lt (f_X4_readAmount v_t_acts v_t_expected v_t_one v_t_other g_t_kinds g_t_ones g_t_others g_t_amounts p1) (fun z18 => ((narrow .boolean (.int z18.1) = .int z18.1) ∧ True)))) else ((o_X4_readAnotherHouse v_t_acts v_t_expected p1) ∧ (lt (f_X4_readAnotherHouse v_t_acts v_t_expected v_t_one v_t_other g_t_kinds g_t_ones g_t_others g_t_amounts p1) (fun z22 => ((narrow .boolean (.int z22.1) = .int z22.1) ∧ True))))))))
set_option maxHeartbeats 4000000 in
set_option maxRecDepth 100000 in
theorem T_X4_read (l : Launch) (D : va_G) (cI cZ : ClassId) (a_t a_t_kinds a_t_ones a_t_others a_t_amounts : Nat) (v_t_acts : Int32) (v_t_signs : Int32) (v_t_wrongPlace : Int32) (v_t_expected : Int32) (v_t_one : Int32) (v_t_other : Int32) (g_t_kinds : (Nat → Int32)) (g_t_ones : (Nat → Int32)) (g_t_others : (Nat → Int32)) (g_t_amounts : (Nat → Int32)) (p1 : Int32) (hok : o_X4_read v_t_acts v_t_expected v_t_one v_t_other g_t_kinds g_t_ones g_t_others g_t_amounts p1) : CT l D cI cZ yX4_read wsX4_read ({ frames := 2, cells := 0, slots := 0, locals := 43 }) [.ref a_t, .int p1] [(a_t, .inr (4, [.ref a_t_kinds, .ref a_t_ones, .ref a_t_others, .ref a_t_amounts, .int v_t_acts, .int v_t_signs, .int v_t_wrongPlace, .int v_t_expected, .int v_t_one, .int v_t_other])), (a_t_kinds, .inl (cI, 60, .inl g_t_kinds)), (a_t_ones, .inl (cI, 60, .inl g_t_ones)), (a_t_others, .inl (cI, 60, .inl g_t_others)), (a_t_amounts, .inl (cI, 60, .inl g_t_amounts))] (some (.int (f_X4_read v_t_acts v_t_expected v_t_one v_t_other g_t_kinds g_t_ones g_t_others g_t_amounts p1).1)) [(a_t, .inr (4, [.ref a_t_kinds, .ref a_t_ones, .ref a_t_others, .ref a_t_amounts, .int (f_X4_read v_t_acts v_t_expected v_t_one v_t_other g_t_kinds g_t_ones g_t_others g_t_amounts p1).2.1, .int v_t_signs, .int v_t_wrongPlace, .int (f_X4_read v_t_acts v_t_expected v_t_one v_t_other g_t_kinds g_t_ones g_t_others g_t_amounts p1).2.2.1, .int (f_X4_read v_t_acts v_t_expected v_t_one v_t_other g_t_kinds g_t_ones g_t_others g_t_amounts p1).2.2.2.1, .int (f_X4_read v_t_acts v_t_expected v_t_one v_t_other g_t_kinds g_t_ones g_t_others g_t_amounts p1).2.2.2.2.1])), (a_t_kinds, .inl (cI, 60, .inl (f_X4_read v_t_acts v_t_expected v_t_one v_t_other g_t_kinds g_t_ones g_t_others g_t_amounts p1).2.2.2.2.2.1)), (a_t_ones, .inl (cI, 60, .inl (f_X4_read v_t_acts v_t_expected v_t_one v_t_other g_t_kinds g_t_ones g_t_others g_t_amounts p1).2.2.2.2.2.2.1)), (a_t_others, .inl (cI, 60, .inl (f_X4_read v_t_acts v_t_expected v_t_one v_t_other g_t_kinds g_t_ones g_t_others g_t_amounts p1).2.2.2.2.2.2.2.1)), (a_t_amounts, .inl (cI, 60, .inl (f_X4_read v_t_acts v_t_expected v_t_one v_t_other g_t_kinds g_t_ones g_t_others g_t_amounts p1).2.2.2.2.2.2.2.2))] := by
  refine CT.intro RX4 (by decide) rfl (Nat.le_of_ble_eq_true rfl) rfl ?_
  intro p e s m below meth c C hr hw ls hl
  have hx := C.hx
  have hb := C.hb
  replace hl : lv_has ls 2 [(0, .ref a_t), (1, .int p1)] := hl
  refine lv_aload_n hx hb dX4_read_0 rfl (lv_at hl 0 rfl) ?_
  refine k_get C hw (CC := RX4) (T := TX4) (N := 10) nX4_read_X4 0 rfl rfl 7 (by decide) (List.mem_of_getElem? (i := 1) rfl) rfl rfl dX4_read_1 ?_
  by_cases c1 : v_t_expected = 0
  · replace hok := Eq.mp (if_pos c1) hok
    refine lv_tableIn (tgt := 36) hx hb dX4_read_4 (by rw [c1]; decide) (by rw [c1]; decide) (by rw [c1]; rfl) (by decide) ?_
    refine lv_aload_n hx hb dX4_read_36 rfl (lv_at hl 0 rfl) ?_
    refine lv_iload_n hx hb dX4_read_37 rfl (lv_at hl 1 rfl) ?_
    obtain ⟨h2, hok⟩ := hok
    refine k_callV (As := [.int p1]) (rest := []) (n := 1) (CC := RX4) (T := TX4) (N := 10) C hw (T_X4_readStart l D cI cZ a_t a_t_kinds a_t_ones a_t_others a_t_amounts v_t_acts v_t_signs v_t_wrongPlace v_t_expected v_t_one v_t_other g_t_kinds g_t_ones g_t_others g_t_amounts p1 h2) gX4_read_X4_readStart rfl ⟨rfl, rfl⟩ (by decide +kernel) ⟨Nat.le_of_ble_eq_true rfl, Nat.le_of_ble_eq_true rfl⟩ 0 rfl rfl [0, 1, 2, 3, 4] rfl rfl [a_t, a_t_kinds, a_t_ones, a_t_others, a_t_amounts] rfl rfl rfl hl.1 rfl (Nat.le_of_ble_eq_true rfl) ⟨Nat.zero_le _, Nat.zero_le _⟩ dX4_read_38 (fun H locs hw => ?_)
    obtain ⟨z3, h4⟩ : ∃ z, (f_X4_readStart v_t_acts v_t_expected v_t_one v_t_other g_t_kinds g_t_ones g_t_others g_t_amounts p1) = z := ⟨_, rfl⟩
    refine W.eq (g2 := F0 m 41 ls [.int z3.1]) (by subst h4; rfl) ?_
    replace hw := kW_cast (ws' := [(a_t, .inr (4, [.ref a_t_kinds, .ref a_t_ones, .ref a_t_others, .ref a_t_amounts, .int z3.2.1, .int v_t_signs, .int v_t_wrongPlace, .int z3.2.2.1, .int z3.2.2.2.1, .int v_t_other])), (a_t_kinds, .inl (cI, 60, .inl z3.2.2.2.2.1)), (a_t_ones, .inl (cI, 60, .inl z3.2.2.2.2.2.1)), (a_t_others, .inl (cI, 60, .inl z3.2.2.2.2.2.2.1)), (a_t_amounts, .inl (cI, 60, .inl z3.2.2.2.2.2.2.2))]) (by subst h4; rfl) hw
    replace hok := Eq.mp (lt_c h4) hok
    obtain ⟨h5, hok⟩ := hok
    rw [show f_X4_read v_t_acts v_t_expected v_t_one v_t_other g_t_kinds g_t_ones g_t_others g_t_amounts p1 = (z3.1, z3.2.1, z3.2.2.1, z3.2.2.2.1, v_t_other, z3.2.2.2.2.1, z3.2.2.2.2.2.1, z3.2.2.2.2.2.2.1, z3.2.2.2.2.2.2.2) from by
        unfold f_X4_read
        exact (if_pos c1).trans ((lt_c h4).trans (rfl))]
    exact k_zret (v := z3.1) C hr hw h5 dX4_read_41
  · replace hok := Eq.mp (if_neg c1) hok
    by_cases c6 : v_t_expected = 1
    · replace hok := Eq.mp (if_pos c6) hok
      refine lv_tableIn (tgt := 42) hx hb dX4_read_4 (by rw [c6]; decide) (by rw [c6]; decide) (by rw [c6]; rfl) (by decide) ?_
      refine lv_aload_n hx hb dX4_read_42 rfl (lv_at hl 0 rfl) ?_
      refine lv_iload_n hx hb dX4_read_43 rfl (lv_at hl 1 rfl) ?_
      obtain ⟨h7, hok⟩ := hok
      refine k_callV (As := [.int p1]) (rest := []) (n := 1) (CC := RX4) (T := TX4) (N := 10) C hw (T_X4_readDeed l D cI cZ a_t a_t_kinds a_t_ones a_t_others a_t_amounts v_t_acts v_t_signs v_t_wrongPlace v_t_expected v_t_one v_t_other g_t_kinds g_t_ones g_t_others g_t_amounts p1 h7) gX4_read_X4_readDeed rfl ⟨rfl, rfl⟩ (by decide +kernel) ⟨Nat.le_of_ble_eq_true rfl, Nat.le_of_ble_eq_true rfl⟩ 0 rfl rfl [0, 1, 2, 3, 4] rfl rfl [a_t, a_t_kinds, a_t_ones, a_t_others, a_t_amounts] rfl rfl rfl hl.1 rfl (Nat.le_of_ble_eq_true rfl) ⟨Nat.zero_le _, Nat.zero_le _⟩ dX4_read_44 (fun H locs hw => ?_)
      obtain ⟨z8, h9⟩ : ∃ z, (f_X4_readDeed v_t_acts v_t_expected v_t_one v_t_other g_t_kinds g_t_ones g_t_others g_t_amounts p1) = z := ⟨_, rfl⟩
      refine W.eq (g2 := F0 m 47 ls [.int z8.1]) (by subst h9; rfl) ?_
      replace hw := kW_cast (ws' := [(a_t, .inr (4, [.ref a_t_kinds, .ref a_t_ones, .ref a_t_others, .ref a_t_amounts, .int z8.2.1, .int v_t_signs, .int v_t_wrongPlace, .int z8.2.2.1, .int v_t_one, .int v_t_other])), (a_t_kinds, .inl (cI, 60, .inl z8.2.2.2.1)), (a_t_ones, .inl (cI, 60, .inl z8.2.2.2.2.1)), (a_t_others, .inl (cI, 60, .inl z8.2.2.2.2.2.1)), (a_t_amounts, .inl (cI, 60, .inl z8.2.2.2.2.2.2))]) (by subst h9; rfl) hw
      replace hok := Eq.mp (lt_c h9) hok
      obtain ⟨h10, hok⟩ := hok
      rw [show f_X4_read v_t_acts v_t_expected v_t_one v_t_other g_t_kinds g_t_ones g_t_others g_t_amounts p1 = (z8.1, z8.2.1, z8.2.2.1, v_t_one, v_t_other, z8.2.2.2.1, z8.2.2.2.2.1, z8.2.2.2.2.2.1, z8.2.2.2.2.2.2) from by
          unfold f_X4_read
          exact (if_neg c1).trans ((if_pos c6).trans ((lt_c h9).trans (rfl)))]
      exact k_zret (v := z8.1) C hr hw h10 dX4_read_47
    · replace hok := Eq.mp (if_neg c6) hok
      by_cases c11 : v_t_expected = 2
      · replace hok := Eq.mp (if_pos c11) hok
        refine lv_tableIn (tgt := 54) hx hb dX4_read_4 (by rw [c11]; decide) (by rw [c11]; decide) (by rw [c11]; rfl) (by decide) ?_
        refine lv_aload_n hx hb dX4_read_54 rfl (lv_at hl 0 rfl) ?_
        refine lv_iload_n hx hb dX4_read_55 rfl (lv_at hl 1 rfl) ?_
        obtain ⟨h12, hok⟩ := hok
        refine k_callV (As := [.int p1]) (rest := []) (n := 1) (CC := RX4) (T := TX4) (N := 10) C hw (T_X4_readAnotherHouse l D cI cZ a_t a_t_kinds a_t_ones a_t_others a_t_amounts v_t_acts v_t_signs v_t_wrongPlace v_t_expected v_t_one v_t_other g_t_kinds g_t_ones g_t_others g_t_amounts p1 h12) gX4_read_X4_readAnotherHouse rfl ⟨rfl, rfl⟩ (by decide +kernel) ⟨Nat.le_of_ble_eq_true rfl, Nat.le_of_ble_eq_true rfl⟩ 0 rfl rfl [0, 1, 2, 3, 4] rfl rfl [a_t, a_t_kinds, a_t_ones, a_t_others, a_t_amounts] rfl rfl rfl hl.1 rfl (Nat.le_of_ble_eq_true rfl) ⟨Nat.zero_le _, Nat.zero_le _⟩ dX4_read_56 (fun H locs hw => ?_)
        obtain ⟨z13, h14⟩ : ∃ z, (f_X4_readAnotherHouse v_t_acts v_t_expected v_t_one v_t_other g_t_kinds g_t_ones g_t_others g_t_amounts p1) = z := ⟨_, rfl⟩
        refine W.eq (g2 := F0 m 59 ls [.int z13.1]) (by subst h14; rfl) ?_
        replace hw := kW_cast (ws' := [(a_t, .inr (4, [.ref a_t_kinds, .ref a_t_ones, .ref a_t_others, .ref a_t_amounts, .int z13.2.1, .int v_t_signs, .int v_t_wrongPlace, .int z13.2.2.1, .int z13.2.2.2.1, .int z13.2.2.2.2.1])), (a_t_kinds, .inl (cI, 60, .inl z13.2.2.2.2.2.1)), (a_t_ones, .inl (cI, 60, .inl z13.2.2.2.2.2.2.1)), (a_t_others, .inl (cI, 60, .inl z13.2.2.2.2.2.2.2.1)), (a_t_amounts, .inl (cI, 60, .inl z13.2.2.2.2.2.2.2.2))]) (by subst h14; rfl) hw
        replace hok := Eq.mp (lt_c h14) hok
        obtain ⟨h15, hok⟩ := hok
        rw [show f_X4_read v_t_acts v_t_expected v_t_one v_t_other g_t_kinds g_t_ones g_t_others g_t_amounts p1 = (z13.1, z13.2.1, z13.2.2.1, z13.2.2.2.1, z13.2.2.2.2.1, z13.2.2.2.2.2.1, z13.2.2.2.2.2.2.1, z13.2.2.2.2.2.2.2.1, z13.2.2.2.2.2.2.2.2) from by
            unfold f_X4_read
            exact (if_neg c1).trans ((if_neg c6).trans ((if_pos c11).trans ((lt_c h14).trans (rfl))))]
        exact k_zret (v := z13.1) C hr hw h15 dX4_read_59
      · replace hok := Eq.mp (if_neg c11) hok
        by_cases c16 : v_t_expected = 3
        · replace hok := Eq.mp (if_pos c16) hok
          refine lv_tableIn (tgt := 48) hx hb dX4_read_4 (by rw [c16]; decide) (by rw [c16]; decide) (by rw [c16]; rfl) (by decide) ?_
          refine lv_aload_n hx hb dX4_read_48 rfl (lv_at hl 0 rfl) ?_
          refine lv_iload_n hx hb dX4_read_49 rfl (lv_at hl 1 rfl) ?_
          obtain ⟨h17, hok⟩ := hok
          refine k_callV (As := [.int p1]) (rest := []) (n := 1) (CC := RX4) (T := TX4) (N := 10) C hw (T_X4_readAmount l D cI cZ a_t a_t_kinds a_t_ones a_t_others a_t_amounts v_t_acts v_t_signs v_t_wrongPlace v_t_expected v_t_one v_t_other g_t_kinds g_t_ones g_t_others g_t_amounts p1 h17) gX4_read_X4_readAmount rfl ⟨rfl, rfl⟩ (by decide +kernel) ⟨Nat.le_of_ble_eq_true rfl, Nat.le_of_ble_eq_true rfl⟩ 0 rfl rfl [0, 1, 2, 3, 4] rfl rfl [a_t, a_t_kinds, a_t_ones, a_t_others, a_t_amounts] rfl rfl rfl hl.1 rfl (Nat.le_of_ble_eq_true rfl) ⟨Nat.zero_le _, Nat.zero_le _⟩ dX4_read_50 (fun H locs hw => ?_)
          obtain ⟨z18, h19⟩ : ∃ z, (f_X4_readAmount v_t_acts v_t_expected v_t_one v_t_other g_t_kinds g_t_ones g_t_others g_t_amounts p1) = z := ⟨_, rfl⟩
          refine W.eq (g2 := F0 m 53 ls [.int z18.1]) (by subst h19; rfl) ?_
          replace hw := kW_cast (ws' := [(a_t, .inr (4, [.ref a_t_kinds, .ref a_t_ones, .ref a_t_others, .ref a_t_amounts, .int z18.2.1, .int v_t_signs, .int v_t_wrongPlace, .int z18.2.2.1, .int v_t_one, .int v_t_other])), (a_t_kinds, .inl (cI, 60, .inl z18.2.2.2.1)), (a_t_ones, .inl (cI, 60, .inl z18.2.2.2.2.1)), (a_t_others, .inl (cI, 60, .inl z18.2.2.2.2.2.1)), (a_t_amounts, .inl (cI, 60, .inl z18.2.2.2.2.2.2))]) (by subst h19; rfl) hw
          replace hok := Eq.mp (lt_c h19) hok
          obtain ⟨h20, hok⟩ := hok
          rw [show f_X4_read v_t_acts v_t_expected v_t_one v_t_other g_t_kinds g_t_ones g_t_others g_t_amounts p1 = (z18.1, z18.2.1, z18.2.2.1, v_t_one, v_t_other, z18.2.2.2.1, z18.2.2.2.2.1, z18.2.2.2.2.2.1, z18.2.2.2.2.2.2) from by
              unfold f_X4_read
              exact (if_neg c1).trans ((if_neg c6).trans ((if_neg c11).trans ((if_pos c16).trans ((lt_c h19).trans (rfl)))))]
          exact k_zret (v := z18.1) C hr hw h20 dX4_read_53
        · replace hok := Eq.mp (if_neg c16) hok
          refine lv_tableOut (tgt := 54) hx hb dX4_read_4 (tab_out4 c1 c6 c11 c16) (by decide) ?_
          refine lv_aload_n hx hb dX4_read_54 rfl (lv_at hl 0 rfl) ?_
          refine lv_iload_n hx hb dX4_read_55 rfl (lv_at hl 1 rfl) ?_
          obtain ⟨h21, hok⟩ := hok
          refine k_callV (As := [.int p1]) (rest := []) (n := 1) (CC := RX4) (T := TX4) (N := 10) C hw (T_X4_readAnotherHouse l D cI cZ a_t a_t_kinds a_t_ones a_t_others a_t_amounts v_t_acts v_t_signs v_t_wrongPlace v_t_expected v_t_one v_t_other g_t_kinds g_t_ones g_t_others g_t_amounts p1 h21) gX4_read_X4_readAnotherHouse rfl ⟨rfl, rfl⟩ (by decide +kernel) ⟨Nat.le_of_ble_eq_true rfl, Nat.le_of_ble_eq_true rfl⟩ 0 rfl rfl [0, 1, 2, 3, 4] rfl rfl [a_t, a_t_kinds, a_t_ones, a_t_others, a_t_amounts] rfl rfl rfl hl.1 rfl (Nat.le_of_ble_eq_true rfl) ⟨Nat.zero_le _, Nat.zero_le _⟩ dX4_read_56 (fun H locs hw => ?_)
          obtain ⟨z22, h23⟩ : ∃ z, (f_X4_readAnotherHouse v_t_acts v_t_expected v_t_one v_t_other g_t_kinds g_t_ones g_t_others g_t_amounts p1) = z := ⟨_, rfl⟩
          refine W.eq (g2 := F0 m 59 ls [.int z22.1]) (by subst h23; rfl) ?_
          replace hw := kW_cast (ws' := [(a_t, .inr (4, [.ref a_t_kinds, .ref a_t_ones, .ref a_t_others, .ref a_t_amounts, .int z22.2.1, .int v_t_signs, .int v_t_wrongPlace, .int z22.2.2.1, .int z22.2.2.2.1, .int z22.2.2.2.2.1])), (a_t_kinds, .inl (cI, 60, .inl z22.2.2.2.2.2.1)), (a_t_ones, .inl (cI, 60, .inl z22.2.2.2.2.2.2.1)), (a_t_others, .inl (cI, 60, .inl z22.2.2.2.2.2.2.2.1)), (a_t_amounts, .inl (cI, 60, .inl z22.2.2.2.2.2.2.2.2))]) (by subst h23; rfl) hw
          replace hok := Eq.mp (lt_c h23) hok
          obtain ⟨h24, hok⟩ := hok
          rw [show f_X4_read v_t_acts v_t_expected v_t_one v_t_other g_t_kinds g_t_ones g_t_others g_t_amounts p1 = (z22.1, z22.2.1, z22.2.2.1, z22.2.2.2.1, z22.2.2.2.2.1, z22.2.2.2.2.2.1, z22.2.2.2.2.2.2.1, z22.2.2.2.2.2.2.2.1, z22.2.2.2.2.2.2.2.2) from by
              unfold f_X4_read
              exact (if_neg c1).trans ((if_neg c6).trans ((if_neg c11).trans ((if_neg c16).trans ((lt_c h23).trans (rfl)))))]
          exact k_zret (v := z22.1) C hr hw h24 dX4_read_59

theorem nX4_hear_X4 : ∀ w ∈ wsX40, w ∈ wsX4_hear := fun _ h => List.mem_cons_of_mem _ (List.mem_append_right _ h)
def f_X4_hear (v_t_acts : Int32) (v_t_signs : Int32) (v_t_wrongPlace : Int32) (v_t_expected : Int32) (v_t_one : Int32) (v_t_other : Int32) (g_t_kinds : (Nat → Int32)) (g_t_ones : (Nat → Int32)) (g_t_others : (Nat → Int32)) (g_t_amounts : (Nat → Int32)) (p1 : Int32) : Int32 × Int32 × Int32 × Int32 × Int32 × Int32 × (Nat → Int32) × (Nat → Int32) × (Nat → Int32) × (Nat → Int32) := (if v_t_wrongPlace = (-6) then (lt (f_X4_read v_t_acts v_t_expected v_t_one v_t_other g_t_kinds g_t_ones g_t_others g_t_amounts p1) (fun z3 => (if z3.1 = 0 then (z3.2.1, (v_t_signs + 1), v_t_signs, z3.2.2.1, z3.2.2.2.1, z3.2.2.2.2.1, z3.2.2.2.2.2.1, z3.2.2.2.2.2.2.1, z3.2.2.2.2.2.2.2.1, z3.2.2.2.2.2.2.2.2) else (z3.2.1, (v_t_signs + 1), v_t_wrongPlace, z3.2.2.1, z3.2.2.2.1, z3.2.2.2.2.1, z3.2.2.2.2.2.1, z3.2.2.2.2.2.2.1, z3.2.2.2.2.2.2.2.1, z3.2.2.2.2.2.2.2.2)))) else (v_t_acts, (v_t_signs + 1), v_t_wrongPlace, v_t_expected, v_t_one, v_t_other, g_t_kinds, g_t_ones, g_t_others, g_t_amounts))
def o_X4_hear (v_t_acts : Int32) (v_t_wrongPlace : Int32) (v_t_expected : Int32) (v_t_one : Int32) (v_t_other : Int32) (g_t_kinds : (Nat → Int32)) (g_t_ones : (Nat → Int32)) (g_t_others : (Nat → Int32)) (g_t_amounts : (Nat → Int32)) (p1 : Int32) : Prop := (if v_t_wrongPlace = (-6) then ((o_X4_read v_t_acts v_t_expected v_t_one v_t_other g_t_kinds g_t_ones g_t_others g_t_amounts p1) ∧ True) else True)
set_option maxHeartbeats 4000000 in
set_option maxRecDepth 100000 in
theorem T_X4_hear (l : Launch) (D : va_G) (cI cZ : ClassId) (a_t a_t_kinds a_t_ones a_t_others a_t_amounts : Nat) (v_t_acts : Int32) (v_t_signs : Int32) (v_t_wrongPlace : Int32) (v_t_expected : Int32) (v_t_one : Int32) (v_t_other : Int32) (g_t_kinds : (Nat → Int32)) (g_t_ones : (Nat → Int32)) (g_t_others : (Nat → Int32)) (g_t_amounts : (Nat → Int32)) (p1 : Int32) (hok : o_X4_hear v_t_acts v_t_wrongPlace v_t_expected v_t_one v_t_other g_t_kinds g_t_ones g_t_others g_t_amounts p1) : CT l D cI cZ yX4_hear wsX4_hear ({ frames := 3, cells := 0, slots := 0, locals := 64 }) [.ref a_t, .int p1] [(a_t, .inr (4, [.ref a_t_kinds, .ref a_t_ones, .ref a_t_others, .ref a_t_amounts, .int v_t_acts, .int v_t_signs, .int v_t_wrongPlace, .int v_t_expected, .int v_t_one, .int v_t_other])), (a_t_kinds, .inl (cI, 60, .inl g_t_kinds)), (a_t_ones, .inl (cI, 60, .inl g_t_ones)), (a_t_others, .inl (cI, 60, .inl g_t_others)), (a_t_amounts, .inl (cI, 60, .inl g_t_amounts))] none [(a_t, .inr (4, [.ref a_t_kinds, .ref a_t_ones, .ref a_t_others, .ref a_t_amounts, .int (f_X4_hear v_t_acts v_t_signs v_t_wrongPlace v_t_expected v_t_one v_t_other g_t_kinds g_t_ones g_t_others g_t_amounts p1).1, .int (f_X4_hear v_t_acts v_t_signs v_t_wrongPlace v_t_expected v_t_one v_t_other g_t_kinds g_t_ones g_t_others g_t_amounts p1).2.1, .int (f_X4_hear v_t_acts v_t_signs v_t_wrongPlace v_t_expected v_t_one v_t_other g_t_kinds g_t_ones g_t_others g_t_amounts p1).2.2.1, .int (f_X4_hear v_t_acts v_t_signs v_t_wrongPlace v_t_expected v_t_one v_t_other g_t_kinds g_t_ones g_t_others g_t_amounts p1).2.2.2.1, .int (f_X4_hear v_t_acts v_t_signs v_t_wrongPlace v_t_expected v_t_one v_t_other g_t_kinds g_t_ones g_t_others g_t_amounts p1).2.2.2.2.1, .int (f_X4_hear v_t_acts v_t_signs v_t_wrongPlace v_t_expected v_t_one v_t_other g_t_kinds g_t_ones g_t_others g_t_amounts p1).2.2.2.2.2.1])), (a_t_kinds, .inl (cI, 60, .inl (f_X4_hear v_t_acts v_t_signs v_t_wrongPlace v_t_expected v_t_one v_t_other g_t_kinds g_t_ones g_t_others g_t_amounts p1).2.2.2.2.2.2.1)), (a_t_ones, .inl (cI, 60, .inl (f_X4_hear v_t_acts v_t_signs v_t_wrongPlace v_t_expected v_t_one v_t_other g_t_kinds g_t_ones g_t_others g_t_amounts p1).2.2.2.2.2.2.2.1)), (a_t_others, .inl (cI, 60, .inl (f_X4_hear v_t_acts v_t_signs v_t_wrongPlace v_t_expected v_t_one v_t_other g_t_kinds g_t_ones g_t_others g_t_amounts p1).2.2.2.2.2.2.2.2.1)), (a_t_amounts, .inl (cI, 60, .inl (f_X4_hear v_t_acts v_t_signs v_t_wrongPlace v_t_expected v_t_one v_t_other g_t_kinds g_t_ones g_t_others g_t_amounts p1).2.2.2.2.2.2.2.2.2))] := by
  refine CT.intro RX4 (by decide) rfl (Nat.le_of_ble_eq_true rfl) rfl ?_
  intro p e s m below meth c C hr hw ls hl
  have hx := C.hx
  have hb := C.hb
  replace hl : lv_has ls 2 [(0, .ref a_t), (1, .int p1)] := hl
  refine lv_aload_n hx hb dX4_hear_0 rfl (lv_at hl 0 rfl) ?_
  refine k_get C hw (CC := RX4) (T := TX4) (N := 10) nX4_hear_X4 0 rfl rfl 6 (by decide) (List.mem_of_getElem? (i := 1) rfl) rfl rfl dX4_hear_1 ?_
  refine lv_bipush (v := (-6)) hx hb dX4_hear_4 (by decide) ?_
  refine lv_icmp_ne (tgt := 25) hx hb dX4_hear_6 (by decide) (fun c1 => ?_) (fun c1 => ?_)
  · refine lv_aload_n hx hb dX4_hear_25 rfl (lv_at hl 0 rfl) ?_
    refine lv_dup hx hb dX4_hear_26 rfl ?_
    refine k_get C hw (CC := RX4) (T := TX4) (N := 10) nX4_hear_X4 0 rfl rfl 5 (by decide) (List.mem_of_getElem? (i := 2) rfl) rfl rfl dX4_hear_27 ?_
    refine lv_iconst (v := 1) hx hb dX4_hear_30 (by decide) ?_
    refine lv_iadd hx hb dX4_hear_31 ?_
    refine k_put C hw (CC := RX4) (T := TX4) (N := 10) (v := .int (v_t_signs + 1)) nX4_hear_X4 tyX4_ok nmX4 0 rfl rfl 5 (by decide) (List.mem_of_getElem? (i := 2) rfl) rfl rfl rfl rfl (Nat.le_of_ble_eq_true rfl) dX4_hear_32 (fun H locs hw => ?_)
    replace hw : kW D _ s H locs [(a_t, .inr (4, [.ref a_t_kinds, .ref a_t_ones, .ref a_t_others, .ref a_t_amounts, .int v_t_acts, .int (v_t_signs + 1), .int v_t_wrongPlace, .int v_t_expected, .int v_t_one, .int v_t_other])), (a_t_kinds, .inl (cI, 60, .inl g_t_kinds)), (a_t_ones, .inl (cI, 60, .inl g_t_ones)), (a_t_others, .inl (cI, 60, .inl g_t_others)), (a_t_amounts, .inl (cI, 60, .inl g_t_amounts))] := hw
    rw [show f_X4_hear v_t_acts v_t_signs v_t_wrongPlace v_t_expected v_t_one v_t_other g_t_kinds g_t_ones g_t_others g_t_amounts p1 = (v_t_acts, (v_t_signs + 1), v_t_wrongPlace, v_t_expected, v_t_one, v_t_other, g_t_kinds, g_t_ones, g_t_others, g_t_amounts) from by
        unfold f_X4_hear
        exact (if_neg c1).trans (rfl)]
    exact k_vret C hr hw dX4_hear_35
  · replace hok := Eq.mp (if_pos c1) hok
    refine lv_aload_n hx hb dX4_hear_9 rfl (lv_at hl 0 rfl) ?_
    refine lv_iload_n hx hb dX4_hear_10 rfl (lv_at hl 1 rfl) ?_
    obtain ⟨h2, hok⟩ := hok
    refine k_callV (As := [.int p1]) (rest := []) (n := 1) (CC := RX4) (T := TX4) (N := 10) C hw (T_X4_read l D cI cZ a_t a_t_kinds a_t_ones a_t_others a_t_amounts v_t_acts v_t_signs v_t_wrongPlace v_t_expected v_t_one v_t_other g_t_kinds g_t_ones g_t_others g_t_amounts p1 h2) gX4_hear_X4_read rfl ⟨rfl, rfl⟩ (by decide +kernel) ⟨Nat.le_of_ble_eq_true rfl, Nat.le_of_ble_eq_true rfl⟩ 0 rfl rfl [0, 1, 2, 3, 4] rfl rfl [a_t, a_t_kinds, a_t_ones, a_t_others, a_t_amounts] rfl rfl rfl hl.1 rfl (Nat.le_of_ble_eq_true rfl) ⟨Nat.zero_le _, Nat.zero_le _⟩ dX4_hear_11 (fun H locs hw => ?_)
    obtain ⟨z3, h4⟩ : ∃ z, (f_X4_read v_t_acts v_t_expected v_t_one v_t_other g_t_kinds g_t_ones g_t_others g_t_amounts p1) = z := ⟨_, rfl⟩
    refine W.eq (g2 := F0 m 14 ls [.int z3.1]) (by subst h4; rfl) ?_
    replace hw := kW_cast (ws' := [(a_t, .inr (4, [.ref a_t_kinds, .ref a_t_ones, .ref a_t_others, .ref a_t_amounts, .int z3.2.1, .int v_t_signs, .int v_t_wrongPlace, .int z3.2.2.1, .int z3.2.2.2.1, .int z3.2.2.2.2.1])), (a_t_kinds, .inl (cI, 60, .inl z3.2.2.2.2.2.1)), (a_t_ones, .inl (cI, 60, .inl z3.2.2.2.2.2.2.1)), (a_t_others, .inl (cI, 60, .inl z3.2.2.2.2.2.2.2.1)), (a_t_amounts, .inl (cI, 60, .inl z3.2.2.2.2.2.2.2.2))]) (by subst h4; rfl) hw
    refine lv_if_ne (tgt := 25) hx hb dX4_hear_14 (by decide) (fun c5 => ?_) (fun c5 => ?_)
    · refine lv_aload_n hx hb dX4_hear_25 rfl (lv_at hl 0 rfl) ?_
      refine lv_dup hx hb dX4_hear_26 rfl ?_
      refine k_get C hw (CC := RX4) (T := TX4) (N := 10) nX4_hear_X4 0 rfl rfl 5 (by decide) (List.mem_of_getElem? (i := 2) rfl) rfl rfl dX4_hear_27 ?_
      refine lv_iconst (v := 1) hx hb dX4_hear_30 (by decide) ?_
      refine lv_iadd hx hb dX4_hear_31 ?_
      refine k_put C hw (CC := RX4) (T := TX4) (N := 10) (v := .int (v_t_signs + 1)) nX4_hear_X4 tyX4_ok nmX4 0 rfl rfl 5 (by decide) (List.mem_of_getElem? (i := 2) rfl) rfl rfl rfl rfl (Nat.le_of_ble_eq_true rfl) dX4_hear_32 (fun H locs hw => ?_)
      replace hw : kW D _ s H locs [(a_t, .inr (4, [.ref a_t_kinds, .ref a_t_ones, .ref a_t_others, .ref a_t_amounts, .int z3.2.1, .int (v_t_signs + 1), .int v_t_wrongPlace, .int z3.2.2.1, .int z3.2.2.2.1, .int z3.2.2.2.2.1])), (a_t_kinds, .inl (cI, 60, .inl z3.2.2.2.2.2.1)), (a_t_ones, .inl (cI, 60, .inl z3.2.2.2.2.2.2.1)), (a_t_others, .inl (cI, 60, .inl z3.2.2.2.2.2.2.2.1)), (a_t_amounts, .inl (cI, 60, .inl z3.2.2.2.2.2.2.2.2))] := hw
      rw [show f_X4_hear v_t_acts v_t_signs v_t_wrongPlace v_t_expected v_t_one v_t_other g_t_kinds g_t_ones g_t_others g_t_amounts p1 = (z3.2.1, (v_t_signs + 1), v_t_wrongPlace, z3.2.2.1, z3.2.2.2.1, z3.2.2.2.2.1, z3.2.2.2.2.2.1, z3.2.2.2.2.2.2.1, z3.2.2.2.2.2.2.2.1, z3.2.2.2.2.2.2.2.2) from by
          unfold f_X4_hear
          exact (if_pos c1).trans ((lt_c h4).trans ((if_neg c5).trans (rfl)))]
      exact k_vret C hr hw dX4_hear_35
    · refine lv_aload_n hx hb dX4_hear_17 rfl (lv_at hl 0 rfl) ?_
      refine lv_aload_n hx hb dX4_hear_18 rfl (lv_at hl 0 rfl) ?_
      refine k_get C hw (CC := RX4) (T := TX4) (N := 10) nX4_hear_X4 0 rfl rfl 5 (by decide) (List.mem_of_getElem? (i := 2) rfl) rfl rfl dX4_hear_19 ?_
      refine k_put C hw (CC := RX4) (T := TX4) (N := 10) (v := .int v_t_signs) nX4_hear_X4 tyX4_ok nmX4 0 rfl rfl 6 (by decide) (List.mem_of_getElem? (i := 1) rfl) rfl rfl rfl rfl (Nat.le_of_ble_eq_true rfl) dX4_hear_22 (fun H locs hw => ?_)
      replace hw : kW D _ s H locs [(a_t, .inr (4, [.ref a_t_kinds, .ref a_t_ones, .ref a_t_others, .ref a_t_amounts, .int z3.2.1, .int v_t_signs, .int v_t_signs, .int z3.2.2.1, .int z3.2.2.2.1, .int z3.2.2.2.2.1])), (a_t_kinds, .inl (cI, 60, .inl z3.2.2.2.2.2.1)), (a_t_ones, .inl (cI, 60, .inl z3.2.2.2.2.2.2.1)), (a_t_others, .inl (cI, 60, .inl z3.2.2.2.2.2.2.2.1)), (a_t_amounts, .inl (cI, 60, .inl z3.2.2.2.2.2.2.2.2))] := hw
      refine lv_aload_n hx hb dX4_hear_25 rfl (lv_at hl 0 rfl) ?_
      refine lv_dup hx hb dX4_hear_26 rfl ?_
      refine k_get C hw (CC := RX4) (T := TX4) (N := 10) nX4_hear_X4 0 rfl rfl 5 (by decide) (List.mem_of_getElem? (i := 2) rfl) rfl rfl dX4_hear_27 ?_
      refine lv_iconst (v := 1) hx hb dX4_hear_30 (by decide) ?_
      refine lv_iadd hx hb dX4_hear_31 ?_
      refine k_put C hw (CC := RX4) (T := TX4) (N := 10) (v := .int (v_t_signs + 1)) nX4_hear_X4 tyX4_ok nmX4 0 rfl rfl 5 (by decide) (List.mem_of_getElem? (i := 2) rfl) rfl rfl rfl rfl (Nat.le_of_ble_eq_true rfl) dX4_hear_32 (fun H locs hw => ?_)
      replace hw : kW D _ s H locs [(a_t, .inr (4, [.ref a_t_kinds, .ref a_t_ones, .ref a_t_others, .ref a_t_amounts, .int z3.2.1, .int (v_t_signs + 1), .int v_t_signs, .int z3.2.2.1, .int z3.2.2.2.1, .int z3.2.2.2.2.1])), (a_t_kinds, .inl (cI, 60, .inl z3.2.2.2.2.2.1)), (a_t_ones, .inl (cI, 60, .inl z3.2.2.2.2.2.2.1)), (a_t_others, .inl (cI, 60, .inl z3.2.2.2.2.2.2.2.1)), (a_t_amounts, .inl (cI, 60, .inl z3.2.2.2.2.2.2.2.2))] := hw
      rw [show f_X4_hear v_t_acts v_t_signs v_t_wrongPlace v_t_expected v_t_one v_t_other g_t_kinds g_t_ones g_t_others g_t_amounts p1 = (z3.2.1, (v_t_signs + 1), v_t_signs, z3.2.2.1, z3.2.2.2.1, z3.2.2.2.2.1, z3.2.2.2.2.2.1, z3.2.2.2.2.2.2.1, z3.2.2.2.2.2.2.2.1, z3.2.2.2.2.2.2.2.2) from by
          unfold f_X4_hear
          exact (if_pos c1).trans ((lt_c h4).trans ((if_pos c5).trans (rfl)))]
      exact k_vret C hr hw dX4_hear_35

