def f_X10_in (p1 : Int64) (p2 : Int64) (p3 : Int64) : Int32 := (if (lg_cmp p1 p2) < 0 then 0 else (if 0 < (lg_cmp p1 p3) then 0 else 1))
set_option maxHeartbeats 4000000 in
set_option maxRecDepth 100000 in
theorem T_X10_in (l : Launch) (D : va_G) (cI cZ : ClassId) (p1 : Int64) (p2 : Int64) (p3 : Int64) : CT l D cI cZ yX10_in wsX10_in ({ frames := 0, cells := 0, slots := 0, locals := 0 }) [.long p1, .long p2, .long p3] [] (some (.int (f_X10_in p1 p2 p3))) [] := by
  refine CT.intro RX10 (by decide) rfl (Nat.le_of_ble_eq_true rfl) rfl ?_
  intro p e s m below meth c C hr hw ls hl
  have hx := C.hx
  have hb := C.hb
  replace hl : lv_has ls 6 [(0, .long p1), (2, .long p2), (4, .long p3)] := hl
  refine lv_lload_n hx hb dX10_in_0 rfl (lv_at hl 0 rfl) ?_
  refine lv_lload_n hx hb dX10_in_1 rfl (lv_at hl 1 rfl) ?_
  refine W.lcmp hx hb dX10_in_2 ?_
  refine lv_if_lt (tgt := 17) hx hb dX10_in_3 (by decide) (fun c1 => ?_) (fun c1 => ?_)
  · refine lv_iconst (v := 0) hx hb dX10_in_17 (by decide) ?_
    rw [show f_X10_in p1 p2 p3 = 0 from by
        unfold f_X10_in
        exact (if_pos c1).trans (rfl)]
    exact k_zret (v := 0) C hr hw nz0 dX10_in_18
  · refine lv_lload_n hx hb dX10_in_6 rfl (lv_at hl 0 rfl) ?_
    refine lv_lload hx hb dX10_in_7 (lv_at hl 2 rfl) ?_
    refine W.lcmp hx hb dX10_in_9 ?_
    refine lv_if_gt (tgt := 17) hx hb dX10_in_10 (by decide) (fun c2 => ?_) (fun c2 => ?_)
    · refine lv_iconst (v := 0) hx hb dX10_in_17 (by decide) ?_
      rw [show f_X10_in p1 p2 p3 = 0 from by
          unfold f_X10_in
          exact (if_neg c1).trans ((if_pos c2).trans (rfl))]
      exact k_zret (v := 0) C hr hw nz0 dX10_in_18
    · refine lv_iconst (v := 1) hx hb dX10_in_13 (by decide) ?_
      refine lv_goto (tgt := 18) hx hb dX10_in_14 (by decide) ?_
      rw [show f_X10_in p1 p2 p3 = 1 from by
          unfold f_X10_in
          exact (if_neg c1).trans ((if_neg c2).trans (rfl))]
      exact k_zret (v := 1) C hr hw nz1 dX10_in_18

def f_X10_isHouse (p1 : Int32) : Int32 := (f_X10_in ((p1).toInt64) (0 : Int64) (7 : Int64))
def o_X10_isHouse (p1 : Int32) : Prop := ((narrow .boolean (.int (f_X10_in ((p1).toInt64) (0 : Int64) (7 : Int64))) = .int (f_X10_in ((p1).toInt64) (0 : Int64) (7 : Int64))) ∧ True)
set_option maxHeartbeats 4000000 in
set_option maxRecDepth 100000 in
theorem T_X10_isHouse (l : Launch) (D : va_G) (cI cZ : ClassId) (p1 : Int32) (hok : o_X10_isHouse p1) : CT l D cI cZ yX10_isHouse wsX10_isHouse ({ frames := 1, cells := 0, slots := 0, locals := 25 }) [.int p1] [] (some (.int (f_X10_isHouse p1))) [] := by
  refine CT.intro RX10 (by decide) rfl (Nat.le_of_ble_eq_true rfl) rfl ?_
  intro p e s m below meth c C hr hw ls hl
  have hx := C.hx
  have hb := C.hb
  replace hl : lv_has ls 1 [(0, .int p1)] := hl
  refine lv_iload_n hx hb dX10_isHouse_0 rfl (lv_at hl 0 rfl) ?_
  refine lv_i2l (v := ((p1).toInt64)) hx hb dX10_isHouse_1 rfl ?_
  refine lv_lconst (v := 0) hx hb dX10_isHouse_2 (by decide) ?_
  refine lv_ldc2 (v := 7) hx hb C.hown (C.hts _ (List.mem_of_getElem? (i := 1) rfl)) dX10_isHouse_3 ?_
  refine k_callS (As := [.long ((p1).toInt64), .long 0, .long 7]) (rest := []) (n := 3) C hw (T_X10_in l D cI cZ ((p1).toInt64) (0 : Int64) (7 : Int64)) gX10_isHouse_X10_in rfl ⟨rfl, rfl⟩ (by decide +kernel) ⟨Nat.le_of_ble_eq_true rfl, Nat.le_of_ble_eq_true rfl⟩ [] rfl rfl [] rfl rfl rfl hl.1 rfl (Nat.le_of_ble_eq_true rfl) ⟨Nat.zero_le _, Nat.zero_le _⟩ dX10_isHouse_6 (fun H locs hw => ?_)
  refine W.eq (g2 := F0 m 9 ls [.int (f_X10_in ((p1).toInt64) (0 : Int64) (7 : Int64))]) rfl ?_
  replace hw : kW D _ s H locs [] := hw
  obtain ⟨h1, hok⟩ := hok
  rw [show f_X10_isHouse p1 = (f_X10_in ((p1).toInt64) (0 : Int64) (7 : Int64)) from by
      unfold f_X10_isHouse
      exact rfl]
  exact k_zret (v := (f_X10_in ((p1).toInt64) (0 : Int64) (7 : Int64))) C hr hw h1 dX10_isHouse_9

def B_X10_ones_4 (j : Nat) (v : Int32 × Int32) : (Int32 × Int32) ⊕ (Int32 × Int32) := (if v.2 = 0 then Sum.inr (v.1, v.2) else Sum.inl ((v.1 + 1), (v.2 &&& (v.2 - 1))))
def oB_X10_ones_4 (j : Nat) (v : Int32 × Int32) : Prop := True
set_option maxHeartbeats 4000000 in
set_option maxRecDepth 100000 in
theorem l_X10_ones_4 {p : Program} {l : Launch} {e : Env} {s : State} {m : MethodId} {args : Array Value} {below : List Frame} {meth : Method} {c : Code} {D : va_G} {cI cZ : ClassId} {Q : State → Prop} {A : Nat → Prop} (C : kC p s m args meth c cX10_ones 3 wsX10_ones RX10 D cI cZ A) : ∀ (n j : Nat) (x1 : Int32) (x2 : Int32), lbS oB_X10_ones_4 B_X10_ones_4 j n (x1, x2) → ∀ (H : Heap) (locs : List Loc), kW D A s H locs [] → ∀ (ls : Array Slot), lv_has ls 3 [(1, .int x1), (2, .int x2)] → (∀ (H : Heap) (locs : List Loc) (ls : Array Slot), kW D A s H locs [] → lv_has ls 3 [(1, .int (lb B_X10_ones_4 j n (x1, x2)).1)] → W p l e ({ frames := 0, cells := 0, slots := 0, locals := 0 }) s m args below meth c H locs 0 0 Q (F0 m 20 ls [])) → W p l e ({ frames := 0, cells := 0, slots := 0, locals := 0 }) s m args below meth c H locs 0 0 Q (F0 m 4 ls []) := by
  have hx := C.hx
  have hb := C.hb
  intro n
  induction n with
  | zero =>
    intro j x1 x2 hok0 H locs hw ls hl kk
    exact absurd hok0 id
  | succ n ih =>
    intro j x1 x2 hok0 H locs hw ls hl kk
    refine lv_iload_n hx hb dX10_ones_4 rfl (lv_at hl 1 rfl) ?_
    refine lv_if_eq (tgt := 20) hx hb dX10_ones_5 (by decide) (fun c1 => ?_) (fun c1 => ?_)
    · have hB : B_X10_ones_4 j (x1, x2) = Sum.inr (x1, x2) := by
        unfold B_X10_ones_4
        exact (if_pos c1).trans (rfl)
      rw [lb_b hB] at kk
      exact kk _ _ _ hw (lv_sub hl [0] rfl)
    · refine lv_iinc (v := (x1 + 1)) (lv' := [(1, .int (x1 + 1)), (2, .int x2)]) hx hb dX10_ones_8 hl (k := 0) rfl (rfl) (by decide) rfl (fun ls hl => ?_)
      refine lv_iload_n hx hb dX10_ones_11 rfl (lv_at hl 1 rfl) ?_
      refine lv_iload_n hx hb dX10_ones_12 rfl (lv_at hl 1 rfl) ?_
      refine lv_iconst (v := 1) hx hb dX10_ones_13 (by decide) ?_
      refine lv_isub hx hb dX10_ones_14 ?_
      refine lv_iand hx hb dX10_ones_15 ?_
      refine lv_istore_n (lv' := [(2, .int (x2 &&& (x2 - 1))), (1, .int (x1 + 1))]) hx hb dX10_ones_16 rfl hl (by decide) rfl (fun ls hl => ?_)
      refine lv_goto (tgt := 4) hx hb dX10_ones_17 (by decide) ?_
      have hB : B_X10_ones_4 j (x1, x2) = Sum.inl ((x1 + 1), (x2 &&& (x2 - 1))) := by
        unfold B_X10_ones_4
        exact (if_neg c1).trans (rfl)
      rw [lb_c hB] at kk
      have hok2 := lbS_c hB hok0
      exact ih (j + 1) (x1 + 1) (x2 &&& (x2 - 1)) hok2 _ _ hw _ (lv_sub hl [1, 0] rfl) kk
def f_X10_ones (p1 : Int32) : Int32 := (lb B_X10_ones_4 0 33 ((0 : Int32), p1)).1
def o_X10_ones (p1 : Int32) : Prop := ((lbS oB_X10_ones_4 B_X10_ones_4 0 33 ((0 : Int32), p1)) ∧ True)
set_option maxHeartbeats 4000000 in
set_option maxRecDepth 100000 in
theorem T_X10_ones (l : Launch) (D : va_G) (cI cZ : ClassId) (p1 : Int32) (hok : o_X10_ones p1) : CT l D cI cZ yX10_ones wsX10_ones ({ frames := 0, cells := 0, slots := 0, locals := 0 }) [.int p1] [] (some (.int (f_X10_ones p1))) [] := by
  refine CT.intro RX10 (by decide) rfl (Nat.le_of_ble_eq_true rfl) rfl ?_
  intro p e s m below meth c C hr hw ls hl
  have hx := C.hx
  have hb := C.hb
  replace hl : lv_has ls 3 [(0, .int p1)] := hl
  refine lv_iconst (v := 0) hx hb dX10_ones_0 (by decide) ?_
  refine lv_istore_n (lv' := [(1, .int 0), (0, .int p1)]) hx hb dX10_ones_1 rfl hl (by decide) rfl (fun ls hl => ?_)
  refine lv_iload_n hx hb dX10_ones_2 rfl (lv_at hl 1 rfl) ?_
  refine lv_istore_n (lv' := [(2, .int p1), (1, .int 0), (0, .int p1)]) hx hb dX10_ones_3 rfl hl (by decide) rfl (fun ls hl => ?_)
  obtain ⟨h2, hok⟩ := hok
  refine l_X10_ones_4   C 33 0 (0 : Int32) p1 h2 _ _ hw _ (lv_sub hl [1, 0] rfl) (fun H locs ls hw hl => ?_)
  replace hw : kW D _ s H locs [] := hw
  replace hl : lv_has ls 3 [(1, .int (lb B_X10_ones_4 0 33 ((0 : Int32), p1)).1)] := hl
  refine lv_iload_n hx hb dX10_ones_20 rfl (lv_at hl 0 rfl) ?_
  rw [show f_X10_ones p1 = (lb B_X10_ones_4 0 33 ((0 : Int32), p1)).1 from by
      unfold f_X10_ones
      exact rfl]
  exact k_iret C hr hw dX10_ones_21

def f_X10_has (p1 : Int32) (p2 : Int32) : Int32 := (if ((p1 >>> (p2 &&& 31)) &&& 1) = 1 then 1 else 0)
set_option maxHeartbeats 4000000 in
set_option maxRecDepth 100000 in
theorem T_X10_has (l : Launch) (D : va_G) (cI cZ : ClassId) (p1 : Int32) (p2 : Int32) : CT l D cI cZ yX10_has wsX10_has ({ frames := 0, cells := 0, slots := 0, locals := 0 }) [.int p1, .int p2] [] (some (.int (f_X10_has p1 p2))) [] := by
  refine CT.intro RX10 (by decide) rfl (Nat.le_of_ble_eq_true rfl) rfl ?_
  intro p e s m below meth c C hr hw ls hl
  have hx := C.hx
  have hb := C.hb
  replace hl : lv_has ls 2 [(0, .int p1), (1, .int p2)] := hl
  refine lv_iload_n hx hb dX10_has_0 rfl (lv_at hl 0 rfl) ?_
  refine lv_iload_n hx hb dX10_has_1 rfl (lv_at hl 1 rfl) ?_
  refine lv_ishr hx hb dX10_has_2 ?_
  refine lv_iconst (v := 1) hx hb dX10_has_3 (by decide) ?_
  refine lv_iand hx hb dX10_has_4 ?_
  refine lv_iconst (v := 1) hx hb dX10_has_5 (by decide) ?_
  refine lv_icmp_ne (tgt := 13) hx hb dX10_has_6 (by decide) (fun c1 => ?_) (fun c1 => ?_)
  · refine lv_iconst (v := 0) hx hb dX10_has_13 (by decide) ?_
    rw [show f_X10_has p1 p2 = 0 from by
        unfold f_X10_has
        exact (if_neg c1).trans (rfl)]
    exact k_zret (v := 0) C hr hw nz0 dX10_has_14
  · refine lv_iconst (v := 1) hx hb dX10_has_9 (by decide) ?_
    refine lv_goto (tgt := 14) hx hb dX10_has_10 (by decide) ?_
    rw [show f_X10_has p1 p2 = 1 from by
        unfold f_X10_has
        exact (if_pos c1).trans (rfl)]
    exact k_zret (v := 1) C hr hw nz1 dX10_has_14

def f_X10_with (p1 : Int32) (p2 : Int32) (p3 : Int32) : Int32 := (if p3 = 0 then (p1 &&& (((1 : Int32) <<< (p2 &&& 31)) ^^^ (-1))) else (p1 ||| ((1 : Int32) <<< (p2 &&& 31))))
set_option maxHeartbeats 4000000 in
set_option maxRecDepth 100000 in
theorem T_X10_with (l : Launch) (D : va_G) (cI cZ : ClassId) (p1 : Int32) (p2 : Int32) (p3 : Int32) : CT l D cI cZ yX10_with wsX10_with ({ frames := 0, cells := 0, slots := 0, locals := 0 }) [.int p1, .int p2, .int p3] [] (some (.int (f_X10_with p1 p2 p3))) [] := by
  refine CT.intro RX10 (by decide) rfl (Nat.le_of_ble_eq_true rfl) rfl ?_
  intro p e s m below meth c C hr hw ls hl
  have hx := C.hx
  have hb := C.hb
  replace hl : lv_has ls 3 [(0, .int p1), (1, .int p2), (2, .int p3)] := hl
  refine lv_iload_n hx hb dX10_with_0 rfl (lv_at hl 2 rfl) ?_
  refine lv_if_eq (tgt := 12) hx hb dX10_with_1 (by decide) (fun c1 => ?_) (fun c1 => ?_)
  · refine lv_iload_n hx hb dX10_with_12 rfl (lv_at hl 0 rfl) ?_
    refine lv_iconst (v := 1) hx hb dX10_with_13 (by decide) ?_
    refine lv_iload_n hx hb dX10_with_14 rfl (lv_at hl 1 rfl) ?_
    refine lv_ishl hx hb dX10_with_15 ?_
    refine lv_iconst (v := (-1)) hx hb dX10_with_16 (by decide) ?_
    refine lv_ixor hx hb dX10_with_17 ?_
    refine lv_iand hx hb dX10_with_18 ?_
    rw [show f_X10_with p1 p2 p3 = (p1 &&& (((1 : Int32) <<< (p2 &&& 31)) ^^^ (-1))) from by
        unfold f_X10_with
        exact (if_pos c1).trans (rfl)]
    exact k_iret C hr hw dX10_with_19
  · refine lv_iload_n hx hb dX10_with_4 rfl (lv_at hl 0 rfl) ?_
    refine lv_iconst (v := 1) hx hb dX10_with_5 (by decide) ?_
    refine lv_iload_n hx hb dX10_with_6 rfl (lv_at hl 1 rfl) ?_
    refine lv_ishl hx hb dX10_with_7 ?_
    refine lv_ior hx hb dX10_with_8 ?_
    refine lv_goto (tgt := 19) hx hb dX10_with_9 (by decide) ?_
    rw [show f_X10_with p1 p2 p3 = (p1 ||| ((1 : Int32) <<< (p2 &&& 31))) from by
        unfold f_X10_with
        exact (if_neg c1).trans (rfl)]
    exact k_iret C hr hw dX10_with_19

def f_X10_less (p1 : Int32) (p2 : Int32) : Int32 := (if p2 ≤ p1 then p2 else p1)
set_option maxHeartbeats 4000000 in
set_option maxRecDepth 100000 in
theorem T_X10_less (l : Launch) (D : va_G) (cI cZ : ClassId) (p1 : Int32) (p2 : Int32) : CT l D cI cZ yX10_less wsX10_less ({ frames := 0, cells := 0, slots := 0, locals := 0 }) [.int p1, .int p2] [] (some (.int (f_X10_less p1 p2))) [] := by
  refine CT.intro RX10 (by decide) rfl (Nat.le_of_ble_eq_true rfl) rfl ?_
  intro p e s m below meth c C hr hw ls hl
  have hx := C.hx
  have hb := C.hb
  replace hl : lv_has ls 2 [(0, .int p1), (1, .int p2)] := hl
  refine lv_iload_n hx hb dX10_less_0 rfl (lv_at hl 0 rfl) ?_
  refine lv_iload_n hx hb dX10_less_1 rfl (lv_at hl 1 rfl) ?_
  refine lv_icmp_ge (tgt := 9) hx hb dX10_less_2 (by decide) (fun c1 => ?_) (fun c1 => ?_)
  · refine lv_iload_n hx hb dX10_less_9 rfl (lv_at hl 1 rfl) ?_
    rw [show f_X10_less p1 p2 = p2 from by
        unfold f_X10_less
        exact (if_pos c1).trans (rfl)]
    exact k_iret C hr hw dX10_less_10
  · refine lv_iload_n hx hb dX10_less_5 rfl (lv_at hl 0 rfl) ?_
    refine lv_goto (tgt := 10) hx hb dX10_less_6 (by decide) ?_
    rw [show f_X10_less p1 p2 = p1 from by
        unfold f_X10_less
        exact (if_neg c1).trans (rfl)]
    exact k_iret C hr hw dX10_less_10

theorem nX10_house_X10 : ∀ w ∈ wsX100, w ∈ wsX10_house := fun _ h => List.mem_cons_of_mem _ (List.mem_append_right _ h)
def f_X10_house (v_t_inside : Int32) (g_t_wealth : (Nat → Int32)) (p1 : Int32) (p2 : Int32) (p3 : Int32) : Int32 × Int32 × (Nat → Int32) := (if (f_X10_isHouse p1) = 0 then ((-1), v_t_inside, g_t_wealth) else (if (f_X10_in ((p2).toInt64) (0 : Int64) (999 : Int64)) = 0 then ((-2), v_t_inside, g_t_wealth) else (if (f_X10_in ((p3).toInt64) (0 : Int64) (1 : Int64)) = 0 then ((-2), v_t_inside, g_t_wealth) else (if p3 = 1 then ((g_t_wealth p1.toNatClampNeg), (f_X10_with v_t_inside p1 (1 : Int32)), (upd g_t_wealth p1.toNatClampNeg p2)) else ((g_t_wealth p1.toNatClampNeg), (f_X10_with v_t_inside p1 (0 : Int32)), (upd g_t_wealth p1.toNatClampNeg p2))))))
def o_X10_house (p1 : Int32) (p2 : Int32) (p3 : Int32) : Prop := ((o_X10_isHouse p1) ∧ (if (f_X10_isHouse p1) = 0 then True else (if (f_X10_in ((p2).toInt64) (0 : Int64) (999 : Int64)) = 0 then True else (if (f_X10_in ((p3).toInt64) (0 : Int64) (1 : Int64)) = 0 then True else ((vp_in p1 8) ∧ ((vp_in p1 8) ∧ True))))))
set_option maxHeartbeats 4000000 in
set_option maxRecDepth 100000 in
theorem T_X10_house (l : Launch) (D : va_G) (cI cZ : ClassId) (a_t a_t_wealth a_t_given a_t_chart a_t_relatives a_t_sightSet a_t_sightMany a_t_digits a_t_pad a_t_act a_t_who a_t_whom a_t_much a_t_had a_t_dues a_t_groups a_t_ways a_t_fit a_t_byMany a_t_kept a_t_isKept : Nat) (v_t_inside : Int32) (v_t_next : Int32) (v_t_years : Int32) (v_t_sights : Int32) (v_t_padMany : Int32) (v_t_acts : Int32) (v_t_givenNow : Int32) (v_t_entered : Int32) (v_t_badAct : Int32) (v_t_badWhy : Int32) (v_t_firstAct : Int32) (v_t_firstHouse : Int32) (v_t_fitMany : Int32) (v_t_keptAt : Int32) (v_t_isWriting : Int32) (g_t_wealth : (Nat → Int32)) (p1 : Int32) (p2 : Int32) (p3 : Int32) (hok : o_X10_house p1 p2 p3) : CT l D cI cZ yX10_house wsX10_house ({ frames := 2, cells := 0, slots := 0, locals := 45 }) [.ref a_t, .int p1, .int p2, .int p3] [(a_t, .inr (10, [.ref a_t_wealth, .ref a_t_given, .ref a_t_chart, .ref a_t_relatives, .int v_t_inside, .int v_t_next, .int v_t_years, .ref a_t_sightSet, .ref a_t_sightMany, .int v_t_sights, .ref a_t_digits, .ref a_t_pad, .int v_t_padMany, .ref a_t_act, .ref a_t_who, .ref a_t_whom, .ref a_t_much, .int v_t_acts, .int v_t_givenNow, .int v_t_entered, .ref a_t_had, .int v_t_badAct, .int v_t_badWhy, .int v_t_firstAct, .int v_t_firstHouse, .ref a_t_dues, .ref a_t_groups, .ref a_t_ways, .ref a_t_fit, .int v_t_fitMany, .ref a_t_byMany, .ref a_t_kept, .ref a_t_isKept, .int v_t_keptAt, .int v_t_isWriting])), (a_t_wealth, .inl (cI, 8, .inl g_t_wealth))] (some (.int (f_X10_house v_t_inside g_t_wealth p1 p2 p3).1)) [(a_t, .inr (10, [.ref a_t_wealth, .ref a_t_given, .ref a_t_chart, .ref a_t_relatives, .int (f_X10_house v_t_inside g_t_wealth p1 p2 p3).2.1, .int v_t_next, .int v_t_years, .ref a_t_sightSet, .ref a_t_sightMany, .int v_t_sights, .ref a_t_digits, .ref a_t_pad, .int v_t_padMany, .ref a_t_act, .ref a_t_who, .ref a_t_whom, .ref a_t_much, .int v_t_acts, .int v_t_givenNow, .int v_t_entered, .ref a_t_had, .int v_t_badAct, .int v_t_badWhy, .int v_t_firstAct, .int v_t_firstHouse, .ref a_t_dues, .ref a_t_groups, .ref a_t_ways, .ref a_t_fit, .int v_t_fitMany, .ref a_t_byMany, .ref a_t_kept, .ref a_t_isKept, .int v_t_keptAt, .int v_t_isWriting])), (a_t_wealth, .inl (cI, 8, .inl (f_X10_house v_t_inside g_t_wealth p1 p2 p3).2.2))] := by
  refine CT.intro RX10 (by decide) rfl (Nat.le_of_ble_eq_true rfl) rfl ?_
  intro p e s m below meth c C hr hw ls hl
  have hx := C.hx
  have hb := C.hb
  replace hl : lv_has ls 5 [(0, .ref a_t), (1, .int p1), (2, .int p2), (3, .int p3)] := hl
  refine lv_iload_n hx hb dX10_house_0 rfl (lv_at hl 1 rfl) ?_
  obtain ⟨h1, hok⟩ := hok
  refine k_callS (As := [.int p1]) (rest := []) (n := 1) C hw (T_X10_isHouse l D cI cZ p1 h1) gX10_house_X10_isHouse rfl ⟨rfl, rfl⟩ (by decide +kernel) ⟨Nat.le_of_ble_eq_true rfl, Nat.le_of_ble_eq_true rfl⟩ [] rfl rfl [] rfl rfl rfl hl.1 rfl (Nat.le_of_ble_eq_true rfl) ⟨Nat.zero_le _, Nat.zero_le _⟩ dX10_house_1 (fun H locs hw => ?_)
  refine W.eq (g2 := F0 m 4 ls [.int (f_X10_isHouse p1)]) rfl ?_
  replace hw : kW D _ s H locs [(a_t, .inr (10, [.ref a_t_wealth, .ref a_t_given, .ref a_t_chart, .ref a_t_relatives, .int v_t_inside, .int v_t_next, .int v_t_years, .ref a_t_sightSet, .ref a_t_sightMany, .int v_t_sights, .ref a_t_digits, .ref a_t_pad, .int v_t_padMany, .ref a_t_act, .ref a_t_who, .ref a_t_whom, .ref a_t_much, .int v_t_acts, .int v_t_givenNow, .int v_t_entered, .ref a_t_had, .int v_t_badAct, .int v_t_badWhy, .int v_t_firstAct, .int v_t_firstHouse, .ref a_t_dues, .ref a_t_groups, .ref a_t_ways, .ref a_t_fit, .int v_t_fitMany, .ref a_t_byMany, .ref a_t_kept, .ref a_t_isKept, .int v_t_keptAt, .int v_t_isWriting])), (a_t_wealth, .inl (cI, 8, .inl g_t_wealth))] := hw
  refine lv_if_ne (tgt := 9) hx hb dX10_house_4 (by decide) (fun c2 => ?_) (fun c2 => ?_)
  · replace hok := Eq.mp (if_neg c2) hok
    refine lv_iload_n hx hb dX10_house_9 rfl (lv_at hl 2 rfl) ?_
    refine lv_i2l (v := ((p2).toInt64)) hx hb dX10_house_10 rfl ?_
    refine lv_lconst (v := 0) hx hb dX10_house_11 (by decide) ?_
    refine lv_ldc2 (v := 999) hx hb C.hown (C.hts _ (List.mem_of_getElem? (i := 1) rfl)) dX10_house_12 ?_
    refine k_callS (As := [.long ((p2).toInt64), .long 0, .long 999]) (rest := []) (n := 3) C hw (T_X10_in l D cI cZ ((p2).toInt64) (0 : Int64) (999 : Int64)) gX10_house_X10_in rfl ⟨rfl, rfl⟩ (by decide +kernel) ⟨Nat.le_of_ble_eq_true rfl, Nat.le_of_ble_eq_true rfl⟩ [] rfl rfl [] rfl rfl rfl hl.1 rfl (Nat.le_of_ble_eq_true rfl) ⟨Nat.zero_le _, Nat.zero_le _⟩ dX10_house_15 (fun H locs hw => ?_)
    refine W.eq (g2 := F0 m 18 ls [.int (f_X10_in ((p2).toInt64) (0 : Int64) (999 : Int64))]) rfl ?_
    replace hw : kW D _ s H locs [(a_t, .inr (10, [.ref a_t_wealth, .ref a_t_given, .ref a_t_chart, .ref a_t_relatives, .int v_t_inside, .int v_t_next, .int v_t_years, .ref a_t_sightSet, .ref a_t_sightMany, .int v_t_sights, .ref a_t_digits, .ref a_t_pad, .int v_t_padMany, .ref a_t_act, .ref a_t_who, .ref a_t_whom, .ref a_t_much, .int v_t_acts, .int v_t_givenNow, .int v_t_entered, .ref a_t_had, .int v_t_badAct, .int v_t_badWhy, .int v_t_firstAct, .int v_t_firstHouse, .ref a_t_dues, .ref a_t_groups, .ref a_t_ways, .ref a_t_fit, .int v_t_fitMany, .ref a_t_byMany, .ref a_t_kept, .ref a_t_isKept, .int v_t_keptAt, .int v_t_isWriting])), (a_t_wealth, .inl (cI, 8, .inl g_t_wealth))] := hw
    refine lv_if_eq (tgt := 31) hx hb dX10_house_18 (by decide) (fun c3 => ?_) (fun c3 => ?_)
    · refine lv_bipush (v := (-2)) hx hb dX10_house_31 (by decide) ?_
      rw [show f_X10_house v_t_inside g_t_wealth p1 p2 p3 = ((-2), v_t_inside, g_t_wealth) from by
          unfold f_X10_house
          exact (if_neg c2).trans ((if_pos c3).trans (rfl))]
      exact k_iret C hr hw dX10_house_33
    · replace hok := Eq.mp (if_neg c3) hok
      refine lv_iload_n hx hb dX10_house_21 rfl (lv_at hl 3 rfl) ?_
      refine lv_i2l (v := ((p3).toInt64)) hx hb dX10_house_22 rfl ?_
      refine lv_lconst (v := 0) hx hb dX10_house_23 (by decide) ?_
      refine lv_lconst (v := 1) hx hb dX10_house_24 (by decide) ?_
      refine k_callS (As := [.long ((p3).toInt64), .long 0, .long 1]) (rest := []) (n := 3) C hw (T_X10_in l D cI cZ ((p3).toInt64) (0 : Int64) (1 : Int64)) gX10_house_X10_in rfl ⟨rfl, rfl⟩ (by decide +kernel) ⟨Nat.le_of_ble_eq_true rfl, Nat.le_of_ble_eq_true rfl⟩ [] rfl rfl [] rfl rfl rfl hl.1 rfl (Nat.le_of_ble_eq_true rfl) ⟨Nat.zero_le _, Nat.zero_le _⟩ dX10_house_25 (fun H locs hw => ?_)
      refine W.eq (g2 := F0 m 28 ls [.int (f_X10_in ((p3).toInt64) (0 : Int64) (1 : Int64))]) rfl ?_
      replace hw : kW D _ s H locs [(a_t, .inr (10, [.ref a_t_wealth, .ref a_t_given, .ref a_t_chart, .ref a_t_relatives, .int v_t_inside, .int v_t_next, .int v_t_years, .ref a_t_sightSet, .ref a_t_sightMany, .int v_t_sights, .ref a_t_digits, .ref a_t_pad, .int v_t_padMany, .ref a_t_act, .ref a_t_who, .ref a_t_whom, .ref a_t_much, .int v_t_acts, .int v_t_givenNow, .int v_t_entered, .ref a_t_had, .int v_t_badAct, .int v_t_badWhy, .int v_t_firstAct, .int v_t_firstHouse, .ref a_t_dues, .ref a_t_groups, .ref a_t_ways, .ref a_t_fit, .int v_t_fitMany, .ref a_t_byMany, .ref a_t_kept, .ref a_t_isKept, .int v_t_keptAt, .int v_t_isWriting])), (a_t_wealth, .inl (cI, 8, .inl g_t_wealth))] := hw
      refine lv_if_ne (tgt := 34) hx hb dX10_house_28 (by decide) (fun c4 => ?_) (fun c4 => ?_)
      · replace hok := Eq.mp (if_neg c4) hok
        refine lv_aload_n hx hb dX10_house_34 rfl (lv_at hl 0 rfl) ?_
        refine k_get C hw (CC := RX10) (T := TX10) (N := 35) nX10_house_X10 0 rfl rfl 0 (by decide) (List.mem_of_getElem? (i := 2) rfl) rfl rfl dX10_house_35 ?_
        refine lv_iload_n hx hb dX10_house_38 rfl (lv_at hl 1 rfl) ?_
        obtain ⟨h5, hok⟩ := hok
        refine k_iald C hw 1 rfl h5 dX10_house_39 ?_
        refine lv_istore (lv' := [(4, .int (g_t_wealth p1.toNatClampNeg)), (0, .ref a_t), (1, .int p1), (2, .int p2), (3, .int p3)]) hx hb dX10_house_40 hl (by decide) rfl (fun ls hl => ?_)
        refine lv_aload_n hx hb dX10_house_42 rfl (lv_at hl 1 rfl) ?_
        refine k_get C hw (CC := RX10) (T := TX10) (N := 35) nX10_house_X10 0 rfl rfl 0 (by decide) (List.mem_of_getElem? (i := 2) rfl) rfl rfl dX10_house_43 ?_
        refine lv_iload_n hx hb dX10_house_46 rfl (lv_at hl 2 rfl) ?_
        refine lv_iload_n hx hb dX10_house_47 rfl (lv_at hl 3 rfl) ?_
        obtain ⟨h6, hok⟩ := hok
        refine k_iast C hw 1 rfl h6 dX10_house_48 (fun H locs hw => ?_)
        replace hw : kW D _ s H locs [(a_t, .inr (10, [.ref a_t_wealth, .ref a_t_given, .ref a_t_chart, .ref a_t_relatives, .int v_t_inside, .int v_t_next, .int v_t_years, .ref a_t_sightSet, .ref a_t_sightMany, .int v_t_sights, .ref a_t_digits, .ref a_t_pad, .int v_t_padMany, .ref a_t_act, .ref a_t_who, .ref a_t_whom, .ref a_t_much, .int v_t_acts, .int v_t_givenNow, .int v_t_entered, .ref a_t_had, .int v_t_badAct, .int v_t_badWhy, .int v_t_firstAct, .int v_t_firstHouse, .ref a_t_dues, .ref a_t_groups, .ref a_t_ways, .ref a_t_fit, .int v_t_fitMany, .ref a_t_byMany, .ref a_t_kept, .ref a_t_isKept, .int v_t_keptAt, .int v_t_isWriting])), (a_t_wealth, .inl (cI, 8, .inl (upd g_t_wealth p1.toNatClampNeg p2)))] := hw
        refine lv_aload_n hx hb dX10_house_49 rfl (lv_at hl 1 rfl) ?_
        refine lv_aload_n hx hb dX10_house_50 rfl (lv_at hl 1 rfl) ?_
        refine k_get C hw (CC := RX10) (T := TX10) (N := 35) nX10_house_X10 0 rfl rfl 4 (by decide) (List.mem_of_getElem? (i := 3) rfl) rfl rfl dX10_house_51 ?_
        refine lv_iload_n hx hb dX10_house_54 rfl (lv_at hl 2 rfl) ?_
        refine lv_iload_n hx hb dX10_house_55 rfl (lv_at hl 4 rfl) ?_
        refine lv_iconst (v := 1) hx hb dX10_house_56 (by decide) ?_
        refine lv_icmp_ne (tgt := 64) hx hb dX10_house_57 (by decide) (fun c7 => ?_) (fun c7 => ?_)
        · refine lv_iconst (v := 0) hx hb dX10_house_64 (by decide) ?_
          refine k_callS (As := [.int v_t_inside, .int p1, .int 0]) (rest := [.ref a_t]) (n := 3) C hw (T_X10_with l D cI cZ v_t_inside p1 (0 : Int32)) gX10_house_X10_with rfl ⟨rfl, rfl⟩ (by decide +kernel) ⟨Nat.le_of_ble_eq_true rfl, Nat.le_of_ble_eq_true rfl⟩ [] rfl rfl [] rfl rfl rfl hl.1 rfl (Nat.le_of_ble_eq_true rfl) ⟨Nat.zero_le _, Nat.zero_le _⟩ dX10_house_65 (fun H locs hw => ?_)
          refine W.eq (g2 := F0 m 68 ls [.int (f_X10_with v_t_inside p1 (0 : Int32)), .ref a_t]) rfl ?_
          replace hw : kW D _ s H locs [(a_t, .inr (10, [.ref a_t_wealth, .ref a_t_given, .ref a_t_chart, .ref a_t_relatives, .int v_t_inside, .int v_t_next, .int v_t_years, .ref a_t_sightSet, .ref a_t_sightMany, .int v_t_sights, .ref a_t_digits, .ref a_t_pad, .int v_t_padMany, .ref a_t_act, .ref a_t_who, .ref a_t_whom, .ref a_t_much, .int v_t_acts, .int v_t_givenNow, .int v_t_entered, .ref a_t_had, .int v_t_badAct, .int v_t_badWhy, .int v_t_firstAct, .int v_t_firstHouse, .ref a_t_dues, .ref a_t_groups, .ref a_t_ways, .ref a_t_fit, .int v_t_fitMany, .ref a_t_byMany, .ref a_t_kept, .ref a_t_isKept, .int v_t_keptAt, .int v_t_isWriting])), (a_t_wealth, .inl (cI, 8, .inl (upd g_t_wealth p1.toNatClampNeg p2)))] := hw
          refine k_put C hw (CC := RX10) (T := TX10) (N := 35) (v := .int (f_X10_with v_t_inside p1 (0 : Int32))) nX10_house_X10 tyX10_ok nmX10 0 rfl rfl 4 (by decide) (List.mem_of_getElem? (i := 3) rfl) rfl rfl rfl rfl (Nat.le_of_ble_eq_true rfl) dX10_house_68 (fun H locs hw => ?_)
          replace hw : kW D _ s H locs [(a_t, .inr (10, [.ref a_t_wealth, .ref a_t_given, .ref a_t_chart, .ref a_t_relatives, .int (f_X10_with v_t_inside p1 (0 : Int32)), .int v_t_next, .int v_t_years, .ref a_t_sightSet, .ref a_t_sightMany, .int v_t_sights, .ref a_t_digits, .ref a_t_pad, .int v_t_padMany, .ref a_t_act, .ref a_t_who, .ref a_t_whom, .ref a_t_much, .int v_t_acts, .int v_t_givenNow, .int v_t_entered, .ref a_t_had, .int v_t_badAct, .int v_t_badWhy, .int v_t_firstAct, .int v_t_firstHouse, .ref a_t_dues, .ref a_t_groups, .ref a_t_ways, .ref a_t_fit, .int v_t_fitMany, .ref a_t_byMany, .ref a_t_kept, .ref a_t_isKept, .int v_t_keptAt, .int v_t_isWriting])), (a_t_wealth, .inl (cI, 8, .inl (upd g_t_wealth p1.toNatClampNeg p2)))] := hw
          refine lv_iload hx hb dX10_house_71 (lv_at hl 0 rfl) ?_
          rw [show f_X10_house v_t_inside g_t_wealth p1 p2 p3 = ((g_t_wealth p1.toNatClampNeg), (f_X10_with v_t_inside p1 (0 : Int32)), (upd g_t_wealth p1.toNatClampNeg p2)) from by
              unfold f_X10_house
              exact (if_neg c2).trans ((if_neg c3).trans ((if_neg c4).trans ((if_neg c7).trans (rfl))))]
          exact k_iret C hr hw dX10_house_73
        · refine lv_iconst (v := 1) hx hb dX10_house_60 (by decide) ?_
          refine lv_goto (tgt := 65) hx hb dX10_house_61 (by decide) ?_
          refine k_callS (As := [.int v_t_inside, .int p1, .int 1]) (rest := [.ref a_t]) (n := 3) C hw (T_X10_with l D cI cZ v_t_inside p1 (1 : Int32)) gX10_house_X10_with rfl ⟨rfl, rfl⟩ (by decide +kernel) ⟨Nat.le_of_ble_eq_true rfl, Nat.le_of_ble_eq_true rfl⟩ [] rfl rfl [] rfl rfl rfl hl.1 rfl (Nat.le_of_ble_eq_true rfl) ⟨Nat.zero_le _, Nat.zero_le _⟩ dX10_house_65 (fun H locs hw => ?_)
          refine W.eq (g2 := F0 m 68 ls [.int (f_X10_with v_t_inside p1 (1 : Int32)), .ref a_t]) rfl ?_
          replace hw : kW D _ s H locs [(a_t, .inr (10, [.ref a_t_wealth, .ref a_t_given, .ref a_t_chart, .ref a_t_relatives, .int v_t_inside, .int v_t_next, .int v_t_years, .ref a_t_sightSet, .ref a_t_sightMany, .int v_t_sights, .ref a_t_digits, .ref a_t_pad, .int v_t_padMany, .ref a_t_act, .ref a_t_who, .ref a_t_whom, .ref a_t_much, .int v_t_acts, .int v_t_givenNow, .int v_t_entered, .ref a_t_had, .int v_t_badAct, .int v_t_badWhy, .int v_t_firstAct, .int v_t_firstHouse, .ref a_t_dues, .ref a_t_groups, .ref a_t_ways, .ref a_t_fit, .int v_t_fitMany, .ref a_t_byMany, .ref a_t_kept, .ref a_t_isKept, .int v_t_keptAt, .int v_t_isWriting])), (a_t_wealth, .inl (cI, 8, .inl (upd g_t_wealth p1.toNatClampNeg p2)))] := hw
          refine k_put C hw (CC := RX10) (T := TX10) (N := 35) (v := .int (f_X10_with v_t_inside p1 (1 : Int32))) nX10_house_X10 tyX10_ok nmX10 0 rfl rfl 4 (by decide) (List.mem_of_getElem? (i := 3) rfl) rfl rfl rfl rfl (Nat.le_of_ble_eq_true rfl) dX10_house_68 (fun H locs hw => ?_)
          replace hw : kW D _ s H locs [(a_t, .inr (10, [.ref a_t_wealth, .ref a_t_given, .ref a_t_chart, .ref a_t_relatives, .int (f_X10_with v_t_inside p1 (1 : Int32)), .int v_t_next, .int v_t_years, .ref a_t_sightSet, .ref a_t_sightMany, .int v_t_sights, .ref a_t_digits, .ref a_t_pad, .int v_t_padMany, .ref a_t_act, .ref a_t_who, .ref a_t_whom, .ref a_t_much, .int v_t_acts, .int v_t_givenNow, .int v_t_entered, .ref a_t_had, .int v_t_badAct, .int v_t_badWhy, .int v_t_firstAct, .int v_t_firstHouse, .ref a_t_dues, .ref a_t_groups, .ref a_t_ways, .ref a_t_fit, .int v_t_fitMany, .ref a_t_byMany, .ref a_t_kept, .ref a_t_isKept, .int v_t_keptAt, .int v_t_isWriting])), (a_t_wealth, .inl (cI, 8, .inl (upd g_t_wealth p1.toNatClampNeg p2)))] := hw
          refine lv_iload hx hb dX10_house_71 (lv_at hl 0 rfl) ?_
          rw [show f_X10_house v_t_inside g_t_wealth p1 p2 p3 = ((g_t_wealth p1.toNatClampNeg), (f_X10_with v_t_inside p1 (1 : Int32)), (upd g_t_wealth p1.toNatClampNeg p2)) from by
              unfold f_X10_house
              exact (if_neg c2).trans ((if_neg c3).trans ((if_neg c4).trans ((if_pos c7).trans (rfl))))]
          exact k_iret C hr hw dX10_house_73
      · refine lv_bipush (v := (-2)) hx hb dX10_house_31 (by decide) ?_
        rw [show f_X10_house v_t_inside g_t_wealth p1 p2 p3 = ((-2), v_t_inside, g_t_wealth) from by
            unfold f_X10_house
            exact (if_neg c2).trans ((if_neg c3).trans ((if_pos c4).trans (rfl)))]
        exact k_iret C hr hw dX10_house_33
  · refine lv_iconst (v := (-1)) hx hb dX10_house_7 (by decide) ?_
    rw [show f_X10_house v_t_inside g_t_wealth p1 p2 p3 = ((-1), v_t_inside, g_t_wealth) from by
        unfold f_X10_house
        exact (if_pos c2).trans (rfl)]
    exact k_iret C hr hw dX10_house_8

theorem nX10_gave_X10 : ∀ w ∈ wsX100, w ∈ wsX10_gave := fun _ h => List.mem_cons_of_mem _ (List.mem_append_right _ h)
def f_X10_gave (g_t_given : (Nat → Int32)) (p1 : Int32) (p2 : Int32) (p3 : Int32) : Int32 × (Nat → Int32) := (if (f_X10_isHouse p1) = 0 then ((-1), g_t_given) else (if (f_X10_isHouse p2) = 0 then ((-1), g_t_given) else (if p1 = p2 then ((-1), g_t_given) else (if (f_X10_in ((p3).toInt64) (0 : Int64) (999 : Int64)) = 0 then ((-2), g_t_given) else ((g_t_given ((8 * p1) + p2).toNatClampNeg), (upd g_t_given ((8 * p1) + p2).toNatClampNeg p3))))))
def o_X10_gave (p1 : Int32) (p2 : Int32) (p3 : Int32) : Prop := ((o_X10_isHouse p1) ∧ (if (f_X10_isHouse p1) = 0 then True else ((o_X10_isHouse p2) ∧ (if (f_X10_isHouse p2) = 0 then True else (if p1 = p2 then True else (if (f_X10_in ((p3).toInt64) (0 : Int64) (999 : Int64)) = 0 then True else ((vp_in ((8 * p1) + p2) 64) ∧ ((vp_in ((8 * p1) + p2) 64) ∧ True))))))))
set_option maxHeartbeats 4000000 in
set_option maxRecDepth 100000 in
theorem T_X10_gave (l : Launch) (D : va_G) (cI cZ : ClassId) (a_t a_t_wealth a_t_given a_t_chart a_t_relatives a_t_sightSet a_t_sightMany a_t_digits a_t_pad a_t_act a_t_who a_t_whom a_t_much a_t_had a_t_dues a_t_groups a_t_ways a_t_fit a_t_byMany a_t_kept a_t_isKept : Nat) (v_t_inside : Int32) (v_t_next : Int32) (v_t_years : Int32) (v_t_sights : Int32) (v_t_padMany : Int32) (v_t_acts : Int32) (v_t_givenNow : Int32) (v_t_entered : Int32) (v_t_badAct : Int32) (v_t_badWhy : Int32) (v_t_firstAct : Int32) (v_t_firstHouse : Int32) (v_t_fitMany : Int32) (v_t_keptAt : Int32) (v_t_isWriting : Int32) (g_t_given : (Nat → Int32)) (p1 : Int32) (p2 : Int32) (p3 : Int32) (hok : o_X10_gave p1 p2 p3) : CT l D cI cZ yX10_gave wsX10_gave ({ frames := 2, cells := 0, slots := 0, locals := 45 }) [.ref a_t, .int p1, .int p2, .int p3] [(a_t, .inr (10, [.ref a_t_wealth, .ref a_t_given, .ref a_t_chart, .ref a_t_relatives, .int v_t_inside, .int v_t_next, .int v_t_years, .ref a_t_sightSet, .ref a_t_sightMany, .int v_t_sights, .ref a_t_digits, .ref a_t_pad, .int v_t_padMany, .ref a_t_act, .ref a_t_who, .ref a_t_whom, .ref a_t_much, .int v_t_acts, .int v_t_givenNow, .int v_t_entered, .ref a_t_had, .int v_t_badAct, .int v_t_badWhy, .int v_t_firstAct, .int v_t_firstHouse, .ref a_t_dues, .ref a_t_groups, .ref a_t_ways, .ref a_t_fit, .int v_t_fitMany, .ref a_t_byMany, .ref a_t_kept, .ref a_t_isKept, .int v_t_keptAt, .int v_t_isWriting])), (a_t_given, .inl (cI, 64, .inl g_t_given))] (some (.int (f_X10_gave g_t_given p1 p2 p3).1)) [(a_t, .inr (10, [.ref a_t_wealth, .ref a_t_given, .ref a_t_chart, .ref a_t_relatives, .int v_t_inside, .int v_t_next, .int v_t_years, .ref a_t_sightSet, .ref a_t_sightMany, .int v_t_sights, .ref a_t_digits, .ref a_t_pad, .int v_t_padMany, .ref a_t_act, .ref a_t_who, .ref a_t_whom, .ref a_t_much, .int v_t_acts, .int v_t_givenNow, .int v_t_entered, .ref a_t_had, .int v_t_badAct, .int v_t_badWhy, .int v_t_firstAct, .int v_t_firstHouse, .ref a_t_dues, .ref a_t_groups, .ref a_t_ways, .ref a_t_fit, .int v_t_fitMany, .ref a_t_byMany, .ref a_t_kept, .ref a_t_isKept, .int v_t_keptAt, .int v_t_isWriting])), (a_t_given, .inl (cI, 64, .inl (f_X10_gave g_t_given p1 p2 p3).2))] := by
  refine CT.intro RX10 (by decide) rfl (Nat.le_of_ble_eq_true rfl) rfl ?_
  intro p e s m below meth c C hr hw ls hl
  have hx := C.hx
  have hb := C.hb
  replace hl : lv_has ls 5 [(0, .ref a_t), (1, .int p1), (2, .int p2), (3, .int p3)] := hl
  refine lv_iload_n hx hb dX10_gave_0 rfl (lv_at hl 1 rfl) ?_
  obtain ⟨h1, hok⟩ := hok
  refine k_callS (As := [.int p1]) (rest := []) (n := 1) C hw (T_X10_isHouse l D cI cZ p1 h1) gX10_gave_X10_isHouse rfl ⟨rfl, rfl⟩ (by decide +kernel) ⟨Nat.le_of_ble_eq_true rfl, Nat.le_of_ble_eq_true rfl⟩ [] rfl rfl [] rfl rfl rfl hl.1 rfl (Nat.le_of_ble_eq_true rfl) ⟨Nat.zero_le _, Nat.zero_le _⟩ dX10_gave_1 (fun H locs hw => ?_)
  refine W.eq (g2 := F0 m 4 ls [.int (f_X10_isHouse p1)]) rfl ?_
  replace hw : kW D _ s H locs [(a_t, .inr (10, [.ref a_t_wealth, .ref a_t_given, .ref a_t_chart, .ref a_t_relatives, .int v_t_inside, .int v_t_next, .int v_t_years, .ref a_t_sightSet, .ref a_t_sightMany, .int v_t_sights, .ref a_t_digits, .ref a_t_pad, .int v_t_padMany, .ref a_t_act, .ref a_t_who, .ref a_t_whom, .ref a_t_much, .int v_t_acts, .int v_t_givenNow, .int v_t_entered, .ref a_t_had, .int v_t_badAct, .int v_t_badWhy, .int v_t_firstAct, .int v_t_firstHouse, .ref a_t_dues, .ref a_t_groups, .ref a_t_ways, .ref a_t_fit, .int v_t_fitMany, .ref a_t_byMany, .ref a_t_kept, .ref a_t_isKept, .int v_t_keptAt, .int v_t_isWriting])), (a_t_given, .inl (cI, 64, .inl g_t_given))] := hw
  refine lv_if_eq (tgt := 19) hx hb dX10_gave_4 (by decide) (fun c2 => ?_) (fun c2 => ?_)
  · refine lv_iconst (v := (-1)) hx hb dX10_gave_19 (by decide) ?_
    rw [show f_X10_gave g_t_given p1 p2 p3 = ((-1), g_t_given) from by
        unfold f_X10_gave
        exact (if_pos c2).trans (rfl)]
    exact k_iret C hr hw dX10_gave_20
  · replace hok := Eq.mp (if_neg c2) hok
    refine lv_iload_n hx hb dX10_gave_7 rfl (lv_at hl 2 rfl) ?_
    obtain ⟨h3, hok⟩ := hok
    refine k_callS (As := [.int p2]) (rest := []) (n := 1) C hw (T_X10_isHouse l D cI cZ p2 h3) gX10_gave_X10_isHouse rfl ⟨rfl, rfl⟩ (by decide +kernel) ⟨Nat.le_of_ble_eq_true rfl, Nat.le_of_ble_eq_true rfl⟩ [] rfl rfl [] rfl rfl rfl hl.1 rfl (Nat.le_of_ble_eq_true rfl) ⟨Nat.zero_le _, Nat.zero_le _⟩ dX10_gave_8 (fun H locs hw => ?_)
    refine W.eq (g2 := F0 m 11 ls [.int (f_X10_isHouse p2)]) rfl ?_
    replace hw : kW D _ s H locs [(a_t, .inr (10, [.ref a_t_wealth, .ref a_t_given, .ref a_t_chart, .ref a_t_relatives, .int v_t_inside, .int v_t_next, .int v_t_years, .ref a_t_sightSet, .ref a_t_sightMany, .int v_t_sights, .ref a_t_digits, .ref a_t_pad, .int v_t_padMany, .ref a_t_act, .ref a_t_who, .ref a_t_whom, .ref a_t_much, .int v_t_acts, .int v_t_givenNow, .int v_t_entered, .ref a_t_had, .int v_t_badAct, .int v_t_badWhy, .int v_t_firstAct, .int v_t_firstHouse, .ref a_t_dues, .ref a_t_groups, .ref a_t_ways, .ref a_t_fit, .int v_t_fitMany, .ref a_t_byMany, .ref a_t_kept, .ref a_t_isKept, .int v_t_keptAt, .int v_t_isWriting])), (a_t_given, .inl (cI, 64, .inl g_t_given))] := hw
    refine lv_if_eq (tgt := 19) hx hb dX10_gave_11 (by decide) (fun c4 => ?_) (fun c4 => ?_)
    · refine lv_iconst (v := (-1)) hx hb dX10_gave_19 (by decide) ?_
      rw [show f_X10_gave g_t_given p1 p2 p3 = ((-1), g_t_given) from by
          unfold f_X10_gave
          exact (if_neg c2).trans ((if_pos c4).trans (rfl))]
      exact k_iret C hr hw dX10_gave_20
    · replace hok := Eq.mp (if_neg c4) hok
      refine lv_iload_n hx hb dX10_gave_14 rfl (lv_at hl 1 rfl) ?_
      refine lv_iload_n hx hb dX10_gave_15 rfl (lv_at hl 2 rfl) ?_
      refine lv_icmp_ne (tgt := 21) hx hb dX10_gave_16 (by decide) (fun c5 => ?_) (fun c5 => ?_)
      · replace hok := Eq.mp (if_neg c5) hok
        refine lv_iload_n hx hb dX10_gave_21 rfl (lv_at hl 3 rfl) ?_
        refine lv_i2l (v := ((p3).toInt64)) hx hb dX10_gave_22 rfl ?_
        refine lv_lconst (v := 0) hx hb dX10_gave_23 (by decide) ?_
        refine lv_ldc2 (v := 999) hx hb C.hown (C.hts _ (List.mem_of_getElem? (i := 1) rfl)) dX10_gave_24 ?_
        refine k_callS (As := [.long ((p3).toInt64), .long 0, .long 999]) (rest := []) (n := 3) C hw (T_X10_in l D cI cZ ((p3).toInt64) (0 : Int64) (999 : Int64)) gX10_gave_X10_in rfl ⟨rfl, rfl⟩ (by decide +kernel) ⟨Nat.le_of_ble_eq_true rfl, Nat.le_of_ble_eq_true rfl⟩ [] rfl rfl [] rfl rfl rfl hl.1 rfl (Nat.le_of_ble_eq_true rfl) ⟨Nat.zero_le _, Nat.zero_le _⟩ dX10_gave_27 (fun H locs hw => ?_)
        refine W.eq (g2 := F0 m 30 ls [.int (f_X10_in ((p3).toInt64) (0 : Int64) (999 : Int64))]) rfl ?_
        replace hw : kW D _ s H locs [(a_t, .inr (10, [.ref a_t_wealth, .ref a_t_given, .ref a_t_chart, .ref a_t_relatives, .int v_t_inside, .int v_t_next, .int v_t_years, .ref a_t_sightSet, .ref a_t_sightMany, .int v_t_sights, .ref a_t_digits, .ref a_t_pad, .int v_t_padMany, .ref a_t_act, .ref a_t_who, .ref a_t_whom, .ref a_t_much, .int v_t_acts, .int v_t_givenNow, .int v_t_entered, .ref a_t_had, .int v_t_badAct, .int v_t_badWhy, .int v_t_firstAct, .int v_t_firstHouse, .ref a_t_dues, .ref a_t_groups, .ref a_t_ways, .ref a_t_fit, .int v_t_fitMany, .ref a_t_byMany, .ref a_t_kept, .ref a_t_isKept, .int v_t_keptAt, .int v_t_isWriting])), (a_t_given, .inl (cI, 64, .inl g_t_given))] := hw
        refine lv_if_ne (tgt := 36) hx hb dX10_gave_30 (by decide) (fun c6 => ?_) (fun c6 => ?_)
        · replace hok := Eq.mp (if_neg c6) hok
          refine lv_aload_n hx hb dX10_gave_36 rfl (lv_at hl 0 rfl) ?_
          refine k_get C hw (CC := RX10) (T := TX10) (N := 35) nX10_gave_X10 0 rfl rfl 1 (by decide) (List.mem_of_getElem? (i := 2) rfl) rfl rfl dX10_gave_37 ?_
          refine lv_bipush (v := 8) hx hb dX10_gave_40 (by decide) ?_
          refine lv_iload_n hx hb dX10_gave_42 rfl (lv_at hl 1 rfl) ?_
          refine lv_imul hx hb dX10_gave_43 ?_
          refine lv_iload_n hx hb dX10_gave_44 rfl (lv_at hl 2 rfl) ?_
          refine lv_iadd hx hb dX10_gave_45 ?_
          obtain ⟨h7, hok⟩ := hok
          refine k_iald C hw 1 rfl h7 dX10_gave_46 ?_
          refine lv_istore (lv' := [(4, .int (g_t_given ((8 * p1) + p2).toNatClampNeg)), (0, .ref a_t), (1, .int p1), (2, .int p2), (3, .int p3)]) hx hb dX10_gave_47 hl (by decide) rfl (fun ls hl => ?_)
          refine lv_aload_n hx hb dX10_gave_49 rfl (lv_at hl 1 rfl) ?_
          refine k_get C hw (CC := RX10) (T := TX10) (N := 35) nX10_gave_X10 0 rfl rfl 1 (by decide) (List.mem_of_getElem? (i := 2) rfl) rfl rfl dX10_gave_50 ?_
          refine lv_bipush (v := 8) hx hb dX10_gave_53 (by decide) ?_
          refine lv_iload_n hx hb dX10_gave_55 rfl (lv_at hl 2 rfl) ?_
          refine lv_imul hx hb dX10_gave_56 ?_
          refine lv_iload_n hx hb dX10_gave_57 rfl (lv_at hl 3 rfl) ?_
          refine lv_iadd hx hb dX10_gave_58 ?_
          refine lv_iload_n hx hb dX10_gave_59 rfl (lv_at hl 4 rfl) ?_
          obtain ⟨h8, hok⟩ := hok
          refine k_iast C hw 1 rfl h8 dX10_gave_60 (fun H locs hw => ?_)
          replace hw : kW D _ s H locs [(a_t, .inr (10, [.ref a_t_wealth, .ref a_t_given, .ref a_t_chart, .ref a_t_relatives, .int v_t_inside, .int v_t_next, .int v_t_years, .ref a_t_sightSet, .ref a_t_sightMany, .int v_t_sights, .ref a_t_digits, .ref a_t_pad, .int v_t_padMany, .ref a_t_act, .ref a_t_who, .ref a_t_whom, .ref a_t_much, .int v_t_acts, .int v_t_givenNow, .int v_t_entered, .ref a_t_had, .int v_t_badAct, .int v_t_badWhy, .int v_t_firstAct, .int v_t_firstHouse, .ref a_t_dues, .ref a_t_groups, .ref a_t_ways, .ref a_t_fit, .int v_t_fitMany, .ref a_t_byMany, .ref a_t_kept, .ref a_t_isKept, .int v_t_keptAt, .int v_t_isWriting])), (a_t_given, .inl (cI, 64, .inl (upd g_t_given ((8 * p1) + p2).toNatClampNeg p3)))] := hw
          refine lv_iload hx hb dX10_gave_61 (lv_at hl 0 rfl) ?_
          rw [show f_X10_gave g_t_given p1 p2 p3 = ((g_t_given ((8 * p1) + p2).toNatClampNeg), (upd g_t_given ((8 * p1) + p2).toNatClampNeg p3)) from by
              unfold f_X10_gave
              exact (if_neg c2).trans ((if_neg c4).trans ((if_neg c5).trans ((if_neg c6).trans (rfl))))]
          exact k_iret C hr hw dX10_gave_63
        · refine lv_bipush (v := (-2)) hx hb dX10_gave_33 (by decide) ?_
          rw [show f_X10_gave g_t_given p1 p2 p3 = ((-2), g_t_given) from by
              unfold f_X10_gave
              exact (if_neg c2).trans ((if_neg c4).trans ((if_neg c5).trans ((if_pos c6).trans (rfl))))]
          exact k_iret C hr hw dX10_gave_35
      · refine lv_iconst (v := (-1)) hx hb dX10_gave_19 (by decide) ?_
        rw [show f_X10_gave g_t_given p1 p2 p3 = ((-1), g_t_given) from by
            unfold f_X10_gave
            exact (if_neg c2).trans ((if_neg c4).trans ((if_pos c5).trans (rfl)))]
        exact k_iret C hr hw dX10_gave_20

theorem nX10_chartRow_X10 : ∀ w ∈ wsX100, w ∈ wsX10_chartRow := fun _ h => List.mem_cons_of_mem _ (List.mem_append_right _ h)
def B_X10_chartRow_4 (g_t_chart : (Nat → Int32)) (j : Nat) (v : Int32) : Int32 := ((10 * v) + (g_t_chart j))
set_option maxHeartbeats 4000000 in
set_option maxRecDepth 100000 in
theorem l_X10_chartRow_4 {p : Program} {l : Launch} {e : Env} {s : State} {m : MethodId} {args : Array Value} {below : List Frame} {meth : Method} {c : Code} {D : va_G} {cI cZ : ClassId} {Q : State → Prop} {A : Nat → Prop} (a_t a_t_wealth a_t_given a_t_chart a_t_relatives a_t_sightSet a_t_sightMany a_t_digits a_t_pad a_t_act a_t_who a_t_whom a_t_much a_t_had a_t_dues a_t_groups a_t_ways a_t_fit a_t_byMany a_t_kept a_t_isKept : Nat) (v_t_inside : Int32) (v_t_next : Int32) (v_t_years : Int32) (v_t_sights : Int32) (v_t_padMany : Int32) (v_t_acts : Int32) (v_t_givenNow : Int32) (v_t_entered : Int32) (v_t_badAct : Int32) (v_t_badWhy : Int32) (v_t_firstAct : Int32) (v_t_firstHouse : Int32) (v_t_fitMany : Int32) (v_t_keptAt : Int32) (v_t_isWriting : Int32) (g_t_chart : (Nat → Int32)) (C : kC p s m args meth c cX10_chartRow 3 wsX10_chartRow RX10 D cI cZ A) : ∀ (n j : Nat) (x1 : Int32), n = 8 - j → j < 2147483648 → ∀ (H : Heap) (locs : List Loc), kW D A s H locs [(a_t, .inr (10, [.ref a_t_wealth, .ref a_t_given, .ref a_t_chart, .ref a_t_relatives, .int v_t_inside, .int v_t_next, .int v_t_years, .ref a_t_sightSet, .ref a_t_sightMany, .int v_t_sights, .ref a_t_digits, .ref a_t_pad, .int v_t_padMany, .ref a_t_act, .ref a_t_who, .ref a_t_whom, .ref a_t_much, .int v_t_acts, .int v_t_givenNow, .int v_t_entered, .ref a_t_had, .int v_t_badAct, .int v_t_badWhy, .int v_t_firstAct, .int v_t_firstHouse, .ref a_t_dues, .ref a_t_groups, .ref a_t_ways, .ref a_t_fit, .int v_t_fitMany, .ref a_t_byMany, .ref a_t_kept, .ref a_t_isKept, .int v_t_keptAt, .int v_t_isWriting])), (a_t_chart, .inl (cI, 8, .inl g_t_chart))] → ∀ (ls : Array Slot), lv_has ls 3 [(0, .ref a_t), (1, .int x1), (2, .int (nI j))] → (∀ (H : Heap) (locs : List Loc) (ls : Array Slot), kW D A s H locs [(a_t, .inr (10, [.ref a_t_wealth, .ref a_t_given, .ref a_t_chart, .ref a_t_relatives, .int v_t_inside, .int v_t_next, .int v_t_years, .ref a_t_sightSet, .ref a_t_sightMany, .int v_t_sights, .ref a_t_digits, .ref a_t_pad, .int v_t_padMany, .ref a_t_act, .ref a_t_who, .ref a_t_whom, .ref a_t_much, .int v_t_acts, .int v_t_givenNow, .int v_t_entered, .ref a_t_had, .int v_t_badAct, .int v_t_badWhy, .int v_t_firstAct, .int v_t_firstHouse, .ref a_t_dues, .ref a_t_groups, .ref a_t_ways, .ref a_t_fit, .int v_t_fitMany, .ref a_t_byMany, .ref a_t_kept, .ref a_t_isKept, .int v_t_keptAt, .int v_t_isWriting])), (a_t_chart, .inl (cI, 8, .inl g_t_chart))] → lv_has ls 3 [(1, .int (it (B_X10_chartRow_4 g_t_chart) j n x1))] → W p l e ({ frames := 0, cells := 0, slots := 0, locals := 0 }) s m args below meth c H locs 0 0 Q (F0 m 28 ls [])) → W p l e ({ frames := 0, cells := 0, slots := 0, locals := 0 }) s m args below meth c H locs 0 0 Q (F0 m 4 ls []) := by
  have hx := C.hx
  have hb := C.hb
  intro n
  induction n with
  | zero =>
    intro j x1 hn hj H locs hw ls hl kk
    refine lv_iload_n hx hb dX10_chartRow_4 rfl (lv_at hl 2 rfl) ?_
    refine lv_bipush (v := 8) hx hb dX10_chartRow_5 (by decide) ?_
    refine lv_icmp_ge (tgt := 28) hx hb dX10_chartRow_7 (by decide) (fun c2 => ?_) (fun c2 => by exact absurd (nI_le (a := 8) (b := j) (by omega) (by omega)) c2)
    exact kk _ _ _ hw (lv_sub hl [1] rfl)
  | succ n ih =>
    intro j x1 hn hj H locs hw ls hl kk
    refine lv_iload_n hx hb dX10_chartRow_4 rfl (lv_at hl 2 rfl) ?_
    refine lv_bipush (v := 8) hx hb dX10_chartRow_5 (by decide) ?_
    refine lv_icmp_ge (tgt := 28) hx hb dX10_chartRow_7 (by decide) (fun c1 => by exact absurd c1 (nI_ge (a := j) (b := 8) (by omega) (by omega))) (fun c1 => ?_)
    refine lv_bipush (v := 10) hx hb dX10_chartRow_10 (by decide) ?_
    refine lv_iload_n hx hb dX10_chartRow_12 rfl (lv_at hl 1 rfl) ?_
    refine lv_imul hx hb dX10_chartRow_13 ?_
    refine lv_aload_n hx hb dX10_chartRow_14 rfl (lv_at hl 0 rfl) ?_
    refine k_get C hw (CC := RX10) (T := TX10) (N := 35) nX10_chartRow_X10 0 rfl rfl 2 (by decide) (List.mem_of_getElem? (i := 1) rfl) rfl rfl dX10_chartRow_15 ?_
    refine lv_iload_n hx hb dX10_chartRow_18 rfl (lv_at hl 2 rfl) ?_
    refine k_ialdN C hw 1 rfl j rfl (by omega) (by decide) dX10_chartRow_19 ?_
    refine lv_iadd hx hb dX10_chartRow_20 ?_
    refine lv_istore_n (lv' := [(1, .int ((10 * x1) + (g_t_chart j))), (0, .ref a_t), (2, .int (nI j))]) hx hb dX10_chartRow_21 rfl hl (by decide) rfl (fun ls hl => ?_)
    refine lv_iinc (v := (nI (j + 1))) (lv' := [(2, .int (nI (j + 1))), (1, .int ((10 * x1) + (g_t_chart j))), (0, .ref a_t)]) hx hb dX10_chartRow_22 hl (k := 2) rfl (nI_1 _) (by decide) rfl (fun ls hl => ?_)
    refine lv_goto (tgt := 4) hx hb dX10_chartRow_25 (by decide) ?_
    have hB : B_X10_chartRow_4 g_t_chart j x1 = ((10 * x1) + (g_t_chart j)) := by
      unfold B_X10_chartRow_4
      exact rfl
    rw [it_c hB] at kk
    exact ih (j + 1) ((10 * x1) + (g_t_chart j)) (by omega) (by omega) _ _ hw _ (lv_sub hl [2, 1, 0] rfl) kk
def f_X10_chartRow (g_t_chart : (Nat → Int32)) : Int32 := (it (B_X10_chartRow_4 g_t_chart) 0 8 (0 : Int32))
set_option maxHeartbeats 4000000 in
set_option maxRecDepth 100000 in
theorem T_X10_chartRow (l : Launch) (D : va_G) (cI cZ : ClassId) (a_t a_t_wealth a_t_given a_t_chart a_t_relatives a_t_sightSet a_t_sightMany a_t_digits a_t_pad a_t_act a_t_who a_t_whom a_t_much a_t_had a_t_dues a_t_groups a_t_ways a_t_fit a_t_byMany a_t_kept a_t_isKept : Nat) (v_t_inside : Int32) (v_t_next : Int32) (v_t_years : Int32) (v_t_sights : Int32) (v_t_padMany : Int32) (v_t_acts : Int32) (v_t_givenNow : Int32) (v_t_entered : Int32) (v_t_badAct : Int32) (v_t_badWhy : Int32) (v_t_firstAct : Int32) (v_t_firstHouse : Int32) (v_t_fitMany : Int32) (v_t_keptAt : Int32) (v_t_isWriting : Int32) (g_t_chart : (Nat → Int32)) : CT l D cI cZ yX10_chartRow wsX10_chartRow ({ frames := 0, cells := 0, slots := 0, locals := 0 }) [.ref a_t] [(a_t, .inr (10, [.ref a_t_wealth, .ref a_t_given, .ref a_t_chart, .ref a_t_relatives, .int v_t_inside, .int v_t_next, .int v_t_years, .ref a_t_sightSet, .ref a_t_sightMany, .int v_t_sights, .ref a_t_digits, .ref a_t_pad, .int v_t_padMany, .ref a_t_act, .ref a_t_who, .ref a_t_whom, .ref a_t_much, .int v_t_acts, .int v_t_givenNow, .int v_t_entered, .ref a_t_had, .int v_t_badAct, .int v_t_badWhy, .int v_t_firstAct, .int v_t_firstHouse, .ref a_t_dues, .ref a_t_groups, .ref a_t_ways, .ref a_t_fit, .int v_t_fitMany, .ref a_t_byMany, .ref a_t_kept, .ref a_t_isKept, .int v_t_keptAt, .int v_t_isWriting])), (a_t_chart, .inl (cI, 8, .inl g_t_chart))] (some (.int (f_X10_chartRow g_t_chart))) [(a_t, .inr (10, [.ref a_t_wealth, .ref a_t_given, .ref a_t_chart, .ref a_t_relatives, .int v_t_inside, .int v_t_next, .int v_t_years, .ref a_t_sightSet, .ref a_t_sightMany, .int v_t_sights, .ref a_t_digits, .ref a_t_pad, .int v_t_padMany, .ref a_t_act, .ref a_t_who, .ref a_t_whom, .ref a_t_much, .int v_t_acts, .int v_t_givenNow, .int v_t_entered, .ref a_t_had, .int v_t_badAct, .int v_t_badWhy, .int v_t_firstAct, .int v_t_firstHouse, .ref a_t_dues, .ref a_t_groups, .ref a_t_ways, .ref a_t_fit, .int v_t_fitMany, .ref a_t_byMany, .ref a_t_kept, .ref a_t_isKept, .int v_t_keptAt, .int v_t_isWriting])), (a_t_chart, .inl (cI, 8, .inl g_t_chart))] := by
  refine CT.intro RX10 (by decide) rfl (Nat.le_of_ble_eq_true rfl) rfl ?_
  intro p e s m below meth c C hr hw ls hl
  have hx := C.hx
  have hb := C.hb
  replace hl : lv_has ls 3 [(0, .ref a_t)] := hl
  refine lv_iconst (v := 0) hx hb dX10_chartRow_0 (by decide) ?_
  refine lv_istore_n (lv' := [(1, .int 0), (0, .ref a_t)]) hx hb dX10_chartRow_1 rfl hl (by decide) rfl (fun ls hl => ?_)
  refine lv_iconst (v := 0) hx hb dX10_chartRow_2 (by decide) ?_
  refine lv_istore_n (lv' := [(2, .int 0), (1, .int 0), (0, .ref a_t)]) hx hb dX10_chartRow_3 rfl hl (by decide) rfl (fun ls hl => ?_)
  refine l_X10_chartRow_4 a_t a_t_wealth a_t_given a_t_chart a_t_relatives a_t_sightSet a_t_sightMany a_t_digits a_t_pad a_t_act a_t_who a_t_whom a_t_much a_t_had a_t_dues a_t_groups a_t_ways a_t_fit a_t_byMany a_t_kept a_t_isKept v_t_inside v_t_next v_t_years v_t_sights v_t_padMany v_t_acts v_t_givenNow v_t_entered v_t_badAct v_t_badWhy v_t_firstAct v_t_firstHouse v_t_fitMany v_t_keptAt v_t_isWriting g_t_chart C 8 0 (0 : Int32) (by decide) (by decide) _ _ hw _ (lv_sub hl [2, 1, 0] rfl) (fun H locs ls hw hl => ?_)
  replace hw : kW D _ s H locs [(a_t, .inr (10, [.ref a_t_wealth, .ref a_t_given, .ref a_t_chart, .ref a_t_relatives, .int v_t_inside, .int v_t_next, .int v_t_years, .ref a_t_sightSet, .ref a_t_sightMany, .int v_t_sights, .ref a_t_digits, .ref a_t_pad, .int v_t_padMany, .ref a_t_act, .ref a_t_who, .ref a_t_whom, .ref a_t_much, .int v_t_acts, .int v_t_givenNow, .int v_t_entered, .ref a_t_had, .int v_t_badAct, .int v_t_badWhy, .int v_t_firstAct, .int v_t_firstHouse, .ref a_t_dues, .ref a_t_groups, .ref a_t_ways, .ref a_t_fit, .int v_t_fitMany, .ref a_t_byMany, .ref a_t_kept, .ref a_t_isKept, .int v_t_keptAt, .int v_t_isWriting])), (a_t_chart, .inl (cI, 8, .inl g_t_chart))] := hw
  replace hl : lv_has ls 3 [(1, .int (it (B_X10_chartRow_4 g_t_chart) 0 8 (0 : Int32)))] := hl
  refine lv_iload_n hx hb dX10_chartRow_28 rfl (lv_at hl 0 rfl) ?_
  rw [show f_X10_chartRow g_t_chart = (it (B_X10_chartRow_4 g_t_chart) 0 8 (0 : Int32)) from by
      unfold f_X10_chartRow
      exact rfl]
  exact k_iret C hr hw dX10_chartRow_29

theorem nX10_readRow_X10 : ∀ w ∈ wsX100, w ∈ wsX10_readRow := fun _ h => List.mem_cons_of_mem _ (List.mem_append_right _ h)
def B_X10_readRow_8 (n : Nat) (v : Int32 × Int32 × (Nat → Int32)) : Int32 × Int32 × (Nat → Int32) := ((v.1 / 10), (v.2.1 ||| ((1 : Int32) <<< ((v.1 - v.1 / 10 * 10) &&& 31))), (upd v.2.2 n (v.1 - v.1 / 10 * 10)))
set_option maxHeartbeats 4000000 in
set_option maxRecDepth 100000 in
theorem l_X10_readRow_8 {p : Program} {l : Launch} {e : Env} {s : State} {m : MethodId} {args : Array Value} {below : List Frame} {meth : Method} {c : Code} {D : va_G} {cI cZ : ClassId} {Q : State → Prop} {A : Nat → Prop} (a_t a_t_wealth a_t_given a_t_chart a_t_relatives a_t_sightSet a_t_sightMany a_t_digits a_t_pad a_t_act a_t_who a_t_whom a_t_much a_t_had a_t_dues a_t_groups a_t_ways a_t_fit a_t_byMany a_t_kept a_t_isKept : Nat) (v_t_inside : Int32) (v_t_next : Int32) (v_t_years : Int32) (v_t_sights : Int32) (v_t_padMany : Int32) (v_t_acts : Int32) (v_t_givenNow : Int32) (v_t_entered : Int32) (v_t_badAct : Int32) (v_t_badWhy : Int32) (v_t_firstAct : Int32) (v_t_firstHouse : Int32) (v_t_fitMany : Int32) (v_t_keptAt : Int32) (v_t_isWriting : Int32) (C : kC p s m args meth c cX10_readRow 5 wsX10_readRow RX10 D cI cZ A) : ∀ (n : Nat) (x2 : Int32) (x3 : Int32) (g_t_digits : (Nat → Int32)), n ≤ 8 → ∀ (H : Heap) (locs : List Loc), kW D A s H locs [(a_t, .inr (10, [.ref a_t_wealth, .ref a_t_given, .ref a_t_chart, .ref a_t_relatives, .int v_t_inside, .int v_t_next, .int v_t_years, .ref a_t_sightSet, .ref a_t_sightMany, .int v_t_sights, .ref a_t_digits, .ref a_t_pad, .int v_t_padMany, .ref a_t_act, .ref a_t_who, .ref a_t_whom, .ref a_t_much, .int v_t_acts, .int v_t_givenNow, .int v_t_entered, .ref a_t_had, .int v_t_badAct, .int v_t_badWhy, .int v_t_firstAct, .int v_t_firstHouse, .ref a_t_dues, .ref a_t_groups, .ref a_t_ways, .ref a_t_fit, .int v_t_fitMany, .ref a_t_byMany, .ref a_t_kept, .ref a_t_isKept, .int v_t_keptAt, .int v_t_isWriting])), (a_t_digits, .inl (cI, 8, .inl g_t_digits))] → ∀ (ls : Array Slot), lv_has ls 5 [(0, .ref a_t), (2, .int x2), (3, .int x3), (4, .int (nI n + (-1)))] → (∀ (H : Heap) (locs : List Loc) (ls : Array Slot), kW D A s H locs [(a_t, .inr (10, [.ref a_t_wealth, .ref a_t_given, .ref a_t_chart, .ref a_t_relatives, .int v_t_inside, .int v_t_next, .int v_t_years, .ref a_t_sightSet, .ref a_t_sightMany, .int v_t_sights, .ref a_t_digits, .ref a_t_pad, .int v_t_padMany, .ref a_t_act, .ref a_t_who, .ref a_t_whom, .ref a_t_much, .int v_t_acts, .int v_t_givenNow, .int v_t_entered, .ref a_t_had, .int v_t_badAct, .int v_t_badWhy, .int v_t_firstAct, .int v_t_firstHouse, .ref a_t_dues, .ref a_t_groups, .ref a_t_ways, .ref a_t_fit, .int v_t_fitMany, .ref a_t_byMany, .ref a_t_kept, .ref a_t_isKept, .int v_t_keptAt, .int v_t_isWriting])), (a_t_digits, .inl (cI, 8, .inl (itD B_X10_readRow_8 n (x2, x3, g_t_digits)).2.2))] → lv_has ls 5 [(2, .int (itD B_X10_readRow_8 n (x2, x3, g_t_digits)).1), (3, .int (itD B_X10_readRow_8 n (x2, x3, g_t_digits)).2.1)] → W p l e ({ frames := 0, cells := 0, slots := 0, locals := 0 }) s m args below meth c H locs 0 0 Q (F0 m 44 ls [])) → W p l e ({ frames := 0, cells := 0, slots := 0, locals := 0 }) s m args below meth c H locs 0 0 Q (F0 m 8 ls []) := by
  have hx := C.hx
  have hb := C.hb
  intro n
  induction n with
  | zero =>
    intro x2 x3 g_t_digits hn H locs hw ls hl kk
    refine lv_iload hx hb dX10_readRow_8 (lv_at hl 3 rfl) ?_
    refine lv_if_lt (tgt := 44) hx hb dX10_readRow_10 (by decide) (fun c2 => ?_) (fun c2 => absurd (by decide) c2)
    exact kk _ _ _ hw (lv_sub hl [1, 2] rfl)
  | succ n ih =>
    intro x2 x3 g_t_digits hn H locs hw ls hl kk
    replace hl : lv_has ls 5 [(0, .ref a_t), (2, .int x2), (3, .int x3), (4, .int (nI n))] := by
      rw [← pk_m1]
      exact hl
    refine lv_iload hx hb dX10_readRow_8 (lv_at hl 3 rfl) ?_
    refine lv_if_lt (tgt := 44) hx hb dX10_readRow_10 (by decide) (fun c1 => absurd c1 (nI_pos (by omega))) (fun c1 => ?_)
    refine lv_aload_n hx hb dX10_readRow_13 rfl (lv_at hl 0 rfl) ?_
    refine k_get C hw (CC := RX10) (T := TX10) (N := 35) nX10_readRow_X10 0 rfl rfl 10 (by decide) (List.mem_of_getElem? (i := 1) rfl) rfl rfl dX10_readRow_14 ?_
    refine lv_iload hx hb dX10_readRow_17 (lv_at hl 3 rfl) ?_
    refine lv_iload_n hx hb dX10_readRow_19 rfl (lv_at hl 1 rfl) ?_
    refine lv_bipush (v := 10) hx hb dX10_readRow_20 (by decide) ?_
    refine lv_irem hx hb dX10_readRow_22 (by decide) ?_
    refine k_iastN C hw 1 rfl n rfl (by omega) (by decide) dX10_readRow_23 (fun H locs hw => ?_)
    replace hw : kW D _ s H locs [(a_t, .inr (10, [.ref a_t_wealth, .ref a_t_given, .ref a_t_chart, .ref a_t_relatives, .int v_t_inside, .int v_t_next, .int v_t_years, .ref a_t_sightSet, .ref a_t_sightMany, .int v_t_sights, .ref a_t_digits, .ref a_t_pad, .int v_t_padMany, .ref a_t_act, .ref a_t_who, .ref a_t_whom, .ref a_t_much, .int v_t_acts, .int v_t_givenNow, .int v_t_entered, .ref a_t_had, .int v_t_badAct, .int v_t_badWhy, .int v_t_firstAct, .int v_t_firstHouse, .ref a_t_dues, .ref a_t_groups, .ref a_t_ways, .ref a_t_fit, .int v_t_fitMany, .ref a_t_byMany, .ref a_t_kept, .ref a_t_isKept, .int v_t_keptAt, .int v_t_isWriting])), (a_t_digits, .inl (cI, 8, .inl (upd g_t_digits n (x2 - x2 / 10 * 10))))] := hw
    refine lv_iload_n hx hb dX10_readRow_24 rfl (lv_at hl 2 rfl) ?_
    refine lv_iconst (v := 1) hx hb dX10_readRow_25 (by decide) ?_
    refine lv_iload_n hx hb dX10_readRow_26 rfl (lv_at hl 1 rfl) ?_
    refine lv_bipush (v := 10) hx hb dX10_readRow_27 (by decide) ?_
    refine lv_irem hx hb dX10_readRow_29 (by decide) ?_
    refine lv_ishl hx hb dX10_readRow_30 ?_
    refine lv_ior hx hb dX10_readRow_31 ?_
    refine lv_istore_n (lv' := [(3, .int (x3 ||| ((1 : Int32) <<< ((x2 - x2 / 10 * 10) &&& 31)))), (0, .ref a_t), (2, .int x2), (4, .int (nI n))]) hx hb dX10_readRow_32 rfl hl (by decide) rfl (fun ls hl => ?_)
    refine lv_iload_n hx hb dX10_readRow_33 rfl (lv_at hl 2 rfl) ?_
    refine lv_bipush (v := 10) hx hb dX10_readRow_34 (by decide) ?_
    refine lv_idiv hx hb dX10_readRow_36 (by decide) ?_
    refine lv_istore_n (lv' := [(2, .int (x2 / 10)), (3, .int (x3 ||| ((1 : Int32) <<< ((x2 - x2 / 10 * 10) &&& 31)))), (0, .ref a_t), (4, .int (nI n))]) hx hb dX10_readRow_37 rfl hl (by decide) rfl (fun ls hl => ?_)
    refine lv_iinc (v := ((nI n) + (-1))) (lv' := [(4, .int ((nI n) + (-1))), (2, .int (x2 / 10)), (3, .int (x3 ||| ((1 : Int32) <<< ((x2 - x2 / 10 * 10) &&& 31)))), (0, .ref a_t)]) hx hb dX10_readRow_38 hl (k := 3) rfl (rfl) (by decide) rfl (fun ls hl => ?_)
    refine lv_goto (tgt := 8) hx hb dX10_readRow_41 (by decide) ?_
    have hB : B_X10_readRow_8 n (x2, x3, g_t_digits) = ((x2 / 10), (x3 ||| ((1 : Int32) <<< ((x2 - x2 / 10 * 10) &&& 31))), (upd g_t_digits n (x2 - x2 / 10 * 10))) := by
      unfold B_X10_readRow_8
      exact rfl
    rw [itD_c hB] at kk
    exact ih (x2 / 10) (x3 ||| ((1 : Int32) <<< ((x2 - x2 / 10 * 10) &&& 31))) (upd g_t_digits n (x2 - x2 / 10 * 10)) (by omega) _ _ hw _ (lv_sub hl [3, 1, 2, 0] rfl) kk
def f_X10_readRow (g_t_digits : (Nat → Int32)) (p1 : Int32) : Int32 × (Nat → Int32) := (if (itD B_X10_readRow_8 8 (p1, (0 : Int32), g_t_digits)).1 = 0 then (if (itD B_X10_readRow_8 8 (p1, (0 : Int32), g_t_digits)).2.1 = 255 then (1, (itD B_X10_readRow_8 8 (p1, (0 : Int32), g_t_digits)).2.2) else (0, (itD B_X10_readRow_8 8 (p1, (0 : Int32), g_t_digits)).2.2)) else (0, (itD B_X10_readRow_8 8 (p1, (0 : Int32), g_t_digits)).2.2))
set_option maxHeartbeats 4000000 in
set_option maxRecDepth 100000 in
theorem T_X10_readRow (l : Launch) (D : va_G) (cI cZ : ClassId) (a_t a_t_wealth a_t_given a_t_chart a_t_relatives a_t_sightSet a_t_sightMany a_t_digits a_t_pad a_t_act a_t_who a_t_whom a_t_much a_t_had a_t_dues a_t_groups a_t_ways a_t_fit a_t_byMany a_t_kept a_t_isKept : Nat) (v_t_inside : Int32) (v_t_next : Int32) (v_t_years : Int32) (v_t_sights : Int32) (v_t_padMany : Int32) (v_t_acts : Int32) (v_t_givenNow : Int32) (v_t_entered : Int32) (v_t_badAct : Int32) (v_t_badWhy : Int32) (v_t_firstAct : Int32) (v_t_firstHouse : Int32) (v_t_fitMany : Int32) (v_t_keptAt : Int32) (v_t_isWriting : Int32) (g_t_digits : (Nat → Int32)) (p1 : Int32) : CT l D cI cZ yX10_readRow wsX10_readRow ({ frames := 0, cells := 0, slots := 0, locals := 0 }) [.ref a_t, .int p1] [(a_t, .inr (10, [.ref a_t_wealth, .ref a_t_given, .ref a_t_chart, .ref a_t_relatives, .int v_t_inside, .int v_t_next, .int v_t_years, .ref a_t_sightSet, .ref a_t_sightMany, .int v_t_sights, .ref a_t_digits, .ref a_t_pad, .int v_t_padMany, .ref a_t_act, .ref a_t_who, .ref a_t_whom, .ref a_t_much, .int v_t_acts, .int v_t_givenNow, .int v_t_entered, .ref a_t_had, .int v_t_badAct, .int v_t_badWhy, .int v_t_firstAct, .int v_t_firstHouse, .ref a_t_dues, .ref a_t_groups, .ref a_t_ways, .ref a_t_fit, .int v_t_fitMany, .ref a_t_byMany, .ref a_t_kept, .ref a_t_isKept, .int v_t_keptAt, .int v_t_isWriting])), (a_t_digits, .inl (cI, 8, .inl g_t_digits))] (some (.int (f_X10_readRow g_t_digits p1).1)) [(a_t, .inr (10, [.ref a_t_wealth, .ref a_t_given, .ref a_t_chart, .ref a_t_relatives, .int v_t_inside, .int v_t_next, .int v_t_years, .ref a_t_sightSet, .ref a_t_sightMany, .int v_t_sights, .ref a_t_digits, .ref a_t_pad, .int v_t_padMany, .ref a_t_act, .ref a_t_who, .ref a_t_whom, .ref a_t_much, .int v_t_acts, .int v_t_givenNow, .int v_t_entered, .ref a_t_had, .int v_t_badAct, .int v_t_badWhy, .int v_t_firstAct, .int v_t_firstHouse, .ref a_t_dues, .ref a_t_groups, .ref a_t_ways, .ref a_t_fit, .int v_t_fitMany, .ref a_t_byMany, .ref a_t_kept, .ref a_t_isKept, .int v_t_keptAt, .int v_t_isWriting])), (a_t_digits, .inl (cI, 8, .inl (f_X10_readRow g_t_digits p1).2))] := by
  refine CT.intro RX10 (by decide) rfl (Nat.le_of_ble_eq_true rfl) rfl ?_
  intro p e s m below meth c C hr hw ls hl
  have hx := C.hx
  have hb := C.hb
  replace hl : lv_has ls 5 [(0, .ref a_t), (1, .int p1)] := hl
  refine lv_iload_n hx hb dX10_readRow_0 rfl (lv_at hl 1 rfl) ?_
  refine lv_istore_n (lv' := [(2, .int p1), (0, .ref a_t), (1, .int p1)]) hx hb dX10_readRow_1 rfl hl (by decide) rfl (fun ls hl => ?_)
  refine lv_iconst (v := 0) hx hb dX10_readRow_2 (by decide) ?_
  refine lv_istore_n (lv' := [(3, .int 0), (2, .int p1), (0, .ref a_t), (1, .int p1)]) hx hb dX10_readRow_3 rfl hl (by decide) rfl (fun ls hl => ?_)
  refine lv_bipush (v := 7) hx hb dX10_readRow_4 (by decide) ?_
  refine lv_istore (lv' := [(4, .int 7), (3, .int 0), (2, .int p1), (0, .ref a_t), (1, .int p1)]) hx hb dX10_readRow_6 hl (by decide) rfl (fun ls hl => ?_)
  have hl2 : lv_has ls 5 [(0, .ref a_t), (2, .int p1), (3, .int 0), (4, .int (nI 8 + (-1)))] := by
    exact (lv_sub hl [3, 2, 1, 0] rfl)
  refine l_X10_readRow_8 a_t a_t_wealth a_t_given a_t_chart a_t_relatives a_t_sightSet a_t_sightMany a_t_digits a_t_pad a_t_act a_t_who a_t_whom a_t_much a_t_had a_t_dues a_t_groups a_t_ways a_t_fit a_t_byMany a_t_kept a_t_isKept v_t_inside v_t_next v_t_years v_t_sights v_t_padMany v_t_acts v_t_givenNow v_t_entered v_t_badAct v_t_badWhy v_t_firstAct v_t_firstHouse v_t_fitMany v_t_keptAt v_t_isWriting C 8 p1 (0 : Int32) g_t_digits (by decide) _ _ hw _ hl2 (fun H locs ls hw hl => ?_)
  replace hw : kW D _ s H locs [(a_t, .inr (10, [.ref a_t_wealth, .ref a_t_given, .ref a_t_chart, .ref a_t_relatives, .int v_t_inside, .int v_t_next, .int v_t_years, .ref a_t_sightSet, .ref a_t_sightMany, .int v_t_sights, .ref a_t_digits, .ref a_t_pad, .int v_t_padMany, .ref a_t_act, .ref a_t_who, .ref a_t_whom, .ref a_t_much, .int v_t_acts, .int v_t_givenNow, .int v_t_entered, .ref a_t_had, .int v_t_badAct, .int v_t_badWhy, .int v_t_firstAct, .int v_t_firstHouse, .ref a_t_dues, .ref a_t_groups, .ref a_t_ways, .ref a_t_fit, .int v_t_fitMany, .ref a_t_byMany, .ref a_t_kept, .ref a_t_isKept, .int v_t_keptAt, .int v_t_isWriting])), (a_t_digits, .inl (cI, 8, .inl (itD B_X10_readRow_8 8 (p1, (0 : Int32), g_t_digits)).2.2))] := hw
  replace hl : lv_has ls 5 [(2, .int (itD B_X10_readRow_8 8 (p1, (0 : Int32), g_t_digits)).1), (3, .int (itD B_X10_readRow_8 8 (p1, (0 : Int32), g_t_digits)).2.1)] := hl
  refine lv_iload_n hx hb dX10_readRow_44 rfl (lv_at hl 0 rfl) ?_
  refine lv_if_ne (tgt := 59) hx hb dX10_readRow_45 (by decide) (fun c3 => ?_) (fun c3 => ?_)
  · refine lv_iconst (v := 0) hx hb dX10_readRow_59 (by decide) ?_
    rw [show f_X10_readRow g_t_digits p1 = (0, (itD B_X10_readRow_8 8 (p1, (0 : Int32), g_t_digits)).2.2) from by
        unfold f_X10_readRow
        exact (if_neg c3).trans (rfl)]
    exact k_zret (v := 0) C hr hw nz0 dX10_readRow_60
  · refine lv_iload_n hx hb dX10_readRow_48 rfl (lv_at hl 1 rfl) ?_
    refine lv_sipush (v := 255) hx hb dX10_readRow_49 (by decide) ?_
    refine lv_icmp_ne (tgt := 59) hx hb dX10_readRow_52 (by decide) (fun c4 => ?_) (fun c4 => ?_)
    · refine lv_iconst (v := 0) hx hb dX10_readRow_59 (by decide) ?_
      rw [show f_X10_readRow g_t_digits p1 = (0, (itD B_X10_readRow_8 8 (p1, (0 : Int32), g_t_digits)).2.2) from by
          unfold f_X10_readRow
          exact (if_pos c3).trans ((if_neg c4).trans (rfl))]
      exact k_zret (v := 0) C hr hw nz0 dX10_readRow_60
    · refine lv_iconst (v := 1) hx hb dX10_readRow_55 (by decide) ?_
      refine lv_goto (tgt := 60) hx hb dX10_readRow_56 (by decide) ?_
      rw [show f_X10_readRow g_t_digits p1 = (1, (itD B_X10_readRow_8 8 (p1, (0 : Int32), g_t_digits)).2.2) from by
          unfold f_X10_readRow
          exact (if_pos c3).trans ((if_pos c4).trans (rfl))]
      exact k_zret (v := 1) C hr hw nz1 dX10_readRow_60

theorem nX10_map_X10 : ∀ w ∈ wsX100, w ∈ wsX10_map := fun _ h => List.mem_cons_of_mem _ (List.mem_append_right _ h)
def B_X10_map_46 (g_t_digits : (Nat → Int32)) (j : Nat) (v : (Nat → Int32)) : (Nat → Int32) := (upd v j (g_t_digits j))
set_option maxHeartbeats 4000000 in
set_option maxRecDepth 100000 in
theorem l_X10_map_46 {p : Program} {l : Launch} {e : Env} {s : State} {m : MethodId} {args : Array Value} {below : List Frame} {meth : Method} {c : Code} {D : va_G} {cI cZ : ClassId} {Q : State → Prop} {A : Nat → Prop} (a_t a_t_wealth a_t_given a_t_chart a_t_relatives a_t_sightSet a_t_sightMany a_t_digits a_t_pad a_t_act a_t_who a_t_whom a_t_much a_t_had a_t_dues a_t_groups a_t_ways a_t_fit a_t_byMany a_t_kept a_t_isKept : Nat) (x2 : Int32) (x3 : Int32) (v_t_inside : Int32) (v_t_next : Int32) (v_t_years : Int32) (v_t_sights : Int32) (v_t_padMany : Int32) (v_t_acts : Int32) (v_t_givenNow : Int32) (v_t_entered : Int32) (v_t_badAct : Int32) (v_t_badWhy : Int32) (v_t_firstAct : Int32) (v_t_firstHouse : Int32) (v_t_fitMany : Int32) (v_t_keptAt : Int32) (v_t_isWriting : Int32) (g_t_digits : (Nat → Int32)) (C : kC p s m args meth c cX10_map 5 wsX10_map RX10 D cI cZ A) : ∀ (n j : Nat) (g_t_chart : (Nat → Int32)), n = 8 - j → j < 2147483648 → ∀ (H : Heap) (locs : List Loc), kW D A s H locs [(a_t, .inr (10, [.ref a_t_wealth, .ref a_t_given, .ref a_t_chart, .ref a_t_relatives, .int v_t_inside, .int v_t_next, .int v_t_years, .ref a_t_sightSet, .ref a_t_sightMany, .int v_t_sights, .ref a_t_digits, .ref a_t_pad, .int v_t_padMany, .ref a_t_act, .ref a_t_who, .ref a_t_whom, .ref a_t_much, .int v_t_acts, .int v_t_givenNow, .int v_t_entered, .ref a_t_had, .int v_t_badAct, .int v_t_badWhy, .int v_t_firstAct, .int v_t_firstHouse, .ref a_t_dues, .ref a_t_groups, .ref a_t_ways, .ref a_t_fit, .int v_t_fitMany, .ref a_t_byMany, .ref a_t_kept, .ref a_t_isKept, .int v_t_keptAt, .int v_t_isWriting])), (a_t_digits, .inl (cI, 8, .inl g_t_digits)), (a_t_chart, .inl (cI, 8, .inl g_t_chart))] → ∀ (ls : Array Slot), lv_has ls 5 [(0, .ref a_t), (2, .int x2), (3, .int x3), (4, .int (nI j))] → (∀ (H : Heap) (locs : List Loc) (ls : Array Slot), kW D A s H locs [(a_t, .inr (10, [.ref a_t_wealth, .ref a_t_given, .ref a_t_chart, .ref a_t_relatives, .int v_t_inside, .int v_t_next, .int v_t_years, .ref a_t_sightSet, .ref a_t_sightMany, .int v_t_sights, .ref a_t_digits, .ref a_t_pad, .int v_t_padMany, .ref a_t_act, .ref a_t_who, .ref a_t_whom, .ref a_t_much, .int v_t_acts, .int v_t_givenNow, .int v_t_entered, .ref a_t_had, .int v_t_badAct, .int v_t_badWhy, .int v_t_firstAct, .int v_t_firstHouse, .ref a_t_dues, .ref a_t_groups, .ref a_t_ways, .ref a_t_fit, .int v_t_fitMany, .ref a_t_byMany, .ref a_t_kept, .ref a_t_isKept, .int v_t_keptAt, .int v_t_isWriting])), (a_t_digits, .inl (cI, 8, .inl g_t_digits)), (a_t_chart, .inl (cI, 8, .inl (it (B_X10_map_46 g_t_digits) j n g_t_chart)))] → lv_has ls 5 [(0, .ref a_t), (2, .int x2), (3, .int x3)] → W p l e ({ frames := 2, cells := 0, slots := 0, locals := 45 }) s m args below meth c H locs 0 0 Q (F0 m 73 ls [])) → W p l e ({ frames := 2, cells := 0, slots := 0, locals := 45 }) s m args below meth c H locs 0 0 Q (F0 m 46 ls []) := by
  have hx := C.hx
  have hb := C.hb
  intro n
  induction n with
  | zero =>
    intro j g_t_chart hn hj H locs hw ls hl kk
    refine lv_iload hx hb dX10_map_46 (lv_at hl 3 rfl) ?_
    refine lv_bipush (v := 8) hx hb dX10_map_48 (by decide) ?_
    refine lv_icmp_ge (tgt := 73) hx hb dX10_map_50 (by decide) (fun c8 => ?_) (fun c8 => by exact absurd (nI_le (a := 8) (b := j) (by omega) (by omega)) c8)
    exact kk _ _ _ hw (lv_sub hl [0, 1, 2] rfl)
  | succ n ih =>
    intro j g_t_chart hn hj H locs hw ls hl kk
    refine lv_iload hx hb dX10_map_46 (lv_at hl 3 rfl) ?_
    refine lv_bipush (v := 8) hx hb dX10_map_48 (by decide) ?_
    refine lv_icmp_ge (tgt := 73) hx hb dX10_map_50 (by decide) (fun c7 => by exact absurd c7 (nI_ge (a := j) (b := 8) (by omega) (by omega))) (fun c7 => ?_)
    refine lv_aload_n hx hb dX10_map_53 rfl (lv_at hl 0 rfl) ?_
    refine k_get C hw (CC := RX10) (T := TX10) (N := 35) nX10_map_X10 0 rfl rfl 2 (by decide) (List.mem_of_getElem? (i := 3) rfl) rfl rfl dX10_map_54 ?_
    refine lv_iload hx hb dX10_map_57 (lv_at hl 3 rfl) ?_
    refine lv_aload_n hx hb dX10_map_59 rfl (lv_at hl 0 rfl) ?_
    refine k_get C hw (CC := RX10) (T := TX10) (N := 35) nX10_map_X10 0 rfl rfl 10 (by decide) (List.mem_of_getElem? (i := 4) rfl) rfl rfl dX10_map_60 ?_
    refine lv_iload hx hb dX10_map_63 (lv_at hl 3 rfl) ?_
    refine k_ialdN C hw 1 rfl j rfl (by omega) (by decide) dX10_map_65 ?_
    refine k_iastN C hw 2 rfl j rfl (by omega) (by decide) dX10_map_66 (fun H locs hw => ?_)
    replace hw : kW D _ s H locs [(a_t, .inr (10, [.ref a_t_wealth, .ref a_t_given, .ref a_t_chart, .ref a_t_relatives, .int v_t_inside, .int v_t_next, .int v_t_years, .ref a_t_sightSet, .ref a_t_sightMany, .int v_t_sights, .ref a_t_digits, .ref a_t_pad, .int v_t_padMany, .ref a_t_act, .ref a_t_who, .ref a_t_whom, .ref a_t_much, .int v_t_acts, .int v_t_givenNow, .int v_t_entered, .ref a_t_had, .int v_t_badAct, .int v_t_badWhy, .int v_t_firstAct, .int v_t_firstHouse, .ref a_t_dues, .ref a_t_groups, .ref a_t_ways, .ref a_t_fit, .int v_t_fitMany, .ref a_t_byMany, .ref a_t_kept, .ref a_t_isKept, .int v_t_keptAt, .int v_t_isWriting])), (a_t_digits, .inl (cI, 8, .inl g_t_digits)), (a_t_chart, .inl (cI, 8, .inl (upd g_t_chart j (g_t_digits j))))] := hw
    refine lv_iinc (v := (nI (j + 1))) (lv' := [(4, .int (nI (j + 1))), (0, .ref a_t), (2, .int x2), (3, .int x3)]) hx hb dX10_map_67 hl (k := 3) rfl (nI_1 _) (by decide) rfl (fun ls hl => ?_)
    refine lv_goto (tgt := 46) hx hb dX10_map_70 (by decide) ?_
    have hB : B_X10_map_46 g_t_digits j g_t_chart = (upd g_t_chart j (g_t_digits j)) := by
      unfold B_X10_map_46
      exact rfl
    rw [it_c hB] at kk
    exact ih (j + 1) (upd g_t_chart j (g_t_digits j)) (by omega) (by omega) _ _ hw _ (lv_sub hl [1, 2, 3, 0] rfl) kk
def f_X10_map (v_t_next : Int32) (g_t_digits : (Nat → Int32)) (g_t_chart : (Nat → Int32)) (p1 : Int32) (p2 : Int32) : Int32 × Int32 × (Nat → Int32) × (Nat → Int32) := (if (f_X10_in ((p1).toInt64) (0 : Int64) (76543210 : Int64)) = 0 then ((-2), v_t_next, g_t_digits, g_t_chart) else (lt (f_X10_readRow g_t_digits p1) (fun z2 => (if z2.1 = 0 then ((-2), v_t_next, z2.2, g_t_chart) else (if (f_X10_isHouse p2) = 0 then ((-2), v_t_next, z2.2, g_t_chart) else (((10 * (f_X10_chartRow g_t_chart)) + v_t_next), p2, z2.2, (it (B_X10_map_46 z2.2) 0 8 g_t_chart)))))))
def o_X10_map (g_t_digits : (Nat → Int32)) (p1 : Int32) (p2 : Int32) : Prop := (if (f_X10_in ((p1).toInt64) (0 : Int64) (76543210 : Int64)) = 0 then True else (lt (f_X10_readRow g_t_digits p1) (fun z2 => (if z2.1 = 0 then True else ((o_X10_isHouse p2) ∧ True)))))
set_option maxHeartbeats 4000000 in
set_option maxRecDepth 100000 in
theorem T_X10_map (l : Launch) (D : va_G) (cI cZ : ClassId) (a_t a_t_wealth a_t_given a_t_chart a_t_relatives a_t_sightSet a_t_sightMany a_t_digits a_t_pad a_t_act a_t_who a_t_whom a_t_much a_t_had a_t_dues a_t_groups a_t_ways a_t_fit a_t_byMany a_t_kept a_t_isKept : Nat) (v_t_inside : Int32) (v_t_next : Int32) (v_t_years : Int32) (v_t_sights : Int32) (v_t_padMany : Int32) (v_t_acts : Int32) (v_t_givenNow : Int32) (v_t_entered : Int32) (v_t_badAct : Int32) (v_t_badWhy : Int32) (v_t_firstAct : Int32) (v_t_firstHouse : Int32) (v_t_fitMany : Int32) (v_t_keptAt : Int32) (v_t_isWriting : Int32) (g_t_digits : (Nat → Int32)) (g_t_chart : (Nat → Int32)) (p1 : Int32) (p2 : Int32) (hok : o_X10_map g_t_digits p1 p2) : CT l D cI cZ yX10_map wsX10_map ({ frames := 2, cells := 0, slots := 0, locals := 45 }) [.ref a_t, .int p1, .int p2] [(a_t, .inr (10, [.ref a_t_wealth, .ref a_t_given, .ref a_t_chart, .ref a_t_relatives, .int v_t_inside, .int v_t_next, .int v_t_years, .ref a_t_sightSet, .ref a_t_sightMany, .int v_t_sights, .ref a_t_digits, .ref a_t_pad, .int v_t_padMany, .ref a_t_act, .ref a_t_who, .ref a_t_whom, .ref a_t_much, .int v_t_acts, .int v_t_givenNow, .int v_t_entered, .ref a_t_had, .int v_t_badAct, .int v_t_badWhy, .int v_t_firstAct, .int v_t_firstHouse, .ref a_t_dues, .ref a_t_groups, .ref a_t_ways, .ref a_t_fit, .int v_t_fitMany, .ref a_t_byMany, .ref a_t_kept, .ref a_t_isKept, .int v_t_keptAt, .int v_t_isWriting])), (a_t_digits, .inl (cI, 8, .inl g_t_digits)), (a_t_chart, .inl (cI, 8, .inl g_t_chart))] (some (.int (f_X10_map v_t_next g_t_digits g_t_chart p1 p2).1)) [(a_t, .inr (10, [.ref a_t_wealth, .ref a_t_given, .ref a_t_chart, .ref a_t_relatives, .int v_t_inside, .int (f_X10_map v_t_next g_t_digits g_t_chart p1 p2).2.1, .int v_t_years, .ref a_t_sightSet, .ref a_t_sightMany, .int v_t_sights, .ref a_t_digits, .ref a_t_pad, .int v_t_padMany, .ref a_t_act, .ref a_t_who, .ref a_t_whom, .ref a_t_much, .int v_t_acts, .int v_t_givenNow, .int v_t_entered, .ref a_t_had, .int v_t_badAct, .int v_t_badWhy, .int v_t_firstAct, .int v_t_firstHouse, .ref a_t_dues, .ref a_t_groups, .ref a_t_ways, .ref a_t_fit, .int v_t_fitMany, .ref a_t_byMany, .ref a_t_kept, .ref a_t_isKept, .int v_t_keptAt, .int v_t_isWriting])), (a_t_digits, .inl (cI, 8, .inl (f_X10_map v_t_next g_t_digits g_t_chart p1 p2).2.2.1)), (a_t_chart, .inl (cI, 8, .inl (f_X10_map v_t_next g_t_digits g_t_chart p1 p2).2.2.2))] := by
  refine CT.intro RX10 (by decide) rfl (Nat.le_of_ble_eq_true rfl) rfl ?_
  intro p e s m below meth c C hr hw ls hl
  have hx := C.hx
  have hb := C.hb
  replace hl : lv_has ls 5 [(0, .ref a_t), (1, .int p1), (2, .int p2)] := hl
  refine lv_iload_n hx hb dX10_map_0 rfl (lv_at hl 1 rfl) ?_
  refine lv_i2l (v := ((p1).toInt64)) hx hb dX10_map_1 rfl ?_
  refine lv_lconst (v := 0) hx hb dX10_map_2 (by decide) ?_
  refine lv_ldc2 (v := 76543210) hx hb C.hown (C.hts _ (List.mem_of_getElem? (i := 1) rfl)) dX10_map_3 ?_
  refine k_callS (As := [.long ((p1).toInt64), .long 0, .long 76543210]) (rest := []) (n := 3) C hw (T_X10_in l D cI cZ ((p1).toInt64) (0 : Int64) (76543210 : Int64)) gX10_map_X10_in rfl ⟨rfl, rfl⟩ (by decide +kernel) ⟨Nat.le_of_ble_eq_true rfl, Nat.le_of_ble_eq_true rfl⟩ [] rfl rfl [] rfl rfl rfl hl.1 rfl (Nat.le_of_ble_eq_true rfl) ⟨Nat.zero_le _, Nat.zero_le _⟩ dX10_map_6 (fun H locs hw => ?_)
  refine W.eq (g2 := F0 m 9 ls [.int (f_X10_in ((p1).toInt64) (0 : Int64) (76543210 : Int64))]) rfl ?_
  replace hw : kW D _ s H locs [(a_t, .inr (10, [.ref a_t_wealth, .ref a_t_given, .ref a_t_chart, .ref a_t_relatives, .int v_t_inside, .int v_t_next, .int v_t_years, .ref a_t_sightSet, .ref a_t_sightMany, .int v_t_sights, .ref a_t_digits, .ref a_t_pad, .int v_t_padMany, .ref a_t_act, .ref a_t_who, .ref a_t_whom, .ref a_t_much, .int v_t_acts, .int v_t_givenNow, .int v_t_entered, .ref a_t_had, .int v_t_badAct, .int v_t_badWhy, .int v_t_firstAct, .int v_t_firstHouse, .ref a_t_dues, .ref a_t_groups, .ref a_t_ways, .ref a_t_fit, .int v_t_fitMany, .ref a_t_byMany, .ref a_t_kept, .ref a_t_isKept, .int v_t_keptAt, .int v_t_isWriting])), (a_t_digits, .inl (cI, 8, .inl g_t_digits)), (a_t_chart, .inl (cI, 8, .inl g_t_chart))] := hw
  refine lv_if_eq (tgt := 27) hx hb dX10_map_9 (by decide) (fun c1 => ?_) (fun c1 => ?_)
  · refine lv_bipush (v := (-2)) hx hb dX10_map_27 (by decide) ?_
    rw [show f_X10_map v_t_next g_t_digits g_t_chart p1 p2 = ((-2), v_t_next, g_t_digits, g_t_chart) from by
        unfold f_X10_map
        exact (if_pos c1).trans (rfl)]
    exact k_iret C hr hw dX10_map_29
  · replace hok := Eq.mp (if_neg c1) hok
    refine lv_aload_n hx hb dX10_map_12 rfl (lv_at hl 0 rfl) ?_
    refine lv_iload_n hx hb dX10_map_13 rfl (lv_at hl 1 rfl) ?_
    refine k_callV (As := [.int p1]) (rest := []) (n := 1) (CC := RX10) (T := TX10) (N := 35) C hw (T_X10_readRow l D cI cZ a_t a_t_wealth a_t_given a_t_chart a_t_relatives a_t_sightSet a_t_sightMany a_t_digits a_t_pad a_t_act a_t_who a_t_whom a_t_much a_t_had a_t_dues a_t_groups a_t_ways a_t_fit a_t_byMany a_t_kept a_t_isKept v_t_inside v_t_next v_t_years v_t_sights v_t_padMany v_t_acts v_t_givenNow v_t_entered v_t_badAct v_t_badWhy v_t_firstAct v_t_firstHouse v_t_fitMany v_t_keptAt v_t_isWriting g_t_digits p1) gX10_map_X10_readRow rfl ⟨rfl, rfl⟩ (by decide +kernel) ⟨Nat.le_of_ble_eq_true rfl, Nat.le_of_ble_eq_true rfl⟩ 0 rfl rfl [0, 1] rfl rfl [a_t, a_t_digits] rfl rfl rfl hl.1 rfl (Nat.le_of_ble_eq_true rfl) ⟨Nat.zero_le _, Nat.zero_le _⟩ dX10_map_14 (fun H locs hw => ?_)
    obtain ⟨z2, h3⟩ : ∃ z, (f_X10_readRow g_t_digits p1) = z := ⟨_, rfl⟩
    refine W.eq (g2 := F0 m 17 ls [.int z2.1]) (by subst h3; rfl) ?_
    replace hw := kW_cast (ws' := [(a_t, .inr (10, [.ref a_t_wealth, .ref a_t_given, .ref a_t_chart, .ref a_t_relatives, .int v_t_inside, .int v_t_next, .int v_t_years, .ref a_t_sightSet, .ref a_t_sightMany, .int v_t_sights, .ref a_t_digits, .ref a_t_pad, .int v_t_padMany, .ref a_t_act, .ref a_t_who, .ref a_t_whom, .ref a_t_much, .int v_t_acts, .int v_t_givenNow, .int v_t_entered, .ref a_t_had, .int v_t_badAct, .int v_t_badWhy, .int v_t_firstAct, .int v_t_firstHouse, .ref a_t_dues, .ref a_t_groups, .ref a_t_ways, .ref a_t_fit, .int v_t_fitMany, .ref a_t_byMany, .ref a_t_kept, .ref a_t_isKept, .int v_t_keptAt, .int v_t_isWriting])), (a_t_digits, .inl (cI, 8, .inl z2.2)), (a_t_chart, .inl (cI, 8, .inl g_t_chart))]) (by subst h3; rfl) hw
    replace hok := Eq.mp (lt_c h3) hok
    refine lv_if_eq (tgt := 27) hx hb dX10_map_17 (by decide) (fun c4 => ?_) (fun c4 => ?_)
    · refine lv_bipush (v := (-2)) hx hb dX10_map_27 (by decide) ?_
      rw [show f_X10_map v_t_next g_t_digits g_t_chart p1 p2 = ((-2), v_t_next, z2.2, g_t_chart) from by
          unfold f_X10_map
          exact (if_neg c1).trans ((lt_c h3).trans ((if_pos c4).trans (rfl)))]
      exact k_iret C hr hw dX10_map_29
    · replace hok := Eq.mp (if_neg c4) hok
      refine lv_iload_n hx hb dX10_map_20 rfl (lv_at hl 2 rfl) ?_
      obtain ⟨h5, hok⟩ := hok
      refine k_callS (As := [.int p2]) (rest := []) (n := 1) C hw (T_X10_isHouse l D cI cZ p2 h5) gX10_map_X10_isHouse rfl ⟨rfl, rfl⟩ (by decide +kernel) ⟨Nat.le_of_ble_eq_true rfl, Nat.le_of_ble_eq_true rfl⟩ [] rfl rfl [] rfl rfl rfl hl.1 rfl (Nat.le_of_ble_eq_true rfl) ⟨Nat.zero_le _, Nat.zero_le _⟩ dX10_map_21 (fun H locs hw => ?_)
      refine W.eq (g2 := F0 m 24 ls [.int (f_X10_isHouse p2)]) rfl ?_
      replace hw : kW D _ s H locs [(a_t, .inr (10, [.ref a_t_wealth, .ref a_t_given, .ref a_t_chart, .ref a_t_relatives, .int v_t_inside, .int v_t_next, .int v_t_years, .ref a_t_sightSet, .ref a_t_sightMany, .int v_t_sights, .ref a_t_digits, .ref a_t_pad, .int v_t_padMany, .ref a_t_act, .ref a_t_who, .ref a_t_whom, .ref a_t_much, .int v_t_acts, .int v_t_givenNow, .int v_t_entered, .ref a_t_had, .int v_t_badAct, .int v_t_badWhy, .int v_t_firstAct, .int v_t_firstHouse, .ref a_t_dues, .ref a_t_groups, .ref a_t_ways, .ref a_t_fit, .int v_t_fitMany, .ref a_t_byMany, .ref a_t_kept, .ref a_t_isKept, .int v_t_keptAt, .int v_t_isWriting])), (a_t_digits, .inl (cI, 8, .inl z2.2)), (a_t_chart, .inl (cI, 8, .inl g_t_chart))] := hw
      refine lv_if_ne (tgt := 30) hx hb dX10_map_24 (by decide) (fun c6 => ?_) (fun c6 => ?_)
      · refine lv_bipush (v := 10) hx hb dX10_map_30 (by decide) ?_
        refine lv_aload_n hx hb dX10_map_32 rfl (lv_at hl 0 rfl) ?_
        refine k_callV (As := []) (rest := [.int 10]) (n := 0) (CC := RX10) (T := TX10) (N := 35) C hw (T_X10_chartRow l D cI cZ a_t a_t_wealth a_t_given a_t_chart a_t_relatives a_t_sightSet a_t_sightMany a_t_digits a_t_pad a_t_act a_t_who a_t_whom a_t_much a_t_had a_t_dues a_t_groups a_t_ways a_t_fit a_t_byMany a_t_kept a_t_isKept v_t_inside v_t_next v_t_years v_t_sights v_t_padMany v_t_acts v_t_givenNow v_t_entered v_t_badAct v_t_badWhy v_t_firstAct v_t_firstHouse v_t_fitMany v_t_keptAt v_t_isWriting g_t_chart) gX10_map_X10_chartRow rfl ⟨rfl, rfl⟩ (by decide +kernel) ⟨Nat.le_of_ble_eq_true rfl, Nat.le_of_ble_eq_true rfl⟩ 0 rfl rfl [0, 2] rfl rfl [a_t, a_t_chart] rfl rfl rfl hl.1 rfl (Nat.le_of_ble_eq_true rfl) ⟨Nat.zero_le _, Nat.zero_le _⟩ dX10_map_33 (fun H locs hw => ?_)
        refine W.eq (g2 := F0 m 36 ls [.int (f_X10_chartRow g_t_chart), .int 10]) rfl ?_
        replace hw : kW D _ s H locs [(a_t, .inr (10, [.ref a_t_wealth, .ref a_t_given, .ref a_t_chart, .ref a_t_relatives, .int v_t_inside, .int v_t_next, .int v_t_years, .ref a_t_sightSet, .ref a_t_sightMany, .int v_t_sights, .ref a_t_digits, .ref a_t_pad, .int v_t_padMany, .ref a_t_act, .ref a_t_who, .ref a_t_whom, .ref a_t_much, .int v_t_acts, .int v_t_givenNow, .int v_t_entered, .ref a_t_had, .int v_t_badAct, .int v_t_badWhy, .int v_t_firstAct, .int v_t_firstHouse, .ref a_t_dues, .ref a_t_groups, .ref a_t_ways, .ref a_t_fit, .int v_t_fitMany, .ref a_t_byMany, .ref a_t_kept, .ref a_t_isKept, .int v_t_keptAt, .int v_t_isWriting])), (a_t_digits, .inl (cI, 8, .inl z2.2)), (a_t_chart, .inl (cI, 8, .inl g_t_chart))] := hw
        refine lv_imul hx hb dX10_map_36 ?_
        refine lv_aload_n hx hb dX10_map_37 rfl (lv_at hl 0 rfl) ?_
        refine k_get C hw (CC := RX10) (T := TX10) (N := 35) nX10_map_X10 0 rfl rfl 5 (by decide) (List.mem_of_getElem? (i := 2) rfl) rfl rfl dX10_map_38 ?_
        refine lv_iadd hx hb dX10_map_41 ?_
        refine lv_istore_n (lv' := [(3, .int ((10 * (f_X10_chartRow g_t_chart)) + v_t_next)), (0, .ref a_t), (1, .int p1), (2, .int p2)]) hx hb dX10_map_42 rfl hl (by decide) rfl (fun ls hl => ?_)
        refine lv_iconst (v := 0) hx hb dX10_map_43 (by decide) ?_
        refine lv_istore (lv' := [(4, .int 0), (3, .int ((10 * (f_X10_chartRow g_t_chart)) + v_t_next)), (0, .ref a_t), (1, .int p1), (2, .int p2)]) hx hb dX10_map_44 hl (by decide) rfl (fun ls hl => ?_)
        refine l_X10_map_46 a_t a_t_wealth a_t_given a_t_chart a_t_relatives a_t_sightSet a_t_sightMany a_t_digits a_t_pad a_t_act a_t_who a_t_whom a_t_much a_t_had a_t_dues a_t_groups a_t_ways a_t_fit a_t_byMany a_t_kept a_t_isKept p2 ((10 * (f_X10_chartRow g_t_chart)) + v_t_next) v_t_inside v_t_next v_t_years v_t_sights v_t_padMany v_t_acts v_t_givenNow v_t_entered v_t_badAct v_t_badWhy v_t_firstAct v_t_firstHouse v_t_fitMany v_t_keptAt v_t_isWriting z2.2 C 8 0 g_t_chart (by decide) (by decide) _ _ hw _ (lv_sub hl [2, 4, 1, 0] rfl) (fun H locs ls hw hl => ?_)
        replace hw : kW D _ s H locs [(a_t, .inr (10, [.ref a_t_wealth, .ref a_t_given, .ref a_t_chart, .ref a_t_relatives, .int v_t_inside, .int v_t_next, .int v_t_years, .ref a_t_sightSet, .ref a_t_sightMany, .int v_t_sights, .ref a_t_digits, .ref a_t_pad, .int v_t_padMany, .ref a_t_act, .ref a_t_who, .ref a_t_whom, .ref a_t_much, .int v_t_acts, .int v_t_givenNow, .int v_t_entered, .ref a_t_had, .int v_t_badAct, .int v_t_badWhy, .int v_t_firstAct, .int v_t_firstHouse, .ref a_t_dues, .ref a_t_groups, .ref a_t_ways, .ref a_t_fit, .int v_t_fitMany, .ref a_t_byMany, .ref a_t_kept, .ref a_t_isKept, .int v_t_keptAt, .int v_t_isWriting])), (a_t_digits, .inl (cI, 8, .inl z2.2)), (a_t_chart, .inl (cI, 8, .inl (it (B_X10_map_46 z2.2) 0 8 g_t_chart)))] := hw
        replace hl : lv_has ls 5 [(0, .ref a_t), (2, .int p2), (3, .int ((10 * (f_X10_chartRow g_t_chart)) + v_t_next))] := hl
        refine lv_aload_n hx hb dX10_map_73 rfl (lv_at hl 0 rfl) ?_
        refine lv_iload_n hx hb dX10_map_74 rfl (lv_at hl 1 rfl) ?_
        refine k_put C hw (CC := RX10) (T := TX10) (N := 35) (v := .int p2) nX10_map_X10 tyX10_ok nmX10 0 rfl rfl 5 (by decide) (List.mem_of_getElem? (i := 2) rfl) rfl rfl rfl rfl (Nat.le_of_ble_eq_true rfl) dX10_map_75 (fun H locs hw => ?_)
        replace hw : kW D _ s H locs [(a_t, .inr (10, [.ref a_t_wealth, .ref a_t_given, .ref a_t_chart, .ref a_t_relatives, .int v_t_inside, .int p2, .int v_t_years, .ref a_t_sightSet, .ref a_t_sightMany, .int v_t_sights, .ref a_t_digits, .ref a_t_pad, .int v_t_padMany, .ref a_t_act, .ref a_t_who, .ref a_t_whom, .ref a_t_much, .int v_t_acts, .int v_t_givenNow, .int v_t_entered, .ref a_t_had, .int v_t_badAct, .int v_t_badWhy, .int v_t_firstAct, .int v_t_firstHouse, .ref a_t_dues, .ref a_t_groups, .ref a_t_ways, .ref a_t_fit, .int v_t_fitMany, .ref a_t_byMany, .ref a_t_kept, .ref a_t_isKept, .int v_t_keptAt, .int v_t_isWriting])), (a_t_digits, .inl (cI, 8, .inl z2.2)), (a_t_chart, .inl (cI, 8, .inl (it (B_X10_map_46 z2.2) 0 8 g_t_chart)))] := hw
        refine lv_iload_n hx hb dX10_map_78 rfl (lv_at hl 2 rfl) ?_
        rw [show f_X10_map v_t_next g_t_digits g_t_chart p1 p2 = (((10 * (f_X10_chartRow g_t_chart)) + v_t_next), p2, z2.2, (it (B_X10_map_46 z2.2) 0 8 g_t_chart)) from by
            unfold f_X10_map
            exact (if_neg c1).trans ((lt_c h3).trans ((if_neg c4).trans ((if_neg c6).trans (rfl))))]
        exact k_iret C hr hw dX10_map_79
      · refine lv_bipush (v := (-2)) hx hb dX10_map_27 (by decide) ?_
        rw [show f_X10_map v_t_next g_t_digits g_t_chart p1 p2 = ((-2), v_t_next, z2.2, g_t_chart) from by
            unfold f_X10_map
            exact (if_neg c1).trans ((lt_c h3).trans ((if_neg c4).trans ((if_pos c6).trans (rfl))))]
        exact k_iret C hr hw dX10_map_29

theorem nX10_kin_X10 : ∀ w ∈ wsX100, w ∈ wsX10_kin := fun _ h => List.mem_cons_of_mem _ (List.mem_append_right _ h)
def B_X10_kin_61 (g_t_relatives : (Nat → Int32)) (j : Nat) (v : Int32) : Int32 := (v + (f_X10_ones (g_t_relatives j)))
def oB_X10_kin_61 (g_t_relatives : (Nat → Int32)) (j : Nat) (v : Int32) : Prop := ((o_X10_ones (g_t_relatives j)) ∧ True)
set_option maxHeartbeats 4000000 in
set_option maxRecDepth 100000 in
theorem l_X10_kin_61 {p : Program} {l : Launch} {e : Env} {s : State} {m : MethodId} {args : Array Value} {below : List Frame} {meth : Method} {c : Code} {D : va_G} {cI cZ : ClassId} {Q : State → Prop} {A : Nat → Prop} (a_t a_t_wealth a_t_given a_t_chart a_t_relatives a_t_sightSet a_t_sightMany a_t_digits a_t_pad a_t_act a_t_who a_t_whom a_t_much a_t_had a_t_dues a_t_groups a_t_ways a_t_fit a_t_byMany a_t_kept a_t_isKept : Nat) (v_t_inside : Int32) (v_t_next : Int32) (v_t_years : Int32) (v_t_sights : Int32) (v_t_padMany : Int32) (v_t_acts : Int32) (v_t_givenNow : Int32) (v_t_entered : Int32) (v_t_badAct : Int32) (v_t_badWhy : Int32) (v_t_firstAct : Int32) (v_t_firstHouse : Int32) (v_t_fitMany : Int32) (v_t_keptAt : Int32) (v_t_isWriting : Int32) (g_t_relatives : (Nat → Int32)) (C : kC p s m args meth c cX10_kin 6 wsX10_kin RX10 D cI cZ A) : ∀ (n j : Nat) (x4 : Int32), n = 8 - j → j < 2147483648 → itA (oB_X10_kin_61 g_t_relatives) (B_X10_kin_61 g_t_relatives) j n x4 → ∀ (H : Heap) (locs : List Loc), kW D A s H locs [(a_t, .inr (10, [.ref a_t_wealth, .ref a_t_given, .ref a_t_chart, .ref a_t_relatives, .int v_t_inside, .int v_t_next, .int v_t_years, .ref a_t_sightSet, .ref a_t_sightMany, .int v_t_sights, .ref a_t_digits, .ref a_t_pad, .int v_t_padMany, .ref a_t_act, .ref a_t_who, .ref a_t_whom, .ref a_t_much, .int v_t_acts, .int v_t_givenNow, .int v_t_entered, .ref a_t_had, .int v_t_badAct, .int v_t_badWhy, .int v_t_firstAct, .int v_t_firstHouse, .ref a_t_dues, .ref a_t_groups, .ref a_t_ways, .ref a_t_fit, .int v_t_fitMany, .ref a_t_byMany, .ref a_t_kept, .ref a_t_isKept, .int v_t_keptAt, .int v_t_isWriting])), (a_t_relatives, .inl (cI, 8, .inl g_t_relatives))] → ∀ (ls : Array Slot), lv_has ls 6 [(0, .ref a_t), (4, .int x4), (5, .int (nI j))] → (∀ (H : Heap) (locs : List Loc) (ls : Array Slot), kW D A s H locs [(a_t, .inr (10, [.ref a_t_wealth, .ref a_t_given, .ref a_t_chart, .ref a_t_relatives, .int v_t_inside, .int v_t_next, .int v_t_years, .ref a_t_sightSet, .ref a_t_sightMany, .int v_t_sights, .ref a_t_digits, .ref a_t_pad, .int v_t_padMany, .ref a_t_act, .ref a_t_who, .ref a_t_whom, .ref a_t_much, .int v_t_acts, .int v_t_givenNow, .int v_t_entered, .ref a_t_had, .int v_t_badAct, .int v_t_badWhy, .int v_t_firstAct, .int v_t_firstHouse, .ref a_t_dues, .ref a_t_groups, .ref a_t_ways, .ref a_t_fit, .int v_t_fitMany, .ref a_t_byMany, .ref a_t_kept, .ref a_t_isKept, .int v_t_keptAt, .int v_t_isWriting])), (a_t_relatives, .inl (cI, 8, .inl g_t_relatives))] → lv_has ls 6 [(4, .int (it (B_X10_kin_61 g_t_relatives) j n x4))] → W p l e ({ frames := 2, cells := 0, slots := 0, locals := 45 }) s m args below meth c H locs 0 0 Q (F0 m 89 ls [])) → W p l e ({ frames := 2, cells := 0, slots := 0, locals := 45 }) s m args below meth c H locs 0 0 Q (F0 m 61 ls []) := by
  have hx := C.hx
  have hb := C.hb
  intro n
  induction n with
  | zero =>
    intro j x4 hn hj hok0 H locs hw ls hl kk
    refine lv_iload hx hb dX10_kin_61 (lv_at hl 2 rfl) ?_
    refine lv_bipush (v := 8) hx hb dX10_kin_63 (by decide) ?_
    refine lv_icmp_ge (tgt := 89) hx hb dX10_kin_65 (by decide) (fun c14 => ?_) (fun c14 => by exact absurd (nI_le (a := 8) (b := j) (by omega) (by omega)) c14)
    exact kk _ _ _ hw (lv_sub hl [1] rfl)
  | succ n ih =>
    intro j x4 hn hj hok0 H locs hw ls hl kk
    have hok := hok0.1
    refine lv_iload hx hb dX10_kin_61 (lv_at hl 2 rfl) ?_
    refine lv_bipush (v := 8) hx hb dX10_kin_63 (by decide) ?_
    refine lv_icmp_ge (tgt := 89) hx hb dX10_kin_65 (by decide) (fun c12 => by exact absurd c12 (nI_ge (a := j) (b := 8) (by omega) (by omega))) (fun c12 => ?_)
    refine lv_iload hx hb dX10_kin_68 (lv_at hl 1 rfl) ?_
    refine lv_aload_n hx hb dX10_kin_70 rfl (lv_at hl 0 rfl) ?_
    refine k_get C hw (CC := RX10) (T := TX10) (N := 35) nX10_kin_X10 0 rfl rfl 3 (by decide) (List.mem_of_getElem? (i := 1) rfl) rfl rfl dX10_kin_71 ?_
    refine lv_iload hx hb dX10_kin_74 (lv_at hl 2 rfl) ?_
    refine k_ialdN C hw 1 rfl j rfl (by omega) (by decide) dX10_kin_76 ?_
    obtain ⟨h13, hok⟩ := hok
    refine k_callS (As := [.int (g_t_relatives j)]) (rest := [.int x4]) (n := 1) C hw (T_X10_ones l D cI cZ (g_t_relatives j) h13) gX10_kin_X10_ones rfl ⟨rfl, rfl⟩ (by decide +kernel) ⟨Nat.le_of_ble_eq_true rfl, Nat.le_of_ble_eq_true rfl⟩ [] rfl rfl [] rfl rfl rfl hl.1 rfl (Nat.le_of_ble_eq_true rfl) ⟨Nat.zero_le _, Nat.zero_le _⟩ dX10_kin_77 (fun H locs hw => ?_)
    refine W.eq (g2 := F0 m 80 ls [.int (f_X10_ones (g_t_relatives j)), .int x4]) rfl ?_
    replace hw : kW D _ s H locs [(a_t, .inr (10, [.ref a_t_wealth, .ref a_t_given, .ref a_t_chart, .ref a_t_relatives, .int v_t_inside, .int v_t_next, .int v_t_years, .ref a_t_sightSet, .ref a_t_sightMany, .int v_t_sights, .ref a_t_digits, .ref a_t_pad, .int v_t_padMany, .ref a_t_act, .ref a_t_who, .ref a_t_whom, .ref a_t_much, .int v_t_acts, .int v_t_givenNow, .int v_t_entered, .ref a_t_had, .int v_t_badAct, .int v_t_badWhy, .int v_t_firstAct, .int v_t_firstHouse, .ref a_t_dues, .ref a_t_groups, .ref a_t_ways, .ref a_t_fit, .int v_t_fitMany, .ref a_t_byMany, .ref a_t_kept, .ref a_t_isKept, .int v_t_keptAt, .int v_t_isWriting])), (a_t_relatives, .inl (cI, 8, .inl g_t_relatives))] := hw
    refine lv_iadd hx hb dX10_kin_80 ?_
    refine lv_istore (lv' := [(4, .int (x4 + (f_X10_ones (g_t_relatives j)))), (0, .ref a_t), (5, .int (nI j))]) hx hb dX10_kin_81 hl (by decide) rfl (fun ls hl => ?_)
    refine lv_iinc (v := (nI (j + 1))) (lv' := [(5, .int (nI (j + 1))), (4, .int (x4 + (f_X10_ones (g_t_relatives j)))), (0, .ref a_t)]) hx hb dX10_kin_83 hl (k := 2) rfl (nI_1 _) (by decide) rfl (fun ls hl => ?_)
    refine lv_goto (tgt := 61) hx hb dX10_kin_86 (by decide) ?_
    have hB : B_X10_kin_61 g_t_relatives j x4 = (x4 + (f_X10_ones (g_t_relatives j))) := by
      unfold B_X10_kin_61
      exact rfl
    rw [it_c hB] at kk
    have hok2 := itA_c hB hok0
    exact ih (j + 1) (x4 + (f_X10_ones (g_t_relatives j))) (by omega) (by omega) hok2 _ _ hw _ (lv_sub hl [2, 1, 0] rfl) kk
def f_X10_kin (g_t_relatives : (Nat → Int32)) (p1 : Int32) (p2 : Int32) (p3 : Int32) : Int32 × (Nat → Int32) := (if (f_X10_isHouse p1) = 0 then ((-1), g_t_relatives) else (if (f_X10_isHouse p2) = 0 then ((-1), g_t_relatives) else (if p1 = p2 then ((-1), g_t_relatives) else (lt (f_X10_with ((upd g_t_relatives p1.toNatClampNeg (f_X10_with (g_t_relatives p1.toNatClampNeg) p2 p3)) p2.toNatClampNeg) p1 p3) (fun z9 => (lt (it (B_X10_kin_61 (upd (upd g_t_relatives p1.toNatClampNeg (f_X10_with (g_t_relatives p1.toNatClampNeg) p2 p3)) p2.toNatClampNeg z9)) 0 8 (0 : Int32)) (fun z16 => ((z16 / 2), (upd (upd g_t_relatives p1.toNatClampNeg (f_X10_with (g_t_relatives p1.toNatClampNeg) p2 p3)) p2.toNatClampNeg z9)))))))))
def o_X10_kin (g_t_relatives : (Nat → Int32)) (p1 : Int32) (p2 : Int32) (p3 : Int32) : Prop := ((o_X10_isHouse p1) ∧ (if (f_X10_isHouse p1) = 0 then True else ((o_X10_isHouse p2) ∧ (if (f_X10_isHouse p2) = 0 then True else (if p1 = p2 then True else ((vp_in p1 8) ∧ ((vp_in p1 8) ∧ ((vp_in p2 8) ∧ (lt (f_X10_with ((upd g_t_relatives p1.toNatClampNeg (f_X10_with (g_t_relatives p1.toNatClampNeg) p2 p3)) p2.toNatClampNeg) p1 p3) (fun z9 => ((vp_in p2 8) ∧ ((itA (oB_X10_kin_61 (upd (upd g_t_relatives p1.toNatClampNeg (f_X10_with (g_t_relatives p1.toNatClampNeg) p2 p3)) p2.toNatClampNeg z9)) (B_X10_kin_61 (upd (upd g_t_relatives p1.toNatClampNeg (f_X10_with (g_t_relatives p1.toNatClampNeg) p2 p3)) p2.toNatClampNeg z9)) 0 8 (0 : Int32)) ∧ True))))))))))))
set_option maxHeartbeats 4000000 in
set_option maxRecDepth 100000 in
theorem T_X10_kin (l : Launch) (D : va_G) (cI cZ : ClassId) (a_t a_t_wealth a_t_given a_t_chart a_t_relatives a_t_sightSet a_t_sightMany a_t_digits a_t_pad a_t_act a_t_who a_t_whom a_t_much a_t_had a_t_dues a_t_groups a_t_ways a_t_fit a_t_byMany a_t_kept a_t_isKept : Nat) (v_t_inside : Int32) (v_t_next : Int32) (v_t_years : Int32) (v_t_sights : Int32) (v_t_padMany : Int32) (v_t_acts : Int32) (v_t_givenNow : Int32) (v_t_entered : Int32) (v_t_badAct : Int32) (v_t_badWhy : Int32) (v_t_firstAct : Int32) (v_t_firstHouse : Int32) (v_t_fitMany : Int32) (v_t_keptAt : Int32) (v_t_isWriting : Int32) (g_t_relatives : (Nat → Int32)) (p1 : Int32) (p2 : Int32) (p3 : Int32) (hok : o_X10_kin g_t_relatives p1 p2 p3) : CT l D cI cZ yX10_kin wsX10_kin ({ frames := 2, cells := 0, slots := 0, locals := 45 }) [.ref a_t, .int p1, .int p2, .int p3] [(a_t, .inr (10, [.ref a_t_wealth, .ref a_t_given, .ref a_t_chart, .ref a_t_relatives, .int v_t_inside, .int v_t_next, .int v_t_years, .ref a_t_sightSet, .ref a_t_sightMany, .int v_t_sights, .ref a_t_digits, .ref a_t_pad, .int v_t_padMany, .ref a_t_act, .ref a_t_who, .ref a_t_whom, .ref a_t_much, .int v_t_acts, .int v_t_givenNow, .int v_t_entered, .ref a_t_had, .int v_t_badAct, .int v_t_badWhy, .int v_t_firstAct, .int v_t_firstHouse, .ref a_t_dues, .ref a_t_groups, .ref a_t_ways, .ref a_t_fit, .int v_t_fitMany, .ref a_t_byMany, .ref a_t_kept, .ref a_t_isKept, .int v_t_keptAt, .int v_t_isWriting])), (a_t_relatives, .inl (cI, 8, .inl g_t_relatives))] (some (.int (f_X10_kin g_t_relatives p1 p2 p3).1)) [(a_t, .inr (10, [.ref a_t_wealth, .ref a_t_given, .ref a_t_chart, .ref a_t_relatives, .int v_t_inside, .int v_t_next, .int v_t_years, .ref a_t_sightSet, .ref a_t_sightMany, .int v_t_sights, .ref a_t_digits, .ref a_t_pad, .int v_t_padMany, .ref a_t_act, .ref a_t_who, .ref a_t_whom, .ref a_t_much, .int v_t_acts, .int v_t_givenNow, .int v_t_entered, .ref a_t_had, .int v_t_badAct, .int v_t_badWhy, .int v_t_firstAct, .int v_t_firstHouse, .ref a_t_dues, .ref a_t_groups, .ref a_t_ways, .ref a_t_fit, .int v_t_fitMany, .ref a_t_byMany, .ref a_t_kept, .ref a_t_isKept, .int v_t_keptAt, .int v_t_isWriting])), (a_t_relatives, .inl (cI, 8, .inl (f_X10_kin g_t_relatives p1 p2 p3).2))] := by
  refine CT.intro RX10 (by decide) rfl (Nat.le_of_ble_eq_true rfl) rfl ?_
  intro p e s m below meth c C hr hw ls hl
  have hx := C.hx
  have hb := C.hb
  replace hl : lv_has ls 6 [(0, .ref a_t), (1, .int p1), (2, .int p2), (3, .int p3)] := hl
  refine lv_iload_n hx hb dX10_kin_0 rfl (lv_at hl 1 rfl) ?_
  obtain ⟨h1, hok⟩ := hok
  refine k_callS (As := [.int p1]) (rest := []) (n := 1) C hw (T_X10_isHouse l D cI cZ p1 h1) gX10_kin_X10_isHouse rfl ⟨rfl, rfl⟩ (by decide +kernel) ⟨Nat.le_of_ble_eq_true rfl, Nat.le_of_ble_eq_true rfl⟩ [] rfl rfl [] rfl rfl rfl hl.1 rfl (Nat.le_of_ble_eq_true rfl) ⟨Nat.zero_le _, Nat.zero_le _⟩ dX10_kin_1 (fun H locs hw => ?_)
  refine W.eq (g2 := F0 m 4 ls [.int (f_X10_isHouse p1)]) rfl ?_
  replace hw : kW D _ s H locs [(a_t, .inr (10, [.ref a_t_wealth, .ref a_t_given, .ref a_t_chart, .ref a_t_relatives, .int v_t_inside, .int v_t_next, .int v_t_years, .ref a_t_sightSet, .ref a_t_sightMany, .int v_t_sights, .ref a_t_digits, .ref a_t_pad, .int v_t_padMany, .ref a_t_act, .ref a_t_who, .ref a_t_whom, .ref a_t_much, .int v_t_acts, .int v_t_givenNow, .int v_t_entered, .ref a_t_had, .int v_t_badAct, .int v_t_badWhy, .int v_t_firstAct, .int v_t_firstHouse, .ref a_t_dues, .ref a_t_groups, .ref a_t_ways, .ref a_t_fit, .int v_t_fitMany, .ref a_t_byMany, .ref a_t_kept, .ref a_t_isKept, .int v_t_keptAt, .int v_t_isWriting])), (a_t_relatives, .inl (cI, 8, .inl g_t_relatives))] := hw
  refine lv_if_eq (tgt := 19) hx hb dX10_kin_4 (by decide) (fun c2 => ?_) (fun c2 => ?_)
  · refine lv_iconst (v := (-1)) hx hb dX10_kin_19 (by decide) ?_
    rw [show f_X10_kin g_t_relatives p1 p2 p3 = ((-1), g_t_relatives) from by
        unfold f_X10_kin
        exact (if_pos c2).trans (rfl)]
    exact k_iret C hr hw dX10_kin_20
  · replace hok := Eq.mp (if_neg c2) hok
    refine lv_iload_n hx hb dX10_kin_7 rfl (lv_at hl 2 rfl) ?_
    obtain ⟨h3, hok⟩ := hok
    refine k_callS (As := [.int p2]) (rest := []) (n := 1) C hw (T_X10_isHouse l D cI cZ p2 h3) gX10_kin_X10_isHouse rfl ⟨rfl, rfl⟩ (by decide +kernel) ⟨Nat.le_of_ble_eq_true rfl, Nat.le_of_ble_eq_true rfl⟩ [] rfl rfl [] rfl rfl rfl hl.1 rfl (Nat.le_of_ble_eq_true rfl) ⟨Nat.zero_le _, Nat.zero_le _⟩ dX10_kin_8 (fun H locs hw => ?_)
    refine W.eq (g2 := F0 m 11 ls [.int (f_X10_isHouse p2)]) rfl ?_
    replace hw : kW D _ s H locs [(a_t, .inr (10, [.ref a_t_wealth, .ref a_t_given, .ref a_t_chart, .ref a_t_relatives, .int v_t_inside, .int v_t_next, .int v_t_years, .ref a_t_sightSet, .ref a_t_sightMany, .int v_t_sights, .ref a_t_digits, .ref a_t_pad, .int v_t_padMany, .ref a_t_act, .ref a_t_who, .ref a_t_whom, .ref a_t_much, .int v_t_acts, .int v_t_givenNow, .int v_t_entered, .ref a_t_had, .int v_t_badAct, .int v_t_badWhy, .int v_t_firstAct, .int v_t_firstHouse, .ref a_t_dues, .ref a_t_groups, .ref a_t_ways, .ref a_t_fit, .int v_t_fitMany, .ref a_t_byMany, .ref a_t_kept, .ref a_t_isKept, .int v_t_keptAt, .int v_t_isWriting])), (a_t_relatives, .inl (cI, 8, .inl g_t_relatives))] := hw
    refine lv_if_eq (tgt := 19) hx hb dX10_kin_11 (by decide) (fun c4 => ?_) (fun c4 => ?_)
    · refine lv_iconst (v := (-1)) hx hb dX10_kin_19 (by decide) ?_
      rw [show f_X10_kin g_t_relatives p1 p2 p3 = ((-1), g_t_relatives) from by
          unfold f_X10_kin
          exact (if_neg c2).trans ((if_pos c4).trans (rfl))]
      exact k_iret C hr hw dX10_kin_20
    · replace hok := Eq.mp (if_neg c4) hok
      refine lv_iload_n hx hb dX10_kin_14 rfl (lv_at hl 1 rfl) ?_
      refine lv_iload_n hx hb dX10_kin_15 rfl (lv_at hl 2 rfl) ?_
      refine lv_icmp_ne (tgt := 21) hx hb dX10_kin_16 (by decide) (fun c5 => ?_) (fun c5 => ?_)
      · replace hok := Eq.mp (if_neg c5) hok
        refine lv_aload_n hx hb dX10_kin_21 rfl (lv_at hl 0 rfl) ?_
        refine k_get C hw (CC := RX10) (T := TX10) (N := 35) nX10_kin_X10 0 rfl rfl 3 (by decide) (List.mem_of_getElem? (i := 1) rfl) rfl rfl dX10_kin_22 ?_
        refine lv_iload_n hx hb dX10_kin_25 rfl (lv_at hl 1 rfl) ?_
        refine lv_aload_n hx hb dX10_kin_26 rfl (lv_at hl 0 rfl) ?_
        refine k_get C hw (CC := RX10) (T := TX10) (N := 35) nX10_kin_X10 0 rfl rfl 3 (by decide) (List.mem_of_getElem? (i := 1) rfl) rfl rfl dX10_kin_27 ?_
        refine lv_iload_n hx hb dX10_kin_30 rfl (lv_at hl 1 rfl) ?_
        obtain ⟨h6, hok⟩ := hok
        refine k_iald C hw 1 rfl h6 dX10_kin_31 ?_
        refine lv_iload_n hx hb dX10_kin_32 rfl (lv_at hl 2 rfl) ?_
        refine lv_iload_n hx hb dX10_kin_33 rfl (lv_at hl 3 rfl) ?_
        refine k_callS (As := [.int (g_t_relatives p1.toNatClampNeg), .int p2, .int p3]) (rest := [.int p1, .ref a_t_relatives]) (n := 3) C hw (T_X10_with l D cI cZ (g_t_relatives p1.toNatClampNeg) p2 p3) gX10_kin_X10_with rfl ⟨rfl, rfl⟩ (by decide +kernel) ⟨Nat.le_of_ble_eq_true rfl, Nat.le_of_ble_eq_true rfl⟩ [] rfl rfl [] rfl rfl rfl hl.1 rfl (Nat.le_of_ble_eq_true rfl) ⟨Nat.zero_le _, Nat.zero_le _⟩ dX10_kin_34 (fun H locs hw => ?_)
        refine W.eq (g2 := F0 m 37 ls [.int (f_X10_with (g_t_relatives p1.toNatClampNeg) p2 p3), .int p1, .ref a_t_relatives]) rfl ?_
        replace hw : kW D _ s H locs [(a_t, .inr (10, [.ref a_t_wealth, .ref a_t_given, .ref a_t_chart, .ref a_t_relatives, .int v_t_inside, .int v_t_next, .int v_t_years, .ref a_t_sightSet, .ref a_t_sightMany, .int v_t_sights, .ref a_t_digits, .ref a_t_pad, .int v_t_padMany, .ref a_t_act, .ref a_t_who, .ref a_t_whom, .ref a_t_much, .int v_t_acts, .int v_t_givenNow, .int v_t_entered, .ref a_t_had, .int v_t_badAct, .int v_t_badWhy, .int v_t_firstAct, .int v_t_firstHouse, .ref a_t_dues, .ref a_t_groups, .ref a_t_ways, .ref a_t_fit, .int v_t_fitMany, .ref a_t_byMany, .ref a_t_kept, .ref a_t_isKept, .int v_t_keptAt, .int v_t_isWriting])), (a_t_relatives, .inl (cI, 8, .inl g_t_relatives))] := hw
        obtain ⟨h7, hok⟩ := hok
        refine k_iast C hw 1 rfl h7 dX10_kin_37 (fun H locs hw => ?_)
        replace hw : kW D _ s H locs [(a_t, .inr (10, [.ref a_t_wealth, .ref a_t_given, .ref a_t_chart, .ref a_t_relatives, .int v_t_inside, .int v_t_next, .int v_t_years, .ref a_t_sightSet, .ref a_t_sightMany, .int v_t_sights, .ref a_t_digits, .ref a_t_pad, .int v_t_padMany, .ref a_t_act, .ref a_t_who, .ref a_t_whom, .ref a_t_much, .int v_t_acts, .int v_t_givenNow, .int v_t_entered, .ref a_t_had, .int v_t_badAct, .int v_t_badWhy, .int v_t_firstAct, .int v_t_firstHouse, .ref a_t_dues, .ref a_t_groups, .ref a_t_ways, .ref a_t_fit, .int v_t_fitMany, .ref a_t_byMany, .ref a_t_kept, .ref a_t_isKept, .int v_t_keptAt, .int v_t_isWriting])), (a_t_relatives, .inl (cI, 8, .inl (upd g_t_relatives p1.toNatClampNeg (f_X10_with (g_t_relatives p1.toNatClampNeg) p2 p3))))] := hw
        refine lv_aload_n hx hb dX10_kin_38 rfl (lv_at hl 0 rfl) ?_
        refine k_get C hw (CC := RX10) (T := TX10) (N := 35) nX10_kin_X10 0 rfl rfl 3 (by decide) (List.mem_of_getElem? (i := 1) rfl) rfl rfl dX10_kin_39 ?_
        refine lv_iload_n hx hb dX10_kin_42 rfl (lv_at hl 2 rfl) ?_
        refine lv_aload_n hx hb dX10_kin_43 rfl (lv_at hl 0 rfl) ?_
        refine k_get C hw (CC := RX10) (T := TX10) (N := 35) nX10_kin_X10 0 rfl rfl 3 (by decide) (List.mem_of_getElem? (i := 1) rfl) rfl rfl dX10_kin_44 ?_
        refine lv_iload_n hx hb dX10_kin_47 rfl (lv_at hl 2 rfl) ?_
        obtain ⟨h8, hok⟩ := hok
        refine k_iald C hw 1 rfl h8 dX10_kin_48 ?_
        refine lv_iload_n hx hb dX10_kin_49 rfl (lv_at hl 1 rfl) ?_
        refine lv_iload_n hx hb dX10_kin_50 rfl (lv_at hl 3 rfl) ?_
        refine k_callS (As := [.int ((upd g_t_relatives p1.toNatClampNeg (f_X10_with (g_t_relatives p1.toNatClampNeg) p2 p3)) p2.toNatClampNeg), .int p1, .int p3]) (rest := [.int p2, .ref a_t_relatives]) (n := 3) C hw (T_X10_with l D cI cZ ((upd g_t_relatives p1.toNatClampNeg (f_X10_with (g_t_relatives p1.toNatClampNeg) p2 p3)) p2.toNatClampNeg) p1 p3) gX10_kin_X10_with rfl ⟨rfl, rfl⟩ (by decide +kernel) ⟨Nat.le_of_ble_eq_true rfl, Nat.le_of_ble_eq_true rfl⟩ [] rfl rfl [] rfl rfl rfl hl.1 rfl (Nat.le_of_ble_eq_true rfl) ⟨Nat.zero_le _, Nat.zero_le _⟩ dX10_kin_51 (fun H locs hw => ?_)
        obtain ⟨z9, h10⟩ : ∃ z, (f_X10_with ((upd g_t_relatives p1.toNatClampNeg (f_X10_with (g_t_relatives p1.toNatClampNeg) p2 p3)) p2.toNatClampNeg) p1 p3) = z := ⟨_, rfl⟩
        refine W.eq (g2 := F0 m 54 ls [.int z9, .int p2, .ref a_t_relatives]) (by subst h10; rfl) ?_
        replace hw := kW_cast (ws' := [(a_t, .inr (10, [.ref a_t_wealth, .ref a_t_given, .ref a_t_chart, .ref a_t_relatives, .int v_t_inside, .int v_t_next, .int v_t_years, .ref a_t_sightSet, .ref a_t_sightMany, .int v_t_sights, .ref a_t_digits, .ref a_t_pad, .int v_t_padMany, .ref a_t_act, .ref a_t_who, .ref a_t_whom, .ref a_t_much, .int v_t_acts, .int v_t_givenNow, .int v_t_entered, .ref a_t_had, .int v_t_badAct, .int v_t_badWhy, .int v_t_firstAct, .int v_t_firstHouse, .ref a_t_dues, .ref a_t_groups, .ref a_t_ways, .ref a_t_fit, .int v_t_fitMany, .ref a_t_byMany, .ref a_t_kept, .ref a_t_isKept, .int v_t_keptAt, .int v_t_isWriting])), (a_t_relatives, .inl (cI, 8, .inl (upd g_t_relatives p1.toNatClampNeg (f_X10_with (g_t_relatives p1.toNatClampNeg) p2 p3))))]) (by subst h10; rfl) hw
        replace hok := Eq.mp (lt_c h10) hok
        obtain ⟨h11, hok⟩ := hok
        refine k_iast C hw 1 rfl h11 dX10_kin_54 (fun H locs hw => ?_)
        replace hw : kW D _ s H locs [(a_t, .inr (10, [.ref a_t_wealth, .ref a_t_given, .ref a_t_chart, .ref a_t_relatives, .int v_t_inside, .int v_t_next, .int v_t_years, .ref a_t_sightSet, .ref a_t_sightMany, .int v_t_sights, .ref a_t_digits, .ref a_t_pad, .int v_t_padMany, .ref a_t_act, .ref a_t_who, .ref a_t_whom, .ref a_t_much, .int v_t_acts, .int v_t_givenNow, .int v_t_entered, .ref a_t_had, .int v_t_badAct, .int v_t_badWhy, .int v_t_firstAct, .int v_t_firstHouse, .ref a_t_dues, .ref a_t_groups, .ref a_t_ways, .ref a_t_fit, .int v_t_fitMany, .ref a_t_byMany, .ref a_t_kept, .ref a_t_isKept, .int v_t_keptAt, .int v_t_isWriting])), (a_t_relatives, .inl (cI, 8, .inl (upd (upd g_t_relatives p1.toNatClampNeg (f_X10_with (g_t_relatives p1.toNatClampNeg) p2 p3)) p2.toNatClampNeg z9)))] := hw
        refine lv_iconst (v := 0) hx hb dX10_kin_55 (by decide) ?_
        refine lv_istore (lv' := [(4, .int 0), (0, .ref a_t), (1, .int p1), (2, .int p2), (3, .int p3)]) hx hb dX10_kin_56 hl (by decide) rfl (fun ls hl => ?_)
        refine lv_iconst (v := 0) hx hb dX10_kin_58 (by decide) ?_
        refine lv_istore (lv' := [(5, .int 0), (4, .int 0), (0, .ref a_t), (1, .int p1), (2, .int p2), (3, .int p3)]) hx hb dX10_kin_59 hl (by decide) rfl (fun ls hl => ?_)
        obtain ⟨h15, hok⟩ := hok
        refine l_X10_kin_61 a_t a_t_wealth a_t_given a_t_chart a_t_relatives a_t_sightSet a_t_sightMany a_t_digits a_t_pad a_t_act a_t_who a_t_whom a_t_much a_t_had a_t_dues a_t_groups a_t_ways a_t_fit a_t_byMany a_t_kept a_t_isKept v_t_inside v_t_next v_t_years v_t_sights v_t_padMany v_t_acts v_t_givenNow v_t_entered v_t_badAct v_t_badWhy v_t_firstAct v_t_firstHouse v_t_fitMany v_t_keptAt v_t_isWriting (upd (upd g_t_relatives p1.toNatClampNeg (f_X10_with (g_t_relatives p1.toNatClampNeg) p2 p3)) p2.toNatClampNeg z9) C 8 0 (0 : Int32) (by decide) (by decide) h15 _ _ hw _ (lv_sub hl [2, 1, 0] rfl) (fun H locs ls hw hl => ?_)
        obtain ⟨z16, h17⟩ : ∃ z, (it (B_X10_kin_61 (upd (upd g_t_relatives p1.toNatClampNeg (f_X10_with (g_t_relatives p1.toNatClampNeg) p2 p3)) p2.toNatClampNeg z9)) 0 8 (0 : Int32)) = z := ⟨_, rfl⟩
        replace hw := kW_cast (ws' := [(a_t, .inr (10, [.ref a_t_wealth, .ref a_t_given, .ref a_t_chart, .ref a_t_relatives, .int v_t_inside, .int v_t_next, .int v_t_years, .ref a_t_sightSet, .ref a_t_sightMany, .int v_t_sights, .ref a_t_digits, .ref a_t_pad, .int v_t_padMany, .ref a_t_act, .ref a_t_who, .ref a_t_whom, .ref a_t_much, .int v_t_acts, .int v_t_givenNow, .int v_t_entered, .ref a_t_had, .int v_t_badAct, .int v_t_badWhy, .int v_t_firstAct, .int v_t_firstHouse, .ref a_t_dues, .ref a_t_groups, .ref a_t_ways, .ref a_t_fit, .int v_t_fitMany, .ref a_t_byMany, .ref a_t_kept, .ref a_t_isKept, .int v_t_keptAt, .int v_t_isWriting])), (a_t_relatives, .inl (cI, 8, .inl (upd (upd g_t_relatives p1.toNatClampNeg (f_X10_with (g_t_relatives p1.toNatClampNeg) p2 p3)) p2.toNatClampNeg z9)))]) (by subst h17; rfl) hw
        replace hl : lv_has ls 6 [(4, .int z16)] := by subst h17; exact hl
        refine lv_iload hx hb dX10_kin_89 (lv_at hl 0 rfl) ?_
        refine lv_iconst (v := 2) hx hb dX10_kin_91 (by decide) ?_
        refine lv_idiv hx hb dX10_kin_92 (by decide) ?_
        rw [show f_X10_kin g_t_relatives p1 p2 p3 = ((z16 / 2), (upd (upd g_t_relatives p1.toNatClampNeg (f_X10_with (g_t_relatives p1.toNatClampNeg) p2 p3)) p2.toNatClampNeg z9)) from by
            unfold f_X10_kin
            exact (if_neg c2).trans ((if_neg c4).trans ((if_neg c5).trans ((lt_c h10).trans ((lt_c h17).trans (rfl)))))]
        exact k_iret C hr hw dX10_kin_93
      · refine lv_iconst (v := (-1)) hx hb dX10_kin_19 (by decide) ?_
        rw [show f_X10_kin g_t_relatives p1 p2 p3 = ((-1), g_t_relatives) from by
            unfold f_X10_kin
            exact (if_neg c2).trans ((if_neg c4).trans ((if_pos c5).trans (rfl)))]
        exact k_iret C hr hw dX10_kin_20

theorem nX10_say_X10 : ∀ w ∈ wsX100, w ∈ wsX10_say := fun _ h => List.mem_cons_of_mem _ (List.mem_append_right _ h)
def f_X10_say (v_t_padMany : Int32) (g_t_pad : (Nat → Int32)) (p1 : Int32) : Int32 × Int32 × (Nat → Int32) := (if (f_X10_in ((p1).toInt64) (33 : Int64) (126 : Int64)) = 0 then ((-2), v_t_padMany, g_t_pad) else (if v_t_padMany = 60 then ((-4), v_t_padMany, g_t_pad) else ((v_t_padMany + 1), (v_t_padMany + 1), (upd g_t_pad v_t_padMany.toNatClampNeg p1))))
def o_X10_say (v_t_padMany : Int32) (p1 : Int32) : Prop := (if (f_X10_in ((p1).toInt64) (33 : Int64) (126 : Int64)) = 0 then True else (if v_t_padMany = 60 then True else ((vp_in v_t_padMany 60) ∧ True)))
set_option maxHeartbeats 4000000 in
set_option maxRecDepth 100000 in
theorem T_X10_say (l : Launch) (D : va_G) (cI cZ : ClassId) (a_t a_t_wealth a_t_given a_t_chart a_t_relatives a_t_sightSet a_t_sightMany a_t_digits a_t_pad a_t_act a_t_who a_t_whom a_t_much a_t_had a_t_dues a_t_groups a_t_ways a_t_fit a_t_byMany a_t_kept a_t_isKept : Nat) (v_t_inside : Int32) (v_t_next : Int32) (v_t_years : Int32) (v_t_sights : Int32) (v_t_padMany : Int32) (v_t_acts : Int32) (v_t_givenNow : Int32) (v_t_entered : Int32) (v_t_badAct : Int32) (v_t_badWhy : Int32) (v_t_firstAct : Int32) (v_t_firstHouse : Int32) (v_t_fitMany : Int32) (v_t_keptAt : Int32) (v_t_isWriting : Int32) (g_t_pad : (Nat → Int32)) (p1 : Int32) (hok : o_X10_say v_t_padMany p1) : CT l D cI cZ yX10_say wsX10_say ({ frames := 1, cells := 0, slots := 0, locals := 25 }) [.ref a_t, .int p1] [(a_t, .inr (10, [.ref a_t_wealth, .ref a_t_given, .ref a_t_chart, .ref a_t_relatives, .int v_t_inside, .int v_t_next, .int v_t_years, .ref a_t_sightSet, .ref a_t_sightMany, .int v_t_sights, .ref a_t_digits, .ref a_t_pad, .int v_t_padMany, .ref a_t_act, .ref a_t_who, .ref a_t_whom, .ref a_t_much, .int v_t_acts, .int v_t_givenNow, .int v_t_entered, .ref a_t_had, .int v_t_badAct, .int v_t_badWhy, .int v_t_firstAct, .int v_t_firstHouse, .ref a_t_dues, .ref a_t_groups, .ref a_t_ways, .ref a_t_fit, .int v_t_fitMany, .ref a_t_byMany, .ref a_t_kept, .ref a_t_isKept, .int v_t_keptAt, .int v_t_isWriting])), (a_t_pad, .inl (cI, 60, .inl g_t_pad))] (some (.int (f_X10_say v_t_padMany g_t_pad p1).1)) [(a_t, .inr (10, [.ref a_t_wealth, .ref a_t_given, .ref a_t_chart, .ref a_t_relatives, .int v_t_inside, .int v_t_next, .int v_t_years, .ref a_t_sightSet, .ref a_t_sightMany, .int v_t_sights, .ref a_t_digits, .ref a_t_pad, .int (f_X10_say v_t_padMany g_t_pad p1).2.1, .ref a_t_act, .ref a_t_who, .ref a_t_whom, .ref a_t_much, .int v_t_acts, .int v_t_givenNow, .int v_t_entered, .ref a_t_had, .int v_t_badAct, .int v_t_badWhy, .int v_t_firstAct, .int v_t_firstHouse, .ref a_t_dues, .ref a_t_groups, .ref a_t_ways, .ref a_t_fit, .int v_t_fitMany, .ref a_t_byMany, .ref a_t_kept, .ref a_t_isKept, .int v_t_keptAt, .int v_t_isWriting])), (a_t_pad, .inl (cI, 60, .inl (f_X10_say v_t_padMany g_t_pad p1).2.2))] := by
  refine CT.intro RX10 (by decide) rfl (Nat.le_of_ble_eq_true rfl) rfl ?_
  intro p e s m below meth c C hr hw ls hl
  have hx := C.hx
  have hb := C.hb
  replace hl : lv_has ls 2 [(0, .ref a_t), (1, .int p1)] := hl
  refine lv_iload_n hx hb dX10_say_0 rfl (lv_at hl 1 rfl) ?_
  refine lv_i2l (v := ((p1).toInt64)) hx hb dX10_say_1 rfl ?_
  refine lv_ldc2 (v := 33) hx hb C.hown (C.hts _ (List.mem_of_getElem? (i := 1) rfl)) dX10_say_2 ?_
  refine lv_ldc2 (v := 126) hx hb C.hown (C.hts _ (List.mem_of_getElem? (i := 2) rfl)) dX10_say_5 ?_
  refine k_callS (As := [.long ((p1).toInt64), .long 33, .long 126]) (rest := []) (n := 3) C hw (T_X10_in l D cI cZ ((p1).toInt64) (33 : Int64) (126 : Int64)) gX10_say_X10_in rfl ⟨rfl, rfl⟩ (by decide +kernel) ⟨Nat.le_of_ble_eq_true rfl, Nat.le_of_ble_eq_true rfl⟩ [] rfl rfl [] rfl rfl rfl hl.1 rfl (Nat.le_of_ble_eq_true rfl) ⟨Nat.zero_le _, Nat.zero_le _⟩ dX10_say_8 (fun H locs hw => ?_)
  refine W.eq (g2 := F0 m 11 ls [.int (f_X10_in ((p1).toInt64) (33 : Int64) (126 : Int64))]) rfl ?_
  replace hw : kW D _ s H locs [(a_t, .inr (10, [.ref a_t_wealth, .ref a_t_given, .ref a_t_chart, .ref a_t_relatives, .int v_t_inside, .int v_t_next, .int v_t_years, .ref a_t_sightSet, .ref a_t_sightMany, .int v_t_sights, .ref a_t_digits, .ref a_t_pad, .int v_t_padMany, .ref a_t_act, .ref a_t_who, .ref a_t_whom, .ref a_t_much, .int v_t_acts, .int v_t_givenNow, .int v_t_entered, .ref a_t_had, .int v_t_badAct, .int v_t_badWhy, .int v_t_firstAct, .int v_t_firstHouse, .ref a_t_dues, .ref a_t_groups, .ref a_t_ways, .ref a_t_fit, .int v_t_fitMany, .ref a_t_byMany, .ref a_t_kept, .ref a_t_isKept, .int v_t_keptAt, .int v_t_isWriting])), (a_t_pad, .inl (cI, 60, .inl g_t_pad))] := hw
  refine lv_if_ne (tgt := 17) hx hb dX10_say_11 (by decide) (fun c1 => ?_) (fun c1 => ?_)
  · replace hok := Eq.mp (if_neg c1) hok
    refine lv_aload_n hx hb dX10_say_17 rfl (lv_at hl 0 rfl) ?_
    refine k_get C hw (CC := RX10) (T := TX10) (N := 35) nX10_say_X10 0 rfl rfl 12 (by decide) (List.mem_of_getElem? (i := 3) rfl) rfl rfl dX10_say_18 ?_
    refine lv_bipush (v := 60) hx hb dX10_say_21 (by decide) ?_
    refine lv_icmp_ne (tgt := 29) hx hb dX10_say_23 (by decide) (fun c2 => ?_) (fun c2 => ?_)
    · replace hok := Eq.mp (if_neg c2) hok
      refine lv_aload_n hx hb dX10_say_29 rfl (lv_at hl 0 rfl) ?_
      refine k_get C hw (CC := RX10) (T := TX10) (N := 35) nX10_say_X10 0 rfl rfl 11 (by decide) (List.mem_of_getElem? (i := 4) rfl) rfl rfl dX10_say_30 ?_
      refine lv_aload_n hx hb dX10_say_33 rfl (lv_at hl 0 rfl) ?_
      refine k_get C hw (CC := RX10) (T := TX10) (N := 35) nX10_say_X10 0 rfl rfl 12 (by decide) (List.mem_of_getElem? (i := 3) rfl) rfl rfl dX10_say_34 ?_
      refine lv_iload_n hx hb dX10_say_37 rfl (lv_at hl 1 rfl) ?_
      obtain ⟨h3, hok⟩ := hok
      refine k_iast C hw 1 rfl h3 dX10_say_38 (fun H locs hw => ?_)
      replace hw : kW D _ s H locs [(a_t, .inr (10, [.ref a_t_wealth, .ref a_t_given, .ref a_t_chart, .ref a_t_relatives, .int v_t_inside, .int v_t_next, .int v_t_years, .ref a_t_sightSet, .ref a_t_sightMany, .int v_t_sights, .ref a_t_digits, .ref a_t_pad, .int v_t_padMany, .ref a_t_act, .ref a_t_who, .ref a_t_whom, .ref a_t_much, .int v_t_acts, .int v_t_givenNow, .int v_t_entered, .ref a_t_had, .int v_t_badAct, .int v_t_badWhy, .int v_t_firstAct, .int v_t_firstHouse, .ref a_t_dues, .ref a_t_groups, .ref a_t_ways, .ref a_t_fit, .int v_t_fitMany, .ref a_t_byMany, .ref a_t_kept, .ref a_t_isKept, .int v_t_keptAt, .int v_t_isWriting])), (a_t_pad, .inl (cI, 60, .inl (upd g_t_pad v_t_padMany.toNatClampNeg p1)))] := hw
      refine lv_aload_n hx hb dX10_say_39 rfl (lv_at hl 0 rfl) ?_
      refine lv_dup hx hb dX10_say_40 rfl ?_
      refine k_get C hw (CC := RX10) (T := TX10) (N := 35) nX10_say_X10 0 rfl rfl 12 (by decide) (List.mem_of_getElem? (i := 3) rfl) rfl rfl dX10_say_41 ?_
      refine lv_iconst (v := 1) hx hb dX10_say_44 (by decide) ?_
      refine lv_iadd hx hb dX10_say_45 ?_
      refine k_put C hw (CC := RX10) (T := TX10) (N := 35) (v := .int (v_t_padMany + 1)) nX10_say_X10 tyX10_ok nmX10 0 rfl rfl 12 (by decide) (List.mem_of_getElem? (i := 3) rfl) rfl rfl rfl rfl (Nat.le_of_ble_eq_true rfl) dX10_say_46 (fun H locs hw => ?_)
      replace hw : kW D _ s H locs [(a_t, .inr (10, [.ref a_t_wealth, .ref a_t_given, .ref a_t_chart, .ref a_t_relatives, .int v_t_inside, .int v_t_next, .int v_t_years, .ref a_t_sightSet, .ref a_t_sightMany, .int v_t_sights, .ref a_t_digits, .ref a_t_pad, .int (v_t_padMany + 1), .ref a_t_act, .ref a_t_who, .ref a_t_whom, .ref a_t_much, .int v_t_acts, .int v_t_givenNow, .int v_t_entered, .ref a_t_had, .int v_t_badAct, .int v_t_badWhy, .int v_t_firstAct, .int v_t_firstHouse, .ref a_t_dues, .ref a_t_groups, .ref a_t_ways, .ref a_t_fit, .int v_t_fitMany, .ref a_t_byMany, .ref a_t_kept, .ref a_t_isKept, .int v_t_keptAt, .int v_t_isWriting])), (a_t_pad, .inl (cI, 60, .inl (upd g_t_pad v_t_padMany.toNatClampNeg p1)))] := hw
      refine lv_aload_n hx hb dX10_say_49 rfl (lv_at hl 0 rfl) ?_
      refine k_get C hw (CC := RX10) (T := TX10) (N := 35) nX10_say_X10 0 rfl rfl 12 (by decide) (List.mem_of_getElem? (i := 3) rfl) rfl rfl dX10_say_50 ?_
      rw [show f_X10_say v_t_padMany g_t_pad p1 = ((v_t_padMany + 1), (v_t_padMany + 1), (upd g_t_pad v_t_padMany.toNatClampNeg p1)) from by
          unfold f_X10_say
          exact (if_neg c1).trans ((if_neg c2).trans (rfl))]
      exact k_iret C hr hw dX10_say_53
    · refine lv_bipush (v := (-4)) hx hb dX10_say_26 (by decide) ?_
      rw [show f_X10_say v_t_padMany g_t_pad p1 = ((-4), v_t_padMany, g_t_pad) from by
          unfold f_X10_say
          exact (if_neg c1).trans ((if_pos c2).trans (rfl))]
      exact k_iret C hr hw dX10_say_28
  · refine lv_bipush (v := (-2)) hx hb dX10_say_14 (by decide) ?_
    rw [show f_X10_say v_t_padMany g_t_pad p1 = ((-2), v_t_padMany, g_t_pad) from by
        unfold f_X10_say
        exact (if_pos c1).trans (rfl)]
    exact k_iret C hr hw dX10_say_16

theorem nX10_wipe_X10 : ∀ w ∈ wsX100, w ∈ wsX10_wipe := fun _ h => List.mem_cons_of_mem _ (List.mem_append_right _ h)
def f_X10_wipe (v_t_padMany : Int32) : Int32 × Int32 := (v_t_padMany, 0)
set_option maxHeartbeats 4000000 in
set_option maxRecDepth 100000 in
theorem T_X10_wipe (l : Launch) (D : va_G) (cI cZ : ClassId) (a_t a_t_wealth a_t_given a_t_chart a_t_relatives a_t_sightSet a_t_sightMany a_t_digits a_t_pad a_t_act a_t_who a_t_whom a_t_much a_t_had a_t_dues a_t_groups a_t_ways a_t_fit a_t_byMany a_t_kept a_t_isKept : Nat) (v_t_inside : Int32) (v_t_next : Int32) (v_t_years : Int32) (v_t_sights : Int32) (v_t_padMany : Int32) (v_t_acts : Int32) (v_t_givenNow : Int32) (v_t_entered : Int32) (v_t_badAct : Int32) (v_t_badWhy : Int32) (v_t_firstAct : Int32) (v_t_firstHouse : Int32) (v_t_fitMany : Int32) (v_t_keptAt : Int32) (v_t_isWriting : Int32) : CT l D cI cZ yX10_wipe wsX10_wipe ({ frames := 0, cells := 0, slots := 0, locals := 0 }) [.ref a_t] [(a_t, .inr (10, [.ref a_t_wealth, .ref a_t_given, .ref a_t_chart, .ref a_t_relatives, .int v_t_inside, .int v_t_next, .int v_t_years, .ref a_t_sightSet, .ref a_t_sightMany, .int v_t_sights, .ref a_t_digits, .ref a_t_pad, .int v_t_padMany, .ref a_t_act, .ref a_t_who, .ref a_t_whom, .ref a_t_much, .int v_t_acts, .int v_t_givenNow, .int v_t_entered, .ref a_t_had, .int v_t_badAct, .int v_t_badWhy, .int v_t_firstAct, .int v_t_firstHouse, .ref a_t_dues, .ref a_t_groups, .ref a_t_ways, .ref a_t_fit, .int v_t_fitMany, .ref a_t_byMany, .ref a_t_kept, .ref a_t_isKept, .int v_t_keptAt, .int v_t_isWriting]))] (some (.int (f_X10_wipe v_t_padMany).1)) [(a_t, .inr (10, [.ref a_t_wealth, .ref a_t_given, .ref a_t_chart, .ref a_t_relatives, .int v_t_inside, .int v_t_next, .int v_t_years, .ref a_t_sightSet, .ref a_t_sightMany, .int v_t_sights, .ref a_t_digits, .ref a_t_pad, .int (f_X10_wipe v_t_padMany).2, .ref a_t_act, .ref a_t_who, .ref a_t_whom, .ref a_t_much, .int v_t_acts, .int v_t_givenNow, .int v_t_entered, .ref a_t_had, .int v_t_badAct, .int v_t_badWhy, .int v_t_firstAct, .int v_t_firstHouse, .ref a_t_dues, .ref a_t_groups, .ref a_t_ways, .ref a_t_fit, .int v_t_fitMany, .ref a_t_byMany, .ref a_t_kept, .ref a_t_isKept, .int v_t_keptAt, .int v_t_isWriting]))] := by
  refine CT.intro RX10 (by decide) rfl (Nat.le_of_ble_eq_true rfl) rfl ?_
  intro p e s m below meth c C hr hw ls hl
  have hx := C.hx
  have hb := C.hb
  replace hl : lv_has ls 2 [(0, .ref a_t)] := hl
  refine lv_aload_n hx hb dX10_wipe_0 rfl (lv_at hl 0 rfl) ?_
  refine k_get C hw (CC := RX10) (T := TX10) (N := 35) nX10_wipe_X10 0 rfl rfl 12 (by decide) (List.mem_of_getElem? (i := 1) rfl) rfl rfl dX10_wipe_1 ?_
  refine lv_istore_n (lv' := [(1, .int v_t_padMany), (0, .ref a_t)]) hx hb dX10_wipe_4 rfl hl (by decide) rfl (fun ls hl => ?_)
  refine lv_aload_n hx hb dX10_wipe_5 rfl (lv_at hl 1 rfl) ?_
  refine lv_iconst (v := 0) hx hb dX10_wipe_6 (by decide) ?_
  refine k_put C hw (CC := RX10) (T := TX10) (N := 35) (v := .int 0) nX10_wipe_X10 tyX10_ok nmX10 0 rfl rfl 12 (by decide) (List.mem_of_getElem? (i := 1) rfl) rfl rfl rfl rfl (Nat.le_of_ble_eq_true rfl) dX10_wipe_7 (fun H locs hw => ?_)
  replace hw : kW D _ s H locs [(a_t, .inr (10, [.ref a_t_wealth, .ref a_t_given, .ref a_t_chart, .ref a_t_relatives, .int v_t_inside, .int v_t_next, .int v_t_years, .ref a_t_sightSet, .ref a_t_sightMany, .int v_t_sights, .ref a_t_digits, .ref a_t_pad, .int 0, .ref a_t_act, .ref a_t_who, .ref a_t_whom, .ref a_t_much, .int v_t_acts, .int v_t_givenNow, .int v_t_entered, .ref a_t_had, .int v_t_badAct, .int v_t_badWhy, .int v_t_firstAct, .int v_t_firstHouse, .ref a_t_dues, .ref a_t_groups, .ref a_t_ways, .ref a_t_fit, .int v_t_fitMany, .ref a_t_byMany, .ref a_t_kept, .ref a_t_isKept, .int v_t_keptAt, .int v_t_isWriting]))] := hw
  refine lv_iload_n hx hb dX10_wipe_10 rfl (lv_at hl 0 rfl) ?_
  rw [show f_X10_wipe v_t_padMany = (v_t_padMany, 0) from by
      unfold f_X10_wipe
      exact rfl]
  exact k_iret C hr hw dX10_wipe_11

theorem nX10_close_X10 : ∀ w ∈ wsX100, w ∈ wsX10_close := fun _ h => List.mem_cons_of_mem _ (List.mem_append_right _ h)
def f_X10_close (v_t_acts : Int32) (g_t_act : (Nat → Int32)) (p1 : Int32) : Int32 × Int32 × (Nat → Int32) := (0, (v_t_acts + 1), (upd g_t_act v_t_acts.toNatClampNeg p1))
def o_X10_close (v_t_acts : Int32) : Prop := ((vp_in v_t_acts 60) ∧ True)
set_option maxHeartbeats 4000000 in
set_option maxRecDepth 100000 in
theorem T_X10_close (l : Launch) (D : va_G) (cI cZ : ClassId) (a_t a_t_wealth a_t_given a_t_chart a_t_relatives a_t_sightSet a_t_sightMany a_t_digits a_t_pad a_t_act a_t_who a_t_whom a_t_much a_t_had a_t_dues a_t_groups a_t_ways a_t_fit a_t_byMany a_t_kept a_t_isKept : Nat) (v_t_inside : Int32) (v_t_next : Int32) (v_t_years : Int32) (v_t_sights : Int32) (v_t_padMany : Int32) (v_t_acts : Int32) (v_t_givenNow : Int32) (v_t_entered : Int32) (v_t_badAct : Int32) (v_t_badWhy : Int32) (v_t_firstAct : Int32) (v_t_firstHouse : Int32) (v_t_fitMany : Int32) (v_t_keptAt : Int32) (v_t_isWriting : Int32) (g_t_act : (Nat → Int32)) (p1 : Int32) (hok : o_X10_close v_t_acts) : CT l D cI cZ yX10_close wsX10_close ({ frames := 0, cells := 0, slots := 0, locals := 0 }) [.ref a_t, .int p1] [(a_t, .inr (10, [.ref a_t_wealth, .ref a_t_given, .ref a_t_chart, .ref a_t_relatives, .int v_t_inside, .int v_t_next, .int v_t_years, .ref a_t_sightSet, .ref a_t_sightMany, .int v_t_sights, .ref a_t_digits, .ref a_t_pad, .int v_t_padMany, .ref a_t_act, .ref a_t_who, .ref a_t_whom, .ref a_t_much, .int v_t_acts, .int v_t_givenNow, .int v_t_entered, .ref a_t_had, .int v_t_badAct, .int v_t_badWhy, .int v_t_firstAct, .int v_t_firstHouse, .ref a_t_dues, .ref a_t_groups, .ref a_t_ways, .ref a_t_fit, .int v_t_fitMany, .ref a_t_byMany, .ref a_t_kept, .ref a_t_isKept, .int v_t_keptAt, .int v_t_isWriting])), (a_t_act, .inl (cI, 60, .inl g_t_act))] (some (.int (f_X10_close v_t_acts g_t_act p1).1)) [(a_t, .inr (10, [.ref a_t_wealth, .ref a_t_given, .ref a_t_chart, .ref a_t_relatives, .int v_t_inside, .int v_t_next, .int v_t_years, .ref a_t_sightSet, .ref a_t_sightMany, .int v_t_sights, .ref a_t_digits, .ref a_t_pad, .int v_t_padMany, .ref a_t_act, .ref a_t_who, .ref a_t_whom, .ref a_t_much, .int (f_X10_close v_t_acts g_t_act p1).2.1, .int v_t_givenNow, .int v_t_entered, .ref a_t_had, .int v_t_badAct, .int v_t_badWhy, .int v_t_firstAct, .int v_t_firstHouse, .ref a_t_dues, .ref a_t_groups, .ref a_t_ways, .ref a_t_fit, .int v_t_fitMany, .ref a_t_byMany, .ref a_t_kept, .ref a_t_isKept, .int v_t_keptAt, .int v_t_isWriting])), (a_t_act, .inl (cI, 60, .inl (f_X10_close v_t_acts g_t_act p1).2.2))] := by
  refine CT.intro RX10 (by decide) rfl (Nat.le_of_ble_eq_true rfl) rfl ?_
  intro p e s m below meth c C hr hw ls hl
  have hx := C.hx
  have hb := C.hb
  replace hl : lv_has ls 2 [(0, .ref a_t), (1, .int p1)] := hl
  refine lv_aload_n hx hb dX10_close_0 rfl (lv_at hl 0 rfl) ?_
  refine k_get C hw (CC := RX10) (T := TX10) (N := 35) nX10_close_X10 0 rfl rfl 13 (by decide) (List.mem_of_getElem? (i := 1) rfl) rfl rfl dX10_close_1 ?_
  refine lv_aload_n hx hb dX10_close_4 rfl (lv_at hl 0 rfl) ?_
  refine k_get C hw (CC := RX10) (T := TX10) (N := 35) nX10_close_X10 0 rfl rfl 17 (by decide) (List.mem_of_getElem? (i := 2) rfl) rfl rfl dX10_close_5 ?_
  refine lv_iload_n hx hb dX10_close_8 rfl (lv_at hl 1 rfl) ?_
  obtain ⟨h1, hok⟩ := hok
  refine k_iast C hw 1 rfl h1 dX10_close_9 (fun H locs hw => ?_)
  replace hw : kW D _ s H locs [(a_t, .inr (10, [.ref a_t_wealth, .ref a_t_given, .ref a_t_chart, .ref a_t_relatives, .int v_t_inside, .int v_t_next, .int v_t_years, .ref a_t_sightSet, .ref a_t_sightMany, .int v_t_sights, .ref a_t_digits, .ref a_t_pad, .int v_t_padMany, .ref a_t_act, .ref a_t_who, .ref a_t_whom, .ref a_t_much, .int v_t_acts, .int v_t_givenNow, .int v_t_entered, .ref a_t_had, .int v_t_badAct, .int v_t_badWhy, .int v_t_firstAct, .int v_t_firstHouse, .ref a_t_dues, .ref a_t_groups, .ref a_t_ways, .ref a_t_fit, .int v_t_fitMany, .ref a_t_byMany, .ref a_t_kept, .ref a_t_isKept, .int v_t_keptAt, .int v_t_isWriting])), (a_t_act, .inl (cI, 60, .inl (upd g_t_act v_t_acts.toNatClampNeg p1)))] := hw
  refine lv_aload_n hx hb dX10_close_10 rfl (lv_at hl 0 rfl) ?_
  refine lv_dup hx hb dX10_close_11 rfl ?_
  refine k_get C hw (CC := RX10) (T := TX10) (N := 35) nX10_close_X10 0 rfl rfl 17 (by decide) (List.mem_of_getElem? (i := 2) rfl) rfl rfl dX10_close_12 ?_
  refine lv_iconst (v := 1) hx hb dX10_close_15 (by decide) ?_
  refine lv_iadd hx hb dX10_close_16 ?_
  refine k_put C hw (CC := RX10) (T := TX10) (N := 35) (v := .int (v_t_acts + 1)) nX10_close_X10 tyX10_ok nmX10 0 rfl rfl 17 (by decide) (List.mem_of_getElem? (i := 2) rfl) rfl rfl rfl rfl (Nat.le_of_ble_eq_true rfl) dX10_close_17 (fun H locs hw => ?_)
  replace hw : kW D _ s H locs [(a_t, .inr (10, [.ref a_t_wealth, .ref a_t_given, .ref a_t_chart, .ref a_t_relatives, .int v_t_inside, .int v_t_next, .int v_t_years, .ref a_t_sightSet, .ref a_t_sightMany, .int v_t_sights, .ref a_t_digits, .ref a_t_pad, .int v_t_padMany, .ref a_t_act, .ref a_t_who, .ref a_t_whom, .ref a_t_much, .int (v_t_acts + 1), .int v_t_givenNow, .int v_t_entered, .ref a_t_had, .int v_t_badAct, .int v_t_badWhy, .int v_t_firstAct, .int v_t_firstHouse, .ref a_t_dues, .ref a_t_groups, .ref a_t_ways, .ref a_t_fit, .int v_t_fitMany, .ref a_t_byMany, .ref a_t_kept, .ref a_t_isKept, .int v_t_keptAt, .int v_t_isWriting])), (a_t_act, .inl (cI, 60, .inl (upd g_t_act v_t_acts.toNatClampNeg p1)))] := hw
  refine lv_iconst (v := 0) hx hb dX10_close_20 (by decide) ?_
  rw [show f_X10_close v_t_acts g_t_act p1 = (0, (v_t_acts + 1), (upd g_t_act v_t_acts.toNatClampNeg p1)) from by
      unfold f_X10_close
      exact rfl]
  exact k_iret C hr hw dX10_close_21

def f_X10_isName (p1 : Int32) : Int32 := (f_X10_in ((p1).toInt64) (65 : Int64) (72 : Int64))
def o_X10_isName (p1 : Int32) : Prop := ((narrow .boolean (.int (f_X10_in ((p1).toInt64) (65 : Int64) (72 : Int64))) = .int (f_X10_in ((p1).toInt64) (65 : Int64) (72 : Int64))) ∧ True)
set_option maxHeartbeats 4000000 in
set_option maxRecDepth 100000 in
theorem T_X10_isName (l : Launch) (D : va_G) (cI cZ : ClassId) (p1 : Int32) (hok : o_X10_isName p1) : CT l D cI cZ yX10_isName wsX10_isName ({ frames := 1, cells := 0, slots := 0, locals := 25 }) [.int p1] [] (some (.int (f_X10_isName p1))) [] := by
  refine CT.intro RX10 (by decide) rfl (Nat.le_of_ble_eq_true rfl) rfl ?_
  intro p e s m below meth c C hr hw ls hl
  have hx := C.hx
  have hb := C.hb
  replace hl : lv_has ls 1 [(0, .int p1)] := hl
  refine lv_iload_n hx hb dX10_isName_0 rfl (lv_at hl 0 rfl) ?_
  refine lv_i2l (v := ((p1).toInt64)) hx hb dX10_isName_1 rfl ?_
  refine lv_ldc2 (v := 65) hx hb C.hown (C.hts _ (List.mem_of_getElem? (i := 1) rfl)) dX10_isName_2 ?_
  refine lv_ldc2 (v := 72) hx hb C.hown (C.hts _ (List.mem_of_getElem? (i := 2) rfl)) dX10_isName_5 ?_
  refine k_callS (As := [.long ((p1).toInt64), .long 65, .long 72]) (rest := []) (n := 3) C hw (T_X10_in l D cI cZ ((p1).toInt64) (65 : Int64) (72 : Int64)) gX10_isName_X10_in rfl ⟨rfl, rfl⟩ (by decide +kernel) ⟨Nat.le_of_ble_eq_true rfl, Nat.le_of_ble_eq_true rfl⟩ [] rfl rfl [] rfl rfl rfl hl.1 rfl (Nat.le_of_ble_eq_true rfl) ⟨Nat.zero_le _, Nat.zero_le _⟩ dX10_isName_8 (fun H locs hw => ?_)
  refine W.eq (g2 := F0 m 11 ls [.int (f_X10_in ((p1).toInt64) (65 : Int64) (72 : Int64))]) rfl ?_
  replace hw : kW D _ s H locs [] := hw
  obtain ⟨h1, hok⟩ := hok
  rw [show f_X10_isName p1 = (f_X10_in ((p1).toInt64) (65 : Int64) (72 : Int64)) from by
      unfold f_X10_isName
      exact rfl]
  exact k_zret (v := (f_X10_in ((p1).toInt64) (65 : Int64) (72 : Int64))) C hr hw h1 dX10_isName_11

theorem nX10_begin_X10 : ∀ w ∈ wsX100, w ∈ wsX10_begin := fun _ h => List.mem_cons_of_mem _ (List.mem_append_right _ h)
def f_X10_begin (v_t_acts : Int32) (g_t_who : (Nat → Int32)) (g_t_whom : (Nat → Int32)) (g_t_much : (Nat → Int32)) (g_t_act : (Nat → Int32)) (p1 : Int32) : Int32 × Int32 × (Nat → Int32) × (Nat → Int32) × (Nat → Int32) × (Nat → Int32) := (if (f_X10_isName p1) = 0 then (if (f_X10_isName p1) = 0 then (if p1 = 120 then (4, v_t_acts, (upd g_t_who v_t_acts.toNatClampNeg 0), (upd g_t_whom v_t_acts.toNatClampNeg 0), (upd g_t_much v_t_acts.toNatClampNeg 0), g_t_act) else (if p1 = 46 then (lt (f_X10_close v_t_acts g_t_act (4 : Int32)) (fun z10 => (z10.1, z10.2.1, (upd g_t_who v_t_acts.toNatClampNeg 0), (upd g_t_whom v_t_acts.toNatClampNeg 0), (upd g_t_much v_t_acts.toNatClampNeg 0), z10.2.2))) else ((-6), v_t_acts, (upd g_t_who v_t_acts.toNatClampNeg 0), (upd g_t_whom v_t_acts.toNatClampNeg 0), (upd g_t_much v_t_acts.toNatClampNeg 0), g_t_act))) else (1, v_t_acts, (upd g_t_who v_t_acts.toNatClampNeg 0), (upd g_t_whom v_t_acts.toNatClampNeg 0), (upd g_t_much v_t_acts.toNatClampNeg 0), g_t_act)) else (if (f_X10_isName p1) = 0 then (if p1 = 120 then (4, v_t_acts, (upd g_t_who v_t_acts.toNatClampNeg (p1 - 65)), (upd g_t_whom v_t_acts.toNatClampNeg 0), (upd g_t_much v_t_acts.toNatClampNeg 0), g_t_act) else (if p1 = 46 then (lt (f_X10_close v_t_acts g_t_act (4 : Int32)) (fun z19 => (z19.1, z19.2.1, (upd g_t_who v_t_acts.toNatClampNeg (p1 - 65)), (upd g_t_whom v_t_acts.toNatClampNeg 0), (upd g_t_much v_t_acts.toNatClampNeg 0), z19.2.2))) else ((-6), v_t_acts, (upd g_t_who v_t_acts.toNatClampNeg (p1 - 65)), (upd g_t_whom v_t_acts.toNatClampNeg 0), (upd g_t_much v_t_acts.toNatClampNeg 0), g_t_act))) else (1, v_t_acts, (upd g_t_who v_t_acts.toNatClampNeg (p1 - 65)), (upd g_t_whom v_t_acts.toNatClampNeg 0), (upd g_t_much v_t_acts.toNatClampNeg 0), g_t_act)))
def o_X10_begin (v_t_acts : Int32) (p1 : Int32) : Prop := ((o_X10_isName p1) ∧ (if (f_X10_isName p1) = 0 then ((vp_in v_t_acts 60) ∧ ((vp_in v_t_acts 60) ∧ ((vp_in v_t_acts 60) ∧ (if (f_X10_isName p1) = 0 then (if p1 = 120 then True else (if p1 = 46 then ((o_X10_close v_t_acts) ∧ True) else True)) else True)))) else ((vp_in v_t_acts 60) ∧ ((vp_in v_t_acts 60) ∧ ((vp_in v_t_acts 60) ∧ (if (f_X10_isName p1) = 0 then (if p1 = 120 then True else (if p1 = 46 then ((o_X10_close v_t_acts) ∧ True) else True)) else True))))))
set_option maxHeartbeats 4000000 in
set_option maxRecDepth 100000 in
theorem T_X10_begin (l : Launch) (D : va_G) (cI cZ : ClassId) (a_t a_t_wealth a_t_given a_t_chart a_t_relatives a_t_sightSet a_t_sightMany a_t_digits a_t_pad a_t_act a_t_who a_t_whom a_t_much a_t_had a_t_dues a_t_groups a_t_ways a_t_fit a_t_byMany a_t_kept a_t_isKept : Nat) (v_t_inside : Int32) (v_t_next : Int32) (v_t_years : Int32) (v_t_sights : Int32) (v_t_padMany : Int32) (v_t_acts : Int32) (v_t_givenNow : Int32) (v_t_entered : Int32) (v_t_badAct : Int32) (v_t_badWhy : Int32) (v_t_firstAct : Int32) (v_t_firstHouse : Int32) (v_t_fitMany : Int32) (v_t_keptAt : Int32) (v_t_isWriting : Int32) (g_t_who : (Nat → Int32)) (g_t_whom : (Nat → Int32)) (g_t_much : (Nat → Int32)) (g_t_act : (Nat → Int32)) (p1 : Int32) (hok : o_X10_begin v_t_acts p1) : CT l D cI cZ yX10_begin wsX10_begin ({ frames := 2, cells := 0, slots := 0, locals := 45 }) [.ref a_t, .int p1] [(a_t, .inr (10, [.ref a_t_wealth, .ref a_t_given, .ref a_t_chart, .ref a_t_relatives, .int v_t_inside, .int v_t_next, .int v_t_years, .ref a_t_sightSet, .ref a_t_sightMany, .int v_t_sights, .ref a_t_digits, .ref a_t_pad, .int v_t_padMany, .ref a_t_act, .ref a_t_who, .ref a_t_whom, .ref a_t_much, .int v_t_acts, .int v_t_givenNow, .int v_t_entered, .ref a_t_had, .int v_t_badAct, .int v_t_badWhy, .int v_t_firstAct, .int v_t_firstHouse, .ref a_t_dues, .ref a_t_groups, .ref a_t_ways, .ref a_t_fit, .int v_t_fitMany, .ref a_t_byMany, .ref a_t_kept, .ref a_t_isKept, .int v_t_keptAt, .int v_t_isWriting])), (a_t_who, .inl (cI, 60, .inl g_t_who)), (a_t_whom, .inl (cI, 60, .inl g_t_whom)), (a_t_much, .inl (cI, 60, .inl g_t_much)), (a_t_act, .inl (cI, 60, .inl g_t_act))] (some (.int (f_X10_begin v_t_acts g_t_who g_t_whom g_t_much g_t_act p1).1)) [(a_t, .inr (10, [.ref a_t_wealth, .ref a_t_given, .ref a_t_chart, .ref a_t_relatives, .int v_t_inside, .int v_t_next, .int v_t_years, .ref a_t_sightSet, .ref a_t_sightMany, .int v_t_sights, .ref a_t_digits, .ref a_t_pad, .int v_t_padMany, .ref a_t_act, .ref a_t_who, .ref a_t_whom, .ref a_t_much, .int (f_X10_begin v_t_acts g_t_who g_t_whom g_t_much g_t_act p1).2.1, .int v_t_givenNow, .int v_t_entered, .ref a_t_had, .int v_t_badAct, .int v_t_badWhy, .int v_t_firstAct, .int v_t_firstHouse, .ref a_t_dues, .ref a_t_groups, .ref a_t_ways, .ref a_t_fit, .int v_t_fitMany, .ref a_t_byMany, .ref a_t_kept, .ref a_t_isKept, .int v_t_keptAt, .int v_t_isWriting])), (a_t_who, .inl (cI, 60, .inl (f_X10_begin v_t_acts g_t_who g_t_whom g_t_much g_t_act p1).2.2.1)), (a_t_whom, .inl (cI, 60, .inl (f_X10_begin v_t_acts g_t_who g_t_whom g_t_much g_t_act p1).2.2.2.1)), (a_t_much, .inl (cI, 60, .inl (f_X10_begin v_t_acts g_t_who g_t_whom g_t_much g_t_act p1).2.2.2.2.1)), (a_t_act, .inl (cI, 60, .inl (f_X10_begin v_t_acts g_t_who g_t_whom g_t_much g_t_act p1).2.2.2.2.2))] := by
  refine CT.intro RX10 (by decide) rfl (Nat.le_of_ble_eq_true rfl) rfl ?_
  intro p e s m below meth c C hr hw ls hl
  have hx := C.hx
  have hb := C.hb
  replace hl : lv_has ls 3 [(0, .ref a_t), (1, .int p1)] := hl
  refine lv_iload_n hx hb dX10_begin_0 rfl (lv_at hl 1 rfl) ?_
  obtain ⟨h1, hok⟩ := hok
  refine k_callS (As := [.int p1]) (rest := []) (n := 1) C hw (T_X10_isName l D cI cZ p1 h1) gX10_begin_X10_isName rfl ⟨rfl, rfl⟩ (by decide +kernel) ⟨Nat.le_of_ble_eq_true rfl, Nat.le_of_ble_eq_true rfl⟩ [] rfl rfl [] rfl rfl rfl hl.1 rfl (Nat.le_of_ble_eq_true rfl) ⟨Nat.zero_le _, Nat.zero_le _⟩ dX10_begin_1 (fun H locs hw => ?_)
  refine W.eq (g2 := F0 m 4 ls [.int (f_X10_isName p1)]) rfl ?_
  replace hw : kW D _ s H locs [(a_t, .inr (10, [.ref a_t_wealth, .ref a_t_given, .ref a_t_chart, .ref a_t_relatives, .int v_t_inside, .int v_t_next, .int v_t_years, .ref a_t_sightSet, .ref a_t_sightMany, .int v_t_sights, .ref a_t_digits, .ref a_t_pad, .int v_t_padMany, .ref a_t_act, .ref a_t_who, .ref a_t_whom, .ref a_t_much, .int v_t_acts, .int v_t_givenNow, .int v_t_entered, .ref a_t_had, .int v_t_badAct, .int v_t_badWhy, .int v_t_firstAct, .int v_t_firstHouse, .ref a_t_dues, .ref a_t_groups, .ref a_t_ways, .ref a_t_fit, .int v_t_fitMany, .ref a_t_byMany, .ref a_t_kept, .ref a_t_isKept, .int v_t_keptAt, .int v_t_isWriting])), (a_t_who, .inl (cI, 60, .inl g_t_who)), (a_t_whom, .inl (cI, 60, .inl g_t_whom)), (a_t_much, .inl (cI, 60, .inl g_t_much)), (a_t_act, .inl (cI, 60, .inl g_t_act))] := hw
  refine lv_istore_n (lv' := [(2, .int (f_X10_isName p1)), (0, .ref a_t), (1, .int p1)]) hx hb dX10_begin_4 rfl hl (by decide) rfl (fun ls hl => ?_)
  refine lv_aload_n hx hb dX10_begin_5 rfl (lv_at hl 1 rfl) ?_
  refine k_get C hw (CC := RX10) (T := TX10) (N := 35) nX10_begin_X10 0 rfl rfl 14 (by decide) (List.mem_of_getElem? (i := 1) rfl) rfl rfl dX10_begin_6 ?_
  refine lv_aload_n hx hb dX10_begin_9 rfl (lv_at hl 1 rfl) ?_
  refine k_get C hw (CC := RX10) (T := TX10) (N := 35) nX10_begin_X10 0 rfl rfl 17 (by decide) (List.mem_of_getElem? (i := 2) rfl) rfl rfl dX10_begin_10 ?_
  refine lv_iload_n hx hb dX10_begin_13 rfl (lv_at hl 0 rfl) ?_
  refine lv_if_eq (tgt := 24) hx hb dX10_begin_14 (by decide) (fun c2 => ?_) (fun c2 => ?_)
  · replace hok := Eq.mp (if_pos c2) hok
    refine lv_iconst (v := 0) hx hb dX10_begin_24 (by decide) ?_
    obtain ⟨h3, hok⟩ := hok
    refine k_iast C hw 1 rfl h3 dX10_begin_25 (fun H locs hw => ?_)
    replace hw : kW D _ s H locs [(a_t, .inr (10, [.ref a_t_wealth, .ref a_t_given, .ref a_t_chart, .ref a_t_relatives, .int v_t_inside, .int v_t_next, .int v_t_years, .ref a_t_sightSet, .ref a_t_sightMany, .int v_t_sights, .ref a_t_digits, .ref a_t_pad, .int v_t_padMany, .ref a_t_act, .ref a_t_who, .ref a_t_whom, .ref a_t_much, .int v_t_acts, .int v_t_givenNow, .int v_t_entered, .ref a_t_had, .int v_t_badAct, .int v_t_badWhy, .int v_t_firstAct, .int v_t_firstHouse, .ref a_t_dues, .ref a_t_groups, .ref a_t_ways, .ref a_t_fit, .int v_t_fitMany, .ref a_t_byMany, .ref a_t_kept, .ref a_t_isKept, .int v_t_keptAt, .int v_t_isWriting])), (a_t_who, .inl (cI, 60, .inl (upd g_t_who v_t_acts.toNatClampNeg 0))), (a_t_whom, .inl (cI, 60, .inl g_t_whom)), (a_t_much, .inl (cI, 60, .inl g_t_much)), (a_t_act, .inl (cI, 60, .inl g_t_act))] := hw
    refine lv_aload_n hx hb dX10_begin_26 rfl (lv_at hl 1 rfl) ?_
    refine k_get C hw (CC := RX10) (T := TX10) (N := 35) nX10_begin_X10 0 rfl rfl 15 (by decide) (List.mem_of_getElem? (i := 3) rfl) rfl rfl dX10_begin_27 ?_
    refine lv_aload_n hx hb dX10_begin_30 rfl (lv_at hl 1 rfl) ?_
    refine k_get C hw (CC := RX10) (T := TX10) (N := 35) nX10_begin_X10 0 rfl rfl 17 (by decide) (List.mem_of_getElem? (i := 2) rfl) rfl rfl dX10_begin_31 ?_
    refine lv_iconst (v := 0) hx hb dX10_begin_34 (by decide) ?_
    obtain ⟨h4, hok⟩ := hok
    refine k_iast C hw 2 rfl h4 dX10_begin_35 (fun H locs hw => ?_)
    replace hw : kW D _ s H locs [(a_t, .inr (10, [.ref a_t_wealth, .ref a_t_given, .ref a_t_chart, .ref a_t_relatives, .int v_t_inside, .int v_t_next, .int v_t_years, .ref a_t_sightSet, .ref a_t_sightMany, .int v_t_sights, .ref a_t_digits, .ref a_t_pad, .int v_t_padMany, .ref a_t_act, .ref a_t_who, .ref a_t_whom, .ref a_t_much, .int v_t_acts, .int v_t_givenNow, .int v_t_entered, .ref a_t_had, .int v_t_badAct, .int v_t_badWhy, .int v_t_firstAct, .int v_t_firstHouse, .ref a_t_dues, .ref a_t_groups, .ref a_t_ways, .ref a_t_fit, .int v_t_fitMany, .ref a_t_byMany, .ref a_t_kept, .ref a_t_isKept, .int v_t_keptAt, .int v_t_isWriting])), (a_t_who, .inl (cI, 60, .inl (upd g_t_who v_t_acts.toNatClampNeg 0))), (a_t_whom, .inl (cI, 60, .inl (upd g_t_whom v_t_acts.toNatClampNeg 0))), (a_t_much, .inl (cI, 60, .inl g_t_much)), (a_t_act, .inl (cI, 60, .inl g_t_act))] := hw
    refine lv_aload_n hx hb dX10_begin_36 rfl (lv_at hl 1 rfl) ?_
    refine k_get C hw (CC := RX10) (T := TX10) (N := 35) nX10_begin_X10 0 rfl rfl 16 (by decide) (List.mem_of_getElem? (i := 4) rfl) rfl rfl dX10_begin_37 ?_
    refine lv_aload_n hx hb dX10_begin_40 rfl (lv_at hl 1 rfl) ?_
    refine k_get C hw (CC := RX10) (T := TX10) (N := 35) nX10_begin_X10 0 rfl rfl 17 (by decide) (List.mem_of_getElem? (i := 2) rfl) rfl rfl dX10_begin_41 ?_
    refine lv_iconst (v := 0) hx hb dX10_begin_44 (by decide) ?_
    obtain ⟨h5, hok⟩ := hok
    refine k_iast C hw 3 rfl h5 dX10_begin_45 (fun H locs hw => ?_)
    replace hw : kW D _ s H locs [(a_t, .inr (10, [.ref a_t_wealth, .ref a_t_given, .ref a_t_chart, .ref a_t_relatives, .int v_t_inside, .int v_t_next, .int v_t_years, .ref a_t_sightSet, .ref a_t_sightMany, .int v_t_sights, .ref a_t_digits, .ref a_t_pad, .int v_t_padMany, .ref a_t_act, .ref a_t_who, .ref a_t_whom, .ref a_t_much, .int v_t_acts, .int v_t_givenNow, .int v_t_entered, .ref a_t_had, .int v_t_badAct, .int v_t_badWhy, .int v_t_firstAct, .int v_t_firstHouse, .ref a_t_dues, .ref a_t_groups, .ref a_t_ways, .ref a_t_fit, .int v_t_fitMany, .ref a_t_byMany, .ref a_t_kept, .ref a_t_isKept, .int v_t_keptAt, .int v_t_isWriting])), (a_t_who, .inl (cI, 60, .inl (upd g_t_who v_t_acts.toNatClampNeg 0))), (a_t_whom, .inl (cI, 60, .inl (upd g_t_whom v_t_acts.toNatClampNeg 0))), (a_t_much, .inl (cI, 60, .inl (upd g_t_much v_t_acts.toNatClampNeg 0))), (a_t_act, .inl (cI, 60, .inl g_t_act))] := hw
    refine lv_iload_n hx hb dX10_begin_46 rfl (lv_at hl 0 rfl) ?_
    refine lv_if_eq (tgt := 54) hx hb dX10_begin_47 (by decide) (fun c6 => ?_) (fun c6 => ?_)
    · replace hok := Eq.mp (if_pos c6) hok
      refine lv_iload_n hx hb dX10_begin_54 rfl (lv_at hl 2 rfl) ?_
      refine lv_bipush (v := 120) hx hb dX10_begin_55 (by decide) ?_
      refine lv_icmp_ne (tgt := 64) hx hb dX10_begin_57 (by decide) (fun c7 => ?_) (fun c7 => ?_)
      · replace hok := Eq.mp (if_neg c7) hok
        refine lv_iload_n hx hb dX10_begin_64 rfl (lv_at hl 2 rfl) ?_
        refine lv_bipush (v := 46) hx hb dX10_begin_65 (by decide) ?_
        refine lv_icmp_ne (tgt := 78) hx hb dX10_begin_67 (by decide) (fun c8 => ?_) (fun c8 => ?_)
        · refine lv_bipush (v := (-6)) hx hb dX10_begin_78 (by decide) ?_
          rw [show f_X10_begin v_t_acts g_t_who g_t_whom g_t_much g_t_act p1 = ((-6), v_t_acts, (upd g_t_who v_t_acts.toNatClampNeg 0), (upd g_t_whom v_t_acts.toNatClampNeg 0), (upd g_t_much v_t_acts.toNatClampNeg 0), g_t_act) from by
              unfold f_X10_begin
              exact (if_pos c2).trans ((if_pos c6).trans ((if_neg c7).trans ((if_neg c8).trans (rfl))))]
          exact k_iret C hr hw dX10_begin_80
        · replace hok := Eq.mp (if_pos c8) hok
          refine lv_aload_n hx hb dX10_begin_70 rfl (lv_at hl 1 rfl) ?_
          refine lv_iconst (v := 4) hx hb dX10_begin_71 (by decide) ?_
          obtain ⟨h9, hok⟩ := hok
          refine k_callV (As := [.int 4]) (rest := []) (n := 1) (CC := RX10) (T := TX10) (N := 35) C hw (T_X10_close l D cI cZ a_t a_t_wealth a_t_given a_t_chart a_t_relatives a_t_sightSet a_t_sightMany a_t_digits a_t_pad a_t_act a_t_who a_t_whom a_t_much a_t_had a_t_dues a_t_groups a_t_ways a_t_fit a_t_byMany a_t_kept a_t_isKept v_t_inside v_t_next v_t_years v_t_sights v_t_padMany v_t_acts v_t_givenNow v_t_entered v_t_badAct v_t_badWhy v_t_firstAct v_t_firstHouse v_t_fitMany v_t_keptAt v_t_isWriting g_t_act (4 : Int32) h9) gX10_begin_X10_close rfl ⟨rfl, rfl⟩ (by decide +kernel) ⟨Nat.le_of_ble_eq_true rfl, Nat.le_of_ble_eq_true rfl⟩ 0 rfl rfl [0, 4] rfl rfl [a_t, a_t_act] rfl rfl rfl hl.1 rfl (Nat.le_of_ble_eq_true rfl) ⟨Nat.zero_le _, Nat.zero_le _⟩ dX10_begin_72 (fun H locs hw => ?_)
          obtain ⟨z10, h11⟩ : ∃ z, (f_X10_close v_t_acts g_t_act (4 : Int32)) = z := ⟨_, rfl⟩
          refine W.eq (g2 := F0 m 75 ls [.int z10.1]) (by subst h11; rfl) ?_
          replace hw := kW_cast (ws' := [(a_t, .inr (10, [.ref a_t_wealth, .ref a_t_given, .ref a_t_chart, .ref a_t_relatives, .int v_t_inside, .int v_t_next, .int v_t_years, .ref a_t_sightSet, .ref a_t_sightMany, .int v_t_sights, .ref a_t_digits, .ref a_t_pad, .int v_t_padMany, .ref a_t_act, .ref a_t_who, .ref a_t_whom, .ref a_t_much, .int z10.2.1, .int v_t_givenNow, .int v_t_entered, .ref a_t_had, .int v_t_badAct, .int v_t_badWhy, .int v_t_firstAct, .int v_t_firstHouse, .ref a_t_dues, .ref a_t_groups, .ref a_t_ways, .ref a_t_fit, .int v_t_fitMany, .ref a_t_byMany, .ref a_t_kept, .ref a_t_isKept, .int v_t_keptAt, .int v_t_isWriting])), (a_t_who, .inl (cI, 60, .inl (upd g_t_who v_t_acts.toNatClampNeg 0))), (a_t_whom, .inl (cI, 60, .inl (upd g_t_whom v_t_acts.toNatClampNeg 0))), (a_t_much, .inl (cI, 60, .inl (upd g_t_much v_t_acts.toNatClampNeg 0))), (a_t_act, .inl (cI, 60, .inl z10.2.2))]) (by subst h11; rfl) hw
          refine lv_goto (tgt := 80) hx hb dX10_begin_75 (by decide) ?_
          rw [show f_X10_begin v_t_acts g_t_who g_t_whom g_t_much g_t_act p1 = (z10.1, z10.2.1, (upd g_t_who v_t_acts.toNatClampNeg 0), (upd g_t_whom v_t_acts.toNatClampNeg 0), (upd g_t_much v_t_acts.toNatClampNeg 0), z10.2.2) from by
              unfold f_X10_begin
              exact (if_pos c2).trans ((if_pos c6).trans ((if_neg c7).trans ((if_pos c8).trans ((lt_c h11).trans (rfl)))))]
          exact k_iret C hr hw dX10_begin_80
      · refine lv_iconst (v := 4) hx hb dX10_begin_60 (by decide) ?_
        refine lv_goto (tgt := 80) hx hb dX10_begin_61 (by decide) ?_
        rw [show f_X10_begin v_t_acts g_t_who g_t_whom g_t_much g_t_act p1 = (4, v_t_acts, (upd g_t_who v_t_acts.toNatClampNeg 0), (upd g_t_whom v_t_acts.toNatClampNeg 0), (upd g_t_much v_t_acts.toNatClampNeg 0), g_t_act) from by
            unfold f_X10_begin
            exact (if_pos c2).trans ((if_pos c6).trans ((if_pos c7).trans (rfl)))]
        exact k_iret C hr hw dX10_begin_80
    · refine lv_iconst (v := 1) hx hb dX10_begin_50 (by decide) ?_
      refine lv_goto (tgt := 80) hx hb dX10_begin_51 (by decide) ?_
      rw [show f_X10_begin v_t_acts g_t_who g_t_whom g_t_much g_t_act p1 = (1, v_t_acts, (upd g_t_who v_t_acts.toNatClampNeg 0), (upd g_t_whom v_t_acts.toNatClampNeg 0), (upd g_t_much v_t_acts.toNatClampNeg 0), g_t_act) from by
          unfold f_X10_begin
          exact (if_pos c2).trans ((if_neg c6).trans (rfl))]
      exact k_iret C hr hw dX10_begin_80
  · replace hok := Eq.mp (if_neg c2) hok
    refine lv_iload_n hx hb dX10_begin_17 rfl (lv_at hl 2 rfl) ?_
    refine lv_bipush (v := 65) hx hb dX10_begin_18 (by decide) ?_
    refine lv_isub hx hb dX10_begin_20 ?_
    refine lv_goto (tgt := 25) hx hb dX10_begin_21 (by decide) ?_
    obtain ⟨h12, hok⟩ := hok
    refine k_iast C hw 1 rfl h12 dX10_begin_25 (fun H locs hw => ?_)
    replace hw : kW D _ s H locs [(a_t, .inr (10, [.ref a_t_wealth, .ref a_t_given, .ref a_t_chart, .ref a_t_relatives, .int v_t_inside, .int v_t_next, .int v_t_years, .ref a_t_sightSet, .ref a_t_sightMany, .int v_t_sights, .ref a_t_digits, .ref a_t_pad, .int v_t_padMany, .ref a_t_act, .ref a_t_who, .ref a_t_whom, .ref a_t_much, .int v_t_acts, .int v_t_givenNow, .int v_t_entered, .ref a_t_had, .int v_t_badAct, .int v_t_badWhy, .int v_t_firstAct, .int v_t_firstHouse, .ref a_t_dues, .ref a_t_groups, .ref a_t_ways, .ref a_t_fit, .int v_t_fitMany, .ref a_t_byMany, .ref a_t_kept, .ref a_t_isKept, .int v_t_keptAt, .int v_t_isWriting])), (a_t_who, .inl (cI, 60, .inl (upd g_t_who v_t_acts.toNatClampNeg (p1 - 65)))), (a_t_whom, .inl (cI, 60, .inl g_t_whom)), (a_t_much, .inl (cI, 60, .inl g_t_much)), (a_t_act, .inl (cI, 60, .inl g_t_act))] := hw
    refine lv_aload_n hx hb dX10_begin_26 rfl (lv_at hl 1 rfl) ?_
    refine k_get C hw (CC := RX10) (T := TX10) (N := 35) nX10_begin_X10 0 rfl rfl 15 (by decide) (List.mem_of_getElem? (i := 3) rfl) rfl rfl dX10_begin_27 ?_
    refine lv_aload_n hx hb dX10_begin_30 rfl (lv_at hl 1 rfl) ?_
    refine k_get C hw (CC := RX10) (T := TX10) (N := 35) nX10_begin_X10 0 rfl rfl 17 (by decide) (List.mem_of_getElem? (i := 2) rfl) rfl rfl dX10_begin_31 ?_
    refine lv_iconst (v := 0) hx hb dX10_begin_34 (by decide) ?_
    obtain ⟨h13, hok⟩ := hok
    refine k_iast C hw 2 rfl h13 dX10_begin_35 (fun H locs hw => ?_)
    replace hw : kW D _ s H locs [(a_t, .inr (10, [.ref a_t_wealth, .ref a_t_given, .ref a_t_chart, .ref a_t_relatives, .int v_t_inside, .int v_t_next, .int v_t_years, .ref a_t_sightSet, .ref a_t_sightMany, .int v_t_sights, .ref a_t_digits, .ref a_t_pad, .int v_t_padMany, .ref a_t_act, .ref a_t_who, .ref a_t_whom, .ref a_t_much, .int v_t_acts, .int v_t_givenNow, .int v_t_entered, .ref a_t_had, .int v_t_badAct, .int v_t_badWhy, .int v_t_firstAct, .int v_t_firstHouse, .ref a_t_dues, .ref a_t_groups, .ref a_t_ways, .ref a_t_fit, .int v_t_fitMany, .ref a_t_byMany, .ref a_t_kept, .ref a_t_isKept, .int v_t_keptAt, .int v_t_isWriting])), (a_t_who, .inl (cI, 60, .inl (upd g_t_who v_t_acts.toNatClampNeg (p1 - 65)))), (a_t_whom, .inl (cI, 60, .inl (upd g_t_whom v_t_acts.toNatClampNeg 0))), (a_t_much, .inl (cI, 60, .inl g_t_much)), (a_t_act, .inl (cI, 60, .inl g_t_act))] := hw
    refine lv_aload_n hx hb dX10_begin_36 rfl (lv_at hl 1 rfl) ?_
    refine k_get C hw (CC := RX10) (T := TX10) (N := 35) nX10_begin_X10 0 rfl rfl 16 (by decide) (List.mem_of_getElem? (i := 4) rfl) rfl rfl dX10_begin_37 ?_
    refine lv_aload_n hx hb dX10_begin_40 rfl (lv_at hl 1 rfl) ?_
    refine k_get C hw (CC := RX10) (T := TX10) (N := 35) nX10_begin_X10 0 rfl rfl 17 (by decide) (List.mem_of_getElem? (i := 2) rfl) rfl rfl dX10_begin_41 ?_
    refine lv_iconst (v := 0) hx hb dX10_begin_44 (by decide) ?_
    obtain ⟨h14, hok⟩ := hok
    refine k_iast C hw 3 rfl h14 dX10_begin_45 (fun H locs hw => ?_)
    replace hw : kW D _ s H locs [(a_t, .inr (10, [.ref a_t_wealth, .ref a_t_given, .ref a_t_chart, .ref a_t_relatives, .int v_t_inside, .int v_t_next, .int v_t_years, .ref a_t_sightSet, .ref a_t_sightMany, .int v_t_sights, .ref a_t_digits, .ref a_t_pad, .int v_t_padMany, .ref a_t_act, .ref a_t_who, .ref a_t_whom, .ref a_t_much, .int v_t_acts, .int v_t_givenNow, .int v_t_entered, .ref a_t_had, .int v_t_badAct, .int v_t_badWhy, .int v_t_firstAct, .int v_t_firstHouse, .ref a_t_dues, .ref a_t_groups, .ref a_t_ways, .ref a_t_fit, .int v_t_fitMany, .ref a_t_byMany, .ref a_t_kept, .ref a_t_isKept, .int v_t_keptAt, .int v_t_isWriting])), (a_t_who, .inl (cI, 60, .inl (upd g_t_who v_t_acts.toNatClampNeg (p1 - 65)))), (a_t_whom, .inl (cI, 60, .inl (upd g_t_whom v_t_acts.toNatClampNeg 0))), (a_t_much, .inl (cI, 60, .inl (upd g_t_much v_t_acts.toNatClampNeg 0))), (a_t_act, .inl (cI, 60, .inl g_t_act))] := hw
    refine lv_iload_n hx hb dX10_begin_46 rfl (lv_at hl 0 rfl) ?_
    refine lv_if_eq (tgt := 54) hx hb dX10_begin_47 (by decide) (fun c15 => ?_) (fun c15 => ?_)
    · replace hok := Eq.mp (if_pos c15) hok
      refine lv_iload_n hx hb dX10_begin_54 rfl (lv_at hl 2 rfl) ?_
      refine lv_bipush (v := 120) hx hb dX10_begin_55 (by decide) ?_
      refine lv_icmp_ne (tgt := 64) hx hb dX10_begin_57 (by decide) (fun c16 => ?_) (fun c16 => ?_)
      · replace hok := Eq.mp (if_neg c16) hok
        refine lv_iload_n hx hb dX10_begin_64 rfl (lv_at hl 2 rfl) ?_
        refine lv_bipush (v := 46) hx hb dX10_begin_65 (by decide) ?_
        refine lv_icmp_ne (tgt := 78) hx hb dX10_begin_67 (by decide) (fun c17 => ?_) (fun c17 => ?_)
        · refine lv_bipush (v := (-6)) hx hb dX10_begin_78 (by decide) ?_
          rw [show f_X10_begin v_t_acts g_t_who g_t_whom g_t_much g_t_act p1 = ((-6), v_t_acts, (upd g_t_who v_t_acts.toNatClampNeg (p1 - 65)), (upd g_t_whom v_t_acts.toNatClampNeg 0), (upd g_t_much v_t_acts.toNatClampNeg 0), g_t_act) from by
              unfold f_X10_begin
              exact (if_neg c2).trans ((if_pos c15).trans ((if_neg c16).trans ((if_neg c17).trans (rfl))))]
          exact k_iret C hr hw dX10_begin_80
        · replace hok := Eq.mp (if_pos c17) hok
          refine lv_aload_n hx hb dX10_begin_70 rfl (lv_at hl 1 rfl) ?_
          refine lv_iconst (v := 4) hx hb dX10_begin_71 (by decide) ?_
          obtain ⟨h18, hok⟩ := hok
          refine k_callV (As := [.int 4]) (rest := []) (n := 1) (CC := RX10) (T := TX10) (N := 35) C hw (T_X10_close l D cI cZ a_t a_t_wealth a_t_given a_t_chart a_t_relatives a_t_sightSet a_t_sightMany a_t_digits a_t_pad a_t_act a_t_who a_t_whom a_t_much a_t_had a_t_dues a_t_groups a_t_ways a_t_fit a_t_byMany a_t_kept a_t_isKept v_t_inside v_t_next v_t_years v_t_sights v_t_padMany v_t_acts v_t_givenNow v_t_entered v_t_badAct v_t_badWhy v_t_firstAct v_t_firstHouse v_t_fitMany v_t_keptAt v_t_isWriting g_t_act (4 : Int32) h18) gX10_begin_X10_close rfl ⟨rfl, rfl⟩ (by decide +kernel) ⟨Nat.le_of_ble_eq_true rfl, Nat.le_of_ble_eq_true rfl⟩ 0 rfl rfl [0, 4] rfl rfl [a_t, a_t_act] rfl rfl rfl hl.1 rfl (Nat.le_of_ble_eq_true rfl) ⟨Nat.zero_le _, Nat.zero_le _⟩ dX10_begin_72 (fun H locs hw => ?_)
          obtain ⟨z19, h20⟩ : ∃ z, (f_X10_close v_t_acts g_t_act (4 : Int32)) = z := ⟨_, rfl⟩
          refine W.eq (g2 := F0 m 75 ls [.int z19.1]) (by subst h20; rfl) ?_
          replace hw := kW_cast (ws' := [(a_t, .inr (10, [.ref a_t_wealth, .ref a_t_given, .ref a_t_chart, .ref a_t_relatives, .int v_t_inside, .int v_t_next, .int v_t_years, .ref a_t_sightSet, .ref a_t_sightMany, .int v_t_sights, .ref a_t_digits, .ref a_t_pad, .int v_t_padMany, .ref a_t_act, .ref a_t_who, .ref a_t_whom, .ref a_t_much, .int z19.2.1, .int v_t_givenNow, .int v_t_entered, .ref a_t_had, .int v_t_badAct, .int v_t_badWhy, .int v_t_firstAct, .int v_t_firstHouse, .ref a_t_dues, .ref a_t_groups, .ref a_t_ways, .ref a_t_fit, .int v_t_fitMany, .ref a_t_byMany, .ref a_t_kept, .ref a_t_isKept, .int v_t_keptAt, .int v_t_isWriting])), (a_t_who, .inl (cI, 60, .inl (upd g_t_who v_t_acts.toNatClampNeg (p1 - 65)))), (a_t_whom, .inl (cI, 60, .inl (upd g_t_whom v_t_acts.toNatClampNeg 0))), (a_t_much, .inl (cI, 60, .inl (upd g_t_much v_t_acts.toNatClampNeg 0))), (a_t_act, .inl (cI, 60, .inl z19.2.2))]) (by subst h20; rfl) hw
          refine lv_goto (tgt := 80) hx hb dX10_begin_75 (by decide) ?_
          rw [show f_X10_begin v_t_acts g_t_who g_t_whom g_t_much g_t_act p1 = (z19.1, z19.2.1, (upd g_t_who v_t_acts.toNatClampNeg (p1 - 65)), (upd g_t_whom v_t_acts.toNatClampNeg 0), (upd g_t_much v_t_acts.toNatClampNeg 0), z19.2.2) from by
              unfold f_X10_begin
              exact (if_neg c2).trans ((if_pos c15).trans ((if_neg c16).trans ((if_pos c17).trans ((lt_c h20).trans (rfl)))))]
          exact k_iret C hr hw dX10_begin_80
      · refine lv_iconst (v := 4) hx hb dX10_begin_60 (by decide) ?_
        refine lv_goto (tgt := 80) hx hb dX10_begin_61 (by decide) ?_
        rw [show f_X10_begin v_t_acts g_t_who g_t_whom g_t_much g_t_act p1 = (4, v_t_acts, (upd g_t_who v_t_acts.toNatClampNeg (p1 - 65)), (upd g_t_whom v_t_acts.toNatClampNeg 0), (upd g_t_much v_t_acts.toNatClampNeg 0), g_t_act) from by
            unfold f_X10_begin
            exact (if_neg c2).trans ((if_pos c15).trans ((if_pos c16).trans (rfl)))]
        exact k_iret C hr hw dX10_begin_80
    · refine lv_iconst (v := 1) hx hb dX10_begin_50 (by decide) ?_
      refine lv_goto (tgt := 80) hx hb dX10_begin_51 (by decide) ?_
      rw [show f_X10_begin v_t_acts g_t_who g_t_whom g_t_much g_t_act p1 = (1, v_t_acts, (upd g_t_who v_t_acts.toNatClampNeg (p1 - 65)), (upd g_t_whom v_t_acts.toNatClampNeg 0), (upd g_t_much v_t_acts.toNatClampNeg 0), g_t_act) from by
          unfold f_X10_begin
          exact (if_neg c2).trans ((if_neg c15).trans (rfl))]
      exact k_iret C hr hw dX10_begin_80

def f_X10_deed (v_t_acts : Int32) (g_t_act : (Nat → Int32)) (p1 : Int32) : Int32 × Int32 × (Nat → Int32) := (if p1 = 94 then (lt (f_X10_close v_t_acts g_t_act (0 : Int32)) (fun z8 => (z8.1, z8.2.1, z8.2.2))) else (if p1 = 95 then (lt (f_X10_close v_t_acts g_t_act (1 : Int32)) (fun z5 => (z5.1, z5.2.1, z5.2.2))) else (if p1 = 62 then (2, v_t_acts, g_t_act) else ((-6), v_t_acts, g_t_act))))
def o_X10_deed (v_t_acts : Int32) (p1 : Int32) : Prop := (if p1 = 94 then ((o_X10_close v_t_acts) ∧ True) else (if p1 = 95 then ((o_X10_close v_t_acts) ∧ True) else True))
set_option maxHeartbeats 4000000 in
set_option maxRecDepth 100000 in
theorem T_X10_deed (l : Launch) (D : va_G) (cI cZ : ClassId) (a_t a_t_wealth a_t_given a_t_chart a_t_relatives a_t_sightSet a_t_sightMany a_t_digits a_t_pad a_t_act a_t_who a_t_whom a_t_much a_t_had a_t_dues a_t_groups a_t_ways a_t_fit a_t_byMany a_t_kept a_t_isKept : Nat) (v_t_inside : Int32) (v_t_next : Int32) (v_t_years : Int32) (v_t_sights : Int32) (v_t_padMany : Int32) (v_t_acts : Int32) (v_t_givenNow : Int32) (v_t_entered : Int32) (v_t_badAct : Int32) (v_t_badWhy : Int32) (v_t_firstAct : Int32) (v_t_firstHouse : Int32) (v_t_fitMany : Int32) (v_t_keptAt : Int32) (v_t_isWriting : Int32) (g_t_act : (Nat → Int32)) (p1 : Int32) (hok : o_X10_deed v_t_acts p1) : CT l D cI cZ yX10_deed wsX10_deed ({ frames := 1, cells := 0, slots := 0, locals := 21 }) [.ref a_t, .int p1] [(a_t, .inr (10, [.ref a_t_wealth, .ref a_t_given, .ref a_t_chart, .ref a_t_relatives, .int v_t_inside, .int v_t_next, .int v_t_years, .ref a_t_sightSet, .ref a_t_sightMany, .int v_t_sights, .ref a_t_digits, .ref a_t_pad, .int v_t_padMany, .ref a_t_act, .ref a_t_who, .ref a_t_whom, .ref a_t_much, .int v_t_acts, .int v_t_givenNow, .int v_t_entered, .ref a_t_had, .int v_t_badAct, .int v_t_badWhy, .int v_t_firstAct, .int v_t_firstHouse, .ref a_t_dues, .ref a_t_groups, .ref a_t_ways, .ref a_t_fit, .int v_t_fitMany, .ref a_t_byMany, .ref a_t_kept, .ref a_t_isKept, .int v_t_keptAt, .int v_t_isWriting])), (a_t_act, .inl (cI, 60, .inl g_t_act))] (some (.int (f_X10_deed v_t_acts g_t_act p1).1)) [(a_t, .inr (10, [.ref a_t_wealth, .ref a_t_given, .ref a_t_chart, .ref a_t_relatives, .int v_t_inside, .int v_t_next, .int v_t_years, .ref a_t_sightSet, .ref a_t_sightMany, .int v_t_sights, .ref a_t_digits, .ref a_t_pad, .int v_t_padMany, .ref a_t_act, .ref a_t_who, .ref a_t_whom, .ref a_t_much, .int (f_X10_deed v_t_acts g_t_act p1).2.1, .int v_t_givenNow, .int v_t_entered, .ref a_t_had, .int v_t_badAct, .int v_t_badWhy, .int v_t_firstAct, .int v_t_firstHouse, .ref a_t_dues, .ref a_t_groups, .ref a_t_ways, .ref a_t_fit, .int v_t_fitMany, .ref a_t_byMany, .ref a_t_kept, .ref a_t_isKept, .int v_t_keptAt, .int v_t_isWriting])), (a_t_act, .inl (cI, 60, .inl (f_X10_deed v_t_acts g_t_act p1).2.2))] := by
  refine CT.intro RX10 (by decide) rfl (Nat.le_of_ble_eq_true rfl) rfl ?_
  intro p e s m below meth c C hr hw ls hl
  have hx := C.hx
  have hb := C.hb
  replace hl : lv_has ls 2 [(0, .ref a_t), (1, .int p1)] := hl
  refine lv_iload_n hx hb dX10_deed_0 rfl (lv_at hl 1 rfl) ?_
  refine lv_bipush (v := 94) hx hb dX10_deed_1 (by decide) ?_
  refine lv_icmp_ne (tgt := 14) hx hb dX10_deed_3 (by decide) (fun c1 => ?_) (fun c1 => ?_)
  · replace hok := Eq.mp (if_neg c1) hok
    refine lv_iload_n hx hb dX10_deed_14 rfl (lv_at hl 1 rfl) ?_
    refine lv_bipush (v := 95) hx hb dX10_deed_15 (by decide) ?_
    refine lv_icmp_ne (tgt := 28) hx hb dX10_deed_17 (by decide) (fun c2 => ?_) (fun c2 => ?_)
    · refine lv_iload_n hx hb dX10_deed_28 rfl (lv_at hl 1 rfl) ?_
      refine lv_bipush (v := 62) hx hb dX10_deed_29 (by decide) ?_
      refine lv_icmp_ne (tgt := 38) hx hb dX10_deed_31 (by decide) (fun c3 => ?_) (fun c3 => ?_)
      · refine lv_bipush (v := (-6)) hx hb dX10_deed_38 (by decide) ?_
        rw [show f_X10_deed v_t_acts g_t_act p1 = ((-6), v_t_acts, g_t_act) from by
            unfold f_X10_deed
            exact (if_neg c1).trans ((if_neg c2).trans ((if_neg c3).trans (rfl)))]
        exact k_iret C hr hw dX10_deed_40
      · refine lv_iconst (v := 2) hx hb dX10_deed_34 (by decide) ?_
        refine lv_goto (tgt := 40) hx hb dX10_deed_35 (by decide) ?_
        rw [show f_X10_deed v_t_acts g_t_act p1 = (2, v_t_acts, g_t_act) from by
            unfold f_X10_deed
            exact (if_neg c1).trans ((if_neg c2).trans ((if_pos c3).trans (rfl)))]
        exact k_iret C hr hw dX10_deed_40
    · replace hok := Eq.mp (if_pos c2) hok
      refine lv_aload_n hx hb dX10_deed_20 rfl (lv_at hl 0 rfl) ?_
      refine lv_iconst (v := 1) hx hb dX10_deed_21 (by decide) ?_
      obtain ⟨h4, hok⟩ := hok
      refine k_callV (As := [.int 1]) (rest := []) (n := 1) (CC := RX10) (T := TX10) (N := 35) C hw (T_X10_close l D cI cZ a_t a_t_wealth a_t_given a_t_chart a_t_relatives a_t_sightSet a_t_sightMany a_t_digits a_t_pad a_t_act a_t_who a_t_whom a_t_much a_t_had a_t_dues a_t_groups a_t_ways a_t_fit a_t_byMany a_t_kept a_t_isKept v_t_inside v_t_next v_t_years v_t_sights v_t_padMany v_t_acts v_t_givenNow v_t_entered v_t_badAct v_t_badWhy v_t_firstAct v_t_firstHouse v_t_fitMany v_t_keptAt v_t_isWriting g_t_act (1 : Int32) h4) gX10_deed_X10_close rfl ⟨rfl, rfl⟩ (by decide +kernel) ⟨Nat.le_of_ble_eq_true rfl, Nat.le_of_ble_eq_true rfl⟩ 0 rfl rfl [0, 1] rfl rfl [a_t, a_t_act] rfl rfl rfl hl.1 rfl (Nat.le_of_ble_eq_true rfl) ⟨Nat.zero_le _, Nat.zero_le _⟩ dX10_deed_22 (fun H locs hw => ?_)
      obtain ⟨z5, h6⟩ : ∃ z, (f_X10_close v_t_acts g_t_act (1 : Int32)) = z := ⟨_, rfl⟩
      refine W.eq (g2 := F0 m 25 ls [.int z5.1]) (by subst h6; rfl) ?_
      replace hw := kW_cast (ws' := [(a_t, .inr (10, [.ref a_t_wealth, .ref a_t_given, .ref a_t_chart, .ref a_t_relatives, .int v_t_inside, .int v_t_next, .int v_t_years, .ref a_t_sightSet, .ref a_t_sightMany, .int v_t_sights, .ref a_t_digits, .ref a_t_pad, .int v_t_padMany, .ref a_t_act, .ref a_t_who, .ref a_t_whom, .ref a_t_much, .int z5.2.1, .int v_t_givenNow, .int v_t_entered, .ref a_t_had, .int v_t_badAct, .int v_t_badWhy, .int v_t_firstAct, .int v_t_firstHouse, .ref a_t_dues, .ref a_t_groups, .ref a_t_ways, .ref a_t_fit, .int v_t_fitMany, .ref a_t_byMany, .ref a_t_kept, .ref a_t_isKept, .int v_t_keptAt, .int v_t_isWriting])), (a_t_act, .inl (cI, 60, .inl z5.2.2))]) (by subst h6; rfl) hw
      refine lv_goto (tgt := 40) hx hb dX10_deed_25 (by decide) ?_
      rw [show f_X10_deed v_t_acts g_t_act p1 = (z5.1, z5.2.1, z5.2.2) from by
          unfold f_X10_deed
          exact (if_neg c1).trans ((if_pos c2).trans ((lt_c h6).trans (rfl)))]
      exact k_iret C hr hw dX10_deed_40
  · replace hok := Eq.mp (if_pos c1) hok
    refine lv_aload_n hx hb dX10_deed_6 rfl (lv_at hl 0 rfl) ?_
    refine lv_iconst (v := 0) hx hb dX10_deed_7 (by decide) ?_
    obtain ⟨h7, hok⟩ := hok
    refine k_callV (As := [.int 0]) (rest := []) (n := 1) (CC := RX10) (T := TX10) (N := 35) C hw (T_X10_close l D cI cZ a_t a_t_wealth a_t_given a_t_chart a_t_relatives a_t_sightSet a_t_sightMany a_t_digits a_t_pad a_t_act a_t_who a_t_whom a_t_much a_t_had a_t_dues a_t_groups a_t_ways a_t_fit a_t_byMany a_t_kept a_t_isKept v_t_inside v_t_next v_t_years v_t_sights v_t_padMany v_t_acts v_t_givenNow v_t_entered v_t_badAct v_t_badWhy v_t_firstAct v_t_firstHouse v_t_fitMany v_t_keptAt v_t_isWriting g_t_act (0 : Int32) h7) gX10_deed_X10_close rfl ⟨rfl, rfl⟩ (by decide +kernel) ⟨Nat.le_of_ble_eq_true rfl, Nat.le_of_ble_eq_true rfl⟩ 0 rfl rfl [0, 1] rfl rfl [a_t, a_t_act] rfl rfl rfl hl.1 rfl (Nat.le_of_ble_eq_true rfl) ⟨Nat.zero_le _, Nat.zero_le _⟩ dX10_deed_8 (fun H locs hw => ?_)
    obtain ⟨z8, h9⟩ : ∃ z, (f_X10_close v_t_acts g_t_act (0 : Int32)) = z := ⟨_, rfl⟩
    refine W.eq (g2 := F0 m 11 ls [.int z8.1]) (by subst h9; rfl) ?_
    replace hw := kW_cast (ws' := [(a_t, .inr (10, [.ref a_t_wealth, .ref a_t_given, .ref a_t_chart, .ref a_t_relatives, .int v_t_inside, .int v_t_next, .int v_t_years, .ref a_t_sightSet, .ref a_t_sightMany, .int v_t_sights, .ref a_t_digits, .ref a_t_pad, .int v_t_padMany, .ref a_t_act, .ref a_t_who, .ref a_t_whom, .ref a_t_much, .int z8.2.1, .int v_t_givenNow, .int v_t_entered, .ref a_t_had, .int v_t_badAct, .int v_t_badWhy, .int v_t_firstAct, .int v_t_firstHouse, .ref a_t_dues, .ref a_t_groups, .ref a_t_ways, .ref a_t_fit, .int v_t_fitMany, .ref a_t_byMany, .ref a_t_kept, .ref a_t_isKept, .int v_t_keptAt, .int v_t_isWriting])), (a_t_act, .inl (cI, 60, .inl z8.2.2))]) (by subst h9; rfl) hw
    refine lv_goto (tgt := 40) hx hb dX10_deed_11 (by decide) ?_
    rw [show f_X10_deed v_t_acts g_t_act p1 = (z8.1, z8.2.1, z8.2.2) from by
        unfold f_X10_deed
        exact (if_pos c1).trans ((lt_c h9).trans (rfl))]
    exact k_iret C hr hw dX10_deed_40

theorem nX10_name_X10 : ∀ w ∈ wsX100, w ∈ wsX10_name := fun _ h => List.mem_cons_of_mem _ (List.mem_append_right _ h)
def f_X10_name (v_t_acts : Int32) (g_t_whom : (Nat → Int32)) (g_t_act : (Nat → Int32)) (g_t_who : (Nat → Int32)) (p1 : Int32) (p2 : Int32) : Int32 × Int32 × (Nat → Int32) × (Nat → Int32) × (Nat → Int32) := (if (f_X10_isName p2) = 0 then ((-6), v_t_acts, g_t_whom, g_t_act, g_t_who) else (if p1 = 4 then (5, v_t_acts, g_t_whom, g_t_act, (upd g_t_who v_t_acts.toNatClampNeg (p2 - 65))) else (if p1 = 2 then (3, v_t_acts, (upd g_t_whom v_t_acts.toNatClampNeg (p2 - 65)), g_t_act, g_t_who) else (lt (f_X10_close v_t_acts g_t_act (3 : Int32)) (fun z7 => (z7.1, z7.2.1, (upd g_t_whom v_t_acts.toNatClampNeg (p2 - 65)), z7.2.2, g_t_who))))))
def o_X10_name (v_t_acts : Int32) (p1 : Int32) (p2 : Int32) : Prop := ((o_X10_isName p2) ∧ (if (f_X10_isName p2) = 0 then True else (if p1 = 4 then ((vp_in v_t_acts 60) ∧ True) else ((vp_in v_t_acts 60) ∧ (if p1 = 2 then True else ((o_X10_close v_t_acts) ∧ True))))))
set_option maxHeartbeats 4000000 in
set_option maxRecDepth 100000 in
theorem T_X10_name (l : Launch) (D : va_G) (cI cZ : ClassId) (a_t a_t_wealth a_t_given a_t_chart a_t_relatives a_t_sightSet a_t_sightMany a_t_digits a_t_pad a_t_act a_t_who a_t_whom a_t_much a_t_had a_t_dues a_t_groups a_t_ways a_t_fit a_t_byMany a_t_kept a_t_isKept : Nat) (v_t_inside : Int32) (v_t_next : Int32) (v_t_years : Int32) (v_t_sights : Int32) (v_t_padMany : Int32) (v_t_acts : Int32) (v_t_givenNow : Int32) (v_t_entered : Int32) (v_t_badAct : Int32) (v_t_badWhy : Int32) (v_t_firstAct : Int32) (v_t_firstHouse : Int32) (v_t_fitMany : Int32) (v_t_keptAt : Int32) (v_t_isWriting : Int32) (g_t_whom : (Nat → Int32)) (g_t_act : (Nat → Int32)) (g_t_who : (Nat → Int32)) (p1 : Int32) (p2 : Int32) (hok : o_X10_name v_t_acts p1 p2) : CT l D cI cZ yX10_name wsX10_name ({ frames := 2, cells := 0, slots := 0, locals := 45 }) [.ref a_t, .int p1, .int p2] [(a_t, .inr (10, [.ref a_t_wealth, .ref a_t_given, .ref a_t_chart, .ref a_t_relatives, .int v_t_inside, .int v_t_next, .int v_t_years, .ref a_t_sightSet, .ref a_t_sightMany, .int v_t_sights, .ref a_t_digits, .ref a_t_pad, .int v_t_padMany, .ref a_t_act, .ref a_t_who, .ref a_t_whom, .ref a_t_much, .int v_t_acts, .int v_t_givenNow, .int v_t_entered, .ref a_t_had, .int v_t_badAct, .int v_t_badWhy, .int v_t_firstAct, .int v_t_firstHouse, .ref a_t_dues, .ref a_t_groups, .ref a_t_ways, .ref a_t_fit, .int v_t_fitMany, .ref a_t_byMany, .ref a_t_kept, .ref a_t_isKept, .int v_t_keptAt, .int v_t_isWriting])), (a_t_whom, .inl (cI, 60, .inl g_t_whom)), (a_t_act, .inl (cI, 60, .inl g_t_act)), (a_t_who, .inl (cI, 60, .inl g_t_who))] (some (.int (f_X10_name v_t_acts g_t_whom g_t_act g_t_who p1 p2).1)) [(a_t, .inr (10, [.ref a_t_wealth, .ref a_t_given, .ref a_t_chart, .ref a_t_relatives, .int v_t_inside, .int v_t_next, .int v_t_years, .ref a_t_sightSet, .ref a_t_sightMany, .int v_t_sights, .ref a_t_digits, .ref a_t_pad, .int v_t_padMany, .ref a_t_act, .ref a_t_who, .ref a_t_whom, .ref a_t_much, .int (f_X10_name v_t_acts g_t_whom g_t_act g_t_who p1 p2).2.1, .int v_t_givenNow, .int v_t_entered, .ref a_t_had, .int v_t_badAct, .int v_t_badWhy, .int v_t_firstAct, .int v_t_firstHouse, .ref a_t_dues, .ref a_t_groups, .ref a_t_ways, .ref a_t_fit, .int v_t_fitMany, .ref a_t_byMany, .ref a_t_kept, .ref a_t_isKept, .int v_t_keptAt, .int v_t_isWriting])), (a_t_whom, .inl (cI, 60, .inl (f_X10_name v_t_acts g_t_whom g_t_act g_t_who p1 p2).2.2.1)), (a_t_act, .inl (cI, 60, .inl (f_X10_name v_t_acts g_t_whom g_t_act g_t_who p1 p2).2.2.2.1)), (a_t_who, .inl (cI, 60, .inl (f_X10_name v_t_acts g_t_whom g_t_act g_t_who p1 p2).2.2.2.2))] := by
  refine CT.intro RX10 (by decide) rfl (Nat.le_of_ble_eq_true rfl) rfl ?_
  intro p e s m below meth c C hr hw ls hl
  have hx := C.hx
  have hb := C.hb
  replace hl : lv_has ls 3 [(0, .ref a_t), (1, .int p1), (2, .int p2)] := hl
  refine lv_iload_n hx hb dX10_name_0 rfl (lv_at hl 2 rfl) ?_
  obtain ⟨h1, hok⟩ := hok
  refine k_callS (As := [.int p2]) (rest := []) (n := 1) C hw (T_X10_isName l D cI cZ p2 h1) gX10_name_X10_isName rfl ⟨rfl, rfl⟩ (by decide +kernel) ⟨Nat.le_of_ble_eq_true rfl, Nat.le_of_ble_eq_true rfl⟩ [] rfl rfl [] rfl rfl rfl hl.1 rfl (Nat.le_of_ble_eq_true rfl) ⟨Nat.zero_le _, Nat.zero_le _⟩ dX10_name_1 (fun H locs hw => ?_)
  refine W.eq (g2 := F0 m 4 ls [.int (f_X10_isName p2)]) rfl ?_
  replace hw : kW D _ s H locs [(a_t, .inr (10, [.ref a_t_wealth, .ref a_t_given, .ref a_t_chart, .ref a_t_relatives, .int v_t_inside, .int v_t_next, .int v_t_years, .ref a_t_sightSet, .ref a_t_sightMany, .int v_t_sights, .ref a_t_digits, .ref a_t_pad, .int v_t_padMany, .ref a_t_act, .ref a_t_who, .ref a_t_whom, .ref a_t_much, .int v_t_acts, .int v_t_givenNow, .int v_t_entered, .ref a_t_had, .int v_t_badAct, .int v_t_badWhy, .int v_t_firstAct, .int v_t_firstHouse, .ref a_t_dues, .ref a_t_groups, .ref a_t_ways, .ref a_t_fit, .int v_t_fitMany, .ref a_t_byMany, .ref a_t_kept, .ref a_t_isKept, .int v_t_keptAt, .int v_t_isWriting])), (a_t_whom, .inl (cI, 60, .inl g_t_whom)), (a_t_act, .inl (cI, 60, .inl g_t_act)), (a_t_who, .inl (cI, 60, .inl g_t_who))] := hw
  refine lv_if_ne (tgt := 10) hx hb dX10_name_4 (by decide) (fun c2 => ?_) (fun c2 => ?_)
  · replace hok := Eq.mp (if_neg c2) hok
    refine lv_iload_n hx hb dX10_name_10 rfl (lv_at hl 1 rfl) ?_
    refine lv_iconst (v := 4) hx hb dX10_name_11 (by decide) ?_
    refine lv_icmp_ne (tgt := 30) hx hb dX10_name_12 (by decide) (fun c3 => ?_) (fun c3 => ?_)
    · replace hok := Eq.mp (if_neg c3) hok
      refine lv_aload_n hx hb dX10_name_30 rfl (lv_at hl 0 rfl) ?_
      refine k_get C hw (CC := RX10) (T := TX10) (N := 35) nX10_name_X10 0 rfl rfl 15 (by decide) (List.mem_of_getElem? (i := 3) rfl) rfl rfl dX10_name_31 ?_
      refine lv_aload_n hx hb dX10_name_34 rfl (lv_at hl 0 rfl) ?_
      refine k_get C hw (CC := RX10) (T := TX10) (N := 35) nX10_name_X10 0 rfl rfl 17 (by decide) (List.mem_of_getElem? (i := 2) rfl) rfl rfl dX10_name_35 ?_
      refine lv_iload_n hx hb dX10_name_38 rfl (lv_at hl 2 rfl) ?_
      refine lv_bipush (v := 65) hx hb dX10_name_39 (by decide) ?_
      refine lv_isub hx hb dX10_name_41 ?_
      obtain ⟨h4, hok⟩ := hok
      refine k_iast C hw 1 rfl h4 dX10_name_42 (fun H locs hw => ?_)
      replace hw : kW D _ s H locs [(a_t, .inr (10, [.ref a_t_wealth, .ref a_t_given, .ref a_t_chart, .ref a_t_relatives, .int v_t_inside, .int v_t_next, .int v_t_years, .ref a_t_sightSet, .ref a_t_sightMany, .int v_t_sights, .ref a_t_digits, .ref a_t_pad, .int v_t_padMany, .ref a_t_act, .ref a_t_who, .ref a_t_whom, .ref a_t_much, .int v_t_acts, .int v_t_givenNow, .int v_t_entered, .ref a_t_had, .int v_t_badAct, .int v_t_badWhy, .int v_t_firstAct, .int v_t_firstHouse, .ref a_t_dues, .ref a_t_groups, .ref a_t_ways, .ref a_t_fit, .int v_t_fitMany, .ref a_t_byMany, .ref a_t_kept, .ref a_t_isKept, .int v_t_keptAt, .int v_t_isWriting])), (a_t_whom, .inl (cI, 60, .inl (upd g_t_whom v_t_acts.toNatClampNeg (p2 - 65)))), (a_t_act, .inl (cI, 60, .inl g_t_act)), (a_t_who, .inl (cI, 60, .inl g_t_who))] := hw
      refine lv_iload_n hx hb dX10_name_43 rfl (lv_at hl 1 rfl) ?_
      refine lv_iconst (v := 2) hx hb dX10_name_44 (by decide) ?_
      refine lv_icmp_ne (tgt := 52) hx hb dX10_name_45 (by decide) (fun c5 => ?_) (fun c5 => ?_)
      · replace hok := Eq.mp (if_neg c5) hok
        refine lv_aload_n hx hb dX10_name_52 rfl (lv_at hl 0 rfl) ?_
        refine lv_iconst (v := 3) hx hb dX10_name_53 (by decide) ?_
        obtain ⟨h6, hok⟩ := hok
        refine k_callV (As := [.int 3]) (rest := []) (n := 1) (CC := RX10) (T := TX10) (N := 35) C hw (T_X10_close l D cI cZ a_t a_t_wealth a_t_given a_t_chart a_t_relatives a_t_sightSet a_t_sightMany a_t_digits a_t_pad a_t_act a_t_who a_t_whom a_t_much a_t_had a_t_dues a_t_groups a_t_ways a_t_fit a_t_byMany a_t_kept a_t_isKept v_t_inside v_t_next v_t_years v_t_sights v_t_padMany v_t_acts v_t_givenNow v_t_entered v_t_badAct v_t_badWhy v_t_firstAct v_t_firstHouse v_t_fitMany v_t_keptAt v_t_isWriting g_t_act (3 : Int32) h6) gX10_name_X10_close rfl ⟨rfl, rfl⟩ (by decide +kernel) ⟨Nat.le_of_ble_eq_true rfl, Nat.le_of_ble_eq_true rfl⟩ 0 rfl rfl [0, 2] rfl rfl [a_t, a_t_act] rfl rfl rfl hl.1 rfl (Nat.le_of_ble_eq_true rfl) ⟨Nat.zero_le _, Nat.zero_le _⟩ dX10_name_54 (fun H locs hw => ?_)
        obtain ⟨z7, h8⟩ : ∃ z, (f_X10_close v_t_acts g_t_act (3 : Int32)) = z := ⟨_, rfl⟩
        refine W.eq (g2 := F0 m 57 ls [.int z7.1]) (by subst h8; rfl) ?_
        replace hw := kW_cast (ws' := [(a_t, .inr (10, [.ref a_t_wealth, .ref a_t_given, .ref a_t_chart, .ref a_t_relatives, .int v_t_inside, .int v_t_next, .int v_t_years, .ref a_t_sightSet, .ref a_t_sightMany, .int v_t_sights, .ref a_t_digits, .ref a_t_pad, .int v_t_padMany, .ref a_t_act, .ref a_t_who, .ref a_t_whom, .ref a_t_much, .int z7.2.1, .int v_t_givenNow, .int v_t_entered, .ref a_t_had, .int v_t_badAct, .int v_t_badWhy, .int v_t_firstAct, .int v_t_firstHouse, .ref a_t_dues, .ref a_t_groups, .ref a_t_ways, .ref a_t_fit, .int v_t_fitMany, .ref a_t_byMany, .ref a_t_kept, .ref a_t_isKept, .int v_t_keptAt, .int v_t_isWriting])), (a_t_whom, .inl (cI, 60, .inl (upd g_t_whom v_t_acts.toNatClampNeg (p2 - 65)))), (a_t_act, .inl (cI, 60, .inl z7.2.2)), (a_t_who, .inl (cI, 60, .inl g_t_who))]) (by subst h8; rfl) hw
        rw [show f_X10_name v_t_acts g_t_whom g_t_act g_t_who p1 p2 = (z7.1, z7.2.1, (upd g_t_whom v_t_acts.toNatClampNeg (p2 - 65)), z7.2.2, g_t_who) from by
            unfold f_X10_name
            exact (if_neg c2).trans ((if_neg c3).trans ((if_neg c5).trans ((lt_c h8).trans (rfl))))]
        exact k_iret C hr hw dX10_name_57
      · refine lv_iconst (v := 3) hx hb dX10_name_48 (by decide) ?_
        refine lv_goto (tgt := 57) hx hb dX10_name_49 (by decide) ?_
        rw [show f_X10_name v_t_acts g_t_whom g_t_act g_t_who p1 p2 = (3, v_t_acts, (upd g_t_whom v_t_acts.toNatClampNeg (p2 - 65)), g_t_act, g_t_who) from by
            unfold f_X10_name
            exact (if_neg c2).trans ((if_neg c3).trans ((if_pos c5).trans (rfl)))]
        exact k_iret C hr hw dX10_name_57
    · replace hok := Eq.mp (if_pos c3) hok
      refine lv_aload_n hx hb dX10_name_15 rfl (lv_at hl 0 rfl) ?_
      refine k_get C hw (CC := RX10) (T := TX10) (N := 35) nX10_name_X10 0 rfl rfl 14 (by decide) (List.mem_of_getElem? (i := 1) rfl) rfl rfl dX10_name_16 ?_
      refine lv_aload_n hx hb dX10_name_19 rfl (lv_at hl 0 rfl) ?_
      refine k_get C hw (CC := RX10) (T := TX10) (N := 35) nX10_name_X10 0 rfl rfl 17 (by decide) (List.mem_of_getElem? (i := 2) rfl) rfl rfl dX10_name_20 ?_
      refine lv_iload_n hx hb dX10_name_23 rfl (lv_at hl 2 rfl) ?_
      refine lv_bipush (v := 65) hx hb dX10_name_24 (by decide) ?_
      refine lv_isub hx hb dX10_name_26 ?_
      obtain ⟨h9, hok⟩ := hok
      refine k_iast C hw 3 rfl h9 dX10_name_27 (fun H locs hw => ?_)
      replace hw : kW D _ s H locs [(a_t, .inr (10, [.ref a_t_wealth, .ref a_t_given, .ref a_t_chart, .ref a_t_relatives, .int v_t_inside, .int v_t_next, .int v_t_years, .ref a_t_sightSet, .ref a_t_sightMany, .int v_t_sights, .ref a_t_digits, .ref a_t_pad, .int v_t_padMany, .ref a_t_act, .ref a_t_who, .ref a_t_whom, .ref a_t_much, .int v_t_acts, .int v_t_givenNow, .int v_t_entered, .ref a_t_had, .int v_t_badAct, .int v_t_badWhy, .int v_t_firstAct, .int v_t_firstHouse, .ref a_t_dues, .ref a_t_groups, .ref a_t_ways, .ref a_t_fit, .int v_t_fitMany, .ref a_t_byMany, .ref a_t_kept, .ref a_t_isKept, .int v_t_keptAt, .int v_t_isWriting])), (a_t_whom, .inl (cI, 60, .inl g_t_whom)), (a_t_act, .inl (cI, 60, .inl g_t_act)), (a_t_who, .inl (cI, 60, .inl (upd g_t_who v_t_acts.toNatClampNeg (p2 - 65))))] := hw
      refine lv_iconst (v := 5) hx hb dX10_name_28 (by decide) ?_
      rw [show f_X10_name v_t_acts g_t_whom g_t_act g_t_who p1 p2 = (5, v_t_acts, g_t_whom, g_t_act, (upd g_t_who v_t_acts.toNatClampNeg (p2 - 65))) from by
          unfold f_X10_name
          exact (if_neg c2).trans ((if_pos c3).trans (rfl))]
      exact k_iret C hr hw dX10_name_29
  · refine lv_bipush (v := (-6)) hx hb dX10_name_7 (by decide) ?_
    rw [show f_X10_name v_t_acts g_t_whom g_t_act g_t_who p1 p2 = ((-6), v_t_acts, g_t_whom, g_t_act, g_t_who) from by
        unfold f_X10_name
        exact (if_pos c2).trans (rfl)]
    exact k_iret C hr hw dX10_name_9

theorem nX10_amount_X10 : ∀ w ∈ wsX100, w ∈ wsX10_amount := fun _ h => List.mem_cons_of_mem _ (List.mem_append_right _ h)
def f_X10_amount (v_t_acts : Int32) (g_t_much : (Nat → Int32)) (g_t_act : (Nat → Int32)) (p1 : Int32) : Int32 × Int32 × (Nat → Int32) × (Nat → Int32) := (if (f_X10_in ((p1).toInt64) (49 : Int64) (57 : Int64)) = 0 then ((-6), v_t_acts, (upd g_t_much v_t_acts.toNatClampNeg (p1 - 48)), g_t_act) else (lt (f_X10_close v_t_acts g_t_act (2 : Int32)) (fun z4 => (z4.1, z4.2.1, (upd g_t_much v_t_acts.toNatClampNeg (p1 - 48)), z4.2.2))))
def o_X10_amount (v_t_acts : Int32) (p1 : Int32) : Prop := ((vp_in v_t_acts 60) ∧ (if (f_X10_in ((p1).toInt64) (49 : Int64) (57 : Int64)) = 0 then True else ((o_X10_close v_t_acts) ∧ True)))
set_option maxHeartbeats 4000000 in
set_option maxRecDepth 100000 in
theorem T_X10_amount (l : Launch) (D : va_G) (cI cZ : ClassId) (a_t a_t_wealth a_t_given a_t_chart a_t_relatives a_t_sightSet a_t_sightMany a_t_digits a_t_pad a_t_act a_t_who a_t_whom a_t_much a_t_had a_t_dues a_t_groups a_t_ways a_t_fit a_t_byMany a_t_kept a_t_isKept : Nat) (v_t_inside : Int32) (v_t_next : Int32) (v_t_years : Int32) (v_t_sights : Int32) (v_t_padMany : Int32) (v_t_acts : Int32) (v_t_givenNow : Int32) (v_t_entered : Int32) (v_t_badAct : Int32) (v_t_badWhy : Int32) (v_t_firstAct : Int32) (v_t_firstHouse : Int32) (v_t_fitMany : Int32) (v_t_keptAt : Int32) (v_t_isWriting : Int32) (g_t_much : (Nat → Int32)) (g_t_act : (Nat → Int32)) (p1 : Int32) (hok : o_X10_amount v_t_acts p1) : CT l D cI cZ yX10_amount wsX10_amount ({ frames := 1, cells := 0, slots := 0, locals := 25 }) [.ref a_t, .int p1] [(a_t, .inr (10, [.ref a_t_wealth, .ref a_t_given, .ref a_t_chart, .ref a_t_relatives, .int v_t_inside, .int v_t_next, .int v_t_years, .ref a_t_sightSet, .ref a_t_sightMany, .int v_t_sights, .ref a_t_digits, .ref a_t_pad, .int v_t_padMany, .ref a_t_act, .ref a_t_who, .ref a_t_whom, .ref a_t_much, .int v_t_acts, .int v_t_givenNow, .int v_t_entered, .ref a_t_had, .int v_t_badAct, .int v_t_badWhy, .int v_t_firstAct, .int v_t_firstHouse, .ref a_t_dues, .ref a_t_groups, .ref a_t_ways, .ref a_t_fit, .int v_t_fitMany, .ref a_t_byMany, .ref a_t_kept, .ref a_t_isKept, .int v_t_keptAt, .int v_t_isWriting])), (a_t_much, .inl (cI, 60, .inl g_t_much)), (a_t_act, .inl (cI, 60, .inl g_t_act))] (some (.int (f_X10_amount v_t_acts g_t_much g_t_act p1).1)) [(a_t, .inr (10, [.ref a_t_wealth, .ref a_t_given, .ref a_t_chart, .ref a_t_relatives, .int v_t_inside, .int v_t_next, .int v_t_years, .ref a_t_sightSet, .ref a_t_sightMany, .int v_t_sights, .ref a_t_digits, .ref a_t_pad, .int v_t_padMany, .ref a_t_act, .ref a_t_who, .ref a_t_whom, .ref a_t_much, .int (f_X10_amount v_t_acts g_t_much g_t_act p1).2.1, .int v_t_givenNow, .int v_t_entered, .ref a_t_had, .int v_t_badAct, .int v_t_badWhy, .int v_t_firstAct, .int v_t_firstHouse, .ref a_t_dues, .ref a_t_groups, .ref a_t_ways, .ref a_t_fit, .int v_t_fitMany, .ref a_t_byMany, .ref a_t_kept, .ref a_t_isKept, .int v_t_keptAt, .int v_t_isWriting])), (a_t_much, .inl (cI, 60, .inl (f_X10_amount v_t_acts g_t_much g_t_act p1).2.2.1)), (a_t_act, .inl (cI, 60, .inl (f_X10_amount v_t_acts g_t_much g_t_act p1).2.2.2))] := by
  refine CT.intro RX10 (by decide) rfl (Nat.le_of_ble_eq_true rfl) rfl ?_
  intro p e s m below meth c C hr hw ls hl
  have hx := C.hx
  have hb := C.hb
  replace hl : lv_has ls 2 [(0, .ref a_t), (1, .int p1)] := hl
  refine lv_aload_n hx hb dX10_amount_0 rfl (lv_at hl 0 rfl) ?_
  refine k_get C hw (CC := RX10) (T := TX10) (N := 35) nX10_amount_X10 0 rfl rfl 16 (by decide) (List.mem_of_getElem? (i := 1) rfl) rfl rfl dX10_amount_1 ?_
  refine lv_aload_n hx hb dX10_amount_4 rfl (lv_at hl 0 rfl) ?_
  refine k_get C hw (CC := RX10) (T := TX10) (N := 35) nX10_amount_X10 0 rfl rfl 17 (by decide) (List.mem_of_getElem? (i := 2) rfl) rfl rfl dX10_amount_5 ?_
  refine lv_iload_n hx hb dX10_amount_8 rfl (lv_at hl 1 rfl) ?_
  refine lv_bipush (v := 48) hx hb dX10_amount_9 (by decide) ?_
  refine lv_isub hx hb dX10_amount_11 ?_
  obtain ⟨h1, hok⟩ := hok
  refine k_iast C hw 1 rfl h1 dX10_amount_12 (fun H locs hw => ?_)
  replace hw : kW D _ s H locs [(a_t, .inr (10, [.ref a_t_wealth, .ref a_t_given, .ref a_t_chart, .ref a_t_relatives, .int v_t_inside, .int v_t_next, .int v_t_years, .ref a_t_sightSet, .ref a_t_sightMany, .int v_t_sights, .ref a_t_digits, .ref a_t_pad, .int v_t_padMany, .ref a_t_act, .ref a_t_who, .ref a_t_whom, .ref a_t_much, .int v_t_acts, .int v_t_givenNow, .int v_t_entered, .ref a_t_had, .int v_t_badAct, .int v_t_badWhy, .int v_t_firstAct, .int v_t_firstHouse, .ref a_t_dues, .ref a_t_groups, .ref a_t_ways, .ref a_t_fit, .int v_t_fitMany, .ref a_t_byMany, .ref a_t_kept, .ref a_t_isKept, .int v_t_keptAt, .int v_t_isWriting])), (a_t_much, .inl (cI, 60, .inl (upd g_t_much v_t_acts.toNatClampNeg (p1 - 48)))), (a_t_act, .inl (cI, 60, .inl g_t_act))] := hw
  refine lv_iload_n hx hb dX10_amount_13 rfl (lv_at hl 1 rfl) ?_
  refine lv_i2l (v := ((p1).toInt64)) hx hb dX10_amount_14 rfl ?_
  refine lv_ldc2 (v := 49) hx hb C.hown (C.hts _ (List.mem_of_getElem? (i := 3) rfl)) dX10_amount_15 ?_
  refine lv_ldc2 (v := 57) hx hb C.hown (C.hts _ (List.mem_of_getElem? (i := 4) rfl)) dX10_amount_18 ?_
  refine k_callS (As := [.long ((p1).toInt64), .long 49, .long 57]) (rest := []) (n := 3) C hw (T_X10_in l D cI cZ ((p1).toInt64) (49 : Int64) (57 : Int64)) gX10_amount_X10_in rfl ⟨rfl, rfl⟩ (by decide +kernel) ⟨Nat.le_of_ble_eq_true rfl, Nat.le_of_ble_eq_true rfl⟩ [] rfl rfl [] rfl rfl rfl hl.1 rfl (Nat.le_of_ble_eq_true rfl) ⟨Nat.zero_le _, Nat.zero_le _⟩ dX10_amount_21 (fun H locs hw => ?_)
  refine W.eq (g2 := F0 m 24 ls [.int (f_X10_in ((p1).toInt64) (49 : Int64) (57 : Int64))]) rfl ?_
  replace hw : kW D _ s H locs [(a_t, .inr (10, [.ref a_t_wealth, .ref a_t_given, .ref a_t_chart, .ref a_t_relatives, .int v_t_inside, .int v_t_next, .int v_t_years, .ref a_t_sightSet, .ref a_t_sightMany, .int v_t_sights, .ref a_t_digits, .ref a_t_pad, .int v_t_padMany, .ref a_t_act, .ref a_t_who, .ref a_t_whom, .ref a_t_much, .int v_t_acts, .int v_t_givenNow, .int v_t_entered, .ref a_t_had, .int v_t_badAct, .int v_t_badWhy, .int v_t_firstAct, .int v_t_firstHouse, .ref a_t_dues, .ref a_t_groups, .ref a_t_ways, .ref a_t_fit, .int v_t_fitMany, .ref a_t_byMany, .ref a_t_kept, .ref a_t_isKept, .int v_t_keptAt, .int v_t_isWriting])), (a_t_much, .inl (cI, 60, .inl (upd g_t_much v_t_acts.toNatClampNeg (p1 - 48)))), (a_t_act, .inl (cI, 60, .inl g_t_act))] := hw
  refine lv_if_eq (tgt := 35) hx hb dX10_amount_24 (by decide) (fun c2 => ?_) (fun c2 => ?_)
  · refine lv_bipush (v := (-6)) hx hb dX10_amount_35 (by decide) ?_
    rw [show f_X10_amount v_t_acts g_t_much g_t_act p1 = ((-6), v_t_acts, (upd g_t_much v_t_acts.toNatClampNeg (p1 - 48)), g_t_act) from by
        unfold f_X10_amount
        exact (if_pos c2).trans (rfl)]
    exact k_iret C hr hw dX10_amount_37
  · replace hok := Eq.mp (if_neg c2) hok
    refine lv_aload_n hx hb dX10_amount_27 rfl (lv_at hl 0 rfl) ?_
    refine lv_iconst (v := 2) hx hb dX10_amount_28 (by decide) ?_
    obtain ⟨h3, hok⟩ := hok
    refine k_callV (As := [.int 2]) (rest := []) (n := 1) (CC := RX10) (T := TX10) (N := 35) C hw (T_X10_close l D cI cZ a_t a_t_wealth a_t_given a_t_chart a_t_relatives a_t_sightSet a_t_sightMany a_t_digits a_t_pad a_t_act a_t_who a_t_whom a_t_much a_t_had a_t_dues a_t_groups a_t_ways a_t_fit a_t_byMany a_t_kept a_t_isKept v_t_inside v_t_next v_t_years v_t_sights v_t_padMany v_t_acts v_t_givenNow v_t_entered v_t_badAct v_t_badWhy v_t_firstAct v_t_firstHouse v_t_fitMany v_t_keptAt v_t_isWriting g_t_act (2 : Int32) h3) gX10_amount_X10_close rfl ⟨rfl, rfl⟩ (by decide +kernel) ⟨Nat.le_of_ble_eq_true rfl, Nat.le_of_ble_eq_true rfl⟩ 0 rfl rfl [0, 2] rfl rfl [a_t, a_t_act] rfl rfl rfl hl.1 rfl (Nat.le_of_ble_eq_true rfl) ⟨Nat.zero_le _, Nat.zero_le _⟩ dX10_amount_29 (fun H locs hw => ?_)
    obtain ⟨z4, h5⟩ : ∃ z, (f_X10_close v_t_acts g_t_act (2 : Int32)) = z := ⟨_, rfl⟩
    refine W.eq (g2 := F0 m 32 ls [.int z4.1]) (by subst h5; rfl) ?_
    replace hw := kW_cast (ws' := [(a_t, .inr (10, [.ref a_t_wealth, .ref a_t_given, .ref a_t_chart, .ref a_t_relatives, .int v_t_inside, .int v_t_next, .int v_t_years, .ref a_t_sightSet, .ref a_t_sightMany, .int v_t_sights, .ref a_t_digits, .ref a_t_pad, .int v_t_padMany, .ref a_t_act, .ref a_t_who, .ref a_t_whom, .ref a_t_much, .int z4.2.1, .int v_t_givenNow, .int v_t_entered, .ref a_t_had, .int v_t_badAct, .int v_t_badWhy, .int v_t_firstAct, .int v_t_firstHouse, .ref a_t_dues, .ref a_t_groups, .ref a_t_ways, .ref a_t_fit, .int v_t_fitMany, .ref a_t_byMany, .ref a_t_kept, .ref a_t_isKept, .int v_t_keptAt, .int v_t_isWriting])), (a_t_much, .inl (cI, 60, .inl (upd g_t_much v_t_acts.toNatClampNeg (p1 - 48)))), (a_t_act, .inl (cI, 60, .inl z4.2.2))]) (by subst h5; rfl) hw
    refine lv_goto (tgt := 37) hx hb dX10_amount_32 (by decide) ?_
    rw [show f_X10_amount v_t_acts g_t_much g_t_act p1 = (z4.1, z4.2.1, (upd g_t_much v_t_acts.toNatClampNeg (p1 - 48)), z4.2.2) from by
        unfold f_X10_amount
        exact (if_neg c2).trans ((lt_c h5).trans (rfl))]
    exact k_iret C hr hw dX10_amount_37

def f_X10_readOn (v_t_acts : Int32) (g_t_whom : (Nat → Int32)) (g_t_act : (Nat → Int32)) (g_t_who : (Nat → Int32)) (g_t_much : (Nat → Int32)) (p1 : Int32) (p2 : Int32) : Int32 × Int32 × (Nat → Int32) × (Nat → Int32) × (Nat → Int32) × (Nat → Int32) := (if p1 = 0 then (lt (f_X10_begin v_t_acts g_t_who g_t_whom g_t_much g_t_act p2) (fun z3 => (z3.1, z3.2.1, z3.2.2.2.1, z3.2.2.2.2.2, z3.2.2.1, z3.2.2.2.2.1))) else (if p1 = 1 then (lt (f_X10_deed v_t_acts g_t_act p2) (fun z7 => (z7.1, z7.2.1, g_t_whom, z7.2.2, g_t_who, g_t_much))) else (if p1 = 2 then (lt (f_X10_name v_t_acts g_t_whom g_t_act g_t_who p1 p2) (fun z11 => (z11.1, z11.2.1, z11.2.2.1, z11.2.2.2.1, z11.2.2.2.2, g_t_much))) else (if p1 = 3 then (lt (f_X10_amount v_t_acts g_t_much g_t_act p2) (fun z15 => (z15.1, z15.2.1, g_t_whom, z15.2.2.2, g_t_who, z15.2.2.1))) else (lt (f_X10_name v_t_acts g_t_whom g_t_act g_t_who p1 p2) (fun z18 => (z18.1, z18.2.1, z18.2.2.1, z18.2.2.2.1, z18.2.2.2.2, g_t_much)))))))
def o_X10_readOn (v_t_acts : Int32) (p1 : Int32) (p2 : Int32) : Prop := (if p1 = 0 then ((o_X10_begin v_t_acts p2) ∧ True) else (if p1 = 1 then ((o_X10_deed v_t_acts p2) ∧ True) else (if p1 = 2 then ((o_X10_name v_t_acts p1 p2) ∧ True) else (if p1 = 3 then ((o_X10_amount v_t_acts p2) ∧ True) else ((o_X10_name v_t_acts p1 p2) ∧ True)))))
set_option maxHeartbeats 4000000 in
set_option maxRecDepth 100000 in
theorem T_X10_readOn (l : Launch) (D : va_G) (cI cZ : ClassId) (a_t a_t_wealth a_t_given a_t_chart a_t_relatives a_t_sightSet a_t_sightMany a_t_digits a_t_pad a_t_act a_t_who a_t_whom a_t_much a_t_had a_t_dues a_t_groups a_t_ways a_t_fit a_t_byMany a_t_kept a_t_isKept : Nat) (v_t_inside : Int32) (v_t_next : Int32) (v_t_years : Int32) (v_t_sights : Int32) (v_t_padMany : Int32) (v_t_acts : Int32) (v_t_givenNow : Int32) (v_t_entered : Int32) (v_t_badAct : Int32) (v_t_badWhy : Int32) (v_t_firstAct : Int32) (v_t_firstHouse : Int32) (v_t_fitMany : Int32) (v_t_keptAt : Int32) (v_t_isWriting : Int32) (g_t_whom : (Nat → Int32)) (g_t_act : (Nat → Int32)) (g_t_who : (Nat → Int32)) (g_t_much : (Nat → Int32)) (p1 : Int32) (p2 : Int32) (hok : o_X10_readOn v_t_acts p1 p2) : CT l D cI cZ yX10_readOn wsX10_readOn ({ frames := 3, cells := 0, slots := 0, locals := 67 }) [.ref a_t, .int p1, .int p2] [(a_t, .inr (10, [.ref a_t_wealth, .ref a_t_given, .ref a_t_chart, .ref a_t_relatives, .int v_t_inside, .int v_t_next, .int v_t_years, .ref a_t_sightSet, .ref a_t_sightMany, .int v_t_sights, .ref a_t_digits, .ref a_t_pad, .int v_t_padMany, .ref a_t_act, .ref a_t_who, .ref a_t_whom, .ref a_t_much, .int v_t_acts, .int v_t_givenNow, .int v_t_entered, .ref a_t_had, .int v_t_badAct, .int v_t_badWhy, .int v_t_firstAct, .int v_t_firstHouse, .ref a_t_dues, .ref a_t_groups, .ref a_t_ways, .ref a_t_fit, .int v_t_fitMany, .ref a_t_byMany, .ref a_t_kept, .ref a_t_isKept, .int v_t_keptAt, .int v_t_isWriting])), (a_t_whom, .inl (cI, 60, .inl g_t_whom)), (a_t_act, .inl (cI, 60, .inl g_t_act)), (a_t_who, .inl (cI, 60, .inl g_t_who)), (a_t_much, .inl (cI, 60, .inl g_t_much))] (some (.int (f_X10_readOn v_t_acts g_t_whom g_t_act g_t_who g_t_much p1 p2).1)) [(a_t, .inr (10, [.ref a_t_wealth, .ref a_t_given, .ref a_t_chart, .ref a_t_relatives, .int v_t_inside, .int v_t_next, .int v_t_years, .ref a_t_sightSet, .ref a_t_sightMany, .int v_t_sights, .ref a_t_digits, .ref a_t_pad, .int v_t_padMany, .ref a_t_act, .ref a_t_who, .ref a_t_whom, .ref a_t_much, .int (f_X10_readOn v_t_acts g_t_whom g_t_act g_t_who g_t_much p1 p2).2.1, .int v_t_givenNow, .int v_t_entered, .ref a_t_had, .int v_t_badAct, .int v_t_badWhy, .int v_t_firstAct, .int v_t_firstHouse, .ref a_t_dues, .ref a_t_groups, .ref a_t_ways, .ref a_t_fit, .int v_t_fitMany, .ref a_t_byMany, .ref a_t_kept, .ref a_t_isKept, .int v_t_keptAt, .int v_t_isWriting])), (a_t_whom, .inl (cI, 60, .inl (f_X10_readOn v_t_acts g_t_whom g_t_act g_t_who g_t_much p1 p2).2.2.1)), (a_t_act, .inl (cI, 60, .inl (f_X10_readOn v_t_acts g_t_whom g_t_act g_t_who g_t_much p1 p2).2.2.2.1)), (a_t_who, .inl (cI, 60, .inl (f_X10_readOn v_t_acts g_t_whom g_t_act g_t_who g_t_much p1 p2).2.2.2.2.1)), (a_t_much, .inl (cI, 60, .inl (f_X10_readOn v_t_acts g_t_whom g_t_act g_t_who g_t_much p1 p2).2.2.2.2.2))] := by
  refine CT.intro RX10 (by decide) rfl (Nat.le_of_ble_eq_true rfl) rfl ?_
  intro p e s m below meth c C hr hw ls hl
  have hx := C.hx
  have hb := C.hb
  replace hl : lv_has ls 3 [(0, .ref a_t), (1, .int p1), (2, .int p2)] := hl
  refine lv_iload_n hx hb dX10_readOn_0 rfl (lv_at hl 1 rfl) ?_
  by_cases c1 : p1 = 0
  · replace hok := Eq.mp (if_pos c1) hok
    refine lv_tableIn (tgt := 32) hx hb dX10_readOn_1 (by rw [c1]; decide) (by rw [c1]; decide) (by rw [c1]; rfl) (by decide) ?_
    refine lv_aload_n hx hb dX10_readOn_32 rfl (lv_at hl 0 rfl) ?_
    refine lv_iload_n hx hb dX10_readOn_33 rfl (lv_at hl 2 rfl) ?_
    obtain ⟨h2, hok⟩ := hok
    refine k_callV (As := [.int p2]) (rest := []) (n := 1) (CC := RX10) (T := TX10) (N := 35) C hw (T_X10_begin l D cI cZ a_t a_t_wealth a_t_given a_t_chart a_t_relatives a_t_sightSet a_t_sightMany a_t_digits a_t_pad a_t_act a_t_who a_t_whom a_t_much a_t_had a_t_dues a_t_groups a_t_ways a_t_fit a_t_byMany a_t_kept a_t_isKept v_t_inside v_t_next v_t_years v_t_sights v_t_padMany v_t_acts v_t_givenNow v_t_entered v_t_badAct v_t_badWhy v_t_firstAct v_t_firstHouse v_t_fitMany v_t_keptAt v_t_isWriting g_t_who g_t_whom g_t_much g_t_act p2 h2) gX10_readOn_X10_begin rfl ⟨rfl, rfl⟩ (by decide +kernel) ⟨Nat.le_of_ble_eq_true rfl, Nat.le_of_ble_eq_true rfl⟩ 0 rfl rfl [0, 3, 1, 4, 2] rfl rfl [a_t, a_t_who, a_t_whom, a_t_much, a_t_act] rfl rfl rfl hl.1 rfl (Nat.le_of_ble_eq_true rfl) ⟨Nat.zero_le _, Nat.zero_le _⟩ dX10_readOn_34 (fun H locs hw => ?_)
    obtain ⟨z3, h4⟩ : ∃ z, (f_X10_begin v_t_acts g_t_who g_t_whom g_t_much g_t_act p2) = z := ⟨_, rfl⟩
    refine W.eq (g2 := F0 m 37 ls [.int z3.1]) (by subst h4; rfl) ?_
    replace hw := kW_cast (ws' := [(a_t, .inr (10, [.ref a_t_wealth, .ref a_t_given, .ref a_t_chart, .ref a_t_relatives, .int v_t_inside, .int v_t_next, .int v_t_years, .ref a_t_sightSet, .ref a_t_sightMany, .int v_t_sights, .ref a_t_digits, .ref a_t_pad, .int v_t_padMany, .ref a_t_act, .ref a_t_who, .ref a_t_whom, .ref a_t_much, .int z3.2.1, .int v_t_givenNow, .int v_t_entered, .ref a_t_had, .int v_t_badAct, .int v_t_badWhy, .int v_t_firstAct, .int v_t_firstHouse, .ref a_t_dues, .ref a_t_groups, .ref a_t_ways, .ref a_t_fit, .int v_t_fitMany, .ref a_t_byMany, .ref a_t_kept, .ref a_t_isKept, .int v_t_keptAt, .int v_t_isWriting])), (a_t_whom, .inl (cI, 60, .inl z3.2.2.2.1)), (a_t_act, .inl (cI, 60, .inl z3.2.2.2.2.2)), (a_t_who, .inl (cI, 60, .inl z3.2.2.1)), (a_t_much, .inl (cI, 60, .inl z3.2.2.2.2.1))]) (by subst h4; rfl) hw
    rw [show f_X10_readOn v_t_acts g_t_whom g_t_act g_t_who g_t_much p1 p2 = (z3.1, z3.2.1, z3.2.2.2.1, z3.2.2.2.2.2, z3.2.2.1, z3.2.2.2.2.1) from by
        unfold f_X10_readOn
        exact (if_pos c1).trans ((lt_c h4).trans (rfl))]
    exact k_iret C hr hw dX10_readOn_37
  · replace hok := Eq.mp (if_neg c1) hok
    by_cases c5 : p1 = 1
    · replace hok := Eq.mp (if_pos c5) hok
      refine lv_tableIn (tgt := 38) hx hb dX10_readOn_1 (by rw [c5]; decide) (by rw [c5]; decide) (by rw [c5]; rfl) (by decide) ?_
      refine lv_aload_n hx hb dX10_readOn_38 rfl (lv_at hl 0 rfl) ?_
      refine lv_iload_n hx hb dX10_readOn_39 rfl (lv_at hl 2 rfl) ?_
      obtain ⟨h6, hok⟩ := hok
      refine k_callV (As := [.int p2]) (rest := []) (n := 1) (CC := RX10) (T := TX10) (N := 35) C hw (T_X10_deed l D cI cZ a_t a_t_wealth a_t_given a_t_chart a_t_relatives a_t_sightSet a_t_sightMany a_t_digits a_t_pad a_t_act a_t_who a_t_whom a_t_much a_t_had a_t_dues a_t_groups a_t_ways a_t_fit a_t_byMany a_t_kept a_t_isKept v_t_inside v_t_next v_t_years v_t_sights v_t_padMany v_t_acts v_t_givenNow v_t_entered v_t_badAct v_t_badWhy v_t_firstAct v_t_firstHouse v_t_fitMany v_t_keptAt v_t_isWriting g_t_act p2 h6) gX10_readOn_X10_deed rfl ⟨rfl, rfl⟩ (by decide +kernel) ⟨Nat.le_of_ble_eq_true rfl, Nat.le_of_ble_eq_true rfl⟩ 0 rfl rfl [0, 2] rfl rfl [a_t, a_t_act] rfl rfl rfl hl.1 rfl (Nat.le_of_ble_eq_true rfl) ⟨Nat.zero_le _, Nat.zero_le _⟩ dX10_readOn_40 (fun H locs hw => ?_)
      obtain ⟨z7, h8⟩ : ∃ z, (f_X10_deed v_t_acts g_t_act p2) = z := ⟨_, rfl⟩
      refine W.eq (g2 := F0 m 43 ls [.int z7.1]) (by subst h8; rfl) ?_
      replace hw := kW_cast (ws' := [(a_t, .inr (10, [.ref a_t_wealth, .ref a_t_given, .ref a_t_chart, .ref a_t_relatives, .int v_t_inside, .int v_t_next, .int v_t_years, .ref a_t_sightSet, .ref a_t_sightMany, .int v_t_sights, .ref a_t_digits, .ref a_t_pad, .int v_t_padMany, .ref a_t_act, .ref a_t_who, .ref a_t_whom, .ref a_t_much, .int z7.2.1, .int v_t_givenNow, .int v_t_entered, .ref a_t_had, .int v_t_badAct, .int v_t_badWhy, .int v_t_firstAct, .int v_t_firstHouse, .ref a_t_dues, .ref a_t_groups, .ref a_t_ways, .ref a_t_fit, .int v_t_fitMany, .ref a_t_byMany, .ref a_t_kept, .ref a_t_isKept, .int v_t_keptAt, .int v_t_isWriting])), (a_t_whom, .inl (cI, 60, .inl g_t_whom)), (a_t_act, .inl (cI, 60, .inl z7.2.2)), (a_t_who, .inl (cI, 60, .inl g_t_who)), (a_t_much, .inl (cI, 60, .inl g_t_much))]) (by subst h8; rfl) hw
      rw [show f_X10_readOn v_t_acts g_t_whom g_t_act g_t_who g_t_much p1 p2 = (z7.1, z7.2.1, g_t_whom, z7.2.2, g_t_who, g_t_much) from by
          unfold f_X10_readOn
          exact (if_neg c1).trans ((if_pos c5).trans ((lt_c h8).trans (rfl)))]
      exact k_iret C hr hw dX10_readOn_43
    · replace hok := Eq.mp (if_neg c5) hok
      by_cases c9 : p1 = 2
      · replace hok := Eq.mp (if_pos c9) hok
        refine lv_tableIn (tgt := 50) hx hb dX10_readOn_1 (by rw [c9]; decide) (by rw [c9]; decide) (by rw [c9]; rfl) (by decide) ?_
        refine lv_aload_n hx hb dX10_readOn_50 rfl (lv_at hl 0 rfl) ?_
        refine lv_iload_n hx hb dX10_readOn_51 rfl (lv_at hl 1 rfl) ?_
        refine lv_iload_n hx hb dX10_readOn_52 rfl (lv_at hl 2 rfl) ?_
        obtain ⟨h10, hok⟩ := hok
        refine k_callV (As := [.int p1, .int p2]) (rest := []) (n := 2) (CC := RX10) (T := TX10) (N := 35) C hw (T_X10_name l D cI cZ a_t a_t_wealth a_t_given a_t_chart a_t_relatives a_t_sightSet a_t_sightMany a_t_digits a_t_pad a_t_act a_t_who a_t_whom a_t_much a_t_had a_t_dues a_t_groups a_t_ways a_t_fit a_t_byMany a_t_kept a_t_isKept v_t_inside v_t_next v_t_years v_t_sights v_t_padMany v_t_acts v_t_givenNow v_t_entered v_t_badAct v_t_badWhy v_t_firstAct v_t_firstHouse v_t_fitMany v_t_keptAt v_t_isWriting g_t_whom g_t_act g_t_who p1 p2 h10) gX10_readOn_X10_name rfl ⟨rfl, rfl⟩ (by decide +kernel) ⟨Nat.le_of_ble_eq_true rfl, Nat.le_of_ble_eq_true rfl⟩ 0 rfl rfl [0, 1, 2, 3] rfl rfl [a_t, a_t_whom, a_t_act, a_t_who] rfl rfl rfl hl.1 rfl (Nat.le_of_ble_eq_true rfl) ⟨Nat.zero_le _, Nat.zero_le _⟩ dX10_readOn_53 (fun H locs hw => ?_)
        obtain ⟨z11, h12⟩ : ∃ z, (f_X10_name v_t_acts g_t_whom g_t_act g_t_who p1 p2) = z := ⟨_, rfl⟩
        refine W.eq (g2 := F0 m 56 ls [.int z11.1]) (by subst h12; rfl) ?_
        replace hw := kW_cast (ws' := [(a_t, .inr (10, [.ref a_t_wealth, .ref a_t_given, .ref a_t_chart, .ref a_t_relatives, .int v_t_inside, .int v_t_next, .int v_t_years, .ref a_t_sightSet, .ref a_t_sightMany, .int v_t_sights, .ref a_t_digits, .ref a_t_pad, .int v_t_padMany, .ref a_t_act, .ref a_t_who, .ref a_t_whom, .ref a_t_much, .int z11.2.1, .int v_t_givenNow, .int v_t_entered, .ref a_t_had, .int v_t_badAct, .int v_t_badWhy, .int v_t_firstAct, .int v_t_firstHouse, .ref a_t_dues, .ref a_t_groups, .ref a_t_ways, .ref a_t_fit, .int v_t_fitMany, .ref a_t_byMany, .ref a_t_kept, .ref a_t_isKept, .int v_t_keptAt, .int v_t_isWriting])), (a_t_whom, .inl (cI, 60, .inl z11.2.2.1)), (a_t_act, .inl (cI, 60, .inl z11.2.2.2.1)), (a_t_who, .inl (cI, 60, .inl z11.2.2.2.2)), (a_t_much, .inl (cI, 60, .inl g_t_much))]) (by subst h12; rfl) hw
        rw [show f_X10_readOn v_t_acts g_t_whom g_t_act g_t_who g_t_much p1 p2 = (z11.1, z11.2.1, z11.2.2.1, z11.2.2.2.1, z11.2.2.2.2, g_t_much) from by
            unfold f_X10_readOn
            exact (if_neg c1).trans ((if_neg c5).trans ((if_pos c9).trans ((lt_c h12).trans (rfl))))]
        exact k_iret C hr hw dX10_readOn_56
      · replace hok := Eq.mp (if_neg c9) hok
        by_cases c13 : p1 = 3
        · replace hok := Eq.mp (if_pos c13) hok
          refine lv_tableIn (tgt := 44) hx hb dX10_readOn_1 (by rw [c13]; decide) (by rw [c13]; decide) (by rw [c13]; rfl) (by decide) ?_
          refine lv_aload_n hx hb dX10_readOn_44 rfl (lv_at hl 0 rfl) ?_
          refine lv_iload_n hx hb dX10_readOn_45 rfl (lv_at hl 2 rfl) ?_
          obtain ⟨h14, hok⟩ := hok
          refine k_callV (As := [.int p2]) (rest := []) (n := 1) (CC := RX10) (T := TX10) (N := 35) C hw (T_X10_amount l D cI cZ a_t a_t_wealth a_t_given a_t_chart a_t_relatives a_t_sightSet a_t_sightMany a_t_digits a_t_pad a_t_act a_t_who a_t_whom a_t_much a_t_had a_t_dues a_t_groups a_t_ways a_t_fit a_t_byMany a_t_kept a_t_isKept v_t_inside v_t_next v_t_years v_t_sights v_t_padMany v_t_acts v_t_givenNow v_t_entered v_t_badAct v_t_badWhy v_t_firstAct v_t_firstHouse v_t_fitMany v_t_keptAt v_t_isWriting g_t_much g_t_act p2 h14) gX10_readOn_X10_amount rfl ⟨rfl, rfl⟩ (by decide +kernel) ⟨Nat.le_of_ble_eq_true rfl, Nat.le_of_ble_eq_true rfl⟩ 0 rfl rfl [0, 4, 2] rfl rfl [a_t, a_t_much, a_t_act] rfl rfl rfl hl.1 rfl (Nat.le_of_ble_eq_true rfl) ⟨Nat.zero_le _, Nat.zero_le _⟩ dX10_readOn_46 (fun H locs hw => ?_)
          obtain ⟨z15, h16⟩ : ∃ z, (f_X10_amount v_t_acts g_t_much g_t_act p2) = z := ⟨_, rfl⟩
          refine W.eq (g2 := F0 m 49 ls [.int z15.1]) (by subst h16; rfl) ?_
          replace hw := kW_cast (ws' := [(a_t, .inr (10, [.ref a_t_wealth, .ref a_t_given, .ref a_t_chart, .ref a_t_relatives, .int v_t_inside, .int v_t_next, .int v_t_years, .ref a_t_sightSet, .ref a_t_sightMany, .int v_t_sights, .ref a_t_digits, .ref a_t_pad, .int v_t_padMany, .ref a_t_act, .ref a_t_who, .ref a_t_whom, .ref a_t_much, .int z15.2.1, .int v_t_givenNow, .int v_t_entered, .ref a_t_had, .int v_t_badAct, .int v_t_badWhy, .int v_t_firstAct, .int v_t_firstHouse, .ref a_t_dues, .ref a_t_groups, .ref a_t_ways, .ref a_t_fit, .int v_t_fitMany, .ref a_t_byMany, .ref a_t_kept, .ref a_t_isKept, .int v_t_keptAt, .int v_t_isWriting])), (a_t_whom, .inl (cI, 60, .inl g_t_whom)), (a_t_act, .inl (cI, 60, .inl z15.2.2.2)), (a_t_who, .inl (cI, 60, .inl g_t_who)), (a_t_much, .inl (cI, 60, .inl z15.2.2.1))]) (by subst h16; rfl) hw
          rw [show f_X10_readOn v_t_acts g_t_whom g_t_act g_t_who g_t_much p1 p2 = (z15.1, z15.2.1, g_t_whom, z15.2.2.2, g_t_who, z15.2.2.1) from by
              unfold f_X10_readOn
              exact (if_neg c1).trans ((if_neg c5).trans ((if_neg c9).trans ((if_pos c13).trans ((lt_c h16).trans (rfl)))))]
          exact k_iret C hr hw dX10_readOn_49
        · replace hok := Eq.mp (if_neg c13) hok
          refine lv_tableOut (tgt := 50) hx hb dX10_readOn_1 (tab_out4 c1 c5 c9 c13) (by decide) ?_
          refine lv_aload_n hx hb dX10_readOn_50 rfl (lv_at hl 0 rfl) ?_
          refine lv_iload_n hx hb dX10_readOn_51 rfl (lv_at hl 1 rfl) ?_
          refine lv_iload_n hx hb dX10_readOn_52 rfl (lv_at hl 2 rfl) ?_
          obtain ⟨h17, hok⟩ := hok
          refine k_callV (As := [.int p1, .int p2]) (rest := []) (n := 2) (CC := RX10) (T := TX10) (N := 35) C hw (T_X10_name l D cI cZ a_t a_t_wealth a_t_given a_t_chart a_t_relatives a_t_sightSet a_t_sightMany a_t_digits a_t_pad a_t_act a_t_who a_t_whom a_t_much a_t_had a_t_dues a_t_groups a_t_ways a_t_fit a_t_byMany a_t_kept a_t_isKept v_t_inside v_t_next v_t_years v_t_sights v_t_padMany v_t_acts v_t_givenNow v_t_entered v_t_badAct v_t_badWhy v_t_firstAct v_t_firstHouse v_t_fitMany v_t_keptAt v_t_isWriting g_t_whom g_t_act g_t_who p1 p2 h17) gX10_readOn_X10_name rfl ⟨rfl, rfl⟩ (by decide +kernel) ⟨Nat.le_of_ble_eq_true rfl, Nat.le_of_ble_eq_true rfl⟩ 0 rfl rfl [0, 1, 2, 3] rfl rfl [a_t, a_t_whom, a_t_act, a_t_who] rfl rfl rfl hl.1 rfl (Nat.le_of_ble_eq_true rfl) ⟨Nat.zero_le _, Nat.zero_le _⟩ dX10_readOn_53 (fun H locs hw => ?_)
          obtain ⟨z18, h19⟩ : ∃ z, (f_X10_name v_t_acts g_t_whom g_t_act g_t_who p1 p2) = z := ⟨_, rfl⟩
          refine W.eq (g2 := F0 m 56 ls [.int z18.1]) (by subst h19; rfl) ?_
          replace hw := kW_cast (ws' := [(a_t, .inr (10, [.ref a_t_wealth, .ref a_t_given, .ref a_t_chart, .ref a_t_relatives, .int v_t_inside, .int v_t_next, .int v_t_years, .ref a_t_sightSet, .ref a_t_sightMany, .int v_t_sights, .ref a_t_digits, .ref a_t_pad, .int v_t_padMany, .ref a_t_act, .ref a_t_who, .ref a_t_whom, .ref a_t_much, .int z18.2.1, .int v_t_givenNow, .int v_t_entered, .ref a_t_had, .int v_t_badAct, .int v_t_badWhy, .int v_t_firstAct, .int v_t_firstHouse, .ref a_t_dues, .ref a_t_groups, .ref a_t_ways, .ref a_t_fit, .int v_t_fitMany, .ref a_t_byMany, .ref a_t_kept, .ref a_t_isKept, .int v_t_keptAt, .int v_t_isWriting])), (a_t_whom, .inl (cI, 60, .inl z18.2.2.1)), (a_t_act, .inl (cI, 60, .inl z18.2.2.2.1)), (a_t_who, .inl (cI, 60, .inl z18.2.2.2.2)), (a_t_much, .inl (cI, 60, .inl g_t_much))]) (by subst h19; rfl) hw
          rw [show f_X10_readOn v_t_acts g_t_whom g_t_act g_t_who g_t_much p1 p2 = (z18.1, z18.2.1, z18.2.2.1, z18.2.2.2.1, z18.2.2.2.2, g_t_much) from by
              unfold f_X10_readOn
              exact (if_neg c1).trans ((if_neg c5).trans ((if_neg c9).trans ((if_neg c13).trans ((lt_c h19).trans (rfl)))))]
          exact k_iret C hr hw dX10_readOn_56

theorem nX10_fault_X10 : ∀ w ∈ wsX100, w ∈ wsX10_fault := fun _ h => List.mem_cons_of_mem _ (List.mem_append_right _ h)
def B_X10_fault_9 (g_t_pad : (Nat → Int32)) (j : Nat) (v : Int32 × Int32 × (Nat → Int32) × (Nat → Int32) × (Nat → Int32) × (Nat → Int32)) : (Int32 × Int32 × (Nat → Int32) × (Nat → Int32) × (Nat → Int32) × (Nat → Int32)) ⊕ ((Int32 × Int32 × (Nat → Int32) × (Nat → Int32) × (Nat → Int32) × (Nat → Int32)) ⊕ (Int32 × Int32 × (Nat → Int32) × (Nat → Int32) × (Nat → Int32) × (Nat → Int32))) := (lt (f_X10_readOn v.2.1 v.2.2.1 v.2.2.2.1 v.2.2.2.2.1 v.2.2.2.2.2 v.1 (g_t_pad j)) (fun z4 => (if 0 ≤ z4.1 then Sum.inl (z4.1, z4.2.1, z4.2.2.1, z4.2.2.2.1, z4.2.2.2.2.1, z4.2.2.2.2.2) else Sum.inr (Sum.inr ((nI j), z4.2.1, z4.2.2.1, z4.2.2.2.1, z4.2.2.2.2.1, z4.2.2.2.2.2)))))
def oB_X10_fault_9 (g_t_pad : (Nat → Int32)) (j : Nat) (v : Int32 × Int32 × (Nat → Int32) × (Nat → Int32) × (Nat → Int32) × (Nat → Int32)) : Prop := ((j < 60) ∧ ((o_X10_readOn v.2.1 v.1 (g_t_pad j)) ∧ True))
set_option maxHeartbeats 4000000 in
set_option maxRecDepth 100000 in
theorem l_X10_fault_9 {p : Program} {l : Launch} {e : Env} {s : State} {m : MethodId} {args : Array Value} {below : List Frame} {meth : Method} {c : Code} {D : va_G} {cI cZ : ClassId} (a_t a_t_wealth a_t_given a_t_chart a_t_relatives a_t_sightSet a_t_sightMany a_t_digits a_t_pad a_t_act a_t_who a_t_whom a_t_much a_t_had a_t_dues a_t_groups a_t_ways a_t_fit a_t_byMany a_t_kept a_t_isKept : Nat) (W0 : va_W) (v_t_inside : Int32) (v_t_next : Int32) (v_t_years : Int32) (v_t_sights : Int32) (v_t_padMany : Int32) (v_t_givenNow : Int32) (v_t_entered : Int32) (v_t_badAct : Int32) (v_t_badWhy : Int32) (v_t_firstAct : Int32) (v_t_firstHouse : Int32) (v_t_fitMany : Int32) (v_t_keptAt : Int32) (v_t_isWriting : Int32) (g_t_pad : (Nat → Int32)) (RES : Int32 × Int32 × (Nat → Int32) × (Nat → Int32) × (Nat → Int32) × (Nat → Int32)) (C : kC p s m args meth c cX10_fault 3 wsX10_fault RX10 D cI cZ (va_A W0 s.heap.size)) (hr : meth.sig.returnType = some .int) (b : Nat) (hB : v_t_padMany = nI b) (hb31 : b < 2147483648) : ∀ (n j : Nat) (x1 : Int32) (v_t_acts : Int32) (g_t_whom : (Nat → Int32)) (g_t_act : (Nat → Int32)) (g_t_who : (Nat → Int32)) (g_t_much : (Nat → Int32)), n = b - j → j < 2147483648 → lpA (oB_X10_fault_9 g_t_pad) (B_X10_fault_9 g_t_pad) j n (x1, v_t_acts, g_t_whom, g_t_act, g_t_who, g_t_much) → (∀ r, (lp (B_X10_fault_9 g_t_pad) j n (x1, v_t_acts, g_t_whom, g_t_act, g_t_who, g_t_much)) = Sum.inr r → RES = r) → ∀ (H : Heap) (locs : List Loc), kW D (va_A W0 s.heap.size) s H locs [(a_t, .inr (10, [.ref a_t_wealth, .ref a_t_given, .ref a_t_chart, .ref a_t_relatives, .int v_t_inside, .int v_t_next, .int v_t_years, .ref a_t_sightSet, .ref a_t_sightMany, .int v_t_sights, .ref a_t_digits, .ref a_t_pad, .int v_t_padMany, .ref a_t_act, .ref a_t_who, .ref a_t_whom, .ref a_t_much, .int v_t_acts, .int v_t_givenNow, .int v_t_entered, .ref a_t_had, .int v_t_badAct, .int v_t_badWhy, .int v_t_firstAct, .int v_t_firstHouse, .ref a_t_dues, .ref a_t_groups, .ref a_t_ways, .ref a_t_fit, .int v_t_fitMany, .ref a_t_byMany, .ref a_t_kept, .ref a_t_isKept, .int v_t_keptAt, .int v_t_isWriting])), (a_t_pad, .inl (cI, 60, .inl g_t_pad)), (a_t_whom, .inl (cI, 60, .inl g_t_whom)), (a_t_act, .inl (cI, 60, .inl g_t_act)), (a_t_who, .inl (cI, 60, .inl g_t_who)), (a_t_much, .inl (cI, 60, .inl g_t_much))] → ∀ (ls : Array Slot), lv_has ls 3 [(0, .ref a_t), (1, .int x1), (2, .int (nI j))] → (∀ (y0 : Int32) (y1 : Int32) (y2 : (Nat → Int32)) (y3 : (Nat → Int32)) (y4 : (Nat → Int32)) (y5 : (Nat → Int32)), lp (B_X10_fault_9 g_t_pad) j n (x1, v_t_acts, g_t_whom, g_t_act, g_t_who, g_t_much) = Sum.inl (y0, y1, y2, y3, y4, y5) → ∀ (H : Heap) (locs : List Loc) (ls : Array Slot), kW D (va_A W0 s.heap.size) s H locs [(a_t, .inr (10, [.ref a_t_wealth, .ref a_t_given, .ref a_t_chart, .ref a_t_relatives, .int v_t_inside, .int v_t_next, .int v_t_years, .ref a_t_sightSet, .ref a_t_sightMany, .int v_t_sights, .ref a_t_digits, .ref a_t_pad, .int v_t_padMany, .ref a_t_act, .ref a_t_who, .ref a_t_whom, .ref a_t_much, .int y1, .int v_t_givenNow, .int v_t_entered, .ref a_t_had, .int v_t_badAct, .int v_t_badWhy, .int v_t_firstAct, .int v_t_firstHouse, .ref a_t_dues, .ref a_t_groups, .ref a_t_ways, .ref a_t_fit, .int v_t_fitMany, .ref a_t_byMany, .ref a_t_kept, .ref a_t_isKept, .int v_t_keptAt, .int v_t_isWriting])), (a_t_pad, .inl (cI, 60, .inl g_t_pad)), (a_t_whom, .inl (cI, 60, .inl y2)), (a_t_act, .inl (cI, 60, .inl y3)), (a_t_who, .inl (cI, 60, .inl y4)), (a_t_much, .inl (cI, 60, .inl y5))] → lv_has ls 3 [(0, .ref a_t), (1, .int y0)] → W p l e ({ frames := 4, cells := 0, slots := 0, locals := 89 }) s m args below meth c H locs 0 0 (MQ below (kQ D W0 s.heap.size (some (.int RES.1)) [(a_t, .inr (10, [.ref a_t_wealth, .ref a_t_given, .ref a_t_chart, .ref a_t_relatives, .int v_t_inside, .int v_t_next, .int v_t_years, .ref a_t_sightSet, .ref a_t_sightMany, .int v_t_sights, .ref a_t_digits, .ref a_t_pad, .int v_t_padMany, .ref a_t_act, .ref a_t_who, .ref a_t_whom, .ref a_t_much, .int RES.2.1, .int v_t_givenNow, .int v_t_entered, .ref a_t_had, .int v_t_badAct, .int v_t_badWhy, .int v_t_firstAct, .int v_t_firstHouse, .ref a_t_dues, .ref a_t_groups, .ref a_t_ways, .ref a_t_fit, .int v_t_fitMany, .ref a_t_byMany, .ref a_t_kept, .ref a_t_isKept, .int v_t_keptAt, .int v_t_isWriting])), (a_t_pad, .inl (cI, 60, .inl g_t_pad)), (a_t_whom, .inl (cI, 60, .inl RES.2.2.1)), (a_t_act, .inl (cI, 60, .inl RES.2.2.2.1)), (a_t_who, .inl (cI, 60, .inl RES.2.2.2.2.1)), (a_t_much, .inl (cI, 60, .inl RES.2.2.2.2.2))]) args s 0 0 (va_A W0 s.heap.size)) (F0 m 41 ls [])) → W p l e ({ frames := 4, cells := 0, slots := 0, locals := 89 }) s m args below meth c H locs 0 0 (MQ below (kQ D W0 s.heap.size (some (.int RES.1)) [(a_t, .inr (10, [.ref a_t_wealth, .ref a_t_given, .ref a_t_chart, .ref a_t_relatives, .int v_t_inside, .int v_t_next, .int v_t_years, .ref a_t_sightSet, .ref a_t_sightMany, .int v_t_sights, .ref a_t_digits, .ref a_t_pad, .int v_t_padMany, .ref a_t_act, .ref a_t_who, .ref a_t_whom, .ref a_t_much, .int RES.2.1, .int v_t_givenNow, .int v_t_entered, .ref a_t_had, .int v_t_badAct, .int v_t_badWhy, .int v_t_firstAct, .int v_t_firstHouse, .ref a_t_dues, .ref a_t_groups, .ref a_t_ways, .ref a_t_fit, .int v_t_fitMany, .ref a_t_byMany, .ref a_t_kept, .ref a_t_isKept, .int v_t_keptAt, .int v_t_isWriting])), (a_t_pad, .inl (cI, 60, .inl g_t_pad)), (a_t_whom, .inl (cI, 60, .inl RES.2.2.1)), (a_t_act, .inl (cI, 60, .inl RES.2.2.2.1)), (a_t_who, .inl (cI, 60, .inl RES.2.2.2.2.1)), (a_t_much, .inl (cI, 60, .inl RES.2.2.2.2.2))]) args s 0 0 (va_A W0 s.heap.size)) (F0 m 9 ls []) := by
  have hx := C.hx
  have hb := C.hb
  intro n
  induction n with
  | zero =>
    intro j x1 v_t_acts g_t_whom g_t_act g_t_who g_t_much hn hj hok0 hres H locs hw ls hl kk
    refine lv_iload_n hx hb dX10_fault_9 rfl (lv_at hl 2 rfl) ?_
    refine lv_aload_n hx hb dX10_fault_10 rfl (lv_at hl 0 rfl) ?_
    refine k_get C hw (CC := RX10) (T := TX10) (N := 35) nX10_fault_X10 0 rfl rfl 12 (by decide) (List.mem_of_getElem? (i := 2) rfl) rfl rfl dX10_fault_11 ?_
    refine lv_icmp_ge (tgt := 41) hx hb dX10_fault_14 (by decide) (fun c7 => ?_) (fun c7 => by rw [hB] at c7; exact absurd (nI_le (a := b) (b := j) (by omega) (by omega)) c7)
    exact kk x1 v_t_acts g_t_whom g_t_act g_t_who g_t_much rfl _ _ _ hw (lv_sub hl [0, 1] rfl)
  | succ n ih =>
    intro j x1 v_t_acts g_t_whom g_t_act g_t_who g_t_much hn hj hok0 hres H locs hw ls hl kk
    have hok := hok0.1
    refine lv_iload_n hx hb dX10_fault_9 rfl (lv_at hl 2 rfl) ?_
    refine lv_aload_n hx hb dX10_fault_10 rfl (lv_at hl 0 rfl) ?_
    refine k_get C hw (CC := RX10) (T := TX10) (N := 35) nX10_fault_X10 0 rfl rfl 12 (by decide) (List.mem_of_getElem? (i := 2) rfl) rfl rfl dX10_fault_11 ?_
    refine lv_icmp_ge (tgt := 41) hx hb dX10_fault_14 (by decide) (fun c1 => by rw [hB] at c1; exact absurd c1 (nI_ge (a := j) (b := b) (by omega) (by omega))) (fun c1 => ?_)
    refine lv_aload_n hx hb dX10_fault_17 rfl (lv_at hl 0 rfl) ?_
    refine lv_iload_n hx hb dX10_fault_18 rfl (lv_at hl 1 rfl) ?_
    refine lv_aload_n hx hb dX10_fault_19 rfl (lv_at hl 0 rfl) ?_
    refine k_get C hw (CC := RX10) (T := TX10) (N := 35) nX10_fault_X10 0 rfl rfl 11 (by decide) (List.mem_of_getElem? (i := 3) rfl) rfl rfl dX10_fault_20 ?_
    refine lv_iload_n hx hb dX10_fault_23 rfl (lv_at hl 2 rfl) ?_
    obtain ⟨h2, hok⟩ := hok
    refine k_ialdN C hw 1 rfl j rfl h2 (by decide) dX10_fault_24 ?_
    obtain ⟨h3, hok⟩ := hok
    refine k_callV (As := [.int x1, .int (g_t_pad j)]) (rest := []) (n := 2) (CC := RX10) (T := TX10) (N := 35) C hw (T_X10_readOn l D cI cZ a_t a_t_wealth a_t_given a_t_chart a_t_relatives a_t_sightSet a_t_sightMany a_t_digits a_t_pad a_t_act a_t_who a_t_whom a_t_much a_t_had a_t_dues a_t_groups a_t_ways a_t_fit a_t_byMany a_t_kept a_t_isKept v_t_inside v_t_next v_t_years v_t_sights v_t_padMany v_t_acts v_t_givenNow v_t_entered v_t_badAct v_t_badWhy v_t_firstAct v_t_firstHouse v_t_fitMany v_t_keptAt v_t_isWriting g_t_whom g_t_act g_t_who g_t_much x1 (g_t_pad j) h3) gX10_fault_X10_readOn rfl ⟨rfl, rfl⟩ (by decide +kernel) ⟨Nat.le_of_ble_eq_true rfl, Nat.le_of_ble_eq_true rfl⟩ 0 rfl rfl [0, 2, 3, 4, 5] rfl rfl [a_t, a_t_whom, a_t_act, a_t_who, a_t_much] rfl rfl rfl hl.1 rfl (Nat.le_of_ble_eq_true rfl) ⟨Nat.zero_le _, Nat.zero_le _⟩ dX10_fault_25 (fun H locs hw => ?_)
    obtain ⟨z4, h5⟩ : ∃ z, (f_X10_readOn v_t_acts g_t_whom g_t_act g_t_who g_t_much x1 (g_t_pad j)) = z := ⟨_, rfl⟩
    refine W.eq (g2 := F0 m 28 ls [.int z4.1]) (by subst h5; rfl) ?_
    replace hw := kW_cast (ws' := [(a_t, .inr (10, [.ref a_t_wealth, .ref a_t_given, .ref a_t_chart, .ref a_t_relatives, .int v_t_inside, .int v_t_next, .int v_t_years, .ref a_t_sightSet, .ref a_t_sightMany, .int v_t_sights, .ref a_t_digits, .ref a_t_pad, .int v_t_padMany, .ref a_t_act, .ref a_t_who, .ref a_t_whom, .ref a_t_much, .int z4.2.1, .int v_t_givenNow, .int v_t_entered, .ref a_t_had, .int v_t_badAct, .int v_t_badWhy, .int v_t_firstAct, .int v_t_firstHouse, .ref a_t_dues, .ref a_t_groups, .ref a_t_ways, .ref a_t_fit, .int v_t_fitMany, .ref a_t_byMany, .ref a_t_kept, .ref a_t_isKept, .int v_t_keptAt, .int v_t_isWriting])), (a_t_pad, .inl (cI, 60, .inl g_t_pad)), (a_t_whom, .inl (cI, 60, .inl z4.2.2.1)), (a_t_act, .inl (cI, 60, .inl z4.2.2.2.1)), (a_t_who, .inl (cI, 60, .inl z4.2.2.2.2.1)), (a_t_much, .inl (cI, 60, .inl z4.2.2.2.2.2))]) (by subst h5; rfl) hw
    refine lv_istore_n (lv' := [(1, .int z4.1), (0, .ref a_t), (2, .int (nI j))]) hx hb dX10_fault_28 rfl hl (by decide) rfl (fun ls hl => ?_)
    refine lv_iload_n hx hb dX10_fault_29 rfl (lv_at hl 0 rfl) ?_
    refine lv_if_ge (tgt := 35) hx hb dX10_fault_30 (by decide) (fun c6 => ?_) (fun c6 => ?_)
    · refine lv_iinc (v := (nI (j + 1))) (lv' := [(2, .int (nI (j + 1))), (1, .int z4.1), (0, .ref a_t)]) hx hb dX10_fault_35 hl (k := 2) rfl (nI_1 _) (by decide) rfl (fun ls hl => ?_)
      refine lv_goto (tgt := 9) hx hb dX10_fault_38 (by decide) ?_
      have hB : B_X10_fault_9 g_t_pad j (x1, v_t_acts, g_t_whom, g_t_act, g_t_who, g_t_much) = Sum.inl (z4.1, z4.2.1, z4.2.2.1, z4.2.2.2.1, z4.2.2.2.2.1, z4.2.2.2.2.2) := by
        unfold B_X10_fault_9
        exact (lt_c h5).trans ((if_pos c6).trans (rfl))
      rw [lp_c hB] at kk hres
      have hok2 := lpA_c hB hok0
      exact ih (j + 1) z4.1 z4.2.1 z4.2.2.1 z4.2.2.2.1 z4.2.2.2.2.1 z4.2.2.2.2.2 (by omega) (by omega) hok2 hres _ _ hw _ (lv_sub hl [2, 1, 0] rfl) kk
    · refine lv_iload_n hx hb dX10_fault_33 rfl (lv_at hl 2 rfl) ?_
      have hB : B_X10_fault_9 g_t_pad j (x1, v_t_acts, g_t_whom, g_t_act, g_t_who, g_t_much) = Sum.inr (Sum.inr ((nI j), z4.2.1, z4.2.2.1, z4.2.2.2.1, z4.2.2.2.2.1, z4.2.2.2.2.2)) := by
        unfold B_X10_fault_9
        exact (lt_c h5).trans ((if_neg c6).trans (rfl))
      have hf := hres _ (lp_b hB)
      rw [hf]
      exact k_iret C hr hw dX10_fault_34
def f_X10_fault (v_t_padMany : Int32) (g_t_pad : (Nat → Int32)) (g_t_whom : (Nat → Int32)) (g_t_act : (Nat → Int32)) (g_t_who : (Nat → Int32)) (g_t_much : (Nat → Int32)) : Int32 × Int32 × (Nat → Int32) × (Nat → Int32) × (Nat → Int32) × (Nat → Int32) := (Sum.elim (fun y => (if y.1 = 0 then ((-6), y.2.1, y.2.2.1, y.2.2.2.1, y.2.2.2.2.1, y.2.2.2.2.2) else (v_t_padMany, y.2.1, y.2.2.1, y.2.2.2.1, y.2.2.2.2.1, y.2.2.2.2.2))) id (lp (B_X10_fault_9 g_t_pad) 0 ((v_t_padMany.toNatClampNeg) - 0) ((0 : Int32), (0 : Int32), g_t_whom, g_t_act, g_t_who, g_t_much)))
def o_X10_fault (v_t_padMany : Int32) (g_t_pad : (Nat → Int32)) (g_t_whom : (Nat → Int32)) (g_t_act : (Nat → Int32)) (g_t_who : (Nat → Int32)) (g_t_much : (Nat → Int32)) : Prop := ((0 ≤ v_t_padMany) ∧ ((lpA (oB_X10_fault_9 g_t_pad) (B_X10_fault_9 g_t_pad) 0 ((v_t_padMany.toNatClampNeg) - 0) ((0 : Int32), (0 : Int32), g_t_whom, g_t_act, g_t_who, g_t_much)) ∧ True))
set_option maxHeartbeats 4000000 in
set_option maxRecDepth 100000 in
theorem T_X10_fault (l : Launch) (D : va_G) (cI cZ : ClassId) (a_t a_t_wealth a_t_given a_t_chart a_t_relatives a_t_sightSet a_t_sightMany a_t_digits a_t_pad a_t_act a_t_who a_t_whom a_t_much a_t_had a_t_dues a_t_groups a_t_ways a_t_fit a_t_byMany a_t_kept a_t_isKept : Nat) (v_t_inside : Int32) (v_t_next : Int32) (v_t_years : Int32) (v_t_sights : Int32) (v_t_padMany : Int32) (v_t_acts : Int32) (v_t_givenNow : Int32) (v_t_entered : Int32) (v_t_badAct : Int32) (v_t_badWhy : Int32) (v_t_firstAct : Int32) (v_t_firstHouse : Int32) (v_t_fitMany : Int32) (v_t_keptAt : Int32) (v_t_isWriting : Int32) (g_t_pad : (Nat → Int32)) (g_t_whom : (Nat → Int32)) (g_t_act : (Nat → Int32)) (g_t_who : (Nat → Int32)) (g_t_much : (Nat → Int32)) (hok : o_X10_fault v_t_padMany g_t_pad g_t_whom g_t_act g_t_who g_t_much) : CT l D cI cZ yX10_fault wsX10_fault ({ frames := 4, cells := 0, slots := 0, locals := 89 }) [.ref a_t] [(a_t, .inr (10, [.ref a_t_wealth, .ref a_t_given, .ref a_t_chart, .ref a_t_relatives, .int v_t_inside, .int v_t_next, .int v_t_years, .ref a_t_sightSet, .ref a_t_sightMany, .int v_t_sights, .ref a_t_digits, .ref a_t_pad, .int v_t_padMany, .ref a_t_act, .ref a_t_who, .ref a_t_whom, .ref a_t_much, .int v_t_acts, .int v_t_givenNow, .int v_t_entered, .ref a_t_had, .int v_t_badAct, .int v_t_badWhy, .int v_t_firstAct, .int v_t_firstHouse, .ref a_t_dues, .ref a_t_groups, .ref a_t_ways, .ref a_t_fit, .int v_t_fitMany, .ref a_t_byMany, .ref a_t_kept, .ref a_t_isKept, .int v_t_keptAt, .int v_t_isWriting])), (a_t_pad, .inl (cI, 60, .inl g_t_pad)), (a_t_whom, .inl (cI, 60, .inl g_t_whom)), (a_t_act, .inl (cI, 60, .inl g_t_act)), (a_t_who, .inl (cI, 60, .inl g_t_who)), (a_t_much, .inl (cI, 60, .inl g_t_much))] (some (.int (f_X10_fault v_t_padMany g_t_pad g_t_whom g_t_act g_t_who g_t_much).1)) [(a_t, .inr (10, [.ref a_t_wealth, .ref a_t_given, .ref a_t_chart, .ref a_t_relatives, .int v_t_inside, .int v_t_next, .int v_t_years, .ref a_t_sightSet, .ref a_t_sightMany, .int v_t_sights, .ref a_t_digits, .ref a_t_pad, .int v_t_padMany, .ref a_t_act, .ref a_t_who, .ref a_t_whom, .ref a_t_much, .int (f_X10_fault v_t_padMany g_t_pad g_t_whom g_t_act g_t_who g_t_much).2.1, .int v_t_givenNow, .int v_t_entered, .ref a_t_had, .int v_t_badAct, .int v_t_badWhy, .int v_t_firstAct, .int v_t_firstHouse, .ref a_t_dues, .ref a_t_groups, .ref a_t_ways, .ref a_t_fit, .int v_t_fitMany, .ref a_t_byMany, .ref a_t_kept, .ref a_t_isKept, .int v_t_keptAt, .int v_t_isWriting])), (a_t_pad, .inl (cI, 60, .inl g_t_pad)), (a_t_whom, .inl (cI, 60, .inl (f_X10_fault v_t_padMany g_t_pad g_t_whom g_t_act g_t_who g_t_much).2.2.1)), (a_t_act, .inl (cI, 60, .inl (f_X10_fault v_t_padMany g_t_pad g_t_whom g_t_act g_t_who g_t_much).2.2.2.1)), (a_t_who, .inl (cI, 60, .inl (f_X10_fault v_t_padMany g_t_pad g_t_whom g_t_act g_t_who g_t_much).2.2.2.2.1)), (a_t_much, .inl (cI, 60, .inl (f_X10_fault v_t_padMany g_t_pad g_t_whom g_t_act g_t_who g_t_much).2.2.2.2.2))] := by
  refine CT.intro RX10 (by decide) rfl (Nat.le_of_ble_eq_true rfl) rfl ?_
  intro p e s m below meth c C hr hw ls hl
  have hx := C.hx
  have hb := C.hb
  replace hl : lv_has ls 3 [(0, .ref a_t)] := hl
  refine lv_aload_n hx hb dX10_fault_0 rfl (lv_at hl 0 rfl) ?_
  refine lv_iconst (v := 0) hx hb dX10_fault_1 (by decide) ?_
  refine k_put C hw (CC := RX10) (T := TX10) (N := 35) (v := .int 0) nX10_fault_X10 tyX10_ok nmX10 0 rfl rfl 17 (by decide) (List.mem_of_getElem? (i := 1) rfl) rfl rfl rfl rfl (Nat.le_of_ble_eq_true rfl) dX10_fault_2 (fun H locs hw => ?_)
  replace hw : kW D _ s H locs [(a_t, .inr (10, [.ref a_t_wealth, .ref a_t_given, .ref a_t_chart, .ref a_t_relatives, .int v_t_inside, .int v_t_next, .int v_t_years, .ref a_t_sightSet, .ref a_t_sightMany, .int v_t_sights, .ref a_t_digits, .ref a_t_pad, .int v_t_padMany, .ref a_t_act, .ref a_t_who, .ref a_t_whom, .ref a_t_much, .int 0, .int v_t_givenNow, .int v_t_entered, .ref a_t_had, .int v_t_badAct, .int v_t_badWhy, .int v_t_firstAct, .int v_t_firstHouse, .ref a_t_dues, .ref a_t_groups, .ref a_t_ways, .ref a_t_fit, .int v_t_fitMany, .ref a_t_byMany, .ref a_t_kept, .ref a_t_isKept, .int v_t_keptAt, .int v_t_isWriting])), (a_t_pad, .inl (cI, 60, .inl g_t_pad)), (a_t_whom, .inl (cI, 60, .inl g_t_whom)), (a_t_act, .inl (cI, 60, .inl g_t_act)), (a_t_who, .inl (cI, 60, .inl g_t_who)), (a_t_much, .inl (cI, 60, .inl g_t_much))] := hw
  refine lv_iconst (v := 0) hx hb dX10_fault_5 (by decide) ?_
  refine lv_istore_n (lv' := [(1, .int 0), (0, .ref a_t)]) hx hb dX10_fault_6 rfl hl (by decide) rfl (fun ls hl => ?_)
  refine lv_iconst (v := 0) hx hb dX10_fault_7 (by decide) ?_
  refine lv_istore_n (lv' := [(2, .int 0), (1, .int 0), (0, .ref a_t)]) hx hb dX10_fault_8 rfl hl (by decide) rfl (fun ls hl => ?_)
  obtain ⟨h8, hok⟩ := hok
  obtain ⟨h9, hok⟩ := hok
  refine l_X10_fault_9 a_t a_t_wealth a_t_given a_t_chart a_t_relatives a_t_sightSet a_t_sightMany a_t_digits a_t_pad a_t_act a_t_who a_t_whom a_t_much a_t_had a_t_dues a_t_groups a_t_ways a_t_fit a_t_byMany a_t_kept a_t_isKept _ v_t_inside v_t_next v_t_years v_t_sights v_t_padMany v_t_givenNow v_t_entered v_t_badAct v_t_badWhy v_t_firstAct v_t_firstHouse v_t_fitMany v_t_keptAt v_t_isWriting g_t_pad (f_X10_fault v_t_padMany g_t_pad g_t_whom g_t_act g_t_who g_t_much) C hr v_t_padMany.toNatClampNeg (nI_self h8) (clamp_lt _) ((v_t_padMany.toNatClampNeg) - 0) 0 (0 : Int32) (0 : Int32) g_t_whom g_t_act g_t_who g_t_much rfl (by decide) h9 (fun r h => by unfold f_X10_fault; exact congrArg (Sum.elim _ id) h) _ _ hw _ (lv_sub hl [2, 1, 0] rfl) (fun y10 y11 y12 y13 y14 y15 h16 H locs ls hw hl => ?_)
  replace hw : kW D _ s H locs [(a_t, .inr (10, [.ref a_t_wealth, .ref a_t_given, .ref a_t_chart, .ref a_t_relatives, .int v_t_inside, .int v_t_next, .int v_t_years, .ref a_t_sightSet, .ref a_t_sightMany, .int v_t_sights, .ref a_t_digits, .ref a_t_pad, .int v_t_padMany, .ref a_t_act, .ref a_t_who, .ref a_t_whom, .ref a_t_much, .int y11, .int v_t_givenNow, .int v_t_entered, .ref a_t_had, .int v_t_badAct, .int v_t_badWhy, .int v_t_firstAct, .int v_t_firstHouse, .ref a_t_dues, .ref a_t_groups, .ref a_t_ways, .ref a_t_fit, .int v_t_fitMany, .ref a_t_byMany, .ref a_t_kept, .ref a_t_isKept, .int v_t_keptAt, .int v_t_isWriting])), (a_t_pad, .inl (cI, 60, .inl g_t_pad)), (a_t_whom, .inl (cI, 60, .inl y12)), (a_t_act, .inl (cI, 60, .inl y13)), (a_t_who, .inl (cI, 60, .inl y14)), (a_t_much, .inl (cI, 60, .inl y15))] := hw
  replace hl : lv_has ls 3 [(0, .ref a_t), (1, .int y10)] := hl
  refine lv_iload_n hx hb dX10_fault_41 rfl (lv_at hl 1 rfl) ?_
  refine lv_if_ne (tgt := 50) hx hb dX10_fault_42 (by decide) (fun c17 => ?_) (fun c17 => ?_)
  · refine lv_aload_n hx hb dX10_fault_50 rfl (lv_at hl 0 rfl) ?_
    refine k_get C hw (CC := RX10) (T := TX10) (N := 35) nX10_fault_X10 0 rfl rfl 12 (by decide) (List.mem_of_getElem? (i := 2) rfl) rfl rfl dX10_fault_51 ?_
    rw [show f_X10_fault v_t_padMany g_t_pad g_t_whom g_t_act g_t_who g_t_much = (v_t_padMany, y11, y12, y13, y14, y15) from by
        unfold f_X10_fault
        exact (congrArg (Sum.elim _ id) h16).trans ((if_neg c17).trans (rfl))]
    exact k_iret C hr hw dX10_fault_54
  · refine lv_bipush (v := (-6)) hx hb dX10_fault_45 (by decide) ?_
    refine lv_goto (tgt := 54) hx hb dX10_fault_47 (by decide) ?_
    rw [show f_X10_fault v_t_padMany g_t_pad g_t_whom g_t_act g_t_who g_t_much = ((-6), y11, y12, y13, y14, y15) from by
        unfold f_X10_fault
        exact (congrArg (Sum.elim _ id) h16).trans ((if_pos c17).trans (rfl))]
    exact k_iret C hr hw dX10_fault_54

theorem nX10_whyNoGift_X10 : ∀ w ∈ wsX100, w ∈ wsX10_whyNoGift := fun _ h => List.mem_cons_of_mem _ (List.mem_append_right _ h)
def f_X10_whyNoGift (v_t_inside : Int32) (g_t_wealth : (Nat → Int32)) (p1 : Int32) (p2 : Int32) (p3 : Int32) : Int32 := (if p1 = p2 then 2 else (if (f_X10_has v_t_inside p1) = 0 then (if (f_X10_has v_t_inside p2) = 0 then 3 else (if p3 ≤ (g_t_wealth p1.toNatClampNeg) then 0 else 4)) else 3))
def o_X10_whyNoGift (v_t_inside : Int32) (p1 : Int32) (p2 : Int32) : Prop := (if p1 = p2 then True else (if (f_X10_has v_t_inside p1) = 0 then (if (f_X10_has v_t_inside p2) = 0 then True else ((vp_in p1 8) ∧ True)) else True))
set_option maxHeartbeats 4000000 in
set_option maxRecDepth 100000 in
theorem T_X10_whyNoGift (l : Launch) (D : va_G) (cI cZ : ClassId) (a_t a_t_wealth a_t_given a_t_chart a_t_relatives a_t_sightSet a_t_sightMany a_t_digits a_t_pad a_t_act a_t_who a_t_whom a_t_much a_t_had a_t_dues a_t_groups a_t_ways a_t_fit a_t_byMany a_t_kept a_t_isKept : Nat) (v_t_inside : Int32) (v_t_next : Int32) (v_t_years : Int32) (v_t_sights : Int32) (v_t_padMany : Int32) (v_t_acts : Int32) (v_t_givenNow : Int32) (v_t_entered : Int32) (v_t_badAct : Int32) (v_t_badWhy : Int32) (v_t_firstAct : Int32) (v_t_firstHouse : Int32) (v_t_fitMany : Int32) (v_t_keptAt : Int32) (v_t_isWriting : Int32) (g_t_wealth : (Nat → Int32)) (p1 : Int32) (p2 : Int32) (p3 : Int32) (hok : o_X10_whyNoGift v_t_inside p1 p2) : CT l D cI cZ yX10_whyNoGift wsX10_whyNoGift ({ frames := 1, cells := 0, slots := 0, locals := 21 }) [.ref a_t, .int p1, .int p2, .int p3] [(a_t, .inr (10, [.ref a_t_wealth, .ref a_t_given, .ref a_t_chart, .ref a_t_relatives, .int v_t_inside, .int v_t_next, .int v_t_years, .ref a_t_sightSet, .ref a_t_sightMany, .int v_t_sights, .ref a_t_digits, .ref a_t_pad, .int v_t_padMany, .ref a_t_act, .ref a_t_who, .ref a_t_whom, .ref a_t_much, .int v_t_acts, .int v_t_givenNow, .int v_t_entered, .ref a_t_had, .int v_t_badAct, .int v_t_badWhy, .int v_t_firstAct, .int v_t_firstHouse, .ref a_t_dues, .ref a_t_groups, .ref a_t_ways, .ref a_t_fit, .int v_t_fitMany, .ref a_t_byMany, .ref a_t_kept, .ref a_t_isKept, .int v_t_keptAt, .int v_t_isWriting])), (a_t_wealth, .inl (cI, 8, .inl g_t_wealth))] (some (.int (f_X10_whyNoGift v_t_inside g_t_wealth p1 p2 p3))) [(a_t, .inr (10, [.ref a_t_wealth, .ref a_t_given, .ref a_t_chart, .ref a_t_relatives, .int v_t_inside, .int v_t_next, .int v_t_years, .ref a_t_sightSet, .ref a_t_sightMany, .int v_t_sights, .ref a_t_digits, .ref a_t_pad, .int v_t_padMany, .ref a_t_act, .ref a_t_who, .ref a_t_whom, .ref a_t_much, .int v_t_acts, .int v_t_givenNow, .int v_t_entered, .ref a_t_had, .int v_t_badAct, .int v_t_badWhy, .int v_t_firstAct, .int v_t_firstHouse, .ref a_t_dues, .ref a_t_groups, .ref a_t_ways, .ref a_t_fit, .int v_t_fitMany, .ref a_t_byMany, .ref a_t_kept, .ref a_t_isKept, .int v_t_keptAt, .int v_t_isWriting])), (a_t_wealth, .inl (cI, 8, .inl g_t_wealth))] := by
  refine CT.intro RX10 (by decide) rfl (Nat.le_of_ble_eq_true rfl) rfl ?_
  intro p e s m below meth c C hr hw ls hl
  have hx := C.hx
  have hb := C.hb
  replace hl : lv_has ls 4 [(0, .ref a_t), (1, .int p1), (2, .int p2), (3, .int p3)] := hl
  refine lv_iload_n hx hb dX10_whyNoGift_0 rfl (lv_at hl 1 rfl) ?_
  refine lv_iload_n hx hb dX10_whyNoGift_1 rfl (lv_at hl 2 rfl) ?_
  refine lv_icmp_ne (tgt := 7) hx hb dX10_whyNoGift_2 (by decide) (fun c1 => ?_) (fun c1 => ?_)
  · replace hok := Eq.mp (if_neg c1) hok
    refine lv_aload_n hx hb dX10_whyNoGift_7 rfl (lv_at hl 0 rfl) ?_
    refine k_get C hw (CC := RX10) (T := TX10) (N := 35) nX10_whyNoGift_X10 0 rfl rfl 4 (by decide) (List.mem_of_getElem? (i := 1) rfl) rfl rfl dX10_whyNoGift_8 ?_
    refine lv_iload_n hx hb dX10_whyNoGift_11 rfl (lv_at hl 1 rfl) ?_
    refine k_callS (As := [.int v_t_inside, .int p1]) (rest := []) (n := 2) C hw (T_X10_has l D cI cZ v_t_inside p1) gX10_whyNoGift_X10_has rfl ⟨rfl, rfl⟩ (by decide +kernel) ⟨Nat.le_of_ble_eq_true rfl, Nat.le_of_ble_eq_true rfl⟩ [] rfl rfl [] rfl rfl rfl hl.1 rfl (Nat.le_of_ble_eq_true rfl) ⟨Nat.zero_le _, Nat.zero_le _⟩ dX10_whyNoGift_12 (fun H locs hw => ?_)
    refine W.eq (g2 := F0 m 15 ls [.int (f_X10_has v_t_inside p1)]) rfl ?_
    replace hw : kW D _ s H locs [(a_t, .inr (10, [.ref a_t_wealth, .ref a_t_given, .ref a_t_chart, .ref a_t_relatives, .int v_t_inside, .int v_t_next, .int v_t_years, .ref a_t_sightSet, .ref a_t_sightMany, .int v_t_sights, .ref a_t_digits, .ref a_t_pad, .int v_t_padMany, .ref a_t_act, .ref a_t_who, .ref a_t_whom, .ref a_t_much, .int v_t_acts, .int v_t_givenNow, .int v_t_entered, .ref a_t_had, .int v_t_badAct, .int v_t_badWhy, .int v_t_firstAct, .int v_t_firstHouse, .ref a_t_dues, .ref a_t_groups, .ref a_t_ways, .ref a_t_fit, .int v_t_fitMany, .ref a_t_byMany, .ref a_t_kept, .ref a_t_isKept, .int v_t_keptAt, .int v_t_isWriting])), (a_t_wealth, .inl (cI, 8, .inl g_t_wealth))] := hw
    refine lv_if_ne (tgt := 29) hx hb dX10_whyNoGift_15 (by decide) (fun c2 => ?_) (fun c2 => ?_)
    · refine lv_iconst (v := 3) hx hb dX10_whyNoGift_29 (by decide) ?_
      refine lv_goto (tgt := 48) hx hb dX10_whyNoGift_30 (by decide) ?_
      rw [show f_X10_whyNoGift v_t_inside g_t_wealth p1 p2 p3 = 3 from by
          unfold f_X10_whyNoGift
          exact (if_neg c1).trans ((if_neg c2).trans (rfl))]
      exact k_iret C hr hw dX10_whyNoGift_48
    · replace hok := Eq.mp (if_pos c2) hok
      refine lv_aload_n hx hb dX10_whyNoGift_18 rfl (lv_at hl 0 rfl) ?_
      refine k_get C hw (CC := RX10) (T := TX10) (N := 35) nX10_whyNoGift_X10 0 rfl rfl 4 (by decide) (List.mem_of_getElem? (i := 1) rfl) rfl rfl dX10_whyNoGift_19 ?_
      refine lv_iload_n hx hb dX10_whyNoGift_22 rfl (lv_at hl 2 rfl) ?_
      refine k_callS (As := [.int v_t_inside, .int p2]) (rest := []) (n := 2) C hw (T_X10_has l D cI cZ v_t_inside p2) gX10_whyNoGift_X10_has rfl ⟨rfl, rfl⟩ (by decide +kernel) ⟨Nat.le_of_ble_eq_true rfl, Nat.le_of_ble_eq_true rfl⟩ [] rfl rfl [] rfl rfl rfl hl.1 rfl (Nat.le_of_ble_eq_true rfl) ⟨Nat.zero_le _, Nat.zero_le _⟩ dX10_whyNoGift_23 (fun H locs hw => ?_)
      refine W.eq (g2 := F0 m 26 ls [.int (f_X10_has v_t_inside p2)]) rfl ?_
      replace hw : kW D _ s H locs [(a_t, .inr (10, [.ref a_t_wealth, .ref a_t_given, .ref a_t_chart, .ref a_t_relatives, .int v_t_inside, .int v_t_next, .int v_t_years, .ref a_t_sightSet, .ref a_t_sightMany, .int v_t_sights, .ref a_t_digits, .ref a_t_pad, .int v_t_padMany, .ref a_t_act, .ref a_t_who, .ref a_t_whom, .ref a_t_much, .int v_t_acts, .int v_t_givenNow, .int v_t_entered, .ref a_t_had, .int v_t_badAct, .int v_t_badWhy, .int v_t_firstAct, .int v_t_firstHouse, .ref a_t_dues, .ref a_t_groups, .ref a_t_ways, .ref a_t_fit, .int v_t_fitMany, .ref a_t_byMany, .ref a_t_kept, .ref a_t_isKept, .int v_t_keptAt, .int v_t_isWriting])), (a_t_wealth, .inl (cI, 8, .inl g_t_wealth))] := hw
      refine lv_if_ne (tgt := 33) hx hb dX10_whyNoGift_26 (by decide) (fun c3 => ?_) (fun c3 => ?_)
      · replace hok := Eq.mp (if_neg c3) hok
        refine lv_aload_n hx hb dX10_whyNoGift_33 rfl (lv_at hl 0 rfl) ?_
        refine k_get C hw (CC := RX10) (T := TX10) (N := 35) nX10_whyNoGift_X10 0 rfl rfl 0 (by decide) (List.mem_of_getElem? (i := 2) rfl) rfl rfl dX10_whyNoGift_34 ?_
        refine lv_iload_n hx hb dX10_whyNoGift_37 rfl (lv_at hl 1 rfl) ?_
        obtain ⟨h4, hok⟩ := hok
        refine k_iald C hw 1 rfl h4 dX10_whyNoGift_38 ?_
        refine lv_iload_n hx hb dX10_whyNoGift_39 rfl (lv_at hl 3 rfl) ?_
        refine lv_icmp_ge (tgt := 47) hx hb dX10_whyNoGift_40 (by decide) (fun c5 => ?_) (fun c5 => ?_)
        · refine lv_iconst (v := 0) hx hb dX10_whyNoGift_47 (by decide) ?_
          rw [show f_X10_whyNoGift v_t_inside g_t_wealth p1 p2 p3 = 0 from by
              unfold f_X10_whyNoGift
              exact (if_neg c1).trans ((if_pos c2).trans ((if_neg c3).trans ((if_pos c5).trans (rfl))))]
          exact k_iret C hr hw dX10_whyNoGift_48
        · refine lv_iconst (v := 4) hx hb dX10_whyNoGift_43 (by decide) ?_
          refine lv_goto (tgt := 48) hx hb dX10_whyNoGift_44 (by decide) ?_
          rw [show f_X10_whyNoGift v_t_inside g_t_wealth p1 p2 p3 = 4 from by
              unfold f_X10_whyNoGift
              exact (if_neg c1).trans ((if_pos c2).trans ((if_neg c3).trans ((if_neg c5).trans (rfl))))]
          exact k_iret C hr hw dX10_whyNoGift_48
      · refine lv_iconst (v := 3) hx hb dX10_whyNoGift_29 (by decide) ?_
        refine lv_goto (tgt := 48) hx hb dX10_whyNoGift_30 (by decide) ?_
        rw [show f_X10_whyNoGift v_t_inside g_t_wealth p1 p2 p3 = 3 from by
            unfold f_X10_whyNoGift
            exact (if_neg c1).trans ((if_pos c2).trans ((if_pos c3).trans (rfl)))]
        exact k_iret C hr hw dX10_whyNoGift_48
  · refine lv_iconst (v := 2) hx hb dX10_whyNoGift_5 (by decide) ?_
    rw [show f_X10_whyNoGift v_t_inside g_t_wealth p1 p2 p3 = 2 from by
        unfold f_X10_whyNoGift
        exact (if_pos c1).trans (rfl)]
    exact k_iret C hr hw dX10_whyNoGift_6

theorem nX10_whyNot_X10 : ∀ w ∈ wsX100, w ∈ wsX10_whyNot := fun _ h => List.mem_cons_of_mem _ (List.mem_append_right _ h)
def f_X10_whyNot (v_t_inside : Int32) (v_t_years : Int32) (g_t_wealth : (Nat → Int32)) (p1 : Int32) (p2 : Int32) (p3 : Int32) (p4 : Int32) : Int32 := (if p1 = 0 then (if (f_X10_has v_t_inside p2) = 0 then 0 else 1) else (if p1 = 1 then (if (f_X10_has v_t_inside p2) = 0 then 1 else 0) else (if p1 = 2 then (f_X10_whyNoGift v_t_inside g_t_wealth p2 p3 p4) else (if p1 = 3 then (if p2 = p3 then 2 else 0) else (if v_t_years = 99 then 5 else 0)))))
def o_X10_whyNot (v_t_inside : Int32) (p1 : Int32) (p2 : Int32) (p3 : Int32) : Prop := (if p1 = 0 then True else (if p1 = 1 then True else (if p1 = 2 then ((o_X10_whyNoGift v_t_inside p2 p3) ∧ True) else True)))
set_option maxHeartbeats 4000000 in
set_option maxRecDepth 100000 in
theorem T_X10_whyNot (l : Launch) (D : va_G) (cI cZ : ClassId) (a_t a_t_wealth a_t_given a_t_chart a_t_relatives a_t_sightSet a_t_sightMany a_t_digits a_t_pad a_t_act a_t_who a_t_whom a_t_much a_t_had a_t_dues a_t_groups a_t_ways a_t_fit a_t_byMany a_t_kept a_t_isKept : Nat) (v_t_inside : Int32) (v_t_next : Int32) (v_t_years : Int32) (v_t_sights : Int32) (v_t_padMany : Int32) (v_t_acts : Int32) (v_t_givenNow : Int32) (v_t_entered : Int32) (v_t_badAct : Int32) (v_t_badWhy : Int32) (v_t_firstAct : Int32) (v_t_firstHouse : Int32) (v_t_fitMany : Int32) (v_t_keptAt : Int32) (v_t_isWriting : Int32) (g_t_wealth : (Nat → Int32)) (p1 : Int32) (p2 : Int32) (p3 : Int32) (p4 : Int32) (hok : o_X10_whyNot v_t_inside p1 p2 p3) : CT l D cI cZ yX10_whyNot wsX10_whyNot ({ frames := 2, cells := 0, slots := 0, locals := 44 }) [.ref a_t, .int p1, .int p2, .int p3, .int p4] [(a_t, .inr (10, [.ref a_t_wealth, .ref a_t_given, .ref a_t_chart, .ref a_t_relatives, .int v_t_inside, .int v_t_next, .int v_t_years, .ref a_t_sightSet, .ref a_t_sightMany, .int v_t_sights, .ref a_t_digits, .ref a_t_pad, .int v_t_padMany, .ref a_t_act, .ref a_t_who, .ref a_t_whom, .ref a_t_much, .int v_t_acts, .int v_t_givenNow, .int v_t_entered, .ref a_t_had, .int v_t_badAct, .int v_t_badWhy, .int v_t_firstAct, .int v_t_firstHouse, .ref a_t_dues, .ref a_t_groups, .ref a_t_ways, .ref a_t_fit, .int v_t_fitMany, .ref a_t_byMany, .ref a_t_kept, .ref a_t_isKept, .int v_t_keptAt, .int v_t_isWriting])), (a_t_wealth, .inl (cI, 8, .inl g_t_wealth))] (some (.int (f_X10_whyNot v_t_inside v_t_years g_t_wealth p1 p2 p3 p4))) [(a_t, .inr (10, [.ref a_t_wealth, .ref a_t_given, .ref a_t_chart, .ref a_t_relatives, .int v_t_inside, .int v_t_next, .int v_t_years, .ref a_t_sightSet, .ref a_t_sightMany, .int v_t_sights, .ref a_t_digits, .ref a_t_pad, .int v_t_padMany, .ref a_t_act, .ref a_t_who, .ref a_t_whom, .ref a_t_much, .int v_t_acts, .int v_t_givenNow, .int v_t_entered, .ref a_t_had, .int v_t_badAct, .int v_t_badWhy, .int v_t_firstAct, .int v_t_firstHouse, .ref a_t_dues, .ref a_t_groups, .ref a_t_ways, .ref a_t_fit, .int v_t_fitMany, .ref a_t_byMany, .ref a_t_kept, .ref a_t_isKept, .int v_t_keptAt, .int v_t_isWriting])), (a_t_wealth, .inl (cI, 8, .inl g_t_wealth))] := by
  refine CT.intro RX10 (by decide) rfl (Nat.le_of_ble_eq_true rfl) rfl ?_
  intro p e s m below meth c C hr hw ls hl
  have hx := C.hx
  have hb := C.hb
  replace hl : lv_has ls 5 [(0, .ref a_t), (1, .int p1), (2, .int p2), (3, .int p3), (4, .int p4)] := hl
  refine lv_iload_n hx hb dX10_whyNot_0 rfl (lv_at hl 1 rfl) ?_
  by_cases c1 : p1 = 0
  · refine lv_tableIn (tgt := 32) hx hb dX10_whyNot_1 (by rw [c1]; decide) (by rw [c1]; decide) (by rw [c1]; rfl) (by decide) ?_
    refine lv_aload_n hx hb dX10_whyNot_32 rfl (lv_at hl 0 rfl) ?_
    refine k_get C hw (CC := RX10) (T := TX10) (N := 35) nX10_whyNot_X10 0 rfl rfl 4 (by decide) (List.mem_of_getElem? (i := 1) rfl) rfl rfl dX10_whyNot_33 ?_
    refine lv_iload_n hx hb dX10_whyNot_36 rfl (lv_at hl 2 rfl) ?_
    refine k_callS (As := [.int v_t_inside, .int p2]) (rest := []) (n := 2) C hw (T_X10_has l D cI cZ v_t_inside p2) gX10_whyNot_X10_has rfl ⟨rfl, rfl⟩ (by decide +kernel) ⟨Nat.le_of_ble_eq_true rfl, Nat.le_of_ble_eq_true rfl⟩ [] rfl rfl [] rfl rfl rfl hl.1 rfl (Nat.le_of_ble_eq_true rfl) ⟨Nat.zero_le _, Nat.zero_le _⟩ dX10_whyNot_37 (fun H locs hw => ?_)
    refine W.eq (g2 := F0 m 40 ls [.int (f_X10_has v_t_inside p2)]) rfl ?_
    replace hw : kW D _ s H locs [(a_t, .inr (10, [.ref a_t_wealth, .ref a_t_given, .ref a_t_chart, .ref a_t_relatives, .int v_t_inside, .int v_t_next, .int v_t_years, .ref a_t_sightSet, .ref a_t_sightMany, .int v_t_sights, .ref a_t_digits, .ref a_t_pad, .int v_t_padMany, .ref a_t_act, .ref a_t_who, .ref a_t_whom, .ref a_t_much, .int v_t_acts, .int v_t_givenNow, .int v_t_entered, .ref a_t_had, .int v_t_badAct, .int v_t_badWhy, .int v_t_firstAct, .int v_t_firstHouse, .ref a_t_dues, .ref a_t_groups, .ref a_t_ways, .ref a_t_fit, .int v_t_fitMany, .ref a_t_byMany, .ref a_t_kept, .ref a_t_isKept, .int v_t_keptAt, .int v_t_isWriting])), (a_t_wealth, .inl (cI, 8, .inl g_t_wealth))] := hw
    refine lv_if_eq (tgt := 47) hx hb dX10_whyNot_40 (by decide) (fun c2 => ?_) (fun c2 => ?_)
    · refine lv_iconst (v := 0) hx hb dX10_whyNot_47 (by decide) ?_
      rw [show f_X10_whyNot v_t_inside v_t_years g_t_wealth p1 p2 p3 p4 = 0 from by
          unfold f_X10_whyNot
          exact (if_pos c1).trans ((if_pos c2).trans (rfl))]
      exact k_iret C hr hw dX10_whyNot_48
    · refine lv_iconst (v := 1) hx hb dX10_whyNot_43 (by decide) ?_
      refine lv_goto (tgt := 48) hx hb dX10_whyNot_44 (by decide) ?_
      rw [show f_X10_whyNot v_t_inside v_t_years g_t_wealth p1 p2 p3 p4 = 1 from by
          unfold f_X10_whyNot
          exact (if_pos c1).trans ((if_neg c2).trans (rfl))]
      exact k_iret C hr hw dX10_whyNot_48
  · replace hok := Eq.mp (if_neg c1) hok
    by_cases c3 : p1 = 1
    · refine lv_tableIn (tgt := 49) hx hb dX10_whyNot_1 (by rw [c3]; decide) (by rw [c3]; decide) (by rw [c3]; rfl) (by decide) ?_
      refine lv_aload_n hx hb dX10_whyNot_49 rfl (lv_at hl 0 rfl) ?_
      refine k_get C hw (CC := RX10) (T := TX10) (N := 35) nX10_whyNot_X10 0 rfl rfl 4 (by decide) (List.mem_of_getElem? (i := 1) rfl) rfl rfl dX10_whyNot_50 ?_
      refine lv_iload_n hx hb dX10_whyNot_53 rfl (lv_at hl 2 rfl) ?_
      refine k_callS (As := [.int v_t_inside, .int p2]) (rest := []) (n := 2) C hw (T_X10_has l D cI cZ v_t_inside p2) gX10_whyNot_X10_has rfl ⟨rfl, rfl⟩ (by decide +kernel) ⟨Nat.le_of_ble_eq_true rfl, Nat.le_of_ble_eq_true rfl⟩ [] rfl rfl [] rfl rfl rfl hl.1 rfl (Nat.le_of_ble_eq_true rfl) ⟨Nat.zero_le _, Nat.zero_le _⟩ dX10_whyNot_54 (fun H locs hw => ?_)
      refine W.eq (g2 := F0 m 57 ls [.int (f_X10_has v_t_inside p2)]) rfl ?_
      replace hw : kW D _ s H locs [(a_t, .inr (10, [.ref a_t_wealth, .ref a_t_given, .ref a_t_chart, .ref a_t_relatives, .int v_t_inside, .int v_t_next, .int v_t_years, .ref a_t_sightSet, .ref a_t_sightMany, .int v_t_sights, .ref a_t_digits, .ref a_t_pad, .int v_t_padMany, .ref a_t_act, .ref a_t_who, .ref a_t_whom, .ref a_t_much, .int v_t_acts, .int v_t_givenNow, .int v_t_entered, .ref a_t_had, .int v_t_badAct, .int v_t_badWhy, .int v_t_firstAct, .int v_t_firstHouse, .ref a_t_dues, .ref a_t_groups, .ref a_t_ways, .ref a_t_fit, .int v_t_fitMany, .ref a_t_byMany, .ref a_t_kept, .ref a_t_isKept, .int v_t_keptAt, .int v_t_isWriting])), (a_t_wealth, .inl (cI, 8, .inl g_t_wealth))] := hw
      refine lv_if_eq (tgt := 64) hx hb dX10_whyNot_57 (by decide) (fun c4 => ?_) (fun c4 => ?_)
      · refine lv_iconst (v := 1) hx hb dX10_whyNot_64 (by decide) ?_
        rw [show f_X10_whyNot v_t_inside v_t_years g_t_wealth p1 p2 p3 p4 = 1 from by
            unfold f_X10_whyNot
            exact (if_neg c1).trans ((if_pos c3).trans ((if_pos c4).trans (rfl)))]
        exact k_iret C hr hw dX10_whyNot_65
      · refine lv_iconst (v := 0) hx hb dX10_whyNot_60 (by decide) ?_
        refine lv_goto (tgt := 65) hx hb dX10_whyNot_61 (by decide) ?_
        rw [show f_X10_whyNot v_t_inside v_t_years g_t_wealth p1 p2 p3 p4 = 0 from by
            unfold f_X10_whyNot
            exact (if_neg c1).trans ((if_pos c3).trans ((if_neg c4).trans (rfl)))]
        exact k_iret C hr hw dX10_whyNot_65
    · replace hok := Eq.mp (if_neg c3) hok
      by_cases c5 : p1 = 2
      · replace hok := Eq.mp (if_pos c5) hok
        refine lv_tableIn (tgt := 66) hx hb dX10_whyNot_1 (by rw [c5]; decide) (by rw [c5]; decide) (by rw [c5]; rfl) (by decide) ?_
        refine lv_aload_n hx hb dX10_whyNot_66 rfl (lv_at hl 0 rfl) ?_
        refine lv_iload_n hx hb dX10_whyNot_67 rfl (lv_at hl 2 rfl) ?_
        refine lv_iload_n hx hb dX10_whyNot_68 rfl (lv_at hl 3 rfl) ?_
        refine lv_iload hx hb dX10_whyNot_69 (lv_at hl 4 rfl) ?_
        obtain ⟨h6, hok⟩ := hok
        refine k_callV (As := [.int p2, .int p3, .int p4]) (rest := []) (n := 3) (CC := RX10) (T := TX10) (N := 35) C hw (T_X10_whyNoGift l D cI cZ a_t a_t_wealth a_t_given a_t_chart a_t_relatives a_t_sightSet a_t_sightMany a_t_digits a_t_pad a_t_act a_t_who a_t_whom a_t_much a_t_had a_t_dues a_t_groups a_t_ways a_t_fit a_t_byMany a_t_kept a_t_isKept v_t_inside v_t_next v_t_years v_t_sights v_t_padMany v_t_acts v_t_givenNow v_t_entered v_t_badAct v_t_badWhy v_t_firstAct v_t_firstHouse v_t_fitMany v_t_keptAt v_t_isWriting g_t_wealth p2 p3 p4 h6) gX10_whyNot_X10_whyNoGift rfl ⟨rfl, rfl⟩ (by decide +kernel) ⟨Nat.le_of_ble_eq_true rfl, Nat.le_of_ble_eq_true rfl⟩ 0 rfl rfl [0, 1] rfl rfl [a_t, a_t_wealth] rfl rfl rfl hl.1 rfl (Nat.le_of_ble_eq_true rfl) ⟨Nat.zero_le _, Nat.zero_le _⟩ dX10_whyNot_71 (fun H locs hw => ?_)
        refine W.eq (g2 := F0 m 74 ls [.int (f_X10_whyNoGift v_t_inside g_t_wealth p2 p3 p4)]) rfl ?_
        replace hw : kW D _ s H locs [(a_t, .inr (10, [.ref a_t_wealth, .ref a_t_given, .ref a_t_chart, .ref a_t_relatives, .int v_t_inside, .int v_t_next, .int v_t_years, .ref a_t_sightSet, .ref a_t_sightMany, .int v_t_sights, .ref a_t_digits, .ref a_t_pad, .int v_t_padMany, .ref a_t_act, .ref a_t_who, .ref a_t_whom, .ref a_t_much, .int v_t_acts, .int v_t_givenNow, .int v_t_entered, .ref a_t_had, .int v_t_badAct, .int v_t_badWhy, .int v_t_firstAct, .int v_t_firstHouse, .ref a_t_dues, .ref a_t_groups, .ref a_t_ways, .ref a_t_fit, .int v_t_fitMany, .ref a_t_byMany, .ref a_t_kept, .ref a_t_isKept, .int v_t_keptAt, .int v_t_isWriting])), (a_t_wealth, .inl (cI, 8, .inl g_t_wealth))] := hw
        rw [show f_X10_whyNot v_t_inside v_t_years g_t_wealth p1 p2 p3 p4 = (f_X10_whyNoGift v_t_inside g_t_wealth p2 p3 p4) from by
            unfold f_X10_whyNot
            exact (if_neg c1).trans ((if_neg c3).trans ((if_pos c5).trans (rfl)))]
        exact k_iret C hr hw dX10_whyNot_74
      · by_cases c7 : p1 = 3
        · refine lv_tableIn (tgt := 75) hx hb dX10_whyNot_1 (by rw [c7]; decide) (by rw [c7]; decide) (by rw [c7]; rfl) (by decide) ?_
          refine lv_iload_n hx hb dX10_whyNot_75 rfl (lv_at hl 2 rfl) ?_
          refine lv_iload_n hx hb dX10_whyNot_76 rfl (lv_at hl 3 rfl) ?_
          refine lv_icmp_ne (tgt := 84) hx hb dX10_whyNot_77 (by decide) (fun c8 => ?_) (fun c8 => ?_)
          · refine lv_iconst (v := 0) hx hb dX10_whyNot_84 (by decide) ?_
            rw [show f_X10_whyNot v_t_inside v_t_years g_t_wealth p1 p2 p3 p4 = 0 from by
                unfold f_X10_whyNot
                exact (if_neg c1).trans ((if_neg c3).trans ((if_neg c5).trans ((if_pos c7).trans ((if_neg c8).trans (rfl)))))]
            exact k_iret C hr hw dX10_whyNot_85
          · refine lv_iconst (v := 2) hx hb dX10_whyNot_80 (by decide) ?_
            refine lv_goto (tgt := 85) hx hb dX10_whyNot_81 (by decide) ?_
            rw [show f_X10_whyNot v_t_inside v_t_years g_t_wealth p1 p2 p3 p4 = 2 from by
                unfold f_X10_whyNot
                exact (if_neg c1).trans ((if_neg c3).trans ((if_neg c5).trans ((if_pos c7).trans ((if_pos c8).trans (rfl)))))]
            exact k_iret C hr hw dX10_whyNot_85
        · refine lv_tableOut (tgt := 86) hx hb dX10_whyNot_1 (tab_out4 c1 c3 c5 c7) (by decide) ?_
          refine lv_aload_n hx hb dX10_whyNot_86 rfl (lv_at hl 0 rfl) ?_
          refine k_get C hw (CC := RX10) (T := TX10) (N := 35) nX10_whyNot_X10 0 rfl rfl 6 (by decide) (List.mem_of_getElem? (i := 2) rfl) rfl rfl dX10_whyNot_87 ?_
          refine lv_bipush (v := 99) hx hb dX10_whyNot_90 (by decide) ?_
          refine lv_icmp_ne (tgt := 99) hx hb dX10_whyNot_92 (by decide) (fun c9 => ?_) (fun c9 => ?_)
          · refine lv_iconst (v := 0) hx hb dX10_whyNot_99 (by decide) ?_
            rw [show f_X10_whyNot v_t_inside v_t_years g_t_wealth p1 p2 p3 p4 = 0 from by
                unfold f_X10_whyNot
                exact (if_neg c1).trans ((if_neg c3).trans ((if_neg c5).trans ((if_neg c7).trans ((if_neg c9).trans (rfl)))))]
            exact k_iret C hr hw dX10_whyNot_100
          · refine lv_iconst (v := 5) hx hb dX10_whyNot_95 (by decide) ?_
            refine lv_goto (tgt := 100) hx hb dX10_whyNot_96 (by decide) ?_
            rw [show f_X10_whyNot v_t_inside v_t_years g_t_wealth p1 p2 p3 p4 = 5 from by
                unfold f_X10_whyNot
                exact (if_neg c1).trans ((if_neg c3).trans ((if_neg c5).trans ((if_neg c7).trans ((if_pos c9).trans (rfl)))))]
            exact k_iret C hr hw dX10_whyNot_100

theorem nX10_enter_X10 : ∀ w ∈ wsX100, w ∈ wsX10_enter := fun _ h => List.mem_cons_of_mem _ (List.mem_append_right _ h)
def f_X10_enter (v_t_inside : Int32) (p1 : Int32) : Int32 × Int32 := ((v_t_inside ||| ((1 : Int32) <<< (p1 &&& 31))), p1)
set_option maxHeartbeats 4000000 in
set_option maxRecDepth 100000 in
theorem T_X10_enter (l : Launch) (D : va_G) (cI cZ : ClassId) (a_t a_t_wealth a_t_given a_t_chart a_t_relatives a_t_sightSet a_t_sightMany a_t_digits a_t_pad a_t_act a_t_who a_t_whom a_t_much a_t_had a_t_dues a_t_groups a_t_ways a_t_fit a_t_byMany a_t_kept a_t_isKept : Nat) (v_t_inside : Int32) (v_t_next : Int32) (v_t_years : Int32) (v_t_sights : Int32) (v_t_padMany : Int32) (v_t_acts : Int32) (v_t_givenNow : Int32) (v_t_entered : Int32) (v_t_badAct : Int32) (v_t_badWhy : Int32) (v_t_firstAct : Int32) (v_t_firstHouse : Int32) (v_t_fitMany : Int32) (v_t_keptAt : Int32) (v_t_isWriting : Int32) (p1 : Int32) : CT l D cI cZ yX10_enter wsX10_enter ({ frames := 0, cells := 0, slots := 0, locals := 0 }) [.ref a_t, .int p1] [(a_t, .inr (10, [.ref a_t_wealth, .ref a_t_given, .ref a_t_chart, .ref a_t_relatives, .int v_t_inside, .int v_t_next, .int v_t_years, .ref a_t_sightSet, .ref a_t_sightMany, .int v_t_sights, .ref a_t_digits, .ref a_t_pad, .int v_t_padMany, .ref a_t_act, .ref a_t_who, .ref a_t_whom, .ref a_t_much, .int v_t_acts, .int v_t_givenNow, .int v_t_entered, .ref a_t_had, .int v_t_badAct, .int v_t_badWhy, .int v_t_firstAct, .int v_t_firstHouse, .ref a_t_dues, .ref a_t_groups, .ref a_t_ways, .ref a_t_fit, .int v_t_fitMany, .ref a_t_byMany, .ref a_t_kept, .ref a_t_isKept, .int v_t_keptAt, .int v_t_isWriting]))] none [(a_t, .inr (10, [.ref a_t_wealth, .ref a_t_given, .ref a_t_chart, .ref a_t_relatives, .int (f_X10_enter v_t_inside p1).1, .int v_t_next, .int v_t_years, .ref a_t_sightSet, .ref a_t_sightMany, .int v_t_sights, .ref a_t_digits, .ref a_t_pad, .int v_t_padMany, .ref a_t_act, .ref a_t_who, .ref a_t_whom, .ref a_t_much, .int v_t_acts, .int v_t_givenNow, .int (f_X10_enter v_t_inside p1).2, .ref a_t_had, .int v_t_badAct, .int v_t_badWhy, .int v_t_firstAct, .int v_t_firstHouse, .ref a_t_dues, .ref a_t_groups, .ref a_t_ways, .ref a_t_fit, .int v_t_fitMany, .ref a_t_byMany, .ref a_t_kept, .ref a_t_isKept, .int v_t_keptAt, .int v_t_isWriting]))] := by
  refine CT.intro RX10 (by decide) rfl (Nat.le_of_ble_eq_true rfl) rfl ?_
  intro p e s m below meth c C hr hw ls hl
  have hx := C.hx
  have hb := C.hb
  replace hl : lv_has ls 2 [(0, .ref a_t), (1, .int p1)] := hl
  refine lv_aload_n hx hb dX10_enter_0 rfl (lv_at hl 0 rfl) ?_
  refine lv_dup hx hb dX10_enter_1 rfl ?_
  refine k_get C hw (CC := RX10) (T := TX10) (N := 35) nX10_enter_X10 0 rfl rfl 4 (by decide) (List.mem_of_getElem? (i := 1) rfl) rfl rfl dX10_enter_2 ?_
  refine lv_iconst (v := 1) hx hb dX10_enter_5 (by decide) ?_
  refine lv_iload_n hx hb dX10_enter_6 rfl (lv_at hl 1 rfl) ?_
  refine lv_ishl hx hb dX10_enter_7 ?_
  refine lv_ior hx hb dX10_enter_8 ?_
  refine k_put C hw (CC := RX10) (T := TX10) (N := 35) (v := .int (v_t_inside ||| ((1 : Int32) <<< (p1 &&& 31)))) nX10_enter_X10 tyX10_ok nmX10 0 rfl rfl 4 (by decide) (List.mem_of_getElem? (i := 1) rfl) rfl rfl rfl rfl (Nat.le_of_ble_eq_true rfl) dX10_enter_9 (fun H locs hw => ?_)
  replace hw : kW D _ s H locs [(a_t, .inr (10, [.ref a_t_wealth, .ref a_t_given, .ref a_t_chart, .ref a_t_relatives, .int (v_t_inside ||| ((1 : Int32) <<< (p1 &&& 31))), .int v_t_next, .int v_t_years, .ref a_t_sightSet, .ref a_t_sightMany, .int v_t_sights, .ref a_t_digits, .ref a_t_pad, .int v_t_padMany, .ref a_t_act, .ref a_t_who, .ref a_t_whom, .ref a_t_much, .int v_t_acts, .int v_t_givenNow, .int v_t_entered, .ref a_t_had, .int v_t_badAct, .int v_t_badWhy, .int v_t_firstAct, .int v_t_firstHouse, .ref a_t_dues, .ref a_t_groups, .ref a_t_ways, .ref a_t_fit, .int v_t_fitMany, .ref a_t_byMany, .ref a_t_kept, .ref a_t_isKept, .int v_t_keptAt, .int v_t_isWriting]))] := hw
  refine lv_aload_n hx hb dX10_enter_12 rfl (lv_at hl 0 rfl) ?_
  refine lv_iload_n hx hb dX10_enter_13 rfl (lv_at hl 1 rfl) ?_
  refine k_put C hw (CC := RX10) (T := TX10) (N := 35) (v := .int p1) nX10_enter_X10 tyX10_ok nmX10 0 rfl rfl 19 (by decide) (List.mem_of_getElem? (i := 2) rfl) rfl rfl rfl rfl (Nat.le_of_ble_eq_true rfl) dX10_enter_14 (fun H locs hw => ?_)
  replace hw : kW D _ s H locs [(a_t, .inr (10, [.ref a_t_wealth, .ref a_t_given, .ref a_t_chart, .ref a_t_relatives, .int (v_t_inside ||| ((1 : Int32) <<< (p1 &&& 31))), .int v_t_next, .int v_t_years, .ref a_t_sightSet, .ref a_t_sightMany, .int v_t_sights, .ref a_t_digits, .ref a_t_pad, .int v_t_padMany, .ref a_t_act, .ref a_t_who, .ref a_t_whom, .ref a_t_much, .int v_t_acts, .int v_t_givenNow, .int p1, .ref a_t_had, .int v_t_badAct, .int v_t_badWhy, .int v_t_firstAct, .int v_t_firstHouse, .ref a_t_dues, .ref a_t_groups, .ref a_t_ways, .ref a_t_fit, .int v_t_fitMany, .ref a_t_byMany, .ref a_t_kept, .ref a_t_isKept, .int v_t_keptAt, .int v_t_isWriting]))] := hw
  rw [show f_X10_enter v_t_inside p1 = ((v_t_inside ||| ((1 : Int32) <<< (p1 &&& 31))), p1) from by
      unfold f_X10_enter
      exact rfl]
  exact k_vret C hr hw dX10_enter_17

theorem nX10_give_X10 : ∀ w ∈ wsX100, w ∈ wsX10_give := fun _ h => List.mem_cons_of_mem _ (List.mem_append_right _ h)
def f_X10_give (v_t_givenNow : Int32) (g_t_wealth : (Nat → Int32)) (g_t_given : (Nat → Int32)) (p1 : Int32) (p2 : Int32) (p3 : Int32) : Int32 × (Nat → Int32) × (Nat → Int32) := (lt (f_X10_less (999 : Int32) (((upd g_t_wealth p1.toNatClampNeg ((g_t_wealth p1.toNatClampNeg) - p3)) p2.toNatClampNeg) + p3)) (fun z4 => (lt (f_X10_less (999 : Int32) ((g_t_given ((8 * p1) + p2).toNatClampNeg) + p3)) (fun z8 => ((v_t_givenNow + p3), (upd (upd g_t_wealth p1.toNatClampNeg ((g_t_wealth p1.toNatClampNeg) - p3)) p2.toNatClampNeg z4), (upd g_t_given ((8 * p1) + p2).toNatClampNeg z8))))))
def o_X10_give (g_t_wealth : (Nat → Int32)) (g_t_given : (Nat → Int32)) (p1 : Int32) (p2 : Int32) (p3 : Int32) : Prop := ((vp_in p1 8) ∧ ((vp_in p1 8) ∧ ((vp_in p2 8) ∧ (lt (f_X10_less (999 : Int32) (((upd g_t_wealth p1.toNatClampNeg ((g_t_wealth p1.toNatClampNeg) - p3)) p2.toNatClampNeg) + p3)) (fun z4 => ((vp_in p2 8) ∧ ((vp_in ((8 * p1) + p2) 64) ∧ (lt (f_X10_less (999 : Int32) ((g_t_given ((8 * p1) + p2).toNatClampNeg) + p3)) (fun z8 => ((vp_in ((8 * p1) + p2) 64) ∧ True))))))))))
set_option maxHeartbeats 4000000 in
set_option maxRecDepth 100000 in
theorem T_X10_give (l : Launch) (D : va_G) (cI cZ : ClassId) (a_t a_t_wealth a_t_given a_t_chart a_t_relatives a_t_sightSet a_t_sightMany a_t_digits a_t_pad a_t_act a_t_who a_t_whom a_t_much a_t_had a_t_dues a_t_groups a_t_ways a_t_fit a_t_byMany a_t_kept a_t_isKept : Nat) (v_t_inside : Int32) (v_t_next : Int32) (v_t_years : Int32) (v_t_sights : Int32) (v_t_padMany : Int32) (v_t_acts : Int32) (v_t_givenNow : Int32) (v_t_entered : Int32) (v_t_badAct : Int32) (v_t_badWhy : Int32) (v_t_firstAct : Int32) (v_t_firstHouse : Int32) (v_t_fitMany : Int32) (v_t_keptAt : Int32) (v_t_isWriting : Int32) (g_t_wealth : (Nat → Int32)) (g_t_given : (Nat → Int32)) (p1 : Int32) (p2 : Int32) (p3 : Int32) (hok : o_X10_give g_t_wealth g_t_given p1 p2 p3) : CT l D cI cZ yX10_give wsX10_give ({ frames := 1, cells := 0, slots := 0, locals := 21 }) [.ref a_t, .int p1, .int p2, .int p3] [(a_t, .inr (10, [.ref a_t_wealth, .ref a_t_given, .ref a_t_chart, .ref a_t_relatives, .int v_t_inside, .int v_t_next, .int v_t_years, .ref a_t_sightSet, .ref a_t_sightMany, .int v_t_sights, .ref a_t_digits, .ref a_t_pad, .int v_t_padMany, .ref a_t_act, .ref a_t_who, .ref a_t_whom, .ref a_t_much, .int v_t_acts, .int v_t_givenNow, .int v_t_entered, .ref a_t_had, .int v_t_badAct, .int v_t_badWhy, .int v_t_firstAct, .int v_t_firstHouse, .ref a_t_dues, .ref a_t_groups, .ref a_t_ways, .ref a_t_fit, .int v_t_fitMany, .ref a_t_byMany, .ref a_t_kept, .ref a_t_isKept, .int v_t_keptAt, .int v_t_isWriting])), (a_t_wealth, .inl (cI, 8, .inl g_t_wealth)), (a_t_given, .inl (cI, 64, .inl g_t_given))] none [(a_t, .inr (10, [.ref a_t_wealth, .ref a_t_given, .ref a_t_chart, .ref a_t_relatives, .int v_t_inside, .int v_t_next, .int v_t_years, .ref a_t_sightSet, .ref a_t_sightMany, .int v_t_sights, .ref a_t_digits, .ref a_t_pad, .int v_t_padMany, .ref a_t_act, .ref a_t_who, .ref a_t_whom, .ref a_t_much, .int v_t_acts, .int (f_X10_give v_t_givenNow g_t_wealth g_t_given p1 p2 p3).1, .int v_t_entered, .ref a_t_had, .int v_t_badAct, .int v_t_badWhy, .int v_t_firstAct, .int v_t_firstHouse, .ref a_t_dues, .ref a_t_groups, .ref a_t_ways, .ref a_t_fit, .int v_t_fitMany, .ref a_t_byMany, .ref a_t_kept, .ref a_t_isKept, .int v_t_keptAt, .int v_t_isWriting])), (a_t_wealth, .inl (cI, 8, .inl (f_X10_give v_t_givenNow g_t_wealth g_t_given p1 p2 p3).2.1)), (a_t_given, .inl (cI, 64, .inl (f_X10_give v_t_givenNow g_t_wealth g_t_given p1 p2 p3).2.2))] := by
  refine CT.intro RX10 (by decide) rfl (Nat.le_of_ble_eq_true rfl) rfl ?_
  intro p e s m below meth c C hr hw ls hl
  have hx := C.hx
  have hb := C.hb
  replace hl : lv_has ls 4 [(0, .ref a_t), (1, .int p1), (2, .int p2), (3, .int p3)] := hl
  refine lv_aload_n hx hb dX10_give_0 rfl (lv_at hl 0 rfl) ?_
  refine k_get C hw (CC := RX10) (T := TX10) (N := 35) nX10_give_X10 0 rfl rfl 0 (by decide) (List.mem_of_getElem? (i := 1) rfl) rfl rfl dX10_give_1 ?_
  refine lv_iload_n hx hb dX10_give_4 rfl (lv_at hl 1 rfl) ?_
  refine lv_dup2_11 hx hb dX10_give_5 rfl rfl ?_
  obtain ⟨h1, hok⟩ := hok
  refine k_iald C hw 1 rfl h1 dX10_give_6 ?_
  refine lv_iload_n hx hb dX10_give_7 rfl (lv_at hl 3 rfl) ?_
  refine lv_isub hx hb dX10_give_8 ?_
  obtain ⟨h2, hok⟩ := hok
  refine k_iast C hw 1 rfl h2 dX10_give_9 (fun H locs hw => ?_)
  replace hw : kW D _ s H locs [(a_t, .inr (10, [.ref a_t_wealth, .ref a_t_given, .ref a_t_chart, .ref a_t_relatives, .int v_t_inside, .int v_t_next, .int v_t_years, .ref a_t_sightSet, .ref a_t_sightMany, .int v_t_sights, .ref a_t_digits, .ref a_t_pad, .int v_t_padMany, .ref a_t_act, .ref a_t_who, .ref a_t_whom, .ref a_t_much, .int v_t_acts, .int v_t_givenNow, .int v_t_entered, .ref a_t_had, .int v_t_badAct, .int v_t_badWhy, .int v_t_firstAct, .int v_t_firstHouse, .ref a_t_dues, .ref a_t_groups, .ref a_t_ways, .ref a_t_fit, .int v_t_fitMany, .ref a_t_byMany, .ref a_t_kept, .ref a_t_isKept, .int v_t_keptAt, .int v_t_isWriting])), (a_t_wealth, .inl (cI, 8, .inl (upd g_t_wealth p1.toNatClampNeg ((g_t_wealth p1.toNatClampNeg) - p3)))), (a_t_given, .inl (cI, 64, .inl g_t_given))] := hw
  refine lv_aload_n hx hb dX10_give_10 rfl (lv_at hl 0 rfl) ?_
  refine k_get C hw (CC := RX10) (T := TX10) (N := 35) nX10_give_X10 0 rfl rfl 0 (by decide) (List.mem_of_getElem? (i := 1) rfl) rfl rfl dX10_give_11 ?_
  refine lv_iload_n hx hb dX10_give_14 rfl (lv_at hl 2 rfl) ?_
  refine lv_sipush (v := 999) hx hb dX10_give_15 (by decide) ?_
  refine lv_aload_n hx hb dX10_give_18 rfl (lv_at hl 0 rfl) ?_
  refine k_get C hw (CC := RX10) (T := TX10) (N := 35) nX10_give_X10 0 rfl rfl 0 (by decide) (List.mem_of_getElem? (i := 1) rfl) rfl rfl dX10_give_19 ?_
  refine lv_iload_n hx hb dX10_give_22 rfl (lv_at hl 2 rfl) ?_
  obtain ⟨h3, hok⟩ := hok
  refine k_iald C hw 1 rfl h3 dX10_give_23 ?_
  refine lv_iload_n hx hb dX10_give_24 rfl (lv_at hl 3 rfl) ?_
  refine lv_iadd hx hb dX10_give_25 ?_
  refine k_callS (As := [.int 999, .int (((upd g_t_wealth p1.toNatClampNeg ((g_t_wealth p1.toNatClampNeg) - p3)) p2.toNatClampNeg) + p3)]) (rest := [.int p2, .ref a_t_wealth]) (n := 2) C hw (T_X10_less l D cI cZ (999 : Int32) (((upd g_t_wealth p1.toNatClampNeg ((g_t_wealth p1.toNatClampNeg) - p3)) p2.toNatClampNeg) + p3)) gX10_give_X10_less rfl ⟨rfl, rfl⟩ (by decide +kernel) ⟨Nat.le_of_ble_eq_true rfl, Nat.le_of_ble_eq_true rfl⟩ [] rfl rfl [] rfl rfl rfl hl.1 rfl (Nat.le_of_ble_eq_true rfl) ⟨Nat.zero_le _, Nat.zero_le _⟩ dX10_give_26 (fun H locs hw => ?_)
  obtain ⟨z4, h5⟩ : ∃ z, (f_X10_less (999 : Int32) (((upd g_t_wealth p1.toNatClampNeg ((g_t_wealth p1.toNatClampNeg) - p3)) p2.toNatClampNeg) + p3)) = z := ⟨_, rfl⟩
  refine W.eq (g2 := F0 m 29 ls [.int z4, .int p2, .ref a_t_wealth]) (by subst h5; rfl) ?_
  replace hw := kW_cast (ws' := [(a_t, .inr (10, [.ref a_t_wealth, .ref a_t_given, .ref a_t_chart, .ref a_t_relatives, .int v_t_inside, .int v_t_next, .int v_t_years, .ref a_t_sightSet, .ref a_t_sightMany, .int v_t_sights, .ref a_t_digits, .ref a_t_pad, .int v_t_padMany, .ref a_t_act, .ref a_t_who, .ref a_t_whom, .ref a_t_much, .int v_t_acts, .int v_t_givenNow, .int v_t_entered, .ref a_t_had, .int v_t_badAct, .int v_t_badWhy, .int v_t_firstAct, .int v_t_firstHouse, .ref a_t_dues, .ref a_t_groups, .ref a_t_ways, .ref a_t_fit, .int v_t_fitMany, .ref a_t_byMany, .ref a_t_kept, .ref a_t_isKept, .int v_t_keptAt, .int v_t_isWriting])), (a_t_wealth, .inl (cI, 8, .inl (upd g_t_wealth p1.toNatClampNeg ((g_t_wealth p1.toNatClampNeg) - p3)))), (a_t_given, .inl (cI, 64, .inl g_t_given))]) (by subst h5; rfl) hw
  replace hok := Eq.mp (lt_c h5) hok
  obtain ⟨h6, hok⟩ := hok
  refine k_iast C hw 1 rfl h6 dX10_give_29 (fun H locs hw => ?_)
  replace hw : kW D _ s H locs [(a_t, .inr (10, [.ref a_t_wealth, .ref a_t_given, .ref a_t_chart, .ref a_t_relatives, .int v_t_inside, .int v_t_next, .int v_t_years, .ref a_t_sightSet, .ref a_t_sightMany, .int v_t_sights, .ref a_t_digits, .ref a_t_pad, .int v_t_padMany, .ref a_t_act, .ref a_t_who, .ref a_t_whom, .ref a_t_much, .int v_t_acts, .int v_t_givenNow, .int v_t_entered, .ref a_t_had, .int v_t_badAct, .int v_t_badWhy, .int v_t_firstAct, .int v_t_firstHouse, .ref a_t_dues, .ref a_t_groups, .ref a_t_ways, .ref a_t_fit, .int v_t_fitMany, .ref a_t_byMany, .ref a_t_kept, .ref a_t_isKept, .int v_t_keptAt, .int v_t_isWriting])), (a_t_wealth, .inl (cI, 8, .inl (upd (upd g_t_wealth p1.toNatClampNeg ((g_t_wealth p1.toNatClampNeg) - p3)) p2.toNatClampNeg z4))), (a_t_given, .inl (cI, 64, .inl g_t_given))] := hw
  refine lv_aload_n hx hb dX10_give_30 rfl (lv_at hl 0 rfl) ?_
  refine k_get C hw (CC := RX10) (T := TX10) (N := 35) nX10_give_X10 0 rfl rfl 1 (by decide) (List.mem_of_getElem? (i := 2) rfl) rfl rfl dX10_give_31 ?_
  refine lv_bipush (v := 8) hx hb dX10_give_34 (by decide) ?_
  refine lv_iload_n hx hb dX10_give_36 rfl (lv_at hl 1 rfl) ?_
  refine lv_imul hx hb dX10_give_37 ?_
  refine lv_iload_n hx hb dX10_give_38 rfl (lv_at hl 2 rfl) ?_
  refine lv_iadd hx hb dX10_give_39 ?_
  refine lv_sipush (v := 999) hx hb dX10_give_40 (by decide) ?_
  refine lv_aload_n hx hb dX10_give_43 rfl (lv_at hl 0 rfl) ?_
  refine k_get C hw (CC := RX10) (T := TX10) (N := 35) nX10_give_X10 0 rfl rfl 1 (by decide) (List.mem_of_getElem? (i := 2) rfl) rfl rfl dX10_give_44 ?_
  refine lv_bipush (v := 8) hx hb dX10_give_47 (by decide) ?_
  refine lv_iload_n hx hb dX10_give_49 rfl (lv_at hl 1 rfl) ?_
  refine lv_imul hx hb dX10_give_50 ?_
  refine lv_iload_n hx hb dX10_give_51 rfl (lv_at hl 2 rfl) ?_
  refine lv_iadd hx hb dX10_give_52 ?_
  obtain ⟨h7, hok⟩ := hok
  refine k_iald C hw 2 rfl h7 dX10_give_53 ?_
  refine lv_iload_n hx hb dX10_give_54 rfl (lv_at hl 3 rfl) ?_
  refine lv_iadd hx hb dX10_give_55 ?_
  refine k_callS (As := [.int 999, .int ((g_t_given ((8 * p1) + p2).toNatClampNeg) + p3)]) (rest := [.int ((8 * p1) + p2), .ref a_t_given]) (n := 2) C hw (T_X10_less l D cI cZ (999 : Int32) ((g_t_given ((8 * p1) + p2).toNatClampNeg) + p3)) gX10_give_X10_less rfl ⟨rfl, rfl⟩ (by decide +kernel) ⟨Nat.le_of_ble_eq_true rfl, Nat.le_of_ble_eq_true rfl⟩ [] rfl rfl [] rfl rfl rfl hl.1 rfl (Nat.le_of_ble_eq_true rfl) ⟨Nat.zero_le _, Nat.zero_le _⟩ dX10_give_56 (fun H locs hw => ?_)
  obtain ⟨z8, h9⟩ : ∃ z, (f_X10_less (999 : Int32) ((g_t_given ((8 * p1) + p2).toNatClampNeg) + p3)) = z := ⟨_, rfl⟩
  refine W.eq (g2 := F0 m 59 ls [.int z8, .int ((8 * p1) + p2), .ref a_t_given]) (by subst h9; rfl) ?_
  replace hw := kW_cast (ws' := [(a_t, .inr (10, [.ref a_t_wealth, .ref a_t_given, .ref a_t_chart, .ref a_t_relatives, .int v_t_inside, .int v_t_next, .int v_t_years, .ref a_t_sightSet, .ref a_t_sightMany, .int v_t_sights, .ref a_t_digits, .ref a_t_pad, .int v_t_padMany, .ref a_t_act, .ref a_t_who, .ref a_t_whom, .ref a_t_much, .int v_t_acts, .int v_t_givenNow, .int v_t_entered, .ref a_t_had, .int v_t_badAct, .int v_t_badWhy, .int v_t_firstAct, .int v_t_firstHouse, .ref a_t_dues, .ref a_t_groups, .ref a_t_ways, .ref a_t_fit, .int v_t_fitMany, .ref a_t_byMany, .ref a_t_kept, .ref a_t_isKept, .int v_t_keptAt, .int v_t_isWriting])), (a_t_wealth, .inl (cI, 8, .inl (upd (upd g_t_wealth p1.toNatClampNeg ((g_t_wealth p1.toNatClampNeg) - p3)) p2.toNatClampNeg z4))), (a_t_given, .inl (cI, 64, .inl g_t_given))]) (by subst h9; rfl) hw
  replace hok := Eq.mp (lt_c h9) hok
  obtain ⟨h10, hok⟩ := hok
  refine k_iast C hw 2 rfl h10 dX10_give_59 (fun H locs hw => ?_)
  replace hw : kW D _ s H locs [(a_t, .inr (10, [.ref a_t_wealth, .ref a_t_given, .ref a_t_chart, .ref a_t_relatives, .int v_t_inside, .int v_t_next, .int v_t_years, .ref a_t_sightSet, .ref a_t_sightMany, .int v_t_sights, .ref a_t_digits, .ref a_t_pad, .int v_t_padMany, .ref a_t_act, .ref a_t_who, .ref a_t_whom, .ref a_t_much, .int v_t_acts, .int v_t_givenNow, .int v_t_entered, .ref a_t_had, .int v_t_badAct, .int v_t_badWhy, .int v_t_firstAct, .int v_t_firstHouse, .ref a_t_dues, .ref a_t_groups, .ref a_t_ways, .ref a_t_fit, .int v_t_fitMany, .ref a_t_byMany, .ref a_t_kept, .ref a_t_isKept, .int v_t_keptAt, .int v_t_isWriting])), (a_t_wealth, .inl (cI, 8, .inl (upd (upd g_t_wealth p1.toNatClampNeg ((g_t_wealth p1.toNatClampNeg) - p3)) p2.toNatClampNeg z4))), (a_t_given, .inl (cI, 64, .inl (upd g_t_given ((8 * p1) + p2).toNatClampNeg z8)))] := hw
  refine lv_aload_n hx hb dX10_give_60 rfl (lv_at hl 0 rfl) ?_
  refine lv_dup hx hb dX10_give_61 rfl ?_
  refine k_get C hw (CC := RX10) (T := TX10) (N := 35) nX10_give_X10 0 rfl rfl 18 (by decide) (List.mem_of_getElem? (i := 3) rfl) rfl rfl dX10_give_62 ?_
  refine lv_iload_n hx hb dX10_give_65 rfl (lv_at hl 3 rfl) ?_
  refine lv_iadd hx hb dX10_give_66 ?_
  refine k_put C hw (CC := RX10) (T := TX10) (N := 35) (v := .int (v_t_givenNow + p3)) nX10_give_X10 tyX10_ok nmX10 0 rfl rfl 18 (by decide) (List.mem_of_getElem? (i := 3) rfl) rfl rfl rfl rfl (Nat.le_of_ble_eq_true rfl) dX10_give_67 (fun H locs hw => ?_)
  replace hw : kW D _ s H locs [(a_t, .inr (10, [.ref a_t_wealth, .ref a_t_given, .ref a_t_chart, .ref a_t_relatives, .int v_t_inside, .int v_t_next, .int v_t_years, .ref a_t_sightSet, .ref a_t_sightMany, .int v_t_sights, .ref a_t_digits, .ref a_t_pad, .int v_t_padMany, .ref a_t_act, .ref a_t_who, .ref a_t_whom, .ref a_t_much, .int v_t_acts, .int (v_t_givenNow + p3), .int v_t_entered, .ref a_t_had, .int v_t_badAct, .int v_t_badWhy, .int v_t_firstAct, .int v_t_firstHouse, .ref a_t_dues, .ref a_t_groups, .ref a_t_ways, .ref a_t_fit, .int v_t_fitMany, .ref a_t_byMany, .ref a_t_kept, .ref a_t_isKept, .int v_t_keptAt, .int v_t_isWriting])), (a_t_wealth, .inl (cI, 8, .inl (upd (upd g_t_wealth p1.toNatClampNeg ((g_t_wealth p1.toNatClampNeg) - p3)) p2.toNatClampNeg z4))), (a_t_given, .inl (cI, 64, .inl (upd g_t_given ((8 * p1) + p2).toNatClampNeg z8)))] := hw
  rw [show f_X10_give v_t_givenNow g_t_wealth g_t_given p1 p2 p3 = ((v_t_givenNow + p3), (upd (upd g_t_wealth p1.toNatClampNeg ((g_t_wealth p1.toNatClampNeg) - p3)) p2.toNatClampNeg z4), (upd g_t_given ((8 * p1) + p2).toNatClampNeg z8)) from by
      unfold f_X10_give
      exact (lt_c h5).trans ((lt_c h9).trans (rfl))]
  exact k_vret C hr hw dX10_give_70

theorem nX10_placeOf_X10 : ∀ w ∈ wsX100, w ∈ wsX10_placeOf := fun _ h => List.mem_cons_of_mem _ (List.mem_append_right _ h)
def B_X10_placeOf_4 (x1 : Int32) (g_t_chart : (Nat → Int32)) (j : Nat) (v : Int32) : Int32 := (if (g_t_chart j) = x1 then (nI j) else v)
set_option maxHeartbeats 4000000 in
set_option maxRecDepth 100000 in
theorem l_X10_placeOf_4 {p : Program} {l : Launch} {e : Env} {s : State} {m : MethodId} {args : Array Value} {below : List Frame} {meth : Method} {c : Code} {D : va_G} {cI cZ : ClassId} {Q : State → Prop} {A : Nat → Prop} (a_t a_t_wealth a_t_given a_t_chart a_t_relatives a_t_sightSet a_t_sightMany a_t_digits a_t_pad a_t_act a_t_who a_t_whom a_t_much a_t_had a_t_dues a_t_groups a_t_ways a_t_fit a_t_byMany a_t_kept a_t_isKept : Nat) (x1 : Int32) (v_t_inside : Int32) (v_t_next : Int32) (v_t_years : Int32) (v_t_sights : Int32) (v_t_padMany : Int32) (v_t_acts : Int32) (v_t_givenNow : Int32) (v_t_entered : Int32) (v_t_badAct : Int32) (v_t_badWhy : Int32) (v_t_firstAct : Int32) (v_t_firstHouse : Int32) (v_t_fitMany : Int32) (v_t_keptAt : Int32) (v_t_isWriting : Int32) (g_t_chart : (Nat → Int32)) (C : kC p s m args meth c cX10_placeOf 4 wsX10_placeOf RX10 D cI cZ A) : ∀ (n j : Nat) (x2 : Int32), n = 8 - j → j < 2147483648 → ∀ (H : Heap) (locs : List Loc), kW D A s H locs [(a_t, .inr (10, [.ref a_t_wealth, .ref a_t_given, .ref a_t_chart, .ref a_t_relatives, .int v_t_inside, .int v_t_next, .int v_t_years, .ref a_t_sightSet, .ref a_t_sightMany, .int v_t_sights, .ref a_t_digits, .ref a_t_pad, .int v_t_padMany, .ref a_t_act, .ref a_t_who, .ref a_t_whom, .ref a_t_much, .int v_t_acts, .int v_t_givenNow, .int v_t_entered, .ref a_t_had, .int v_t_badAct, .int v_t_badWhy, .int v_t_firstAct, .int v_t_firstHouse, .ref a_t_dues, .ref a_t_groups, .ref a_t_ways, .ref a_t_fit, .int v_t_fitMany, .ref a_t_byMany, .ref a_t_kept, .ref a_t_isKept, .int v_t_keptAt, .int v_t_isWriting])), (a_t_chart, .inl (cI, 8, .inl g_t_chart))] → ∀ (ls : Array Slot), lv_has ls 4 [(0, .ref a_t), (1, .int x1), (2, .int x2), (3, .int (nI j))] → (∀ (H : Heap) (locs : List Loc) (ls : Array Slot), kW D A s H locs [(a_t, .inr (10, [.ref a_t_wealth, .ref a_t_given, .ref a_t_chart, .ref a_t_relatives, .int v_t_inside, .int v_t_next, .int v_t_years, .ref a_t_sightSet, .ref a_t_sightMany, .int v_t_sights, .ref a_t_digits, .ref a_t_pad, .int v_t_padMany, .ref a_t_act, .ref a_t_who, .ref a_t_whom, .ref a_t_much, .int v_t_acts, .int v_t_givenNow, .int v_t_entered, .ref a_t_had, .int v_t_badAct, .int v_t_badWhy, .int v_t_firstAct, .int v_t_firstHouse, .ref a_t_dues, .ref a_t_groups, .ref a_t_ways, .ref a_t_fit, .int v_t_fitMany, .ref a_t_byMany, .ref a_t_kept, .ref a_t_isKept, .int v_t_keptAt, .int v_t_isWriting])), (a_t_chart, .inl (cI, 8, .inl g_t_chart))] → lv_has ls 4 [(2, .int (it (B_X10_placeOf_4 x1 g_t_chart) j n x2))] → W p l e ({ frames := 0, cells := 0, slots := 0, locals := 0 }) s m args below meth c H locs 0 0 Q (F0 m 32 ls [])) → W p l e ({ frames := 0, cells := 0, slots := 0, locals := 0 }) s m args below meth c H locs 0 0 Q (F0 m 4 ls []) := by
  have hx := C.hx
  have hb := C.hb
  intro n
  induction n with
  | zero =>
    intro j x2 hn hj H locs hw ls hl kk
    refine lv_iload_n hx hb dX10_placeOf_4 rfl (lv_at hl 3 rfl) ?_
    refine lv_bipush (v := 8) hx hb dX10_placeOf_5 (by decide) ?_
    refine lv_icmp_ge (tgt := 32) hx hb dX10_placeOf_7 (by decide) (fun c3 => ?_) (fun c3 => by exact absurd (nI_le (a := 8) (b := j) (by omega) (by omega)) c3)
    exact kk _ _ _ hw (lv_sub hl [2] rfl)
  | succ n ih =>
    intro j x2 hn hj H locs hw ls hl kk
    refine lv_iload_n hx hb dX10_placeOf_4 rfl (lv_at hl 3 rfl) ?_
    refine lv_bipush (v := 8) hx hb dX10_placeOf_5 (by decide) ?_
    refine lv_icmp_ge (tgt := 32) hx hb dX10_placeOf_7 (by decide) (fun c1 => by exact absurd c1 (nI_ge (a := j) (b := 8) (by omega) (by omega))) (fun c1 => ?_)
    refine lv_aload_n hx hb dX10_placeOf_10 rfl (lv_at hl 0 rfl) ?_
    refine k_get C hw (CC := RX10) (T := TX10) (N := 35) nX10_placeOf_X10 0 rfl rfl 2 (by decide) (List.mem_of_getElem? (i := 1) rfl) rfl rfl dX10_placeOf_11 ?_
    refine lv_iload_n hx hb dX10_placeOf_14 rfl (lv_at hl 3 rfl) ?_
    refine k_ialdN C hw 1 rfl j rfl (by omega) (by decide) dX10_placeOf_15 ?_
    refine lv_iload_n hx hb dX10_placeOf_16 rfl (lv_at hl 1 rfl) ?_
    refine lv_icmp_ne (tgt := 24) hx hb dX10_placeOf_17 (by decide) (fun c2 => ?_) (fun c2 => ?_)
    · refine lv_iload_n hx hb dX10_placeOf_24 rfl (lv_at hl 2 rfl) ?_
      refine lv_istore_n (lv' := [(2, .int x2), (0, .ref a_t), (1, .int x1), (3, .int (nI j))]) hx hb dX10_placeOf_25 rfl hl (by decide) rfl (fun ls hl => ?_)
      refine lv_iinc (v := (nI (j + 1))) (lv' := [(3, .int (nI (j + 1))), (2, .int x2), (0, .ref a_t), (1, .int x1)]) hx hb dX10_placeOf_26 hl (k := 3) rfl (nI_1 _) (by decide) rfl (fun ls hl => ?_)
      refine lv_goto (tgt := 4) hx hb dX10_placeOf_29 (by decide) ?_
      have hB : B_X10_placeOf_4 x1 g_t_chart j x2 = x2 := by
        unfold B_X10_placeOf_4
        exact (if_neg c2).trans (rfl)
      rw [it_c hB] at kk
      exact ih (j + 1) x2 (by omega) (by omega) _ _ hw _ (lv_sub hl [2, 3, 1, 0] rfl) kk
    · refine lv_iload_n hx hb dX10_placeOf_20 rfl (lv_at hl 3 rfl) ?_
      refine lv_goto (tgt := 25) hx hb dX10_placeOf_21 (by decide) ?_
      refine lv_istore_n (lv' := [(2, .int (nI j)), (0, .ref a_t), (1, .int x1), (3, .int (nI j))]) hx hb dX10_placeOf_25 rfl hl (by decide) rfl (fun ls hl => ?_)
      refine lv_iinc (v := (nI (j + 1))) (lv' := [(3, .int (nI (j + 1))), (2, .int (nI j)), (0, .ref a_t), (1, .int x1)]) hx hb dX10_placeOf_26 hl (k := 3) rfl (nI_1 _) (by decide) rfl (fun ls hl => ?_)
      refine lv_goto (tgt := 4) hx hb dX10_placeOf_29 (by decide) ?_
      have hB : B_X10_placeOf_4 x1 g_t_chart j x2 = (nI j) := by
        unfold B_X10_placeOf_4
        exact (if_pos c2).trans (rfl)
      rw [it_c hB] at kk
      exact ih (j + 1) (nI j) (by omega) (by omega) _ _ hw _ (lv_sub hl [2, 3, 1, 0] rfl) kk
def f_X10_placeOf (g_t_chart : (Nat → Int32)) (p1 : Int32) : Int32 := (it (B_X10_placeOf_4 p1 g_t_chart) 0 8 (0 : Int32))
set_option maxHeartbeats 4000000 in
set_option maxRecDepth 100000 in
theorem T_X10_placeOf (l : Launch) (D : va_G) (cI cZ : ClassId) (a_t a_t_wealth a_t_given a_t_chart a_t_relatives a_t_sightSet a_t_sightMany a_t_digits a_t_pad a_t_act a_t_who a_t_whom a_t_much a_t_had a_t_dues a_t_groups a_t_ways a_t_fit a_t_byMany a_t_kept a_t_isKept : Nat) (v_t_inside : Int32) (v_t_next : Int32) (v_t_years : Int32) (v_t_sights : Int32) (v_t_padMany : Int32) (v_t_acts : Int32) (v_t_givenNow : Int32) (v_t_entered : Int32) (v_t_badAct : Int32) (v_t_badWhy : Int32) (v_t_firstAct : Int32) (v_t_firstHouse : Int32) (v_t_fitMany : Int32) (v_t_keptAt : Int32) (v_t_isWriting : Int32) (g_t_chart : (Nat → Int32)) (p1 : Int32) : CT l D cI cZ yX10_placeOf wsX10_placeOf ({ frames := 0, cells := 0, slots := 0, locals := 0 }) [.ref a_t, .int p1] [(a_t, .inr (10, [.ref a_t_wealth, .ref a_t_given, .ref a_t_chart, .ref a_t_relatives, .int v_t_inside, .int v_t_next, .int v_t_years, .ref a_t_sightSet, .ref a_t_sightMany, .int v_t_sights, .ref a_t_digits, .ref a_t_pad, .int v_t_padMany, .ref a_t_act, .ref a_t_who, .ref a_t_whom, .ref a_t_much, .int v_t_acts, .int v_t_givenNow, .int v_t_entered, .ref a_t_had, .int v_t_badAct, .int v_t_badWhy, .int v_t_firstAct, .int v_t_firstHouse, .ref a_t_dues, .ref a_t_groups, .ref a_t_ways, .ref a_t_fit, .int v_t_fitMany, .ref a_t_byMany, .ref a_t_kept, .ref a_t_isKept, .int v_t_keptAt, .int v_t_isWriting])), (a_t_chart, .inl (cI, 8, .inl g_t_chart))] (some (.int (f_X10_placeOf g_t_chart p1))) [(a_t, .inr (10, [.ref a_t_wealth, .ref a_t_given, .ref a_t_chart, .ref a_t_relatives, .int v_t_inside, .int v_t_next, .int v_t_years, .ref a_t_sightSet, .ref a_t_sightMany, .int v_t_sights, .ref a_t_digits, .ref a_t_pad, .int v_t_padMany, .ref a_t_act, .ref a_t_who, .ref a_t_whom, .ref a_t_much, .int v_t_acts, .int v_t_givenNow, .int v_t_entered, .ref a_t_had, .int v_t_badAct, .int v_t_badWhy, .int v_t_firstAct, .int v_t_firstHouse, .ref a_t_dues, .ref a_t_groups, .ref a_t_ways, .ref a_t_fit, .int v_t_fitMany, .ref a_t_byMany, .ref a_t_kept, .ref a_t_isKept, .int v_t_keptAt, .int v_t_isWriting])), (a_t_chart, .inl (cI, 8, .inl g_t_chart))] := by
  refine CT.intro RX10 (by decide) rfl (Nat.le_of_ble_eq_true rfl) rfl ?_
  intro p e s m below meth c C hr hw ls hl
  have hx := C.hx
  have hb := C.hb
  replace hl : lv_has ls 4 [(0, .ref a_t), (1, .int p1)] := hl
  refine lv_iconst (v := 0) hx hb dX10_placeOf_0 (by decide) ?_
  refine lv_istore_n (lv' := [(2, .int 0), (0, .ref a_t), (1, .int p1)]) hx hb dX10_placeOf_1 rfl hl (by decide) rfl (fun ls hl => ?_)
  refine lv_iconst (v := 0) hx hb dX10_placeOf_2 (by decide) ?_
  refine lv_istore_n (lv' := [(3, .int 0), (2, .int 0), (0, .ref a_t), (1, .int p1)]) hx hb dX10_placeOf_3 rfl hl (by decide) rfl (fun ls hl => ?_)
  refine l_X10_placeOf_4 a_t a_t_wealth a_t_given a_t_chart a_t_relatives a_t_sightSet a_t_sightMany a_t_digits a_t_pad a_t_act a_t_who a_t_whom a_t_much a_t_had a_t_dues a_t_groups a_t_ways a_t_fit a_t_byMany a_t_kept a_t_isKept p1 v_t_inside v_t_next v_t_years v_t_sights v_t_padMany v_t_acts v_t_givenNow v_t_entered v_t_badAct v_t_badWhy v_t_firstAct v_t_firstHouse v_t_fitMany v_t_keptAt v_t_isWriting g_t_chart C 8 0 (0 : Int32) (by decide) (by decide) _ _ hw _ (lv_sub hl [2, 3, 1, 0] rfl) (fun H locs ls hw hl => ?_)
  replace hw : kW D _ s H locs [(a_t, .inr (10, [.ref a_t_wealth, .ref a_t_given, .ref a_t_chart, .ref a_t_relatives, .int v_t_inside, .int v_t_next, .int v_t_years, .ref a_t_sightSet, .ref a_t_sightMany, .int v_t_sights, .ref a_t_digits, .ref a_t_pad, .int v_t_padMany, .ref a_t_act, .ref a_t_who, .ref a_t_whom, .ref a_t_much, .int v_t_acts, .int v_t_givenNow, .int v_t_entered, .ref a_t_had, .int v_t_badAct, .int v_t_badWhy, .int v_t_firstAct, .int v_t_firstHouse, .ref a_t_dues, .ref a_t_groups, .ref a_t_ways, .ref a_t_fit, .int v_t_fitMany, .ref a_t_byMany, .ref a_t_kept, .ref a_t_isKept, .int v_t_keptAt, .int v_t_isWriting])), (a_t_chart, .inl (cI, 8, .inl g_t_chart))] := hw
  replace hl : lv_has ls 4 [(2, .int (it (B_X10_placeOf_4 p1 g_t_chart) 0 8 (0 : Int32)))] := hl
  refine lv_iload_n hx hb dX10_placeOf_32 rfl (lv_at hl 0 rfl) ?_
  rw [show f_X10_placeOf g_t_chart p1 = (it (B_X10_placeOf_4 p1 g_t_chart) 0 8 (0 : Int32)) from by
      unfold f_X10_placeOf
      exact rfl]
  exact k_iret C hr hw dX10_placeOf_33

theorem nX10_change_X10 : ∀ w ∈ wsX100, w ∈ wsX10_change := fun _ h => List.mem_cons_of_mem _ (List.mem_append_right _ h)
def f_X10_change (g_t_chart : (Nat → Int32)) (p1 : Int32) (p2 : Int32) : (Nat → Int32) := (upd (upd g_t_chart (f_X10_placeOf g_t_chart p1).toNatClampNeg p2) (f_X10_placeOf g_t_chart p2).toNatClampNeg p1)
def o_X10_change (g_t_chart : (Nat → Int32)) (p1 : Int32) (p2 : Int32) : Prop := ((vp_in (f_X10_placeOf g_t_chart p1) 8) ∧ ((vp_in (f_X10_placeOf g_t_chart p2) 8) ∧ True))
set_option maxHeartbeats 4000000 in
set_option maxRecDepth 100000 in
theorem T_X10_change (l : Launch) (D : va_G) (cI cZ : ClassId) (a_t a_t_wealth a_t_given a_t_chart a_t_relatives a_t_sightSet a_t_sightMany a_t_digits a_t_pad a_t_act a_t_who a_t_whom a_t_much a_t_had a_t_dues a_t_groups a_t_ways a_t_fit a_t_byMany a_t_kept a_t_isKept : Nat) (v_t_inside : Int32) (v_t_next : Int32) (v_t_years : Int32) (v_t_sights : Int32) (v_t_padMany : Int32) (v_t_acts : Int32) (v_t_givenNow : Int32) (v_t_entered : Int32) (v_t_badAct : Int32) (v_t_badWhy : Int32) (v_t_firstAct : Int32) (v_t_firstHouse : Int32) (v_t_fitMany : Int32) (v_t_keptAt : Int32) (v_t_isWriting : Int32) (g_t_chart : (Nat → Int32)) (p1 : Int32) (p2 : Int32) (hok : o_X10_change g_t_chart p1 p2) : CT l D cI cZ yX10_change wsX10_change ({ frames := 1, cells := 0, slots := 0, locals := 23 }) [.ref a_t, .int p1, .int p2] [(a_t, .inr (10, [.ref a_t_wealth, .ref a_t_given, .ref a_t_chart, .ref a_t_relatives, .int v_t_inside, .int v_t_next, .int v_t_years, .ref a_t_sightSet, .ref a_t_sightMany, .int v_t_sights, .ref a_t_digits, .ref a_t_pad, .int v_t_padMany, .ref a_t_act, .ref a_t_who, .ref a_t_whom, .ref a_t_much, .int v_t_acts, .int v_t_givenNow, .int v_t_entered, .ref a_t_had, .int v_t_badAct, .int v_t_badWhy, .int v_t_firstAct, .int v_t_firstHouse, .ref a_t_dues, .ref a_t_groups, .ref a_t_ways, .ref a_t_fit, .int v_t_fitMany, .ref a_t_byMany, .ref a_t_kept, .ref a_t_isKept, .int v_t_keptAt, .int v_t_isWriting])), (a_t_chart, .inl (cI, 8, .inl g_t_chart))] none [(a_t, .inr (10, [.ref a_t_wealth, .ref a_t_given, .ref a_t_chart, .ref a_t_relatives, .int v_t_inside, .int v_t_next, .int v_t_years, .ref a_t_sightSet, .ref a_t_sightMany, .int v_t_sights, .ref a_t_digits, .ref a_t_pad, .int v_t_padMany, .ref a_t_act, .ref a_t_who, .ref a_t_whom, .ref a_t_much, .int v_t_acts, .int v_t_givenNow, .int v_t_entered, .ref a_t_had, .int v_t_badAct, .int v_t_badWhy, .int v_t_firstAct, .int v_t_firstHouse, .ref a_t_dues, .ref a_t_groups, .ref a_t_ways, .ref a_t_fit, .int v_t_fitMany, .ref a_t_byMany, .ref a_t_kept, .ref a_t_isKept, .int v_t_keptAt, .int v_t_isWriting])), (a_t_chart, .inl (cI, 8, .inl (f_X10_change g_t_chart p1 p2)))] := by
  refine CT.intro RX10 (by decide) rfl (Nat.le_of_ble_eq_true rfl) rfl ?_
  intro p e s m below meth c C hr hw ls hl
  have hx := C.hx
  have hb := C.hb
  replace hl : lv_has ls 5 [(0, .ref a_t), (1, .int p1), (2, .int p2)] := hl
  refine lv_aload_n hx hb dX10_change_0 rfl (lv_at hl 0 rfl) ?_
  refine lv_iload_n hx hb dX10_change_1 rfl (lv_at hl 1 rfl) ?_
  refine k_callV (As := [.int p1]) (rest := []) (n := 1) (CC := RX10) (T := TX10) (N := 35) C hw (T_X10_placeOf l D cI cZ a_t a_t_wealth a_t_given a_t_chart a_t_relatives a_t_sightSet a_t_sightMany a_t_digits a_t_pad a_t_act a_t_who a_t_whom a_t_much a_t_had a_t_dues a_t_groups a_t_ways a_t_fit a_t_byMany a_t_kept a_t_isKept v_t_inside v_t_next v_t_years v_t_sights v_t_padMany v_t_acts v_t_givenNow v_t_entered v_t_badAct v_t_badWhy v_t_firstAct v_t_firstHouse v_t_fitMany v_t_keptAt v_t_isWriting g_t_chart p1) gX10_change_X10_placeOf rfl ⟨rfl, rfl⟩ (by decide +kernel) ⟨Nat.le_of_ble_eq_true rfl, Nat.le_of_ble_eq_true rfl⟩ 0 rfl rfl [0, 1] rfl rfl [a_t, a_t_chart] rfl rfl rfl hl.1 rfl (Nat.le_of_ble_eq_true rfl) ⟨Nat.zero_le _, Nat.zero_le _⟩ dX10_change_2 (fun H locs hw => ?_)
  refine W.eq (g2 := F0 m 5 ls [.int (f_X10_placeOf g_t_chart p1)]) rfl ?_
  replace hw : kW D _ s H locs [(a_t, .inr (10, [.ref a_t_wealth, .ref a_t_given, .ref a_t_chart, .ref a_t_relatives, .int v_t_inside, .int v_t_next, .int v_t_years, .ref a_t_sightSet, .ref a_t_sightMany, .int v_t_sights, .ref a_t_digits, .ref a_t_pad, .int v_t_padMany, .ref a_t_act, .ref a_t_who, .ref a_t_whom, .ref a_t_much, .int v_t_acts, .int v_t_givenNow, .int v_t_entered, .ref a_t_had, .int v_t_badAct, .int v_t_badWhy, .int v_t_firstAct, .int v_t_firstHouse, .ref a_t_dues, .ref a_t_groups, .ref a_t_ways, .ref a_t_fit, .int v_t_fitMany, .ref a_t_byMany, .ref a_t_kept, .ref a_t_isKept, .int v_t_keptAt, .int v_t_isWriting])), (a_t_chart, .inl (cI, 8, .inl g_t_chart))] := hw
  refine lv_istore_n (lv' := [(3, .int (f_X10_placeOf g_t_chart p1)), (0, .ref a_t), (1, .int p1), (2, .int p2)]) hx hb dX10_change_5 rfl hl (by decide) rfl (fun ls hl => ?_)
  refine lv_aload_n hx hb dX10_change_6 rfl (lv_at hl 1 rfl) ?_
  refine lv_iload_n hx hb dX10_change_7 rfl (lv_at hl 3 rfl) ?_
  refine k_callV (As := [.int p2]) (rest := []) (n := 1) (CC := RX10) (T := TX10) (N := 35) C hw (T_X10_placeOf l D cI cZ a_t a_t_wealth a_t_given a_t_chart a_t_relatives a_t_sightSet a_t_sightMany a_t_digits a_t_pad a_t_act a_t_who a_t_whom a_t_much a_t_had a_t_dues a_t_groups a_t_ways a_t_fit a_t_byMany a_t_kept a_t_isKept v_t_inside v_t_next v_t_years v_t_sights v_t_padMany v_t_acts v_t_givenNow v_t_entered v_t_badAct v_t_badWhy v_t_firstAct v_t_firstHouse v_t_fitMany v_t_keptAt v_t_isWriting g_t_chart p2) gX10_change_X10_placeOf rfl ⟨rfl, rfl⟩ (by decide +kernel) ⟨Nat.le_of_ble_eq_true rfl, Nat.le_of_ble_eq_true rfl⟩ 0 rfl rfl [0, 1] rfl rfl [a_t, a_t_chart] rfl rfl rfl hl.1 rfl (Nat.le_of_ble_eq_true rfl) ⟨Nat.zero_le _, Nat.zero_le _⟩ dX10_change_8 (fun H locs hw => ?_)
  refine W.eq (g2 := F0 m 11 ls [.int (f_X10_placeOf g_t_chart p2)]) rfl ?_
  replace hw : kW D _ s H locs [(a_t, .inr (10, [.ref a_t_wealth, .ref a_t_given, .ref a_t_chart, .ref a_t_relatives, .int v_t_inside, .int v_t_next, .int v_t_years, .ref a_t_sightSet, .ref a_t_sightMany, .int v_t_sights, .ref a_t_digits, .ref a_t_pad, .int v_t_padMany, .ref a_t_act, .ref a_t_who, .ref a_t_whom, .ref a_t_much, .int v_t_acts, .int v_t_givenNow, .int v_t_entered, .ref a_t_had, .int v_t_badAct, .int v_t_badWhy, .int v_t_firstAct, .int v_t_firstHouse, .ref a_t_dues, .ref a_t_groups, .ref a_t_ways, .ref a_t_fit, .int v_t_fitMany, .ref a_t_byMany, .ref a_t_kept, .ref a_t_isKept, .int v_t_keptAt, .int v_t_isWriting])), (a_t_chart, .inl (cI, 8, .inl g_t_chart))] := hw
  refine lv_istore (lv' := [(4, .int (f_X10_placeOf g_t_chart p2)), (3, .int (f_X10_placeOf g_t_chart p1)), (0, .ref a_t), (1, .int p1), (2, .int p2)]) hx hb dX10_change_11 hl (by decide) rfl (fun ls hl => ?_)
  refine lv_aload_n hx hb dX10_change_13 rfl (lv_at hl 2 rfl) ?_
  refine k_get C hw (CC := RX10) (T := TX10) (N := 35) nX10_change_X10 0 rfl rfl 2 (by decide) (List.mem_of_getElem? (i := 1) rfl) rfl rfl dX10_change_14 ?_
  refine lv_iload_n hx hb dX10_change_17 rfl (lv_at hl 1 rfl) ?_
  refine lv_iload_n hx hb dX10_change_18 rfl (lv_at hl 4 rfl) ?_
  obtain ⟨h1, hok⟩ := hok
  refine k_iast C hw 1 rfl h1 dX10_change_19 (fun H locs hw => ?_)
  replace hw : kW D _ s H locs [(a_t, .inr (10, [.ref a_t_wealth, .ref a_t_given, .ref a_t_chart, .ref a_t_relatives, .int v_t_inside, .int v_t_next, .int v_t_years, .ref a_t_sightSet, .ref a_t_sightMany, .int v_t_sights, .ref a_t_digits, .ref a_t_pad, .int v_t_padMany, .ref a_t_act, .ref a_t_who, .ref a_t_whom, .ref a_t_much, .int v_t_acts, .int v_t_givenNow, .int v_t_entered, .ref a_t_had, .int v_t_badAct, .int v_t_badWhy, .int v_t_firstAct, .int v_t_firstHouse, .ref a_t_dues, .ref a_t_groups, .ref a_t_ways, .ref a_t_fit, .int v_t_fitMany, .ref a_t_byMany, .ref a_t_kept, .ref a_t_isKept, .int v_t_keptAt, .int v_t_isWriting])), (a_t_chart, .inl (cI, 8, .inl (upd g_t_chart (f_X10_placeOf g_t_chart p1).toNatClampNeg p2)))] := hw
  refine lv_aload_n hx hb dX10_change_20 rfl (lv_at hl 2 rfl) ?_
  refine k_get C hw (CC := RX10) (T := TX10) (N := 35) nX10_change_X10 0 rfl rfl 2 (by decide) (List.mem_of_getElem? (i := 1) rfl) rfl rfl dX10_change_21 ?_
  refine lv_iload hx hb dX10_change_24 (lv_at hl 0 rfl) ?_
  refine lv_iload_n hx hb dX10_change_26 rfl (lv_at hl 3 rfl) ?_
  obtain ⟨h2, hok⟩ := hok
  refine k_iast C hw 1 rfl h2 dX10_change_27 (fun H locs hw => ?_)
  replace hw : kW D _ s H locs [(a_t, .inr (10, [.ref a_t_wealth, .ref a_t_given, .ref a_t_chart, .ref a_t_relatives, .int v_t_inside, .int v_t_next, .int v_t_years, .ref a_t_sightSet, .ref a_t_sightMany, .int v_t_sights, .ref a_t_digits, .ref a_t_pad, .int v_t_padMany, .ref a_t_act, .ref a_t_who, .ref a_t_whom, .ref a_t_much, .int v_t_acts, .int v_t_givenNow, .int v_t_entered, .ref a_t_had, .int v_t_badAct, .int v_t_badWhy, .int v_t_firstAct, .int v_t_firstHouse, .ref a_t_dues, .ref a_t_groups, .ref a_t_ways, .ref a_t_fit, .int v_t_fitMany, .ref a_t_byMany, .ref a_t_kept, .ref a_t_isKept, .int v_t_keptAt, .int v_t_isWriting])), (a_t_chart, .inl (cI, 8, .inl (upd (upd g_t_chart (f_X10_placeOf g_t_chart p1).toNatClampNeg p2) (f_X10_placeOf g_t_chart p2).toNatClampNeg p1)))] := hw
  rw [show f_X10_change g_t_chart p1 p2 = (upd (upd g_t_chart (f_X10_placeOf g_t_chart p1).toNatClampNeg p2) (f_X10_placeOf g_t_chart p2).toNatClampNeg p1) from by
      unfold f_X10_change
      exact rfl]
  exact k_vret C hr hw dX10_change_28

theorem nX10_passYear_X10 : ∀ w ∈ wsX100, w ∈ wsX10_passYear := fun _ h => List.mem_cons_of_mem _ (List.mem_append_right _ h)
def f_X10_passYear (v_t_next : Int32) (v_t_years : Int32) (g_t_chart : (Nat → Int32)) : Int32 × Int32 × Int32 × Int32 := (lt (f_X10_enter (0 : Int32) (g_t_chart v_t_next.toNatClampNeg)) (fun z2 => (z2.1, ((v_t_next + 1) - (v_t_next + 1) / 8 * 8), (v_t_years + 1), z2.2)))
def o_X10_passYear (v_t_next : Int32) : Prop := ((vp_in v_t_next 8) ∧ True)
set_option maxHeartbeats 4000000 in
set_option maxRecDepth 100000 in
theorem T_X10_passYear (l : Launch) (D : va_G) (cI cZ : ClassId) (a_t a_t_wealth a_t_given a_t_chart a_t_relatives a_t_sightSet a_t_sightMany a_t_digits a_t_pad a_t_act a_t_who a_t_whom a_t_much a_t_had a_t_dues a_t_groups a_t_ways a_t_fit a_t_byMany a_t_kept a_t_isKept : Nat) (v_t_inside : Int32) (v_t_next : Int32) (v_t_years : Int32) (v_t_sights : Int32) (v_t_padMany : Int32) (v_t_acts : Int32) (v_t_givenNow : Int32) (v_t_entered : Int32) (v_t_badAct : Int32) (v_t_badWhy : Int32) (v_t_firstAct : Int32) (v_t_firstHouse : Int32) (v_t_fitMany : Int32) (v_t_keptAt : Int32) (v_t_isWriting : Int32) (g_t_chart : (Nat → Int32)) (hok : o_X10_passYear v_t_next) : CT l D cI cZ yX10_passYear wsX10_passYear ({ frames := 1, cells := 0, slots := 0, locals := 21 }) [.ref a_t] [(a_t, .inr (10, [.ref a_t_wealth, .ref a_t_given, .ref a_t_chart, .ref a_t_relatives, .int v_t_inside, .int v_t_next, .int v_t_years, .ref a_t_sightSet, .ref a_t_sightMany, .int v_t_sights, .ref a_t_digits, .ref a_t_pad, .int v_t_padMany, .ref a_t_act, .ref a_t_who, .ref a_t_whom, .ref a_t_much, .int v_t_acts, .int v_t_givenNow, .int v_t_entered, .ref a_t_had, .int v_t_badAct, .int v_t_badWhy, .int v_t_firstAct, .int v_t_firstHouse, .ref a_t_dues, .ref a_t_groups, .ref a_t_ways, .ref a_t_fit, .int v_t_fitMany, .ref a_t_byMany, .ref a_t_kept, .ref a_t_isKept, .int v_t_keptAt, .int v_t_isWriting])), (a_t_chart, .inl (cI, 8, .inl g_t_chart))] none [(a_t, .inr (10, [.ref a_t_wealth, .ref a_t_given, .ref a_t_chart, .ref a_t_relatives, .int (f_X10_passYear v_t_next v_t_years g_t_chart).1, .int (f_X10_passYear v_t_next v_t_years g_t_chart).2.1, .int (f_X10_passYear v_t_next v_t_years g_t_chart).2.2.1, .ref a_t_sightSet, .ref a_t_sightMany, .int v_t_sights, .ref a_t_digits, .ref a_t_pad, .int v_t_padMany, .ref a_t_act, .ref a_t_who, .ref a_t_whom, .ref a_t_much, .int v_t_acts, .int v_t_givenNow, .int (f_X10_passYear v_t_next v_t_years g_t_chart).2.2.2, .ref a_t_had, .int v_t_badAct, .int v_t_badWhy, .int v_t_firstAct, .int v_t_firstHouse, .ref a_t_dues, .ref a_t_groups, .ref a_t_ways, .ref a_t_fit, .int v_t_fitMany, .ref a_t_byMany, .ref a_t_kept, .ref a_t_isKept, .int v_t_keptAt, .int v_t_isWriting])), (a_t_chart, .inl (cI, 8, .inl g_t_chart))] := by
  refine CT.intro RX10 (by decide) rfl (Nat.le_of_ble_eq_true rfl) rfl ?_
  intro p e s m below meth c C hr hw ls hl
  have hx := C.hx
  have hb := C.hb
  replace hl : lv_has ls 1 [(0, .ref a_t)] := hl
  refine lv_aload_n hx hb dX10_passYear_0 rfl (lv_at hl 0 rfl) ?_
  refine lv_iconst (v := 0) hx hb dX10_passYear_1 (by decide) ?_
  refine k_put C hw (CC := RX10) (T := TX10) (N := 35) (v := .int 0) nX10_passYear_X10 tyX10_ok nmX10 0 rfl rfl 4 (by decide) (List.mem_of_getElem? (i := 1) rfl) rfl rfl rfl rfl (Nat.le_of_ble_eq_true rfl) dX10_passYear_2 (fun H locs hw => ?_)
  replace hw : kW D _ s H locs [(a_t, .inr (10, [.ref a_t_wealth, .ref a_t_given, .ref a_t_chart, .ref a_t_relatives, .int 0, .int v_t_next, .int v_t_years, .ref a_t_sightSet, .ref a_t_sightMany, .int v_t_sights, .ref a_t_digits, .ref a_t_pad, .int v_t_padMany, .ref a_t_act, .ref a_t_who, .ref a_t_whom, .ref a_t_much, .int v_t_acts, .int v_t_givenNow, .int v_t_entered, .ref a_t_had, .int v_t_badAct, .int v_t_badWhy, .int v_t_firstAct, .int v_t_firstHouse, .ref a_t_dues, .ref a_t_groups, .ref a_t_ways, .ref a_t_fit, .int v_t_fitMany, .ref a_t_byMany, .ref a_t_kept, .ref a_t_isKept, .int v_t_keptAt, .int v_t_isWriting])), (a_t_chart, .inl (cI, 8, .inl g_t_chart))] := hw
  refine lv_aload_n hx hb dX10_passYear_5 rfl (lv_at hl 0 rfl) ?_
  refine lv_aload_n hx hb dX10_passYear_6 rfl (lv_at hl 0 rfl) ?_
  refine k_get C hw (CC := RX10) (T := TX10) (N := 35) nX10_passYear_X10 0 rfl rfl 2 (by decide) (List.mem_of_getElem? (i := 2) rfl) rfl rfl dX10_passYear_7 ?_
  refine lv_aload_n hx hb dX10_passYear_10 rfl (lv_at hl 0 rfl) ?_
  refine k_get C hw (CC := RX10) (T := TX10) (N := 35) nX10_passYear_X10 0 rfl rfl 5 (by decide) (List.mem_of_getElem? (i := 3) rfl) rfl rfl dX10_passYear_11 ?_
  obtain ⟨h1, hok⟩ := hok
  refine k_iald C hw 1 rfl h1 dX10_passYear_14 ?_
  refine k_callV (As := [.int (g_t_chart v_t_next.toNatClampNeg)]) (rest := []) (n := 1) (CC := RX10) (T := TX10) (N := 35) C hw (T_X10_enter l D cI cZ a_t a_t_wealth a_t_given a_t_chart a_t_relatives a_t_sightSet a_t_sightMany a_t_digits a_t_pad a_t_act a_t_who a_t_whom a_t_much a_t_had a_t_dues a_t_groups a_t_ways a_t_fit a_t_byMany a_t_kept a_t_isKept (0 : Int32) v_t_next v_t_years v_t_sights v_t_padMany v_t_acts v_t_givenNow v_t_entered v_t_badAct v_t_badWhy v_t_firstAct v_t_firstHouse v_t_fitMany v_t_keptAt v_t_isWriting (g_t_chart v_t_next.toNatClampNeg)) gX10_passYear_X10_enter rfl ⟨rfl, rfl⟩ (by decide +kernel) ⟨Nat.le_of_ble_eq_true rfl, Nat.le_of_ble_eq_true rfl⟩ 0 rfl rfl [0] rfl rfl [a_t] rfl rfl rfl hl.1 rfl (Nat.le_of_ble_eq_true rfl) ⟨Nat.zero_le _, Nat.zero_le _⟩ dX10_passYear_15 (fun H locs hw => ?_)
  obtain ⟨z2, h3⟩ : ∃ z, (f_X10_enter (0 : Int32) (g_t_chart v_t_next.toNatClampNeg)) = z := ⟨_, rfl⟩
  refine W.eq (g2 := F0 m 18 ls []) (by subst h3; rfl) ?_
  replace hw := kW_cast (ws' := [(a_t, .inr (10, [.ref a_t_wealth, .ref a_t_given, .ref a_t_chart, .ref a_t_relatives, .int z2.1, .int v_t_next, .int v_t_years, .ref a_t_sightSet, .ref a_t_sightMany, .int v_t_sights, .ref a_t_digits, .ref a_t_pad, .int v_t_padMany, .ref a_t_act, .ref a_t_who, .ref a_t_whom, .ref a_t_much, .int v_t_acts, .int v_t_givenNow, .int z2.2, .ref a_t_had, .int v_t_badAct, .int v_t_badWhy, .int v_t_firstAct, .int v_t_firstHouse, .ref a_t_dues, .ref a_t_groups, .ref a_t_ways, .ref a_t_fit, .int v_t_fitMany, .ref a_t_byMany, .ref a_t_kept, .ref a_t_isKept, .int v_t_keptAt, .int v_t_isWriting])), (a_t_chart, .inl (cI, 8, .inl g_t_chart))]) (by subst h3; rfl) hw
  refine lv_aload_n hx hb dX10_passYear_18 rfl (lv_at hl 0 rfl) ?_
  refine lv_aload_n hx hb dX10_passYear_19 rfl (lv_at hl 0 rfl) ?_
  refine k_get C hw (CC := RX10) (T := TX10) (N := 35) nX10_passYear_X10 0 rfl rfl 5 (by decide) (List.mem_of_getElem? (i := 3) rfl) rfl rfl dX10_passYear_20 ?_
  refine lv_iconst (v := 1) hx hb dX10_passYear_23 (by decide) ?_
  refine lv_iadd hx hb dX10_passYear_24 ?_
  refine lv_bipush (v := 8) hx hb dX10_passYear_25 (by decide) ?_
  refine lv_irem hx hb dX10_passYear_27 (by decide) ?_
  refine k_put C hw (CC := RX10) (T := TX10) (N := 35) (v := .int ((v_t_next + 1) - (v_t_next + 1) / 8 * 8)) nX10_passYear_X10 tyX10_ok nmX10 0 rfl rfl 5 (by decide) (List.mem_of_getElem? (i := 3) rfl) rfl rfl rfl rfl (Nat.le_of_ble_eq_true rfl) dX10_passYear_28 (fun H locs hw => ?_)
  replace hw : kW D _ s H locs [(a_t, .inr (10, [.ref a_t_wealth, .ref a_t_given, .ref a_t_chart, .ref a_t_relatives, .int z2.1, .int ((v_t_next + 1) - (v_t_next + 1) / 8 * 8), .int v_t_years, .ref a_t_sightSet, .ref a_t_sightMany, .int v_t_sights, .ref a_t_digits, .ref a_t_pad, .int v_t_padMany, .ref a_t_act, .ref a_t_who, .ref a_t_whom, .ref a_t_much, .int v_t_acts, .int v_t_givenNow, .int z2.2, .ref a_t_had, .int v_t_badAct, .int v_t_badWhy, .int v_t_firstAct, .int v_t_firstHouse, .ref a_t_dues, .ref a_t_groups, .ref a_t_ways, .ref a_t_fit, .int v_t_fitMany, .ref a_t_byMany, .ref a_t_kept, .ref a_t_isKept, .int v_t_keptAt, .int v_t_isWriting])), (a_t_chart, .inl (cI, 8, .inl g_t_chart))] := hw
  refine lv_aload_n hx hb dX10_passYear_31 rfl (lv_at hl 0 rfl) ?_
  refine lv_dup hx hb dX10_passYear_32 rfl ?_
  refine k_get C hw (CC := RX10) (T := TX10) (N := 35) nX10_passYear_X10 0 rfl rfl 6 (by decide) (List.mem_of_getElem? (i := 4) rfl) rfl rfl dX10_passYear_33 ?_
  refine lv_iconst (v := 1) hx hb dX10_passYear_36 (by decide) ?_
  refine lv_iadd hx hb dX10_passYear_37 ?_
  refine k_put C hw (CC := RX10) (T := TX10) (N := 35) (v := .int (v_t_years + 1)) nX10_passYear_X10 tyX10_ok nmX10 0 rfl rfl 6 (by decide) (List.mem_of_getElem? (i := 4) rfl) rfl rfl rfl rfl (Nat.le_of_ble_eq_true rfl) dX10_passYear_38 (fun H locs hw => ?_)
  replace hw : kW D _ s H locs [(a_t, .inr (10, [.ref a_t_wealth, .ref a_t_given, .ref a_t_chart, .ref a_t_relatives, .int z2.1, .int ((v_t_next + 1) - (v_t_next + 1) / 8 * 8), .int (v_t_years + 1), .ref a_t_sightSet, .ref a_t_sightMany, .int v_t_sights, .ref a_t_digits, .ref a_t_pad, .int v_t_padMany, .ref a_t_act, .ref a_t_who, .ref a_t_whom, .ref a_t_much, .int v_t_acts, .int v_t_givenNow, .int z2.2, .ref a_t_had, .int v_t_badAct, .int v_t_badWhy, .int v_t_firstAct, .int v_t_firstHouse, .ref a_t_dues, .ref a_t_groups, .ref a_t_ways, .ref a_t_fit, .int v_t_fitMany, .ref a_t_byMany, .ref a_t_kept, .ref a_t_isKept, .int v_t_keptAt, .int v_t_isWriting])), (a_t_chart, .inl (cI, 8, .inl g_t_chart))] := hw
  rw [show f_X10_passYear v_t_next v_t_years g_t_chart = (z2.1, ((v_t_next + 1) - (v_t_next + 1) / 8 * 8), (v_t_years + 1), z2.2) from by
      unfold f_X10_passYear
      exact (lt_c h3).trans (rfl)]
  exact k_vret C hr hw dX10_passYear_41

theorem nX10_happen_X10 : ∀ w ∈ wsX100, w ∈ wsX10_happen := fun _ h => List.mem_cons_of_mem _ (List.mem_append_right _ h)
def f_X10_happen (v_t_inside : Int32) (v_t_next : Int32) (v_t_years : Int32) (v_t_givenNow : Int32) (g_t_chart : (Nat → Int32)) (g_t_wealth : (Nat → Int32)) (g_t_given : (Nat → Int32)) (p1 : Int32) (p2 : Int32) (p3 : Int32) (p4 : Int32) : Int32 × Int32 × Int32 × Int32 × Int32 × (Nat → Int32) × (Nat → Int32) × (Nat → Int32) := (if p1 = 0 then (lt (f_X10_enter v_t_inside p2) (fun z2 => (z2.1, v_t_next, v_t_years, v_t_givenNow, z2.2, g_t_chart, g_t_wealth, g_t_given))) else (if p1 = 1 then ((v_t_inside &&& (((1 : Int32) <<< (p2 &&& 31)) ^^^ (-1))), v_t_next, v_t_years, v_t_givenNow, (-6), g_t_chart, g_t_wealth, g_t_given) else (if p1 = 2 then (lt (f_X10_give v_t_givenNow g_t_wealth g_t_given p2 p3 p4) (fun z7 => (v_t_inside, v_t_next, v_t_years, z7.1, (-6), g_t_chart, z7.2.1, z7.2.2))) else (if p1 = 3 then (lt (f_X10_change g_t_chart p2 p3) (fun z11 => (v_t_inside, v_t_next, v_t_years, v_t_givenNow, (-6), z11, g_t_wealth, g_t_given))) else (lt (f_X10_passYear v_t_next v_t_years g_t_chart) (fun z14 => (z14.1, z14.2.1, z14.2.2.1, v_t_givenNow, z14.2.2.2, g_t_chart, g_t_wealth, g_t_given)))))))
def o_X10_happen (v_t_next : Int32) (g_t_chart : (Nat → Int32)) (g_t_wealth : (Nat → Int32)) (g_t_given : (Nat → Int32)) (p1 : Int32) (p2 : Int32) (p3 : Int32) (p4 : Int32) : Prop := (if p1 = 0 then True else (if p1 = 1 then True else (if p1 = 2 then ((o_X10_give g_t_wealth g_t_given p2 p3 p4) ∧ True) else (if p1 = 3 then ((o_X10_change g_t_chart p2 p3) ∧ True) else ((o_X10_passYear v_t_next) ∧ True)))))
set_option maxHeartbeats 4000000 in
set_option maxRecDepth 100000 in
theorem T_X10_happen (l : Launch) (D : va_G) (cI cZ : ClassId) (a_t a_t_wealth a_t_given a_t_chart a_t_relatives a_t_sightSet a_t_sightMany a_t_digits a_t_pad a_t_act a_t_who a_t_whom a_t_much a_t_had a_t_dues a_t_groups a_t_ways a_t_fit a_t_byMany a_t_kept a_t_isKept : Nat) (v_t_inside : Int32) (v_t_next : Int32) (v_t_years : Int32) (v_t_sights : Int32) (v_t_padMany : Int32) (v_t_acts : Int32) (v_t_givenNow : Int32) (v_t_entered : Int32) (v_t_badAct : Int32) (v_t_badWhy : Int32) (v_t_firstAct : Int32) (v_t_firstHouse : Int32) (v_t_fitMany : Int32) (v_t_keptAt : Int32) (v_t_isWriting : Int32) (g_t_chart : (Nat → Int32)) (g_t_wealth : (Nat → Int32)) (g_t_given : (Nat → Int32)) (p1 : Int32) (p2 : Int32) (p3 : Int32) (p4 : Int32) (hok : o_X10_happen v_t_next g_t_chart g_t_wealth g_t_given p1 p2 p3 p4) : CT l D cI cZ yX10_happen wsX10_happen ({ frames := 2, cells := 0, slots := 0, locals := 47 }) [.ref a_t, .int p1, .int p2, .int p3, .int p4] [(a_t, .inr (10, [.ref a_t_wealth, .ref a_t_given, .ref a_t_chart, .ref a_t_relatives, .int v_t_inside, .int v_t_next, .int v_t_years, .ref a_t_sightSet, .ref a_t_sightMany, .int v_t_sights, .ref a_t_digits, .ref a_t_pad, .int v_t_padMany, .ref a_t_act, .ref a_t_who, .ref a_t_whom, .ref a_t_much, .int v_t_acts, .int v_t_givenNow, .int v_t_entered, .ref a_t_had, .int v_t_badAct, .int v_t_badWhy, .int v_t_firstAct, .int v_t_firstHouse, .ref a_t_dues, .ref a_t_groups, .ref a_t_ways, .ref a_t_fit, .int v_t_fitMany, .ref a_t_byMany, .ref a_t_kept, .ref a_t_isKept, .int v_t_keptAt, .int v_t_isWriting])), (a_t_chart, .inl (cI, 8, .inl g_t_chart)), (a_t_wealth, .inl (cI, 8, .inl g_t_wealth)), (a_t_given, .inl (cI, 64, .inl g_t_given))] none [(a_t, .inr (10, [.ref a_t_wealth, .ref a_t_given, .ref a_t_chart, .ref a_t_relatives, .int (f_X10_happen v_t_inside v_t_next v_t_years v_t_givenNow g_t_chart g_t_wealth g_t_given p1 p2 p3 p4).1, .int (f_X10_happen v_t_inside v_t_next v_t_years v_t_givenNow g_t_chart g_t_wealth g_t_given p1 p2 p3 p4).2.1, .int (f_X10_happen v_t_inside v_t_next v_t_years v_t_givenNow g_t_chart g_t_wealth g_t_given p1 p2 p3 p4).2.2.1, .ref a_t_sightSet, .ref a_t_sightMany, .int v_t_sights, .ref a_t_digits, .ref a_t_pad, .int v_t_padMany, .ref a_t_act, .ref a_t_who, .ref a_t_whom, .ref a_t_much, .int v_t_acts, .int (f_X10_happen v_t_inside v_t_next v_t_years v_t_givenNow g_t_chart g_t_wealth g_t_given p1 p2 p3 p4).2.2.2.1, .int (f_X10_happen v_t_inside v_t_next v_t_years v_t_givenNow g_t_chart g_t_wealth g_t_given p1 p2 p3 p4).2.2.2.2.1, .ref a_t_had, .int v_t_badAct, .int v_t_badWhy, .int v_t_firstAct, .int v_t_firstHouse, .ref a_t_dues, .ref a_t_groups, .ref a_t_ways, .ref a_t_fit, .int v_t_fitMany, .ref a_t_byMany, .ref a_t_kept, .ref a_t_isKept, .int v_t_keptAt, .int v_t_isWriting])), (a_t_chart, .inl (cI, 8, .inl (f_X10_happen v_t_inside v_t_next v_t_years v_t_givenNow g_t_chart g_t_wealth g_t_given p1 p2 p3 p4).2.2.2.2.2.1)), (a_t_wealth, .inl (cI, 8, .inl (f_X10_happen v_t_inside v_t_next v_t_years v_t_givenNow g_t_chart g_t_wealth g_t_given p1 p2 p3 p4).2.2.2.2.2.2.1)), (a_t_given, .inl (cI, 64, .inl (f_X10_happen v_t_inside v_t_next v_t_years v_t_givenNow g_t_chart g_t_wealth g_t_given p1 p2 p3 p4).2.2.2.2.2.2.2))] := by
  refine CT.intro RX10 (by decide) rfl (Nat.le_of_ble_eq_true rfl) rfl ?_
  intro p e s m below meth c C hr hw ls hl
  have hx := C.hx
  have hb := C.hb
  replace hl : lv_has ls 5 [(0, .ref a_t), (1, .int p1), (2, .int p2), (3, .int p3), (4, .int p4)] := hl
  refine lv_aload_n hx hb dX10_happen_0 rfl (lv_at hl 0 rfl) ?_
  refine lv_bipush (v := (-6)) hx hb dX10_happen_1 (by decide) ?_
  refine k_put C hw (CC := RX10) (T := TX10) (N := 35) (v := .int (-6)) nX10_happen_X10 tyX10_ok nmX10 0 rfl rfl 19 (by decide) (List.mem_of_getElem? (i := 1) rfl) rfl rfl rfl rfl (Nat.le_of_ble_eq_true rfl) dX10_happen_3 (fun H locs hw => ?_)
  replace hw : kW D _ s H locs [(a_t, .inr (10, [.ref a_t_wealth, .ref a_t_given, .ref a_t_chart, .ref a_t_relatives, .int v_t_inside, .int v_t_next, .int v_t_years, .ref a_t_sightSet, .ref a_t_sightMany, .int v_t_sights, .ref a_t_digits, .ref a_t_pad, .int v_t_padMany, .ref a_t_act, .ref a_t_who, .ref a_t_whom, .ref a_t_much, .int v_t_acts, .int v_t_givenNow, .int (-6), .ref a_t_had, .int v_t_badAct, .int v_t_badWhy, .int v_t_firstAct, .int v_t_firstHouse, .ref a_t_dues, .ref a_t_groups, .ref a_t_ways, .ref a_t_fit, .int v_t_fitMany, .ref a_t_byMany, .ref a_t_kept, .ref a_t_isKept, .int v_t_keptAt, .int v_t_isWriting])), (a_t_chart, .inl (cI, 8, .inl g_t_chart)), (a_t_wealth, .inl (cI, 8, .inl g_t_wealth)), (a_t_given, .inl (cI, 64, .inl g_t_given))] := hw
  refine lv_iload_n hx hb dX10_happen_6 rfl (lv_at hl 1 rfl) ?_
  by_cases c1 : p1 = 0
  · refine lv_tableIn (tgt := 36) hx hb dX10_happen_7 (by rw [c1]; decide) (by rw [c1]; decide) (by rw [c1]; rfl) (by decide) ?_
    refine lv_aload_n hx hb dX10_happen_36 rfl (lv_at hl 0 rfl) ?_
    refine lv_iload_n hx hb dX10_happen_37 rfl (lv_at hl 2 rfl) ?_
    refine k_callV (As := [.int p2]) (rest := []) (n := 1) (CC := RX10) (T := TX10) (N := 35) C hw (T_X10_enter l D cI cZ a_t a_t_wealth a_t_given a_t_chart a_t_relatives a_t_sightSet a_t_sightMany a_t_digits a_t_pad a_t_act a_t_who a_t_whom a_t_much a_t_had a_t_dues a_t_groups a_t_ways a_t_fit a_t_byMany a_t_kept a_t_isKept v_t_inside v_t_next v_t_years v_t_sights v_t_padMany v_t_acts v_t_givenNow ((-6) : Int32) v_t_badAct v_t_badWhy v_t_firstAct v_t_firstHouse v_t_fitMany v_t_keptAt v_t_isWriting p2) gX10_happen_X10_enter rfl ⟨rfl, rfl⟩ (by decide +kernel) ⟨Nat.le_of_ble_eq_true rfl, Nat.le_of_ble_eq_true rfl⟩ 0 rfl rfl [0] rfl rfl [a_t] rfl rfl rfl hl.1 rfl (Nat.le_of_ble_eq_true rfl) ⟨Nat.zero_le _, Nat.zero_le _⟩ dX10_happen_38 (fun H locs hw => ?_)
    obtain ⟨z2, h3⟩ : ∃ z, (f_X10_enter v_t_inside p2) = z := ⟨_, rfl⟩
    refine W.eq (g2 := F0 m 41 ls []) (by subst h3; rfl) ?_
    replace hw := kW_cast (ws' := [(a_t, .inr (10, [.ref a_t_wealth, .ref a_t_given, .ref a_t_chart, .ref a_t_relatives, .int z2.1, .int v_t_next, .int v_t_years, .ref a_t_sightSet, .ref a_t_sightMany, .int v_t_sights, .ref a_t_digits, .ref a_t_pad, .int v_t_padMany, .ref a_t_act, .ref a_t_who, .ref a_t_whom, .ref a_t_much, .int v_t_acts, .int v_t_givenNow, .int z2.2, .ref a_t_had, .int v_t_badAct, .int v_t_badWhy, .int v_t_firstAct, .int v_t_firstHouse, .ref a_t_dues, .ref a_t_groups, .ref a_t_ways, .ref a_t_fit, .int v_t_fitMany, .ref a_t_byMany, .ref a_t_kept, .ref a_t_isKept, .int v_t_keptAt, .int v_t_isWriting])), (a_t_chart, .inl (cI, 8, .inl g_t_chart)), (a_t_wealth, .inl (cI, 8, .inl g_t_wealth)), (a_t_given, .inl (cI, 64, .inl g_t_given))]) (by subst h3; rfl) hw
    refine lv_goto (tgt := 85) hx hb dX10_happen_41 (by decide) ?_
    rw [show f_X10_happen v_t_inside v_t_next v_t_years v_t_givenNow g_t_chart g_t_wealth g_t_given p1 p2 p3 p4 = (z2.1, v_t_next, v_t_years, v_t_givenNow, z2.2, g_t_chart, g_t_wealth, g_t_given) from by
        unfold f_X10_happen
        exact (if_pos c1).trans ((lt_c h3).trans (rfl))]
    exact k_vret C hr hw dX10_happen_85
  · replace hok := Eq.mp (if_neg c1) hok
    by_cases c4 : p1 = 1
    · refine lv_tableIn (tgt := 44) hx hb dX10_happen_7 (by rw [c4]; decide) (by rw [c4]; decide) (by rw [c4]; rfl) (by decide) ?_
      refine lv_aload_n hx hb dX10_happen_44 rfl (lv_at hl 0 rfl) ?_
      refine lv_dup hx hb dX10_happen_45 rfl ?_
      refine k_get C hw (CC := RX10) (T := TX10) (N := 35) nX10_happen_X10 0 rfl rfl 4 (by decide) (List.mem_of_getElem? (i := 2) rfl) rfl rfl dX10_happen_46 ?_
      refine lv_iconst (v := 1) hx hb dX10_happen_49 (by decide) ?_
      refine lv_iload_n hx hb dX10_happen_50 rfl (lv_at hl 2 rfl) ?_
      refine lv_ishl hx hb dX10_happen_51 ?_
      refine lv_iconst (v := (-1)) hx hb dX10_happen_52 (by decide) ?_
      refine lv_ixor hx hb dX10_happen_53 ?_
      refine lv_iand hx hb dX10_happen_54 ?_
      refine k_put C hw (CC := RX10) (T := TX10) (N := 35) (v := .int (v_t_inside &&& (((1 : Int32) <<< (p2 &&& 31)) ^^^ (-1)))) nX10_happen_X10 tyX10_ok nmX10 0 rfl rfl 4 (by decide) (List.mem_of_getElem? (i := 2) rfl) rfl rfl rfl rfl (Nat.le_of_ble_eq_true rfl) dX10_happen_55 (fun H locs hw => ?_)
      replace hw : kW D _ s H locs [(a_t, .inr (10, [.ref a_t_wealth, .ref a_t_given, .ref a_t_chart, .ref a_t_relatives, .int (v_t_inside &&& (((1 : Int32) <<< (p2 &&& 31)) ^^^ (-1))), .int v_t_next, .int v_t_years, .ref a_t_sightSet, .ref a_t_sightMany, .int v_t_sights, .ref a_t_digits, .ref a_t_pad, .int v_t_padMany, .ref a_t_act, .ref a_t_who, .ref a_t_whom, .ref a_t_much, .int v_t_acts, .int v_t_givenNow, .int (-6), .ref a_t_had, .int v_t_badAct, .int v_t_badWhy, .int v_t_firstAct, .int v_t_firstHouse, .ref a_t_dues, .ref a_t_groups, .ref a_t_ways, .ref a_t_fit, .int v_t_fitMany, .ref a_t_byMany, .ref a_t_kept, .ref a_t_isKept, .int v_t_keptAt, .int v_t_isWriting])), (a_t_chart, .inl (cI, 8, .inl g_t_chart)), (a_t_wealth, .inl (cI, 8, .inl g_t_wealth)), (a_t_given, .inl (cI, 64, .inl g_t_given))] := hw
      refine lv_goto (tgt := 85) hx hb dX10_happen_58 (by decide) ?_
      rw [show f_X10_happen v_t_inside v_t_next v_t_years v_t_givenNow g_t_chart g_t_wealth g_t_given p1 p2 p3 p4 = ((v_t_inside &&& (((1 : Int32) <<< (p2 &&& 31)) ^^^ (-1))), v_t_next, v_t_years, v_t_givenNow, (-6), g_t_chart, g_t_wealth, g_t_given) from by
          unfold f_X10_happen
          exact (if_neg c1).trans ((if_pos c4).trans (rfl))]
      exact k_vret C hr hw dX10_happen_85
    · replace hok := Eq.mp (if_neg c4) hok
      by_cases c5 : p1 = 2
      · replace hok := Eq.mp (if_pos c5) hok
        refine lv_tableIn (tgt := 61) hx hb dX10_happen_7 (by rw [c5]; decide) (by rw [c5]; decide) (by rw [c5]; rfl) (by decide) ?_
        refine lv_aload_n hx hb dX10_happen_61 rfl (lv_at hl 0 rfl) ?_
        refine lv_iload_n hx hb dX10_happen_62 rfl (lv_at hl 2 rfl) ?_
        refine lv_iload_n hx hb dX10_happen_63 rfl (lv_at hl 3 rfl) ?_
        refine lv_iload hx hb dX10_happen_64 (lv_at hl 4 rfl) ?_
        obtain ⟨h6, hok⟩ := hok
        refine k_callV (As := [.int p2, .int p3, .int p4]) (rest := []) (n := 3) (CC := RX10) (T := TX10) (N := 35) C hw (T_X10_give l D cI cZ a_t a_t_wealth a_t_given a_t_chart a_t_relatives a_t_sightSet a_t_sightMany a_t_digits a_t_pad a_t_act a_t_who a_t_whom a_t_much a_t_had a_t_dues a_t_groups a_t_ways a_t_fit a_t_byMany a_t_kept a_t_isKept v_t_inside v_t_next v_t_years v_t_sights v_t_padMany v_t_acts v_t_givenNow ((-6) : Int32) v_t_badAct v_t_badWhy v_t_firstAct v_t_firstHouse v_t_fitMany v_t_keptAt v_t_isWriting g_t_wealth g_t_given p2 p3 p4 h6) gX10_happen_X10_give rfl ⟨rfl, rfl⟩ (by decide +kernel) ⟨Nat.le_of_ble_eq_true rfl, Nat.le_of_ble_eq_true rfl⟩ 0 rfl rfl [0, 2, 3] rfl rfl [a_t, a_t_wealth, a_t_given] rfl rfl rfl hl.1 rfl (Nat.le_of_ble_eq_true rfl) ⟨Nat.zero_le _, Nat.zero_le _⟩ dX10_happen_66 (fun H locs hw => ?_)
        obtain ⟨z7, h8⟩ : ∃ z, (f_X10_give v_t_givenNow g_t_wealth g_t_given p2 p3 p4) = z := ⟨_, rfl⟩
        refine W.eq (g2 := F0 m 69 ls []) (by subst h8; rfl) ?_
        replace hw := kW_cast (ws' := [(a_t, .inr (10, [.ref a_t_wealth, .ref a_t_given, .ref a_t_chart, .ref a_t_relatives, .int v_t_inside, .int v_t_next, .int v_t_years, .ref a_t_sightSet, .ref a_t_sightMany, .int v_t_sights, .ref a_t_digits, .ref a_t_pad, .int v_t_padMany, .ref a_t_act, .ref a_t_who, .ref a_t_whom, .ref a_t_much, .int v_t_acts, .int z7.1, .int (-6), .ref a_t_had, .int v_t_badAct, .int v_t_badWhy, .int v_t_firstAct, .int v_t_firstHouse, .ref a_t_dues, .ref a_t_groups, .ref a_t_ways, .ref a_t_fit, .int v_t_fitMany, .ref a_t_byMany, .ref a_t_kept, .ref a_t_isKept, .int v_t_keptAt, .int v_t_isWriting])), (a_t_chart, .inl (cI, 8, .inl g_t_chart)), (a_t_wealth, .inl (cI, 8, .inl z7.2.1)), (a_t_given, .inl (cI, 64, .inl z7.2.2))]) (by subst h8; rfl) hw
        refine lv_goto (tgt := 85) hx hb dX10_happen_69 (by decide) ?_
        rw [show f_X10_happen v_t_inside v_t_next v_t_years v_t_givenNow g_t_chart g_t_wealth g_t_given p1 p2 p3 p4 = (v_t_inside, v_t_next, v_t_years, z7.1, (-6), g_t_chart, z7.2.1, z7.2.2) from by
            unfold f_X10_happen
            exact (if_neg c1).trans ((if_neg c4).trans ((if_pos c5).trans ((lt_c h8).trans (rfl))))]
        exact k_vret C hr hw dX10_happen_85
      · replace hok := Eq.mp (if_neg c5) hok
        by_cases c9 : p1 = 3
        · replace hok := Eq.mp (if_pos c9) hok
          refine lv_tableIn (tgt := 72) hx hb dX10_happen_7 (by rw [c9]; decide) (by rw [c9]; decide) (by rw [c9]; rfl) (by decide) ?_
          refine lv_aload_n hx hb dX10_happen_72 rfl (lv_at hl 0 rfl) ?_
          refine lv_iload_n hx hb dX10_happen_73 rfl (lv_at hl 2 rfl) ?_
          refine lv_iload_n hx hb dX10_happen_74 rfl (lv_at hl 3 rfl) ?_
          obtain ⟨h10, hok⟩ := hok
          refine k_callV (As := [.int p2, .int p3]) (rest := []) (n := 2) (CC := RX10) (T := TX10) (N := 35) C hw (T_X10_change l D cI cZ a_t a_t_wealth a_t_given a_t_chart a_t_relatives a_t_sightSet a_t_sightMany a_t_digits a_t_pad a_t_act a_t_who a_t_whom a_t_much a_t_had a_t_dues a_t_groups a_t_ways a_t_fit a_t_byMany a_t_kept a_t_isKept v_t_inside v_t_next v_t_years v_t_sights v_t_padMany v_t_acts v_t_givenNow ((-6) : Int32) v_t_badAct v_t_badWhy v_t_firstAct v_t_firstHouse v_t_fitMany v_t_keptAt v_t_isWriting g_t_chart p2 p3 h10) gX10_happen_X10_change rfl ⟨rfl, rfl⟩ (by decide +kernel) ⟨Nat.le_of_ble_eq_true rfl, Nat.le_of_ble_eq_true rfl⟩ 0 rfl rfl [0, 1] rfl rfl [a_t, a_t_chart] rfl rfl rfl hl.1 rfl (Nat.le_of_ble_eq_true rfl) ⟨Nat.zero_le _, Nat.zero_le _⟩ dX10_happen_75 (fun H locs hw => ?_)
          obtain ⟨z11, h12⟩ : ∃ z, (f_X10_change g_t_chart p2 p3) = z := ⟨_, rfl⟩
          refine W.eq (g2 := F0 m 78 ls []) (by subst h12; rfl) ?_
          replace hw := kW_cast (ws' := [(a_t, .inr (10, [.ref a_t_wealth, .ref a_t_given, .ref a_t_chart, .ref a_t_relatives, .int v_t_inside, .int v_t_next, .int v_t_years, .ref a_t_sightSet, .ref a_t_sightMany, .int v_t_sights, .ref a_t_digits, .ref a_t_pad, .int v_t_padMany, .ref a_t_act, .ref a_t_who, .ref a_t_whom, .ref a_t_much, .int v_t_acts, .int v_t_givenNow, .int (-6), .ref a_t_had, .int v_t_badAct, .int v_t_badWhy, .int v_t_firstAct, .int v_t_firstHouse, .ref a_t_dues, .ref a_t_groups, .ref a_t_ways, .ref a_t_fit, .int v_t_fitMany, .ref a_t_byMany, .ref a_t_kept, .ref a_t_isKept, .int v_t_keptAt, .int v_t_isWriting])), (a_t_chart, .inl (cI, 8, .inl z11)), (a_t_wealth, .inl (cI, 8, .inl g_t_wealth)), (a_t_given, .inl (cI, 64, .inl g_t_given))]) (by subst h12; rfl) hw
          refine lv_goto (tgt := 85) hx hb dX10_happen_78 (by decide) ?_
          rw [show f_X10_happen v_t_inside v_t_next v_t_years v_t_givenNow g_t_chart g_t_wealth g_t_given p1 p2 p3 p4 = (v_t_inside, v_t_next, v_t_years, v_t_givenNow, (-6), z11, g_t_wealth, g_t_given) from by
              unfold f_X10_happen
              exact (if_neg c1).trans ((if_neg c4).trans ((if_neg c5).trans ((if_pos c9).trans ((lt_c h12).trans (rfl)))))]
          exact k_vret C hr hw dX10_happen_85
        · replace hok := Eq.mp (if_neg c9) hok
          refine lv_tableOut (tgt := 81) hx hb dX10_happen_7 (tab_out4 c1 c4 c5 c9) (by decide) ?_
          refine lv_aload_n hx hb dX10_happen_81 rfl (lv_at hl 0 rfl) ?_
          obtain ⟨h13, hok⟩ := hok
          refine k_callV (As := []) (rest := []) (n := 0) (CC := RX10) (T := TX10) (N := 35) C hw (T_X10_passYear l D cI cZ a_t a_t_wealth a_t_given a_t_chart a_t_relatives a_t_sightSet a_t_sightMany a_t_digits a_t_pad a_t_act a_t_who a_t_whom a_t_much a_t_had a_t_dues a_t_groups a_t_ways a_t_fit a_t_byMany a_t_kept a_t_isKept v_t_inside v_t_next v_t_years v_t_sights v_t_padMany v_t_acts v_t_givenNow ((-6) : Int32) v_t_badAct v_t_badWhy v_t_firstAct v_t_firstHouse v_t_fitMany v_t_keptAt v_t_isWriting g_t_chart h13) gX10_happen_X10_passYear rfl ⟨rfl, rfl⟩ (by decide +kernel) ⟨Nat.le_of_ble_eq_true rfl, Nat.le_of_ble_eq_true rfl⟩ 0 rfl rfl [0, 1] rfl rfl [a_t, a_t_chart] rfl rfl rfl hl.1 rfl (Nat.le_of_ble_eq_true rfl) ⟨Nat.zero_le _, Nat.zero_le _⟩ dX10_happen_82 (fun H locs hw => ?_)
          obtain ⟨z14, h15⟩ : ∃ z, (f_X10_passYear v_t_next v_t_years g_t_chart) = z := ⟨_, rfl⟩
          refine W.eq (g2 := F0 m 85 ls []) (by subst h15; rfl) ?_
          replace hw := kW_cast (ws' := [(a_t, .inr (10, [.ref a_t_wealth, .ref a_t_given, .ref a_t_chart, .ref a_t_relatives, .int z14.1, .int z14.2.1, .int z14.2.2.1, .ref a_t_sightSet, .ref a_t_sightMany, .int v_t_sights, .ref a_t_digits, .ref a_t_pad, .int v_t_padMany, .ref a_t_act, .ref a_t_who, .ref a_t_whom, .ref a_t_much, .int v_t_acts, .int v_t_givenNow, .int z14.2.2.2, .ref a_t_had, .int v_t_badAct, .int v_t_badWhy, .int v_t_firstAct, .int v_t_firstHouse, .ref a_t_dues, .ref a_t_groups, .ref a_t_ways, .ref a_t_fit, .int v_t_fitMany, .ref a_t_byMany, .ref a_t_kept, .ref a_t_isKept, .int v_t_keptAt, .int v_t_isWriting])), (a_t_chart, .inl (cI, 8, .inl g_t_chart)), (a_t_wealth, .inl (cI, 8, .inl g_t_wealth)), (a_t_given, .inl (cI, 64, .inl g_t_given))]) (by subst h15; rfl) hw
          rw [show f_X10_happen v_t_inside v_t_next v_t_years v_t_givenNow g_t_chart g_t_wealth g_t_given p1 p2 p3 p4 = (z14.1, z14.2.1, z14.2.2.1, v_t_givenNow, z14.2.2.2, g_t_chart, g_t_wealth, g_t_given) from by
              unfold f_X10_happen
              exact (if_neg c1).trans ((if_neg c4).trans ((if_neg c5).trans ((if_neg c9).trans ((lt_c h15).trans (rfl)))))]
          exact k_vret C hr hw dX10_happen_85

