theorem nX10_waysOn_X10 : ∀ w ∈ wsX100, w ∈ wsX10_waysOn := fun _ h => List.mem_cons_of_mem _ (List.mem_append_right _ h)
def B_X10_waysOn_5 (x1 : Int32) (x2 : Int32) (g_t_relatives : (Nat → Int32)) (g_t_ways : (Nat → Int32)) (j : Nat) (v : Int32) : Int32 := (if (f_X10_has x1 (nI j)) = 0 then (if (f_X10_has (g_t_relatives x2.toNatClampNeg) (nI j)) = 0 then (v + (g_t_ways ((8 * (x1 ||| ((1 : Int32) <<< ((nI j) &&& 31)))) + (nI j)).toNatClampNeg)) else (v + 0)) else (v + 0))
def oB_X10_waysOn_5 (x1 : Int32) (x2 : Int32) (g_t_relatives : (Nat → Int32)) (j : Nat) (v : Int32) : Prop := (if (f_X10_has x1 (nI j)) = 0 then ((vp_in x2 8) ∧ (if (f_X10_has (g_t_relatives x2.toNatClampNeg) (nI j)) = 0 then ((vp_in ((8 * (x1 ||| ((1 : Int32) <<< ((nI j) &&& 31)))) + (nI j)) 2048) ∧ True) else True)) else True)
set_option maxHeartbeats 4000000 in
set_option maxRecDepth 100000 in
theorem l_X10_waysOn_5 {p : Program} {l : Launch} {e : Env} {s : State} {m : MethodId} {args : Array Value} {below : List Frame} {meth : Method} {c : Code} {D : va_G} {cI cZ : ClassId} {Q : State → Prop} {A : Nat → Prop} (a_t a_t_wealth a_t_given a_t_chart a_t_relatives a_t_sightSet a_t_sightMany a_t_digits a_t_pad a_t_act a_t_who a_t_whom a_t_much a_t_had a_t_dues a_t_groups a_t_ways a_t_fit a_t_byMany a_t_kept a_t_isKept : Nat) (x1 : Int32) (x2 : Int32) (v_t_inside : Int32) (v_t_next : Int32) (v_t_years : Int32) (v_t_sights : Int32) (v_t_padMany : Int32) (v_t_acts : Int32) (v_t_givenNow : Int32) (v_t_entered : Int32) (v_t_badAct : Int32) (v_t_badWhy : Int32) (v_t_firstAct : Int32) (v_t_firstHouse : Int32) (v_t_fitMany : Int32) (v_t_keptAt : Int32) (v_t_isWriting : Int32) (g_t_relatives : (Nat → Int32)) (g_t_ways : (Nat → Int32)) (C : kC p s m args meth c cX10_waysOn 6 wsX10_waysOn RX10 D cI cZ A) : ∀ (n j : Nat) (x3 : Int32), n = 8 - j → j < 2147483648 → itA (oB_X10_waysOn_5 x1 x2 g_t_relatives) (B_X10_waysOn_5 x1 x2 g_t_relatives g_t_ways) j n x3 → ∀ (H : Heap) (locs : List Loc), kW D A s H locs [(a_t, .inr (10, [.ref a_t_wealth, .ref a_t_given, .ref a_t_chart, .ref a_t_relatives, .int v_t_inside, .int v_t_next, .int v_t_years, .ref a_t_sightSet, .ref a_t_sightMany, .int v_t_sights, .ref a_t_digits, .ref a_t_pad, .int v_t_padMany, .ref a_t_act, .ref a_t_who, .ref a_t_whom, .ref a_t_much, .int v_t_acts, .int v_t_givenNow, .int v_t_entered, .ref a_t_had, .int v_t_badAct, .int v_t_badWhy, .int v_t_firstAct, .int v_t_firstHouse, .ref a_t_dues, .ref a_t_groups, .ref a_t_ways, .ref a_t_fit, .int v_t_fitMany, .ref a_t_byMany, .ref a_t_kept, .ref a_t_isKept, .int v_t_keptAt, .int v_t_isWriting])), (a_t_relatives, .inl (cI, 8, .inl g_t_relatives)), (a_t_ways, .inl (cI, 2048, .inl g_t_ways))] → ∀ (ls : Array Slot), lv_has ls 6 [(0, .ref a_t), (1, .int x1), (2, .int x2), (3, .int x3), (4, .int (nI j))] → (∀ (H : Heap) (locs : List Loc) (ls : Array Slot), kW D A s H locs [(a_t, .inr (10, [.ref a_t_wealth, .ref a_t_given, .ref a_t_chart, .ref a_t_relatives, .int v_t_inside, .int v_t_next, .int v_t_years, .ref a_t_sightSet, .ref a_t_sightMany, .int v_t_sights, .ref a_t_digits, .ref a_t_pad, .int v_t_padMany, .ref a_t_act, .ref a_t_who, .ref a_t_whom, .ref a_t_much, .int v_t_acts, .int v_t_givenNow, .int v_t_entered, .ref a_t_had, .int v_t_badAct, .int v_t_badWhy, .int v_t_firstAct, .int v_t_firstHouse, .ref a_t_dues, .ref a_t_groups, .ref a_t_ways, .ref a_t_fit, .int v_t_fitMany, .ref a_t_byMany, .ref a_t_kept, .ref a_t_isKept, .int v_t_keptAt, .int v_t_isWriting])), (a_t_relatives, .inl (cI, 8, .inl g_t_relatives)), (a_t_ways, .inl (cI, 2048, .inl g_t_ways))] → lv_has ls 6 [(1, .int x1), (3, .int (it (B_X10_waysOn_5 x1 x2 g_t_relatives g_t_ways) j n x3))] → W p l e ({ frames := 1, cells := 0, slots := 0, locals := 21 }) s m args below meth c H locs 0 0 Q (F0 m 77 ls [])) → W p l e ({ frames := 1, cells := 0, slots := 0, locals := 21 }) s m args below meth c H locs 0 0 Q (F0 m 5 ls []) := by
  have hx := C.hx
  have hb := C.hb
  intro n
  induction n with
  | zero =>
    intro j x3 hn hj hok0 H locs hw ls hl kk
    refine lv_iload hx hb dX10_waysOn_5 (lv_at hl 4 rfl) ?_
    refine lv_bipush (v := 8) hx hb dX10_waysOn_7 (by decide) ?_
    refine lv_icmp_ge (tgt := 77) hx hb dX10_waysOn_9 (by decide) (fun c9 => ?_) (fun c9 => by exact absurd (nI_le (a := 8) (b := j) (by omega) (by omega)) c9)
    exact kk _ _ _ hw (lv_sub hl [1, 3] rfl)
  | succ n ih =>
    intro j x3 hn hj hok0 H locs hw ls hl kk
    have hok := hok0.1
    refine lv_iload hx hb dX10_waysOn_5 (lv_at hl 4 rfl) ?_
    refine lv_bipush (v := 8) hx hb dX10_waysOn_7 (by decide) ?_
    refine lv_icmp_ge (tgt := 77) hx hb dX10_waysOn_9 (by decide) (fun c1 => by exact absurd c1 (nI_ge (a := j) (b := 8) (by omega) (by omega))) (fun c1 => ?_)
    refine lv_iload_n hx hb dX10_waysOn_12 rfl (lv_at hl 1 rfl) ?_
    refine lv_iload hx hb dX10_waysOn_13 (lv_at hl 4 rfl) ?_
    refine k_callS (As := [.int x1, .int (nI j)]) (rest := []) (n := 2) C hw (T_X10_has l D cI cZ x1 (nI j)) gX10_waysOn_X10_has rfl ⟨rfl, rfl⟩ (by decide +kernel) ⟨Nat.le_of_ble_eq_true rfl, Nat.le_of_ble_eq_true rfl⟩ [] rfl rfl [] rfl rfl rfl hl.1 rfl (Nat.le_of_ble_eq_true rfl) ⟨Nat.zero_le _, Nat.zero_le _⟩ dX10_waysOn_15 (fun H locs hw => ?_)
    refine W.eq (g2 := F0 m 18 ls [.int (f_X10_has x1 (nI j))]) rfl ?_
    replace hw : kW D _ s H locs [(a_t, .inr (10, [.ref a_t_wealth, .ref a_t_given, .ref a_t_chart, .ref a_t_relatives, .int v_t_inside, .int v_t_next, .int v_t_years, .ref a_t_sightSet, .ref a_t_sightMany, .int v_t_sights, .ref a_t_digits, .ref a_t_pad, .int v_t_padMany, .ref a_t_act, .ref a_t_who, .ref a_t_whom, .ref a_t_much, .int v_t_acts, .int v_t_givenNow, .int v_t_entered, .ref a_t_had, .int v_t_badAct, .int v_t_badWhy, .int v_t_firstAct, .int v_t_firstHouse, .ref a_t_dues, .ref a_t_groups, .ref a_t_ways, .ref a_t_fit, .int v_t_fitMany, .ref a_t_byMany, .ref a_t_kept, .ref a_t_isKept, .int v_t_keptAt, .int v_t_isWriting])), (a_t_relatives, .inl (cI, 8, .inl g_t_relatives)), (a_t_ways, .inl (cI, 2048, .inl g_t_ways))] := hw
    refine lv_if_ne (tgt := 39) hx hb dX10_waysOn_18 (by decide) (fun c2 => ?_) (fun c2 => ?_)
    · refine lv_iconst (v := 0) hx hb dX10_waysOn_39 (by decide) ?_
      refine lv_istore (lv' := [(5, .int 0), (0, .ref a_t), (1, .int x1), (2, .int x2), (3, .int x3), (4, .int (nI j))]) hx hb dX10_waysOn_40 hl (by decide) rfl (fun ls hl => ?_)
      refine lv_iload_n hx hb dX10_waysOn_42 rfl (lv_at hl 4 rfl) ?_
      refine lv_iload hx hb dX10_waysOn_43 (lv_at hl 0 rfl) ?_
      refine lv_if_eq (tgt := 68) hx hb dX10_waysOn_45 (by decide) (fun _ => ?_) (fun c3 => absurd c3 (by decide))
      refine lv_iconst (v := 0) hx hb dX10_waysOn_68 (by decide) ?_
      refine lv_iadd hx hb dX10_waysOn_69 ?_
      refine lv_istore_n (lv' := [(3, .int (x3 + 0)), (5, .int 0), (0, .ref a_t), (1, .int x1), (2, .int x2), (4, .int (nI j))]) hx hb dX10_waysOn_70 rfl hl (by decide) rfl (fun ls hl => ?_)
      refine lv_iinc (v := (nI (j + 1))) (lv' := [(4, .int (nI (j + 1))), (3, .int (x3 + 0)), (5, .int 0), (0, .ref a_t), (1, .int x1), (2, .int x2)]) hx hb dX10_waysOn_71 hl (k := 5) rfl (nI_1 _) (by decide) rfl (fun ls hl => ?_)
      refine lv_goto (tgt := 5) hx hb dX10_waysOn_74 (by decide) ?_
      have hB : B_X10_waysOn_5 x1 x2 g_t_relatives g_t_ways j x3 = (x3 + 0) := by
        unfold B_X10_waysOn_5
        exact (if_neg c2).trans (rfl)
      rw [it_c hB] at kk
      have hok2 := itA_c hB hok0
      exact ih (j + 1) (x3 + 0) (by omega) (by omega) hok2 _ _ hw _ (lv_sub hl [3, 4, 5, 1, 0] rfl) kk
    · replace hok := Eq.mp (if_pos c2) hok
      refine lv_aload_n hx hb dX10_waysOn_21 rfl (lv_at hl 0 rfl) ?_
      refine k_get C hw (CC := RX10) (T := TX10) (N := 35) nX10_waysOn_X10 0 rfl rfl 3 (by decide) (List.mem_of_getElem? (i := 1) rfl) rfl rfl dX10_waysOn_22 ?_
      refine lv_iload_n hx hb dX10_waysOn_25 rfl (lv_at hl 2 rfl) ?_
      obtain ⟨h4, hok⟩ := hok
      refine k_iald C hw 1 rfl h4 dX10_waysOn_26 ?_
      refine lv_iload hx hb dX10_waysOn_27 (lv_at hl 4 rfl) ?_
      refine k_callS (As := [.int (g_t_relatives x2.toNatClampNeg), .int (nI j)]) (rest := []) (n := 2) C hw (T_X10_has l D cI cZ (g_t_relatives x2.toNatClampNeg) (nI j)) gX10_waysOn_X10_has rfl ⟨rfl, rfl⟩ (by decide +kernel) ⟨Nat.le_of_ble_eq_true rfl, Nat.le_of_ble_eq_true rfl⟩ [] rfl rfl [] rfl rfl rfl hl.1 rfl (Nat.le_of_ble_eq_true rfl) ⟨Nat.zero_le _, Nat.zero_le _⟩ dX10_waysOn_29 (fun H locs hw => ?_)
      refine W.eq (g2 := F0 m 32 ls [.int (f_X10_has (g_t_relatives x2.toNatClampNeg) (nI j))]) rfl ?_
      replace hw : kW D _ s H locs [(a_t, .inr (10, [.ref a_t_wealth, .ref a_t_given, .ref a_t_chart, .ref a_t_relatives, .int v_t_inside, .int v_t_next, .int v_t_years, .ref a_t_sightSet, .ref a_t_sightMany, .int v_t_sights, .ref a_t_digits, .ref a_t_pad, .int v_t_padMany, .ref a_t_act, .ref a_t_who, .ref a_t_whom, .ref a_t_much, .int v_t_acts, .int v_t_givenNow, .int v_t_entered, .ref a_t_had, .int v_t_badAct, .int v_t_badWhy, .int v_t_firstAct, .int v_t_firstHouse, .ref a_t_dues, .ref a_t_groups, .ref a_t_ways, .ref a_t_fit, .int v_t_fitMany, .ref a_t_byMany, .ref a_t_kept, .ref a_t_isKept, .int v_t_keptAt, .int v_t_isWriting])), (a_t_relatives, .inl (cI, 8, .inl g_t_relatives)), (a_t_ways, .inl (cI, 2048, .inl g_t_ways))] := hw
      refine lv_if_ne (tgt := 39) hx hb dX10_waysOn_32 (by decide) (fun c5 => ?_) (fun c5 => ?_)
      · refine lv_iconst (v := 0) hx hb dX10_waysOn_39 (by decide) ?_
        refine lv_istore (lv' := [(5, .int 0), (0, .ref a_t), (1, .int x1), (2, .int x2), (3, .int x3), (4, .int (nI j))]) hx hb dX10_waysOn_40 hl (by decide) rfl (fun ls hl => ?_)
        refine lv_iload_n hx hb dX10_waysOn_42 rfl (lv_at hl 4 rfl) ?_
        refine lv_iload hx hb dX10_waysOn_43 (lv_at hl 0 rfl) ?_
        refine lv_if_eq (tgt := 68) hx hb dX10_waysOn_45 (by decide) (fun _ => ?_) (fun c6 => absurd c6 (by decide))
        refine lv_iconst (v := 0) hx hb dX10_waysOn_68 (by decide) ?_
        refine lv_iadd hx hb dX10_waysOn_69 ?_
        refine lv_istore_n (lv' := [(3, .int (x3 + 0)), (5, .int 0), (0, .ref a_t), (1, .int x1), (2, .int x2), (4, .int (nI j))]) hx hb dX10_waysOn_70 rfl hl (by decide) rfl (fun ls hl => ?_)
        refine lv_iinc (v := (nI (j + 1))) (lv' := [(4, .int (nI (j + 1))), (3, .int (x3 + 0)), (5, .int 0), (0, .ref a_t), (1, .int x1), (2, .int x2)]) hx hb dX10_waysOn_71 hl (k := 5) rfl (nI_1 _) (by decide) rfl (fun ls hl => ?_)
        refine lv_goto (tgt := 5) hx hb dX10_waysOn_74 (by decide) ?_
        have hB : B_X10_waysOn_5 x1 x2 g_t_relatives g_t_ways j x3 = (x3 + 0) := by
          unfold B_X10_waysOn_5
          exact (if_pos c2).trans ((if_neg c5).trans (rfl))
        rw [it_c hB] at kk
        have hok2 := itA_c hB hok0
        exact ih (j + 1) (x3 + 0) (by omega) (by omega) hok2 _ _ hw _ (lv_sub hl [3, 4, 5, 1, 0] rfl) kk
      · replace hok := Eq.mp (if_pos c5) hok
        refine lv_iconst (v := 1) hx hb dX10_waysOn_35 (by decide) ?_
        refine lv_goto (tgt := 40) hx hb dX10_waysOn_36 (by decide) ?_
        refine lv_istore (lv' := [(5, .int 1), (0, .ref a_t), (1, .int x1), (2, .int x2), (3, .int x3), (4, .int (nI j))]) hx hb dX10_waysOn_40 hl (by decide) rfl (fun ls hl => ?_)
        refine lv_iload_n hx hb dX10_waysOn_42 rfl (lv_at hl 4 rfl) ?_
        refine lv_iload hx hb dX10_waysOn_43 (lv_at hl 0 rfl) ?_
        refine lv_if_eq (tgt := 68) hx hb dX10_waysOn_45 (by decide) (fun c7 => absurd c7 (by decide)) (fun _ => ?_)
        refine lv_aload_n hx hb dX10_waysOn_48 rfl (lv_at hl 1 rfl) ?_
        refine k_get C hw (CC := RX10) (T := TX10) (N := 35) nX10_waysOn_X10 0 rfl rfl 27 (by decide) (List.mem_of_getElem? (i := 2) rfl) rfl rfl dX10_waysOn_49 ?_
        refine lv_bipush (v := 8) hx hb dX10_waysOn_52 (by decide) ?_
        refine lv_iload_n hx hb dX10_waysOn_54 rfl (lv_at hl 2 rfl) ?_
        refine lv_iconst (v := 1) hx hb dX10_waysOn_55 (by decide) ?_
        refine lv_iload hx hb dX10_waysOn_56 (lv_at hl 5 rfl) ?_
        refine lv_ishl hx hb dX10_waysOn_58 ?_
        refine lv_ior hx hb dX10_waysOn_59 ?_
        refine lv_imul hx hb dX10_waysOn_60 ?_
        refine lv_iload hx hb dX10_waysOn_61 (lv_at hl 5 rfl) ?_
        refine lv_iadd hx hb dX10_waysOn_63 ?_
        obtain ⟨h8, hok⟩ := hok
        refine k_iald C hw 2 rfl h8 dX10_waysOn_64 ?_
        refine lv_goto (tgt := 69) hx hb dX10_waysOn_65 (by decide) ?_
        refine lv_iadd hx hb dX10_waysOn_69 ?_
        refine lv_istore_n (lv' := [(3, .int (x3 + (g_t_ways ((8 * (x1 ||| ((1 : Int32) <<< ((nI j) &&& 31)))) + (nI j)).toNatClampNeg))), (5, .int 1), (0, .ref a_t), (1, .int x1), (2, .int x2), (4, .int (nI j))]) hx hb dX10_waysOn_70 rfl hl (by decide) rfl (fun ls hl => ?_)
        refine lv_iinc (v := (nI (j + 1))) (lv' := [(4, .int (nI (j + 1))), (3, .int (x3 + (g_t_ways ((8 * (x1 ||| ((1 : Int32) <<< ((nI j) &&& 31)))) + (nI j)).toNatClampNeg))), (5, .int 1), (0, .ref a_t), (1, .int x1), (2, .int x2)]) hx hb dX10_waysOn_71 hl (k := 5) rfl (nI_1 _) (by decide) rfl (fun ls hl => ?_)
        refine lv_goto (tgt := 5) hx hb dX10_waysOn_74 (by decide) ?_
        have hB : B_X10_waysOn_5 x1 x2 g_t_relatives g_t_ways j x3 = (x3 + (g_t_ways ((8 * (x1 ||| ((1 : Int32) <<< ((nI j) &&& 31)))) + (nI j)).toNatClampNeg)) := by
          unfold B_X10_waysOn_5
          exact (if_pos c2).trans ((if_pos c5).trans (rfl))
        rw [it_c hB] at kk
        have hok2 := itA_c hB hok0
        exact ih (j + 1) (x3 + (g_t_ways ((8 * (x1 ||| ((1 : Int32) <<< ((nI j) &&& 31)))) + (nI j)).toNatClampNeg)) (by omega) (by omega) hok2 _ _ hw _ (lv_sub hl [3, 4, 5, 1, 0] rfl) kk
def f_X10_waysOn (g_t_relatives : (Nat → Int32)) (g_t_ways : (Nat → Int32)) (p1 : Int32) (p2 : Int32) : Int32 := (if p1 = 255 then 1 else (it (B_X10_waysOn_5 p1 p2 g_t_relatives g_t_ways) 0 8 (0 : Int32)))
def o_X10_waysOn (g_t_relatives : (Nat → Int32)) (g_t_ways : (Nat → Int32)) (p1 : Int32) (p2 : Int32) : Prop := ((itA (oB_X10_waysOn_5 p1 p2 g_t_relatives) (B_X10_waysOn_5 p1 p2 g_t_relatives g_t_ways) 0 8 (0 : Int32)) ∧ True)
set_option maxHeartbeats 4000000 in
set_option maxRecDepth 100000 in
theorem T_X10_waysOn (l : Launch) (D : va_G) (cI cZ : ClassId) (a_t a_t_wealth a_t_given a_t_chart a_t_relatives a_t_sightSet a_t_sightMany a_t_digits a_t_pad a_t_act a_t_who a_t_whom a_t_much a_t_had a_t_dues a_t_groups a_t_ways a_t_fit a_t_byMany a_t_kept a_t_isKept : Nat) (v_t_inside : Int32) (v_t_next : Int32) (v_t_years : Int32) (v_t_sights : Int32) (v_t_padMany : Int32) (v_t_acts : Int32) (v_t_givenNow : Int32) (v_t_entered : Int32) (v_t_badAct : Int32) (v_t_badWhy : Int32) (v_t_firstAct : Int32) (v_t_firstHouse : Int32) (v_t_fitMany : Int32) (v_t_keptAt : Int32) (v_t_isWriting : Int32) (g_t_relatives : (Nat → Int32)) (g_t_ways : (Nat → Int32)) (p1 : Int32) (p2 : Int32) (hok : o_X10_waysOn g_t_relatives g_t_ways p1 p2) : CT l D cI cZ yX10_waysOn wsX10_waysOn ({ frames := 1, cells := 0, slots := 0, locals := 21 }) [.ref a_t, .int p1, .int p2] [(a_t, .inr (10, [.ref a_t_wealth, .ref a_t_given, .ref a_t_chart, .ref a_t_relatives, .int v_t_inside, .int v_t_next, .int v_t_years, .ref a_t_sightSet, .ref a_t_sightMany, .int v_t_sights, .ref a_t_digits, .ref a_t_pad, .int v_t_padMany, .ref a_t_act, .ref a_t_who, .ref a_t_whom, .ref a_t_much, .int v_t_acts, .int v_t_givenNow, .int v_t_entered, .ref a_t_had, .int v_t_badAct, .int v_t_badWhy, .int v_t_firstAct, .int v_t_firstHouse, .ref a_t_dues, .ref a_t_groups, .ref a_t_ways, .ref a_t_fit, .int v_t_fitMany, .ref a_t_byMany, .ref a_t_kept, .ref a_t_isKept, .int v_t_keptAt, .int v_t_isWriting])), (a_t_relatives, .inl (cI, 8, .inl g_t_relatives)), (a_t_ways, .inl (cI, 2048, .inl g_t_ways))] (some (.int (f_X10_waysOn g_t_relatives g_t_ways p1 p2))) [(a_t, .inr (10, [.ref a_t_wealth, .ref a_t_given, .ref a_t_chart, .ref a_t_relatives, .int v_t_inside, .int v_t_next, .int v_t_years, .ref a_t_sightSet, .ref a_t_sightMany, .int v_t_sights, .ref a_t_digits, .ref a_t_pad, .int v_t_padMany, .ref a_t_act, .ref a_t_who, .ref a_t_whom, .ref a_t_much, .int v_t_acts, .int v_t_givenNow, .int v_t_entered, .ref a_t_had, .int v_t_badAct, .int v_t_badWhy, .int v_t_firstAct, .int v_t_firstHouse, .ref a_t_dues, .ref a_t_groups, .ref a_t_ways, .ref a_t_fit, .int v_t_fitMany, .ref a_t_byMany, .ref a_t_kept, .ref a_t_isKept, .int v_t_keptAt, .int v_t_isWriting])), (a_t_relatives, .inl (cI, 8, .inl g_t_relatives)), (a_t_ways, .inl (cI, 2048, .inl g_t_ways))] := by
  refine CT.intro RX10 (by decide) rfl (Nat.le_of_ble_eq_true rfl) rfl ?_
  intro p e s m below meth c C hr hw ls hl
  have hx := C.hx
  have hb := C.hb
  replace hl : lv_has ls 6 [(0, .ref a_t), (1, .int p1), (2, .int p2)] := hl
  refine lv_iconst (v := 0) hx hb dX10_waysOn_0 (by decide) ?_
  refine lv_istore_n (lv' := [(3, .int 0), (0, .ref a_t), (1, .int p1), (2, .int p2)]) hx hb dX10_waysOn_1 rfl hl (by decide) rfl (fun ls hl => ?_)
  refine lv_iconst (v := 0) hx hb dX10_waysOn_2 (by decide) ?_
  refine lv_istore (lv' := [(4, .int 0), (3, .int 0), (0, .ref a_t), (1, .int p1), (2, .int p2)]) hx hb dX10_waysOn_3 hl (by decide) rfl (fun ls hl => ?_)
  obtain ⟨h10, hok⟩ := hok
  refine l_X10_waysOn_5 a_t a_t_wealth a_t_given a_t_chart a_t_relatives a_t_sightSet a_t_sightMany a_t_digits a_t_pad a_t_act a_t_who a_t_whom a_t_much a_t_had a_t_dues a_t_groups a_t_ways a_t_fit a_t_byMany a_t_kept a_t_isKept p1 p2 v_t_inside v_t_next v_t_years v_t_sights v_t_padMany v_t_acts v_t_givenNow v_t_entered v_t_badAct v_t_badWhy v_t_firstAct v_t_firstHouse v_t_fitMany v_t_keptAt v_t_isWriting g_t_relatives g_t_ways C 8 0 (0 : Int32) (by decide) (by decide) h10 _ _ hw _ (lv_sub hl [2, 3, 4, 1, 0] rfl) (fun H locs ls hw hl => ?_)
  replace hw : kW D _ s H locs [(a_t, .inr (10, [.ref a_t_wealth, .ref a_t_given, .ref a_t_chart, .ref a_t_relatives, .int v_t_inside, .int v_t_next, .int v_t_years, .ref a_t_sightSet, .ref a_t_sightMany, .int v_t_sights, .ref a_t_digits, .ref a_t_pad, .int v_t_padMany, .ref a_t_act, .ref a_t_who, .ref a_t_whom, .ref a_t_much, .int v_t_acts, .int v_t_givenNow, .int v_t_entered, .ref a_t_had, .int v_t_badAct, .int v_t_badWhy, .int v_t_firstAct, .int v_t_firstHouse, .ref a_t_dues, .ref a_t_groups, .ref a_t_ways, .ref a_t_fit, .int v_t_fitMany, .ref a_t_byMany, .ref a_t_kept, .ref a_t_isKept, .int v_t_keptAt, .int v_t_isWriting])), (a_t_relatives, .inl (cI, 8, .inl g_t_relatives)), (a_t_ways, .inl (cI, 2048, .inl g_t_ways))] := hw
  replace hl : lv_has ls 6 [(1, .int p1), (3, .int (it (B_X10_waysOn_5 p1 p2 g_t_relatives g_t_ways) 0 8 (0 : Int32)))] := hl
  refine lv_iload_n hx hb dX10_waysOn_77 rfl (lv_at hl 0 rfl) ?_
  refine lv_sipush (v := 255) hx hb dX10_waysOn_78 (by decide) ?_
  refine lv_icmp_ne (tgt := 88) hx hb dX10_waysOn_81 (by decide) (fun c11 => ?_) (fun c11 => ?_)
  · refine lv_iload_n hx hb dX10_waysOn_88 rfl (lv_at hl 1 rfl) ?_
    rw [show f_X10_waysOn g_t_relatives g_t_ways p1 p2 = (it (B_X10_waysOn_5 p1 p2 g_t_relatives g_t_ways) 0 8 (0 : Int32)) from by
        unfold f_X10_waysOn
        exact (if_neg c11).trans (rfl)]
    exact k_iret C hr hw dX10_waysOn_89
  · refine lv_iconst (v := 1) hx hb dX10_waysOn_84 (by decide) ?_
    refine lv_goto (tgt := 89) hx hb dX10_waysOn_85 (by decide) ?_
    rw [show f_X10_waysOn g_t_relatives g_t_ways p1 p2 = 1 from by
        unfold f_X10_waysOn
        exact (if_pos c11).trans (rfl)]
    exact k_iret C hr hw dX10_waysOn_89

theorem nX10_leastOrder_X10 : ∀ w ∈ wsX100, w ∈ wsX10_leastOrder := fun _ h => List.mem_cons_of_mem _ (List.mem_append_right _ h)
def B_X10_leastOrder_25 (x2 : Int32) (x3 : Int32) (g_t_ways : (Nat → Int32)) (g_t_relatives : (Nat → Int32)) (n : Nat) (v : Int32) : Int32 := (if (f_X10_has x2 (nI n)) = 0 then (if x3 < 0 then (if (g_t_ways ((8 * (x2 ||| ((1 : Int32) <<< ((nI n) &&& 31)))) + (nI n)).toNatClampNeg) ≤ 0 then v else (nI n)) else (if (f_X10_has (g_t_relatives x3.toNatClampNeg) (nI n)) = 0 then (if (g_t_ways ((8 * (x2 ||| ((1 : Int32) <<< ((nI n) &&& 31)))) + (nI n)).toNatClampNeg) ≤ 0 then v else (nI n)) else v)) else v)
def oB_X10_leastOrder_25 (x2 : Int32) (x3 : Int32) (g_t_relatives : (Nat → Int32)) (n : Nat) (v : Int32) : Prop := (if (f_X10_has x2 (nI n)) = 0 then (if x3 < 0 then ((vp_in ((8 * (x2 ||| ((1 : Int32) <<< ((nI n) &&& 31)))) + (nI n)) 2048) ∧ True) else ((vp_in x3 8) ∧ (if (f_X10_has (g_t_relatives x3.toNatClampNeg) (nI n)) = 0 then ((vp_in ((8 * (x2 ||| ((1 : Int32) <<< ((nI n) &&& 31)))) + (nI n)) 2048) ∧ True) else True))) else True)
set_option maxHeartbeats 4000000 in
set_option maxRecDepth 100000 in
theorem l_X10_leastOrder_25 {p : Program} {l : Launch} {e : Env} {s : State} {m : MethodId} {args : Array Value} {below : List Frame} {meth : Method} {c : Code} {D : va_G} {cI cZ : ClassId} {Q : State → Prop} {A : Nat → Prop} (a_t a_t_wealth a_t_given a_t_chart a_t_relatives a_t_sightSet a_t_sightMany a_t_digits a_t_pad a_t_act a_t_who a_t_whom a_t_much a_t_had a_t_dues a_t_groups a_t_ways a_t_fit a_t_byMany a_t_kept a_t_isKept : Nat) (x1 : Int32) (x2 : Int32) (x3 : Int32) (x4 : Int32) (v_t_inside : Int32) (v_t_next : Int32) (v_t_years : Int32) (v_t_sights : Int32) (v_t_padMany : Int32) (v_t_acts : Int32) (v_t_givenNow : Int32) (v_t_entered : Int32) (v_t_badAct : Int32) (v_t_badWhy : Int32) (v_t_firstAct : Int32) (v_t_firstHouse : Int32) (v_t_fitMany : Int32) (v_t_keptAt : Int32) (v_t_isWriting : Int32) (g_t_ways : (Nat → Int32)) (g_t_relatives : (Nat → Int32)) (C : kC p s m args meth c cX10_leastOrder 8 wsX10_leastOrder RX10 D cI cZ A) : ∀ (n : Nat) (x5 : Int32), n ≤ 8 → itDA (oB_X10_leastOrder_25 x2 x3 g_t_relatives) (B_X10_leastOrder_25 x2 x3 g_t_ways g_t_relatives) n x5 → ∀ (H : Heap) (locs : List Loc), kW D A s H locs [(a_t, .inr (10, [.ref a_t_wealth, .ref a_t_given, .ref a_t_chart, .ref a_t_relatives, .int v_t_inside, .int v_t_next, .int v_t_years, .ref a_t_sightSet, .ref a_t_sightMany, .int v_t_sights, .ref a_t_digits, .ref a_t_pad, .int v_t_padMany, .ref a_t_act, .ref a_t_who, .ref a_t_whom, .ref a_t_much, .int v_t_acts, .int v_t_givenNow, .int v_t_entered, .ref a_t_had, .int v_t_badAct, .int v_t_badWhy, .int v_t_firstAct, .int v_t_firstHouse, .ref a_t_dues, .ref a_t_groups, .ref a_t_ways, .ref a_t_fit, .int v_t_fitMany, .ref a_t_byMany, .ref a_t_kept, .ref a_t_isKept, .int v_t_keptAt, .int v_t_isWriting])), (a_t_ways, .inl (cI, 2048, .inl g_t_ways)), (a_t_relatives, .inl (cI, 8, .inl g_t_relatives))] → ∀ (ls : Array Slot), lv_has ls 8 [(0, .ref a_t), (1, .int x1), (2, .int x2), (3, .int x3), (4, .int x4), (5, .int x5), (6, .int (nI n + (-1)))] → (∀ (H : Heap) (locs : List Loc) (ls : Array Slot), kW D A s H locs [(a_t, .inr (10, [.ref a_t_wealth, .ref a_t_given, .ref a_t_chart, .ref a_t_relatives, .int v_t_inside, .int v_t_next, .int v_t_years, .ref a_t_sightSet, .ref a_t_sightMany, .int v_t_sights, .ref a_t_digits, .ref a_t_pad, .int v_t_padMany, .ref a_t_act, .ref a_t_who, .ref a_t_whom, .ref a_t_much, .int v_t_acts, .int v_t_givenNow, .int v_t_entered, .ref a_t_had, .int v_t_badAct, .int v_t_badWhy, .int v_t_firstAct, .int v_t_firstHouse, .ref a_t_dues, .ref a_t_groups, .ref a_t_ways, .ref a_t_fit, .int v_t_fitMany, .ref a_t_byMany, .ref a_t_kept, .ref a_t_isKept, .int v_t_keptAt, .int v_t_isWriting])), (a_t_ways, .inl (cI, 2048, .inl g_t_ways)), (a_t_relatives, .inl (cI, 8, .inl g_t_relatives))] → lv_has ls 8 [(0, .ref a_t), (1, .int x1), (2, .int x2), (4, .int x4), (5, .int (itD (B_X10_leastOrder_25 x2 x3 g_t_ways g_t_relatives) n x5))] → W p l e ({ frames := 1, cells := 0, slots := 0, locals := 21 }) s m args below meth c H locs 0 0 Q (F0 m 104 ls [])) → W p l e ({ frames := 1, cells := 0, slots := 0, locals := 21 }) s m args below meth c H locs 0 0 Q (F0 m 25 ls []) := by
  have hx := C.hx
  have hb := C.hb
  intro n
  induction n with
  | zero =>
    intro x5 hn hok0 H locs hw ls hl kk
    refine lv_iload hx hb dX10_leastOrder_25 (lv_at hl 6 rfl) ?_
    refine lv_if_lt (tgt := 104) hx hb dX10_leastOrder_27 (by decide) (fun c17 => ?_) (fun c17 => absurd (by decide) c17)
    exact kk _ _ _ hw (lv_sub hl [0, 1, 2, 4, 5] rfl)
  | succ n ih =>
    intro x5 hn hok0 H locs hw ls hl kk
    have hok := hok0.1
    replace hl : lv_has ls 8 [(0, .ref a_t), (1, .int x1), (2, .int x2), (3, .int x3), (4, .int x4), (5, .int x5), (6, .int (nI n))] := by
      rw [← pk_m1]
      exact hl
    refine lv_iload hx hb dX10_leastOrder_25 (lv_at hl 6 rfl) ?_
    refine lv_if_lt (tgt := 104) hx hb dX10_leastOrder_27 (by decide) (fun c2 => absurd c2 (nI_pos (by omega))) (fun c2 => ?_)
    refine lv_iload_n hx hb dX10_leastOrder_30 rfl (lv_at hl 2 rfl) ?_
    refine lv_iload hx hb dX10_leastOrder_31 (lv_at hl 6 rfl) ?_
    refine k_callS (As := [.int x2, .int (nI n)]) (rest := []) (n := 2) C hw (T_X10_has l D cI cZ x2 (nI n)) gX10_leastOrder_X10_has rfl ⟨rfl, rfl⟩ (by decide +kernel) ⟨Nat.le_of_ble_eq_true rfl, Nat.le_of_ble_eq_true rfl⟩ [] rfl rfl [] rfl rfl rfl hl.1 rfl (Nat.le_of_ble_eq_true rfl) ⟨Nat.zero_le _, Nat.zero_le _⟩ dX10_leastOrder_33 (fun H locs hw => ?_)
    refine W.eq (g2 := F0 m 36 ls [.int (f_X10_has x2 (nI n))]) rfl ?_
    replace hw : kW D _ s H locs [(a_t, .inr (10, [.ref a_t_wealth, .ref a_t_given, .ref a_t_chart, .ref a_t_relatives, .int v_t_inside, .int v_t_next, .int v_t_years, .ref a_t_sightSet, .ref a_t_sightMany, .int v_t_sights, .ref a_t_digits, .ref a_t_pad, .int v_t_padMany, .ref a_t_act, .ref a_t_who, .ref a_t_whom, .ref a_t_much, .int v_t_acts, .int v_t_givenNow, .int v_t_entered, .ref a_t_had, .int v_t_badAct, .int v_t_badWhy, .int v_t_firstAct, .int v_t_firstHouse, .ref a_t_dues, .ref a_t_groups, .ref a_t_ways, .ref a_t_fit, .int v_t_fitMany, .ref a_t_byMany, .ref a_t_kept, .ref a_t_isKept, .int v_t_keptAt, .int v_t_isWriting])), (a_t_ways, .inl (cI, 2048, .inl g_t_ways)), (a_t_relatives, .inl (cI, 8, .inl g_t_relatives))] := hw
    refine lv_if_ne (tgt := 81) hx hb dX10_leastOrder_36 (by decide) (fun c3 => ?_) (fun c3 => ?_)
    · refine lv_iconst (v := 0) hx hb dX10_leastOrder_81 (by decide) ?_
      refine lv_istore (lv' := [(7, .int 0), (0, .ref a_t), (1, .int x1), (2, .int x2), (3, .int x3), (4, .int x4), (5, .int x5), (6, .int (nI n))]) hx hb dX10_leastOrder_82 hl (by decide) rfl (fun ls hl => ?_)
      refine lv_iload hx hb dX10_leastOrder_84 (lv_at hl 0 rfl) ?_
      refine lv_if_eq (tgt := 94) hx hb dX10_leastOrder_86 (by decide) (fun _ => ?_) (fun c4 => absurd c4 (by decide))
      refine lv_iload hx hb dX10_leastOrder_94 (lv_at hl 6 rfl) ?_
      refine lv_istore (lv' := [(5, .int x5), (7, .int 0), (0, .ref a_t), (1, .int x1), (2, .int x2), (3, .int x3), (4, .int x4), (6, .int (nI n))]) hx hb dX10_leastOrder_96 hl (by decide) rfl (fun ls hl => ?_)
      refine lv_iinc (v := ((nI n) + (-1))) (lv' := [(6, .int ((nI n) + (-1))), (5, .int x5), (7, .int 0), (0, .ref a_t), (1, .int x1), (2, .int x2), (3, .int x3), (4, .int x4)]) hx hb dX10_leastOrder_98 hl (k := 7) rfl (rfl) (by decide) rfl (fun ls hl => ?_)
      refine lv_goto (tgt := 25) hx hb dX10_leastOrder_101 (by decide) ?_
      have hB : B_X10_leastOrder_25 x2 x3 g_t_ways g_t_relatives n x5 = x5 := by
        unfold B_X10_leastOrder_25
        exact (if_neg c3).trans (rfl)
      rw [itD_c hB] at kk
      have hok2 := itDA_c hB hok0
      exact ih x5 (by omega) hok2 _ _ hw _ (lv_sub hl [3, 4, 5, 6, 7, 1, 0] rfl) kk
    · replace hok := Eq.mp (if_pos c3) hok
      refine lv_iload_n hx hb dX10_leastOrder_39 rfl (lv_at hl 3 rfl) ?_
      refine lv_if_lt (tgt := 57) hx hb dX10_leastOrder_40 (by decide) (fun c5 => ?_) (fun c5 => ?_)
      · replace hok := Eq.mp (if_pos c5) hok
        refine lv_aload_n hx hb dX10_leastOrder_57 rfl (lv_at hl 0 rfl) ?_
        refine k_get C hw (CC := RX10) (T := TX10) (N := 35) nX10_leastOrder_X10 0 rfl rfl 27 (by decide) (List.mem_of_getElem? (i := 2) rfl) rfl rfl dX10_leastOrder_58 ?_
        refine lv_bipush (v := 8) hx hb dX10_leastOrder_61 (by decide) ?_
        refine lv_iload_n hx hb dX10_leastOrder_63 rfl (lv_at hl 2 rfl) ?_
        refine lv_iconst (v := 1) hx hb dX10_leastOrder_64 (by decide) ?_
        refine lv_iload hx hb dX10_leastOrder_65 (lv_at hl 6 rfl) ?_
        refine lv_ishl hx hb dX10_leastOrder_67 ?_
        refine lv_ior hx hb dX10_leastOrder_68 ?_
        refine lv_imul hx hb dX10_leastOrder_69 ?_
        refine lv_iload hx hb dX10_leastOrder_70 (lv_at hl 6 rfl) ?_
        refine lv_iadd hx hb dX10_leastOrder_72 ?_
        obtain ⟨h6, hok⟩ := hok
        refine k_iald C hw 1 rfl h6 dX10_leastOrder_73 ?_
        refine lv_if_le (tgt := 81) hx hb dX10_leastOrder_74 (by decide) (fun c7 => ?_) (fun c7 => ?_)
        · refine lv_iconst (v := 0) hx hb dX10_leastOrder_81 (by decide) ?_
          refine lv_istore (lv' := [(7, .int 0), (0, .ref a_t), (1, .int x1), (2, .int x2), (3, .int x3), (4, .int x4), (5, .int x5), (6, .int (nI n))]) hx hb dX10_leastOrder_82 hl (by decide) rfl (fun ls hl => ?_)
          refine lv_iload hx hb dX10_leastOrder_84 (lv_at hl 0 rfl) ?_
          refine lv_if_eq (tgt := 94) hx hb dX10_leastOrder_86 (by decide) (fun _ => ?_) (fun c8 => absurd c8 (by decide))
          refine lv_iload hx hb dX10_leastOrder_94 (lv_at hl 6 rfl) ?_
          refine lv_istore (lv' := [(5, .int x5), (7, .int 0), (0, .ref a_t), (1, .int x1), (2, .int x2), (3, .int x3), (4, .int x4), (6, .int (nI n))]) hx hb dX10_leastOrder_96 hl (by decide) rfl (fun ls hl => ?_)
          refine lv_iinc (v := ((nI n) + (-1))) (lv' := [(6, .int ((nI n) + (-1))), (5, .int x5), (7, .int 0), (0, .ref a_t), (1, .int x1), (2, .int x2), (3, .int x3), (4, .int x4)]) hx hb dX10_leastOrder_98 hl (k := 7) rfl (rfl) (by decide) rfl (fun ls hl => ?_)
          refine lv_goto (tgt := 25) hx hb dX10_leastOrder_101 (by decide) ?_
          have hB : B_X10_leastOrder_25 x2 x3 g_t_ways g_t_relatives n x5 = x5 := by
            unfold B_X10_leastOrder_25
            exact (if_pos c3).trans ((if_pos c5).trans ((if_pos c7).trans (rfl)))
          rw [itD_c hB] at kk
          have hok2 := itDA_c hB hok0
          exact ih x5 (by omega) hok2 _ _ hw _ (lv_sub hl [3, 4, 5, 6, 7, 1, 0] rfl) kk
        · refine lv_iconst (v := 1) hx hb dX10_leastOrder_77 (by decide) ?_
          refine lv_goto (tgt := 82) hx hb dX10_leastOrder_78 (by decide) ?_
          refine lv_istore (lv' := [(7, .int 1), (0, .ref a_t), (1, .int x1), (2, .int x2), (3, .int x3), (4, .int x4), (5, .int x5), (6, .int (nI n))]) hx hb dX10_leastOrder_82 hl (by decide) rfl (fun ls hl => ?_)
          refine lv_iload hx hb dX10_leastOrder_84 (lv_at hl 0 rfl) ?_
          refine lv_if_eq (tgt := 94) hx hb dX10_leastOrder_86 (by decide) (fun c9 => absurd c9 (by decide)) (fun _ => ?_)
          refine lv_iload hx hb dX10_leastOrder_89 (lv_at hl 7 rfl) ?_
          refine lv_goto (tgt := 96) hx hb dX10_leastOrder_91 (by decide) ?_
          refine lv_istore (lv' := [(5, .int (nI n)), (7, .int 1), (0, .ref a_t), (1, .int x1), (2, .int x2), (3, .int x3), (4, .int x4), (6, .int (nI n))]) hx hb dX10_leastOrder_96 hl (by decide) rfl (fun ls hl => ?_)
          refine lv_iinc (v := ((nI n) + (-1))) (lv' := [(6, .int ((nI n) + (-1))), (5, .int (nI n)), (7, .int 1), (0, .ref a_t), (1, .int x1), (2, .int x2), (3, .int x3), (4, .int x4)]) hx hb dX10_leastOrder_98 hl (k := 7) rfl (rfl) (by decide) rfl (fun ls hl => ?_)
          refine lv_goto (tgt := 25) hx hb dX10_leastOrder_101 (by decide) ?_
          have hB : B_X10_leastOrder_25 x2 x3 g_t_ways g_t_relatives n x5 = (nI n) := by
            unfold B_X10_leastOrder_25
            exact (if_pos c3).trans ((if_pos c5).trans ((if_neg c7).trans (rfl)))
          rw [itD_c hB] at kk
          have hok2 := itDA_c hB hok0
          exact ih (nI n) (by omega) hok2 _ _ hw _ (lv_sub hl [3, 4, 5, 6, 7, 1, 0] rfl) kk
      · replace hok := Eq.mp (if_neg c5) hok
        refine lv_aload_n hx hb dX10_leastOrder_43 rfl (lv_at hl 0 rfl) ?_
        refine k_get C hw (CC := RX10) (T := TX10) (N := 35) nX10_leastOrder_X10 0 rfl rfl 3 (by decide) (List.mem_of_getElem? (i := 1) rfl) rfl rfl dX10_leastOrder_44 ?_
        refine lv_iload_n hx hb dX10_leastOrder_47 rfl (lv_at hl 3 rfl) ?_
        obtain ⟨h10, hok⟩ := hok
        refine k_iald C hw 2 rfl h10 dX10_leastOrder_48 ?_
        refine lv_iload hx hb dX10_leastOrder_49 (lv_at hl 6 rfl) ?_
        refine k_callS (As := [.int (g_t_relatives x3.toNatClampNeg), .int (nI n)]) (rest := []) (n := 2) C hw (T_X10_has l D cI cZ (g_t_relatives x3.toNatClampNeg) (nI n)) gX10_leastOrder_X10_has rfl ⟨rfl, rfl⟩ (by decide +kernel) ⟨Nat.le_of_ble_eq_true rfl, Nat.le_of_ble_eq_true rfl⟩ [] rfl rfl [] rfl rfl rfl hl.1 rfl (Nat.le_of_ble_eq_true rfl) ⟨Nat.zero_le _, Nat.zero_le _⟩ dX10_leastOrder_51 (fun H locs hw => ?_)
        refine W.eq (g2 := F0 m 54 ls [.int (f_X10_has (g_t_relatives x3.toNatClampNeg) (nI n))]) rfl ?_
        replace hw : kW D _ s H locs [(a_t, .inr (10, [.ref a_t_wealth, .ref a_t_given, .ref a_t_chart, .ref a_t_relatives, .int v_t_inside, .int v_t_next, .int v_t_years, .ref a_t_sightSet, .ref a_t_sightMany, .int v_t_sights, .ref a_t_digits, .ref a_t_pad, .int v_t_padMany, .ref a_t_act, .ref a_t_who, .ref a_t_whom, .ref a_t_much, .int v_t_acts, .int v_t_givenNow, .int v_t_entered, .ref a_t_had, .int v_t_badAct, .int v_t_badWhy, .int v_t_firstAct, .int v_t_firstHouse, .ref a_t_dues, .ref a_t_groups, .ref a_t_ways, .ref a_t_fit, .int v_t_fitMany, .ref a_t_byMany, .ref a_t_kept, .ref a_t_isKept, .int v_t_keptAt, .int v_t_isWriting])), (a_t_ways, .inl (cI, 2048, .inl g_t_ways)), (a_t_relatives, .inl (cI, 8, .inl g_t_relatives))] := hw
        refine lv_if_ne (tgt := 81) hx hb dX10_leastOrder_54 (by decide) (fun c11 => ?_) (fun c11 => ?_)
        · refine lv_iconst (v := 0) hx hb dX10_leastOrder_81 (by decide) ?_
          refine lv_istore (lv' := [(7, .int 0), (0, .ref a_t), (1, .int x1), (2, .int x2), (3, .int x3), (4, .int x4), (5, .int x5), (6, .int (nI n))]) hx hb dX10_leastOrder_82 hl (by decide) rfl (fun ls hl => ?_)
          refine lv_iload hx hb dX10_leastOrder_84 (lv_at hl 0 rfl) ?_
          refine lv_if_eq (tgt := 94) hx hb dX10_leastOrder_86 (by decide) (fun _ => ?_) (fun c12 => absurd c12 (by decide))
          refine lv_iload hx hb dX10_leastOrder_94 (lv_at hl 6 rfl) ?_
          refine lv_istore (lv' := [(5, .int x5), (7, .int 0), (0, .ref a_t), (1, .int x1), (2, .int x2), (3, .int x3), (4, .int x4), (6, .int (nI n))]) hx hb dX10_leastOrder_96 hl (by decide) rfl (fun ls hl => ?_)
          refine lv_iinc (v := ((nI n) + (-1))) (lv' := [(6, .int ((nI n) + (-1))), (5, .int x5), (7, .int 0), (0, .ref a_t), (1, .int x1), (2, .int x2), (3, .int x3), (4, .int x4)]) hx hb dX10_leastOrder_98 hl (k := 7) rfl (rfl) (by decide) rfl (fun ls hl => ?_)
          refine lv_goto (tgt := 25) hx hb dX10_leastOrder_101 (by decide) ?_
          have hB : B_X10_leastOrder_25 x2 x3 g_t_ways g_t_relatives n x5 = x5 := by
            unfold B_X10_leastOrder_25
            exact (if_pos c3).trans ((if_neg c5).trans ((if_neg c11).trans (rfl)))
          rw [itD_c hB] at kk
          have hok2 := itDA_c hB hok0
          exact ih x5 (by omega) hok2 _ _ hw _ (lv_sub hl [3, 4, 5, 6, 7, 1, 0] rfl) kk
        · replace hok := Eq.mp (if_pos c11) hok
          refine lv_aload_n hx hb dX10_leastOrder_57 rfl (lv_at hl 0 rfl) ?_
          refine k_get C hw (CC := RX10) (T := TX10) (N := 35) nX10_leastOrder_X10 0 rfl rfl 27 (by decide) (List.mem_of_getElem? (i := 2) rfl) rfl rfl dX10_leastOrder_58 ?_
          refine lv_bipush (v := 8) hx hb dX10_leastOrder_61 (by decide) ?_
          refine lv_iload_n hx hb dX10_leastOrder_63 rfl (lv_at hl 2 rfl) ?_
          refine lv_iconst (v := 1) hx hb dX10_leastOrder_64 (by decide) ?_
          refine lv_iload hx hb dX10_leastOrder_65 (lv_at hl 6 rfl) ?_
          refine lv_ishl hx hb dX10_leastOrder_67 ?_
          refine lv_ior hx hb dX10_leastOrder_68 ?_
          refine lv_imul hx hb dX10_leastOrder_69 ?_
          refine lv_iload hx hb dX10_leastOrder_70 (lv_at hl 6 rfl) ?_
          refine lv_iadd hx hb dX10_leastOrder_72 ?_
          obtain ⟨h13, hok⟩ := hok
          refine k_iald C hw 1 rfl h13 dX10_leastOrder_73 ?_
          refine lv_if_le (tgt := 81) hx hb dX10_leastOrder_74 (by decide) (fun c14 => ?_) (fun c14 => ?_)
          · refine lv_iconst (v := 0) hx hb dX10_leastOrder_81 (by decide) ?_
            refine lv_istore (lv' := [(7, .int 0), (0, .ref a_t), (1, .int x1), (2, .int x2), (3, .int x3), (4, .int x4), (5, .int x5), (6, .int (nI n))]) hx hb dX10_leastOrder_82 hl (by decide) rfl (fun ls hl => ?_)
            refine lv_iload hx hb dX10_leastOrder_84 (lv_at hl 0 rfl) ?_
            refine lv_if_eq (tgt := 94) hx hb dX10_leastOrder_86 (by decide) (fun _ => ?_) (fun c15 => absurd c15 (by decide))
            refine lv_iload hx hb dX10_leastOrder_94 (lv_at hl 6 rfl) ?_
            refine lv_istore (lv' := [(5, .int x5), (7, .int 0), (0, .ref a_t), (1, .int x1), (2, .int x2), (3, .int x3), (4, .int x4), (6, .int (nI n))]) hx hb dX10_leastOrder_96 hl (by decide) rfl (fun ls hl => ?_)
            refine lv_iinc (v := ((nI n) + (-1))) (lv' := [(6, .int ((nI n) + (-1))), (5, .int x5), (7, .int 0), (0, .ref a_t), (1, .int x1), (2, .int x2), (3, .int x3), (4, .int x4)]) hx hb dX10_leastOrder_98 hl (k := 7) rfl (rfl) (by decide) rfl (fun ls hl => ?_)
            refine lv_goto (tgt := 25) hx hb dX10_leastOrder_101 (by decide) ?_
            have hB : B_X10_leastOrder_25 x2 x3 g_t_ways g_t_relatives n x5 = x5 := by
              unfold B_X10_leastOrder_25
              exact (if_pos c3).trans ((if_neg c5).trans ((if_pos c11).trans ((if_pos c14).trans (rfl))))
            rw [itD_c hB] at kk
            have hok2 := itDA_c hB hok0
            exact ih x5 (by omega) hok2 _ _ hw _ (lv_sub hl [3, 4, 5, 6, 7, 1, 0] rfl) kk
          · refine lv_iconst (v := 1) hx hb dX10_leastOrder_77 (by decide) ?_
            refine lv_goto (tgt := 82) hx hb dX10_leastOrder_78 (by decide) ?_
            refine lv_istore (lv' := [(7, .int 1), (0, .ref a_t), (1, .int x1), (2, .int x2), (3, .int x3), (4, .int x4), (5, .int x5), (6, .int (nI n))]) hx hb dX10_leastOrder_82 hl (by decide) rfl (fun ls hl => ?_)
            refine lv_iload hx hb dX10_leastOrder_84 (lv_at hl 0 rfl) ?_
            refine lv_if_eq (tgt := 94) hx hb dX10_leastOrder_86 (by decide) (fun c16 => absurd c16 (by decide)) (fun _ => ?_)
            refine lv_iload hx hb dX10_leastOrder_89 (lv_at hl 7 rfl) ?_
            refine lv_goto (tgt := 96) hx hb dX10_leastOrder_91 (by decide) ?_
            refine lv_istore (lv' := [(5, .int (nI n)), (7, .int 1), (0, .ref a_t), (1, .int x1), (2, .int x2), (3, .int x3), (4, .int x4), (6, .int (nI n))]) hx hb dX10_leastOrder_96 hl (by decide) rfl (fun ls hl => ?_)
            refine lv_iinc (v := ((nI n) + (-1))) (lv' := [(6, .int ((nI n) + (-1))), (5, .int (nI n)), (7, .int 1), (0, .ref a_t), (1, .int x1), (2, .int x2), (3, .int x3), (4, .int x4)]) hx hb dX10_leastOrder_98 hl (k := 7) rfl (rfl) (by decide) rfl (fun ls hl => ?_)
            refine lv_goto (tgt := 25) hx hb dX10_leastOrder_101 (by decide) ?_
            have hB : B_X10_leastOrder_25 x2 x3 g_t_ways g_t_relatives n x5 = (nI n) := by
              unfold B_X10_leastOrder_25
              exact (if_pos c3).trans ((if_neg c5).trans ((if_pos c11).trans ((if_neg c14).trans (rfl))))
            rw [itD_c hB] at kk
            have hok2 := itDA_c hB hok0
            exact ih (nI n) (by omega) hok2 _ _ hw _ (lv_sub hl [3, 4, 5, 6, 7, 1, 0] rfl) kk
def B_X10_leastOrder_10 (g_t_ways : (Nat → Int32)) (g_t_relatives : (Nat → Int32)) (j : Nat) (v : Int32 × Int32 × Int32) : Int32 × Int32 × Int32 := (lt (itD (B_X10_leastOrder_25 v.2.1 v.2.2 g_t_ways g_t_relatives) 8 ((-6) : Int32)) (fun z3 => (((10 * v.1) + z3), (v.2.1 ||| ((1 : Int32) <<< (z3 &&& 31))), z3)))
def oB_X10_leastOrder_10 (g_t_ways : (Nat → Int32)) (g_t_relatives : (Nat → Int32)) (j : Nat) (v : Int32 × Int32 × Int32) : Prop := ((itDA (oB_X10_leastOrder_25 v.2.1 v.2.2 g_t_relatives) (B_X10_leastOrder_25 v.2.1 v.2.2 g_t_ways g_t_relatives) 8 ((-6) : Int32)) ∧ True)
set_option maxHeartbeats 4000000 in
set_option maxRecDepth 100000 in
theorem l_X10_leastOrder_10 {p : Program} {l : Launch} {e : Env} {s : State} {m : MethodId} {args : Array Value} {below : List Frame} {meth : Method} {c : Code} {D : va_G} {cI cZ : ClassId} {Q : State → Prop} {A : Nat → Prop} (a_t a_t_wealth a_t_given a_t_chart a_t_relatives a_t_sightSet a_t_sightMany a_t_digits a_t_pad a_t_act a_t_who a_t_whom a_t_much a_t_had a_t_dues a_t_groups a_t_ways a_t_fit a_t_byMany a_t_kept a_t_isKept : Nat) (v_t_inside : Int32) (v_t_next : Int32) (v_t_years : Int32) (v_t_sights : Int32) (v_t_padMany : Int32) (v_t_acts : Int32) (v_t_givenNow : Int32) (v_t_entered : Int32) (v_t_badAct : Int32) (v_t_badWhy : Int32) (v_t_firstAct : Int32) (v_t_firstHouse : Int32) (v_t_fitMany : Int32) (v_t_keptAt : Int32) (v_t_isWriting : Int32) (g_t_ways : (Nat → Int32)) (g_t_relatives : (Nat → Int32)) (C : kC p s m args meth c cX10_leastOrder 8 wsX10_leastOrder RX10 D cI cZ A) : ∀ (n j : Nat) (x1 : Int32) (x2 : Int32) (x3 : Int32), n = 8 - j → j < 2147483648 → itA (oB_X10_leastOrder_10 g_t_ways g_t_relatives) (B_X10_leastOrder_10 g_t_ways g_t_relatives) j n (x1, x2, x3) → ∀ (H : Heap) (locs : List Loc), kW D A s H locs [(a_t, .inr (10, [.ref a_t_wealth, .ref a_t_given, .ref a_t_chart, .ref a_t_relatives, .int v_t_inside, .int v_t_next, .int v_t_years, .ref a_t_sightSet, .ref a_t_sightMany, .int v_t_sights, .ref a_t_digits, .ref a_t_pad, .int v_t_padMany, .ref a_t_act, .ref a_t_who, .ref a_t_whom, .ref a_t_much, .int v_t_acts, .int v_t_givenNow, .int v_t_entered, .ref a_t_had, .int v_t_badAct, .int v_t_badWhy, .int v_t_firstAct, .int v_t_firstHouse, .ref a_t_dues, .ref a_t_groups, .ref a_t_ways, .ref a_t_fit, .int v_t_fitMany, .ref a_t_byMany, .ref a_t_kept, .ref a_t_isKept, .int v_t_keptAt, .int v_t_isWriting])), (a_t_ways, .inl (cI, 2048, .inl g_t_ways)), (a_t_relatives, .inl (cI, 8, .inl g_t_relatives))] → ∀ (ls : Array Slot), lv_has ls 8 [(0, .ref a_t), (1, .int x1), (2, .int x2), (3, .int x3), (4, .int (nI j))] → (∀ (H : Heap) (locs : List Loc) (ls : Array Slot), kW D A s H locs [(a_t, .inr (10, [.ref a_t_wealth, .ref a_t_given, .ref a_t_chart, .ref a_t_relatives, .int v_t_inside, .int v_t_next, .int v_t_years, .ref a_t_sightSet, .ref a_t_sightMany, .int v_t_sights, .ref a_t_digits, .ref a_t_pad, .int v_t_padMany, .ref a_t_act, .ref a_t_who, .ref a_t_whom, .ref a_t_much, .int v_t_acts, .int v_t_givenNow, .int v_t_entered, .ref a_t_had, .int v_t_badAct, .int v_t_badWhy, .int v_t_firstAct, .int v_t_firstHouse, .ref a_t_dues, .ref a_t_groups, .ref a_t_ways, .ref a_t_fit, .int v_t_fitMany, .ref a_t_byMany, .ref a_t_kept, .ref a_t_isKept, .int v_t_keptAt, .int v_t_isWriting])), (a_t_ways, .inl (cI, 2048, .inl g_t_ways)), (a_t_relatives, .inl (cI, 8, .inl g_t_relatives))] → lv_has ls 8 [(1, .int (it (B_X10_leastOrder_10 g_t_ways g_t_relatives) j n (x1, x2, x3)).1)] → W p l e ({ frames := 1, cells := 0, slots := 0, locals := 21 }) s m args below meth c H locs 0 0 Q (F0 m 128 ls [])) → W p l e ({ frames := 1, cells := 0, slots := 0, locals := 21 }) s m args below meth c H locs 0 0 Q (F0 m 10 ls []) := by
  have hx := C.hx
  have hb := C.hb
  intro n
  induction n with
  | zero =>
    intro j x1 x2 x3 hn hj hok0 H locs hw ls hl kk
    refine lv_iload hx hb dX10_leastOrder_10 (lv_at hl 4 rfl) ?_
    refine lv_bipush (v := 8) hx hb dX10_leastOrder_12 (by decide) ?_
    refine lv_icmp_ge (tgt := 128) hx hb dX10_leastOrder_14 (by decide) (fun c5 => ?_) (fun c5 => by exact absurd (nI_le (a := 8) (b := j) (by omega) (by omega)) c5)
    exact kk _ _ _ hw (lv_sub hl [1] rfl)
  | succ n ih =>
    intro j x1 x2 x3 hn hj hok0 H locs hw ls hl kk
    have hok := hok0.1
    refine lv_iload hx hb dX10_leastOrder_10 (lv_at hl 4 rfl) ?_
    refine lv_bipush (v := 8) hx hb dX10_leastOrder_12 (by decide) ?_
    refine lv_icmp_ge (tgt := 128) hx hb dX10_leastOrder_14 (by decide) (fun c1 => by exact absurd c1 (nI_ge (a := j) (b := 8) (by omega) (by omega))) (fun c1 => ?_)
    refine lv_bipush (v := (-6)) hx hb dX10_leastOrder_17 (by decide) ?_
    refine lv_istore (lv' := [(5, .int (-6)), (0, .ref a_t), (1, .int x1), (2, .int x2), (3, .int x3), (4, .int (nI j))]) hx hb dX10_leastOrder_19 hl (by decide) rfl (fun ls hl => ?_)
    refine lv_bipush (v := 7) hx hb dX10_leastOrder_21 (by decide) ?_
    refine lv_istore (lv' := [(6, .int 7), (5, .int (-6)), (0, .ref a_t), (1, .int x1), (2, .int x2), (3, .int x3), (4, .int (nI j))]) hx hb dX10_leastOrder_23 hl (by decide) rfl (fun ls hl => ?_)
    obtain ⟨h2, hok⟩ := hok
    have hl2 : lv_has ls 8 [(0, .ref a_t), (1, .int x1), (2, .int x2), (3, .int x3), (4, .int (nI j)), (5, .int (-6)), (6, .int (nI 8 + (-1)))] := by
      exact (lv_sub hl [2, 3, 4, 5, 6, 1, 0] rfl)
    refine l_X10_leastOrder_25 a_t a_t_wealth a_t_given a_t_chart a_t_relatives a_t_sightSet a_t_sightMany a_t_digits a_t_pad a_t_act a_t_who a_t_whom a_t_much a_t_had a_t_dues a_t_groups a_t_ways a_t_fit a_t_byMany a_t_kept a_t_isKept x1 x2 x3 (nI j) v_t_inside v_t_next v_t_years v_t_sights v_t_padMany v_t_acts v_t_givenNow v_t_entered v_t_badAct v_t_badWhy v_t_firstAct v_t_firstHouse v_t_fitMany v_t_keptAt v_t_isWriting g_t_ways g_t_relatives C 8 ((-6) : Int32) (by decide) h2 _ _ hw _ hl2 (fun H locs ls hw hl => ?_)
    obtain ⟨z3, h4⟩ : ∃ z, (itD (B_X10_leastOrder_25 x2 x3 g_t_ways g_t_relatives) 8 ((-6) : Int32)) = z := ⟨_, rfl⟩
    replace hw := kW_cast (ws' := [(a_t, .inr (10, [.ref a_t_wealth, .ref a_t_given, .ref a_t_chart, .ref a_t_relatives, .int v_t_inside, .int v_t_next, .int v_t_years, .ref a_t_sightSet, .ref a_t_sightMany, .int v_t_sights, .ref a_t_digits, .ref a_t_pad, .int v_t_padMany, .ref a_t_act, .ref a_t_who, .ref a_t_whom, .ref a_t_much, .int v_t_acts, .int v_t_givenNow, .int v_t_entered, .ref a_t_had, .int v_t_badAct, .int v_t_badWhy, .int v_t_firstAct, .int v_t_firstHouse, .ref a_t_dues, .ref a_t_groups, .ref a_t_ways, .ref a_t_fit, .int v_t_fitMany, .ref a_t_byMany, .ref a_t_kept, .ref a_t_isKept, .int v_t_keptAt, .int v_t_isWriting])), (a_t_ways, .inl (cI, 2048, .inl g_t_ways)), (a_t_relatives, .inl (cI, 8, .inl g_t_relatives))]) (by subst h4; rfl) hw
    replace hl : lv_has ls 8 [(0, .ref a_t), (1, .int x1), (2, .int x2), (4, .int (nI j)), (5, .int z3)] := by subst h4; exact hl
    refine lv_bipush (v := 10) hx hb dX10_leastOrder_104 (by decide) ?_
    refine lv_iload_n hx hb dX10_leastOrder_106 rfl (lv_at hl 1 rfl) ?_
    refine lv_imul hx hb dX10_leastOrder_107 ?_
    refine lv_iload hx hb dX10_leastOrder_108 (lv_at hl 4 rfl) ?_
    refine lv_iadd hx hb dX10_leastOrder_110 ?_
    refine lv_istore_n (lv' := [(1, .int ((10 * x1) + z3)), (0, .ref a_t), (2, .int x2), (4, .int (nI j)), (5, .int z3)]) hx hb dX10_leastOrder_111 rfl hl (by decide) rfl (fun ls hl => ?_)
    refine lv_iload_n hx hb dX10_leastOrder_112 rfl (lv_at hl 2 rfl) ?_
    refine lv_iconst (v := 1) hx hb dX10_leastOrder_113 (by decide) ?_
    refine lv_iload hx hb dX10_leastOrder_114 (lv_at hl 4 rfl) ?_
    refine lv_ishl hx hb dX10_leastOrder_116 ?_
    refine lv_ior hx hb dX10_leastOrder_117 ?_
    refine lv_istore_n (lv' := [(2, .int (x2 ||| ((1 : Int32) <<< (z3 &&& 31)))), (1, .int ((10 * x1) + z3)), (0, .ref a_t), (4, .int (nI j)), (5, .int z3)]) hx hb dX10_leastOrder_118 rfl hl (by decide) rfl (fun ls hl => ?_)
    refine lv_iload hx hb dX10_leastOrder_119 (lv_at hl 4 rfl) ?_
    refine lv_istore_n (lv' := [(3, .int z3), (2, .int (x2 ||| ((1 : Int32) <<< (z3 &&& 31)))), (1, .int ((10 * x1) + z3)), (0, .ref a_t), (4, .int (nI j)), (5, .int z3)]) hx hb dX10_leastOrder_121 rfl hl (by decide) rfl (fun ls hl => ?_)
    refine lv_iinc (v := (nI (j + 1))) (lv' := [(4, .int (nI (j + 1))), (3, .int z3), (2, .int (x2 ||| ((1 : Int32) <<< (z3 &&& 31)))), (1, .int ((10 * x1) + z3)), (0, .ref a_t), (5, .int z3)]) hx hb dX10_leastOrder_122 hl (k := 4) rfl (nI_1 _) (by decide) rfl (fun ls hl => ?_)
    refine lv_goto (tgt := 10) hx hb dX10_leastOrder_125 (by decide) ?_
    have hB : B_X10_leastOrder_10 g_t_ways g_t_relatives j (x1, x2, x3) = (((10 * x1) + z3), (x2 ||| ((1 : Int32) <<< (z3 &&& 31))), z3) := by
      unfold B_X10_leastOrder_10
      exact (lt_c h4).trans (rfl)
    rw [it_c hB] at kk
    have hok2 := itA_c hB hok0
    exact ih (j + 1) ((10 * x1) + z3) (x2 ||| ((1 : Int32) <<< (z3 &&& 31))) z3 (by omega) (by omega) hok2 _ _ hw _ (lv_sub hl [4, 3, 2, 1, 0] rfl) kk
def f_X10_leastOrder (g_t_ways : (Nat → Int32)) (g_t_relatives : (Nat → Int32)) : Int32 := (lt (it (B_X10_leastOrder_10 g_t_ways g_t_relatives) 0 8 ((0 : Int32), (0 : Int32), ((-6) : Int32))) (fun z7 => z7.1))
def o_X10_leastOrder (g_t_ways : (Nat → Int32)) (g_t_relatives : (Nat → Int32)) : Prop := ((itA (oB_X10_leastOrder_10 g_t_ways g_t_relatives) (B_X10_leastOrder_10 g_t_ways g_t_relatives) 0 8 ((0 : Int32), (0 : Int32), ((-6) : Int32))) ∧ True)
set_option maxHeartbeats 4000000 in
set_option maxRecDepth 100000 in
theorem T_X10_leastOrder (l : Launch) (D : va_G) (cI cZ : ClassId) (a_t a_t_wealth a_t_given a_t_chart a_t_relatives a_t_sightSet a_t_sightMany a_t_digits a_t_pad a_t_act a_t_who a_t_whom a_t_much a_t_had a_t_dues a_t_groups a_t_ways a_t_fit a_t_byMany a_t_kept a_t_isKept : Nat) (v_t_inside : Int32) (v_t_next : Int32) (v_t_years : Int32) (v_t_sights : Int32) (v_t_padMany : Int32) (v_t_acts : Int32) (v_t_givenNow : Int32) (v_t_entered : Int32) (v_t_badAct : Int32) (v_t_badWhy : Int32) (v_t_firstAct : Int32) (v_t_firstHouse : Int32) (v_t_fitMany : Int32) (v_t_keptAt : Int32) (v_t_isWriting : Int32) (g_t_ways : (Nat → Int32)) (g_t_relatives : (Nat → Int32)) (hok : o_X10_leastOrder g_t_ways g_t_relatives) : CT l D cI cZ yX10_leastOrder wsX10_leastOrder ({ frames := 1, cells := 0, slots := 0, locals := 21 }) [.ref a_t] [(a_t, .inr (10, [.ref a_t_wealth, .ref a_t_given, .ref a_t_chart, .ref a_t_relatives, .int v_t_inside, .int v_t_next, .int v_t_years, .ref a_t_sightSet, .ref a_t_sightMany, .int v_t_sights, .ref a_t_digits, .ref a_t_pad, .int v_t_padMany, .ref a_t_act, .ref a_t_who, .ref a_t_whom, .ref a_t_much, .int v_t_acts, .int v_t_givenNow, .int v_t_entered, .ref a_t_had, .int v_t_badAct, .int v_t_badWhy, .int v_t_firstAct, .int v_t_firstHouse, .ref a_t_dues, .ref a_t_groups, .ref a_t_ways, .ref a_t_fit, .int v_t_fitMany, .ref a_t_byMany, .ref a_t_kept, .ref a_t_isKept, .int v_t_keptAt, .int v_t_isWriting])), (a_t_ways, .inl (cI, 2048, .inl g_t_ways)), (a_t_relatives, .inl (cI, 8, .inl g_t_relatives))] (some (.int (f_X10_leastOrder g_t_ways g_t_relatives))) [(a_t, .inr (10, [.ref a_t_wealth, .ref a_t_given, .ref a_t_chart, .ref a_t_relatives, .int v_t_inside, .int v_t_next, .int v_t_years, .ref a_t_sightSet, .ref a_t_sightMany, .int v_t_sights, .ref a_t_digits, .ref a_t_pad, .int v_t_padMany, .ref a_t_act, .ref a_t_who, .ref a_t_whom, .ref a_t_much, .int v_t_acts, .int v_t_givenNow, .int v_t_entered, .ref a_t_had, .int v_t_badAct, .int v_t_badWhy, .int v_t_firstAct, .int v_t_firstHouse, .ref a_t_dues, .ref a_t_groups, .ref a_t_ways, .ref a_t_fit, .int v_t_fitMany, .ref a_t_byMany, .ref a_t_kept, .ref a_t_isKept, .int v_t_keptAt, .int v_t_isWriting])), (a_t_ways, .inl (cI, 2048, .inl g_t_ways)), (a_t_relatives, .inl (cI, 8, .inl g_t_relatives))] := by
  refine CT.intro RX10 (by decide) rfl (Nat.le_of_ble_eq_true rfl) rfl ?_
  intro p e s m below meth c C hr hw ls hl
  have hx := C.hx
  have hb := C.hb
  replace hl : lv_has ls 8 [(0, .ref a_t)] := hl
  refine lv_iconst (v := 0) hx hb dX10_leastOrder_0 (by decide) ?_
  refine lv_istore_n (lv' := [(1, .int 0), (0, .ref a_t)]) hx hb dX10_leastOrder_1 rfl hl (by decide) rfl (fun ls hl => ?_)
  refine lv_iconst (v := 0) hx hb dX10_leastOrder_2 (by decide) ?_
  refine lv_istore_n (lv' := [(2, .int 0), (1, .int 0), (0, .ref a_t)]) hx hb dX10_leastOrder_3 rfl hl (by decide) rfl (fun ls hl => ?_)
  refine lv_bipush (v := (-6)) hx hb dX10_leastOrder_4 (by decide) ?_
  refine lv_istore_n (lv' := [(3, .int (-6)), (2, .int 0), (1, .int 0), (0, .ref a_t)]) hx hb dX10_leastOrder_6 rfl hl (by decide) rfl (fun ls hl => ?_)
  refine lv_iconst (v := 0) hx hb dX10_leastOrder_7 (by decide) ?_
  refine lv_istore (lv' := [(4, .int 0), (3, .int (-6)), (2, .int 0), (1, .int 0), (0, .ref a_t)]) hx hb dX10_leastOrder_8 hl (by decide) rfl (fun ls hl => ?_)
  obtain ⟨h6, hok⟩ := hok
  refine l_X10_leastOrder_10 a_t a_t_wealth a_t_given a_t_chart a_t_relatives a_t_sightSet a_t_sightMany a_t_digits a_t_pad a_t_act a_t_who a_t_whom a_t_much a_t_had a_t_dues a_t_groups a_t_ways a_t_fit a_t_byMany a_t_kept a_t_isKept v_t_inside v_t_next v_t_years v_t_sights v_t_padMany v_t_acts v_t_givenNow v_t_entered v_t_badAct v_t_badWhy v_t_firstAct v_t_firstHouse v_t_fitMany v_t_keptAt v_t_isWriting g_t_ways g_t_relatives C 8 0 (0 : Int32) (0 : Int32) ((-6) : Int32) (by decide) (by decide) h6 _ _ hw _ (lv_sub hl [4, 3, 2, 1, 0] rfl) (fun H locs ls hw hl => ?_)
  obtain ⟨z7, h8⟩ : ∃ z, (it (B_X10_leastOrder_10 g_t_ways g_t_relatives) 0 8 ((0 : Int32), (0 : Int32), ((-6) : Int32))) = z := ⟨_, rfl⟩
  replace hw := kW_cast (ws' := [(a_t, .inr (10, [.ref a_t_wealth, .ref a_t_given, .ref a_t_chart, .ref a_t_relatives, .int v_t_inside, .int v_t_next, .int v_t_years, .ref a_t_sightSet, .ref a_t_sightMany, .int v_t_sights, .ref a_t_digits, .ref a_t_pad, .int v_t_padMany, .ref a_t_act, .ref a_t_who, .ref a_t_whom, .ref a_t_much, .int v_t_acts, .int v_t_givenNow, .int v_t_entered, .ref a_t_had, .int v_t_badAct, .int v_t_badWhy, .int v_t_firstAct, .int v_t_firstHouse, .ref a_t_dues, .ref a_t_groups, .ref a_t_ways, .ref a_t_fit, .int v_t_fitMany, .ref a_t_byMany, .ref a_t_kept, .ref a_t_isKept, .int v_t_keptAt, .int v_t_isWriting])), (a_t_ways, .inl (cI, 2048, .inl g_t_ways)), (a_t_relatives, .inl (cI, 8, .inl g_t_relatives))]) (by subst h8; rfl) hw
  replace hl : lv_has ls 8 [(1, .int z7.1)] := by subst h8; exact hl
  refine lv_iload_n hx hb dX10_leastOrder_128 rfl (lv_at hl 0 rfl) ?_
  rw [show f_X10_leastOrder g_t_ways g_t_relatives = z7.1 from by
      unfold f_X10_leastOrder
      exact (lt_c h8).trans (rfl)]
  exact k_iret C hr hw dX10_leastOrder_129

theorem nX10_orders_X10 : ∀ w ∈ wsX100, w ∈ wsX10_orders := fun _ h => List.mem_cons_of_mem _ (List.mem_append_right _ h)
def B_X10_orders_23 (x2 : Int32) (g_t_relatives : (Nat → Int32)) (j : Nat) (v : (Nat → Int32)) : (Nat → Int32) := (if (f_X10_has x2 (nI j)) = 0 then (upd v ((8 * x2) + (nI j)).toNatClampNeg 0) else (upd v ((8 * x2) + (nI j)).toNatClampNeg (f_X10_waysOn g_t_relatives v x2 (nI j))))
def oB_X10_orders_23 (x2 : Int32) (g_t_relatives : (Nat → Int32)) (j : Nat) (v : (Nat → Int32)) : Prop := (if (f_X10_has x2 (nI j)) = 0 then ((vp_in ((8 * x2) + (nI j)) 2048) ∧ True) else ((o_X10_waysOn g_t_relatives v x2 (nI j)) ∧ ((vp_in ((8 * x2) + (nI j)) 2048) ∧ True)))
set_option maxHeartbeats 4000000 in
set_option maxRecDepth 100000 in
theorem l_X10_orders_23 {p : Program} {l : Launch} {e : Env} {s : State} {m : MethodId} {args : Array Value} {below : List Frame} {meth : Method} {c : Code} {D : va_G} {cI cZ : ClassId} {Q : State → Prop} {A : Nat → Prop} (a_t a_t_wealth a_t_given a_t_chart a_t_relatives a_t_sightSet a_t_sightMany a_t_digits a_t_pad a_t_act a_t_who a_t_whom a_t_much a_t_had a_t_dues a_t_groups a_t_ways a_t_fit a_t_byMany a_t_kept a_t_isKept : Nat) (x1 : Int32) (x2 : Int32) (v_t_inside : Int32) (v_t_next : Int32) (v_t_years : Int32) (v_t_sights : Int32) (v_t_padMany : Int32) (v_t_acts : Int32) (v_t_givenNow : Int32) (v_t_entered : Int32) (v_t_badAct : Int32) (v_t_badWhy : Int32) (v_t_firstAct : Int32) (v_t_firstHouse : Int32) (v_t_fitMany : Int32) (v_t_keptAt : Int32) (v_t_isWriting : Int32) (g_t_relatives : (Nat → Int32)) (C : kC p s m args meth c cX10_orders 4 wsX10_orders RX10 D cI cZ A) : ∀ (n j : Nat) (g_t_ways : (Nat → Int32)), n = 8 - j → j < 2147483648 → itA (oB_X10_orders_23 x2 g_t_relatives) (B_X10_orders_23 x2 g_t_relatives) j n g_t_ways → ∀ (H : Heap) (locs : List Loc), kW D A s H locs [(a_t, .inr (10, [.ref a_t_wealth, .ref a_t_given, .ref a_t_chart, .ref a_t_relatives, .int v_t_inside, .int v_t_next, .int v_t_years, .ref a_t_sightSet, .ref a_t_sightMany, .int v_t_sights, .ref a_t_digits, .ref a_t_pad, .int v_t_padMany, .ref a_t_act, .ref a_t_who, .ref a_t_whom, .ref a_t_much, .int v_t_acts, .int v_t_givenNow, .int v_t_entered, .ref a_t_had, .int v_t_badAct, .int v_t_badWhy, .int v_t_firstAct, .int v_t_firstHouse, .ref a_t_dues, .ref a_t_groups, .ref a_t_ways, .ref a_t_fit, .int v_t_fitMany, .ref a_t_byMany, .ref a_t_kept, .ref a_t_isKept, .int v_t_keptAt, .int v_t_isWriting])), (a_t_ways, .inl (cI, 2048, .inl g_t_ways)), (a_t_relatives, .inl (cI, 8, .inl g_t_relatives))] → ∀ (ls : Array Slot), lv_has ls 4 [(0, .ref a_t), (1, .int x1), (2, .int x2), (3, .int (nI j))] → (∀ (H : Heap) (locs : List Loc) (ls : Array Slot), kW D A s H locs [(a_t, .inr (10, [.ref a_t_wealth, .ref a_t_given, .ref a_t_chart, .ref a_t_relatives, .int v_t_inside, .int v_t_next, .int v_t_years, .ref a_t_sightSet, .ref a_t_sightMany, .int v_t_sights, .ref a_t_digits, .ref a_t_pad, .int v_t_padMany, .ref a_t_act, .ref a_t_who, .ref a_t_whom, .ref a_t_much, .int v_t_acts, .int v_t_givenNow, .int v_t_entered, .ref a_t_had, .int v_t_badAct, .int v_t_badWhy, .int v_t_firstAct, .int v_t_firstHouse, .ref a_t_dues, .ref a_t_groups, .ref a_t_ways, .ref a_t_fit, .int v_t_fitMany, .ref a_t_byMany, .ref a_t_kept, .ref a_t_isKept, .int v_t_keptAt, .int v_t_isWriting])), (a_t_ways, .inl (cI, 2048, .inl (it (B_X10_orders_23 x2 g_t_relatives) j n g_t_ways))), (a_t_relatives, .inl (cI, 8, .inl g_t_relatives))] → lv_has ls 4 [(0, .ref a_t), (1, .int x1), (2, .int x2)] → W p l e ({ frames := 2, cells := 0, slots := 0, locals := 48 }) s m args below meth c H locs 0 0 Q (F0 m 64 ls [])) → W p l e ({ frames := 2, cells := 0, slots := 0, locals := 48 }) s m args below meth c H locs 0 0 Q (F0 m 23 ls []) := by
  have hx := C.hx
  have hb := C.hb
  intro n
  induction n with
  | zero =>
    intro j g_t_ways hn hj hok0 H locs hw ls hl kk
    refine lv_iload_n hx hb dX10_orders_23 rfl (lv_at hl 3 rfl) ?_
    refine lv_bipush (v := 8) hx hb dX10_orders_24 (by decide) ?_
    refine lv_icmp_ge (tgt := 64) hx hb dX10_orders_26 (by decide) (fun c8 => ?_) (fun c8 => by exact absurd (nI_le (a := 8) (b := j) (by omega) (by omega)) c8)
    exact kk _ _ _ hw (lv_sub hl [0, 1, 2] rfl)
  | succ n ih =>
    intro j g_t_ways hn hj hok0 H locs hw ls hl kk
    have hok := hok0.1
    refine lv_iload_n hx hb dX10_orders_23 rfl (lv_at hl 3 rfl) ?_
    refine lv_bipush (v := 8) hx hb dX10_orders_24 (by decide) ?_
    refine lv_icmp_ge (tgt := 64) hx hb dX10_orders_26 (by decide) (fun c3 => by exact absurd c3 (nI_ge (a := j) (b := 8) (by omega) (by omega))) (fun c3 => ?_)
    refine lv_aload_n hx hb dX10_orders_29 rfl (lv_at hl 0 rfl) ?_
    refine k_get C hw (CC := RX10) (T := TX10) (N := 35) nX10_orders_X10 0 rfl rfl 27 (by decide) (List.mem_of_getElem? (i := 1) rfl) rfl rfl dX10_orders_30 ?_
    refine lv_bipush (v := 8) hx hb dX10_orders_33 (by decide) ?_
    refine lv_iload_n hx hb dX10_orders_35 rfl (lv_at hl 2 rfl) ?_
    refine lv_imul hx hb dX10_orders_36 ?_
    refine lv_iload_n hx hb dX10_orders_37 rfl (lv_at hl 3 rfl) ?_
    refine lv_iadd hx hb dX10_orders_38 ?_
    refine lv_iload_n hx hb dX10_orders_39 rfl (lv_at hl 2 rfl) ?_
    refine lv_iload_n hx hb dX10_orders_40 rfl (lv_at hl 3 rfl) ?_
    refine k_callS (As := [.int x2, .int (nI j)]) (rest := [.int ((8 * x2) + (nI j)), .ref a_t_ways]) (n := 2) C hw (T_X10_has l D cI cZ x2 (nI j)) gX10_orders_X10_has rfl ⟨rfl, rfl⟩ (by decide +kernel) ⟨Nat.le_of_ble_eq_true rfl, Nat.le_of_ble_eq_true rfl⟩ [] rfl rfl [] rfl rfl rfl hl.1 rfl (Nat.le_of_ble_eq_true rfl) ⟨Nat.zero_le _, Nat.zero_le _⟩ dX10_orders_41 (fun H locs hw => ?_)
    refine W.eq (g2 := F0 m 44 ls [.int (f_X10_has x2 (nI j)), .int ((8 * x2) + (nI j)), .ref a_t_ways]) rfl ?_
    replace hw : kW D _ s H locs [(a_t, .inr (10, [.ref a_t_wealth, .ref a_t_given, .ref a_t_chart, .ref a_t_relatives, .int v_t_inside, .int v_t_next, .int v_t_years, .ref a_t_sightSet, .ref a_t_sightMany, .int v_t_sights, .ref a_t_digits, .ref a_t_pad, .int v_t_padMany, .ref a_t_act, .ref a_t_who, .ref a_t_whom, .ref a_t_much, .int v_t_acts, .int v_t_givenNow, .int v_t_entered, .ref a_t_had, .int v_t_badAct, .int v_t_badWhy, .int v_t_firstAct, .int v_t_firstHouse, .ref a_t_dues, .ref a_t_groups, .ref a_t_ways, .ref a_t_fit, .int v_t_fitMany, .ref a_t_byMany, .ref a_t_kept, .ref a_t_isKept, .int v_t_keptAt, .int v_t_isWriting])), (a_t_ways, .inl (cI, 2048, .inl g_t_ways)), (a_t_relatives, .inl (cI, 8, .inl g_t_relatives))] := hw
    refine lv_if_eq (tgt := 56) hx hb dX10_orders_44 (by decide) (fun c4 => ?_) (fun c4 => ?_)
    · replace hok := Eq.mp (if_pos c4) hok
      refine lv_iconst (v := 0) hx hb dX10_orders_56 (by decide) ?_
      obtain ⟨h5, hok⟩ := hok
      refine k_iast C hw 1 rfl h5 dX10_orders_57 (fun H locs hw => ?_)
      replace hw : kW D _ s H locs [(a_t, .inr (10, [.ref a_t_wealth, .ref a_t_given, .ref a_t_chart, .ref a_t_relatives, .int v_t_inside, .int v_t_next, .int v_t_years, .ref a_t_sightSet, .ref a_t_sightMany, .int v_t_sights, .ref a_t_digits, .ref a_t_pad, .int v_t_padMany, .ref a_t_act, .ref a_t_who, .ref a_t_whom, .ref a_t_much, .int v_t_acts, .int v_t_givenNow, .int v_t_entered, .ref a_t_had, .int v_t_badAct, .int v_t_badWhy, .int v_t_firstAct, .int v_t_firstHouse, .ref a_t_dues, .ref a_t_groups, .ref a_t_ways, .ref a_t_fit, .int v_t_fitMany, .ref a_t_byMany, .ref a_t_kept, .ref a_t_isKept, .int v_t_keptAt, .int v_t_isWriting])), (a_t_ways, .inl (cI, 2048, .inl (upd g_t_ways ((8 * x2) + (nI j)).toNatClampNeg 0))), (a_t_relatives, .inl (cI, 8, .inl g_t_relatives))] := hw
      refine lv_iinc (v := (nI (j + 1))) (lv' := [(3, .int (nI (j + 1))), (0, .ref a_t), (1, .int x1), (2, .int x2)]) hx hb dX10_orders_58 hl (k := 3) rfl (nI_1 _) (by decide) rfl (fun ls hl => ?_)
      refine lv_goto (tgt := 23) hx hb dX10_orders_61 (by decide) ?_
      have hB : B_X10_orders_23 x2 g_t_relatives j g_t_ways = (upd g_t_ways ((8 * x2) + (nI j)).toNatClampNeg 0) := by
        unfold B_X10_orders_23
        exact (if_pos c4).trans (rfl)
      rw [it_c hB] at kk
      have hok2 := itA_c hB hok0
      exact ih (j + 1) (upd g_t_ways ((8 * x2) + (nI j)).toNatClampNeg 0) (by omega) (by omega) hok2 _ _ hw _ (lv_sub hl [1, 2, 3, 0] rfl) kk
    · replace hok := Eq.mp (if_neg c4) hok
      refine lv_aload_n hx hb dX10_orders_47 rfl (lv_at hl 0 rfl) ?_
      refine lv_iload_n hx hb dX10_orders_48 rfl (lv_at hl 2 rfl) ?_
      refine lv_iload_n hx hb dX10_orders_49 rfl (lv_at hl 3 rfl) ?_
      obtain ⟨h6, hok⟩ := hok
      refine k_callV (As := [.int x2, .int (nI j)]) (rest := [.int ((8 * x2) + (nI j)), .ref a_t_ways]) (n := 2) (CC := RX10) (T := TX10) (N := 35) C hw (T_X10_waysOn l D cI cZ a_t a_t_wealth a_t_given a_t_chart a_t_relatives a_t_sightSet a_t_sightMany a_t_digits a_t_pad a_t_act a_t_who a_t_whom a_t_much a_t_had a_t_dues a_t_groups a_t_ways a_t_fit a_t_byMany a_t_kept a_t_isKept v_t_inside v_t_next v_t_years v_t_sights v_t_padMany v_t_acts v_t_givenNow v_t_entered v_t_badAct v_t_badWhy v_t_firstAct v_t_firstHouse v_t_fitMany v_t_keptAt v_t_isWriting g_t_relatives g_t_ways x2 (nI j) h6) gX10_orders_X10_waysOn rfl ⟨rfl, rfl⟩ (by decide +kernel) ⟨Nat.le_of_ble_eq_true rfl, Nat.le_of_ble_eq_true rfl⟩ 0 rfl rfl [0, 2, 1] rfl rfl [a_t, a_t_relatives, a_t_ways] rfl rfl rfl hl.1 rfl (Nat.le_of_ble_eq_true rfl) ⟨Nat.zero_le _, Nat.zero_le _⟩ dX10_orders_50 (fun H locs hw => ?_)
      refine W.eq (g2 := F0 m 53 ls [.int (f_X10_waysOn g_t_relatives g_t_ways x2 (nI j)), .int ((8 * x2) + (nI j)), .ref a_t_ways]) rfl ?_
      replace hw : kW D _ s H locs [(a_t, .inr (10, [.ref a_t_wealth, .ref a_t_given, .ref a_t_chart, .ref a_t_relatives, .int v_t_inside, .int v_t_next, .int v_t_years, .ref a_t_sightSet, .ref a_t_sightMany, .int v_t_sights, .ref a_t_digits, .ref a_t_pad, .int v_t_padMany, .ref a_t_act, .ref a_t_who, .ref a_t_whom, .ref a_t_much, .int v_t_acts, .int v_t_givenNow, .int v_t_entered, .ref a_t_had, .int v_t_badAct, .int v_t_badWhy, .int v_t_firstAct, .int v_t_firstHouse, .ref a_t_dues, .ref a_t_groups, .ref a_t_ways, .ref a_t_fit, .int v_t_fitMany, .ref a_t_byMany, .ref a_t_kept, .ref a_t_isKept, .int v_t_keptAt, .int v_t_isWriting])), (a_t_ways, .inl (cI, 2048, .inl g_t_ways)), (a_t_relatives, .inl (cI, 8, .inl g_t_relatives))] := hw
      refine lv_goto (tgt := 57) hx hb dX10_orders_53 (by decide) ?_
      obtain ⟨h7, hok⟩ := hok
      refine k_iast C hw 1 rfl h7 dX10_orders_57 (fun H locs hw => ?_)
      replace hw : kW D _ s H locs [(a_t, .inr (10, [.ref a_t_wealth, .ref a_t_given, .ref a_t_chart, .ref a_t_relatives, .int v_t_inside, .int v_t_next, .int v_t_years, .ref a_t_sightSet, .ref a_t_sightMany, .int v_t_sights, .ref a_t_digits, .ref a_t_pad, .int v_t_padMany, .ref a_t_act, .ref a_t_who, .ref a_t_whom, .ref a_t_much, .int v_t_acts, .int v_t_givenNow, .int v_t_entered, .ref a_t_had, .int v_t_badAct, .int v_t_badWhy, .int v_t_firstAct, .int v_t_firstHouse, .ref a_t_dues, .ref a_t_groups, .ref a_t_ways, .ref a_t_fit, .int v_t_fitMany, .ref a_t_byMany, .ref a_t_kept, .ref a_t_isKept, .int v_t_keptAt, .int v_t_isWriting])), (a_t_ways, .inl (cI, 2048, .inl (upd g_t_ways ((8 * x2) + (nI j)).toNatClampNeg (f_X10_waysOn g_t_relatives g_t_ways x2 (nI j))))), (a_t_relatives, .inl (cI, 8, .inl g_t_relatives))] := hw
      refine lv_iinc (v := (nI (j + 1))) (lv' := [(3, .int (nI (j + 1))), (0, .ref a_t), (1, .int x1), (2, .int x2)]) hx hb dX10_orders_58 hl (k := 3) rfl (nI_1 _) (by decide) rfl (fun ls hl => ?_)
      refine lv_goto (tgt := 23) hx hb dX10_orders_61 (by decide) ?_
      have hB : B_X10_orders_23 x2 g_t_relatives j g_t_ways = (upd g_t_ways ((8 * x2) + (nI j)).toNatClampNeg (f_X10_waysOn g_t_relatives g_t_ways x2 (nI j))) := by
        unfold B_X10_orders_23
        exact (if_neg c4).trans (rfl)
      rw [it_c hB] at kk
      have hok2 := itA_c hB hok0
      exact ih (j + 1) (upd g_t_ways ((8 * x2) + (nI j)).toNatClampNeg (f_X10_waysOn g_t_relatives g_t_ways x2 (nI j))) (by omega) (by omega) hok2 _ _ hw _ (lv_sub hl [1, 2, 3, 0] rfl) kk
def B_X10_orders_17 (g_t_relatives : (Nat → Int32)) (n : Nat) (v : (Nat → Int32)) : (Nat → Int32) := (it (B_X10_orders_23 (nI (n + 1)) g_t_relatives) 0 8 v)
def oB_X10_orders_17 (g_t_relatives : (Nat → Int32)) (n : Nat) (v : (Nat → Int32)) : Prop := ((itA (oB_X10_orders_23 (nI (n + 1)) g_t_relatives) (B_X10_orders_23 (nI (n + 1)) g_t_relatives) 0 8 v) ∧ True)
set_option maxHeartbeats 4000000 in
set_option maxRecDepth 100000 in
theorem l_X10_orders_17 {p : Program} {l : Launch} {e : Env} {s : State} {m : MethodId} {args : Array Value} {below : List Frame} {meth : Method} {c : Code} {D : va_G} {cI cZ : ClassId} {Q : State → Prop} {A : Nat → Prop} (a_t a_t_wealth a_t_given a_t_chart a_t_relatives a_t_sightSet a_t_sightMany a_t_digits a_t_pad a_t_act a_t_who a_t_whom a_t_much a_t_had a_t_dues a_t_groups a_t_ways a_t_fit a_t_byMany a_t_kept a_t_isKept : Nat) (x1 : Int32) (v_t_inside : Int32) (v_t_next : Int32) (v_t_years : Int32) (v_t_sights : Int32) (v_t_padMany : Int32) (v_t_acts : Int32) (v_t_givenNow : Int32) (v_t_entered : Int32) (v_t_badAct : Int32) (v_t_badWhy : Int32) (v_t_firstAct : Int32) (v_t_firstHouse : Int32) (v_t_fitMany : Int32) (v_t_keptAt : Int32) (v_t_isWriting : Int32) (g_t_relatives : (Nat → Int32)) (C : kC p s m args meth c cX10_orders 4 wsX10_orders RX10 D cI cZ A) : ∀ (n : Nat) (g_t_ways : (Nat → Int32)), n ≤ 255 → itDA (oB_X10_orders_17 g_t_relatives) (B_X10_orders_17 g_t_relatives) n g_t_ways → ∀ (H : Heap) (locs : List Loc), kW D A s H locs [(a_t, .inr (10, [.ref a_t_wealth, .ref a_t_given, .ref a_t_chart, .ref a_t_relatives, .int v_t_inside, .int v_t_next, .int v_t_years, .ref a_t_sightSet, .ref a_t_sightMany, .int v_t_sights, .ref a_t_digits, .ref a_t_pad, .int v_t_padMany, .ref a_t_act, .ref a_t_who, .ref a_t_whom, .ref a_t_much, .int v_t_acts, .int v_t_givenNow, .int v_t_entered, .ref a_t_had, .int v_t_badAct, .int v_t_badWhy, .int v_t_firstAct, .int v_t_firstHouse, .ref a_t_dues, .ref a_t_groups, .ref a_t_ways, .ref a_t_fit, .int v_t_fitMany, .ref a_t_byMany, .ref a_t_kept, .ref a_t_isKept, .int v_t_keptAt, .int v_t_isWriting])), (a_t_ways, .inl (cI, 2048, .inl g_t_ways)), (a_t_relatives, .inl (cI, 8, .inl g_t_relatives))] → ∀ (ls : Array Slot), lv_has ls 4 [(0, .ref a_t), (1, .int x1), (2, .int (nI n))] → (∀ (H : Heap) (locs : List Loc) (ls : Array Slot), kW D A s H locs [(a_t, .inr (10, [.ref a_t_wealth, .ref a_t_given, .ref a_t_chart, .ref a_t_relatives, .int v_t_inside, .int v_t_next, .int v_t_years, .ref a_t_sightSet, .ref a_t_sightMany, .int v_t_sights, .ref a_t_digits, .ref a_t_pad, .int v_t_padMany, .ref a_t_act, .ref a_t_who, .ref a_t_whom, .ref a_t_much, .int v_t_acts, .int v_t_givenNow, .int v_t_entered, .ref a_t_had, .int v_t_badAct, .int v_t_badWhy, .int v_t_firstAct, .int v_t_firstHouse, .ref a_t_dues, .ref a_t_groups, .ref a_t_ways, .ref a_t_fit, .int v_t_fitMany, .ref a_t_byMany, .ref a_t_kept, .ref a_t_isKept, .int v_t_keptAt, .int v_t_isWriting])), (a_t_ways, .inl (cI, 2048, .inl (itD (B_X10_orders_17 g_t_relatives) n g_t_ways))), (a_t_relatives, .inl (cI, 8, .inl g_t_relatives))] → lv_has ls 4 [(0, .ref a_t), (1, .int x1)] → W p l e ({ frames := 2, cells := 0, slots := 0, locals := 48 }) s m args below meth c H locs 0 0 Q (F0 m 70 ls [])) → W p l e ({ frames := 2, cells := 0, slots := 0, locals := 48 }) s m args below meth c H locs 0 0 Q (F0 m 17 ls []) := by
  have hx := C.hx
  have hb := C.hb
  intro n
  induction n with
  | zero =>
    intro g_t_ways hn hok0 H locs hw ls hl kk
    refine lv_iload_n hx hb dX10_orders_17 rfl (lv_at hl 2 rfl) ?_
    refine lv_if_le (tgt := 70) hx hb dX10_orders_18 (by decide) (fun c4 => ?_) (fun c4 => absurd (by decide) c4)
    exact kk _ _ _ hw (lv_sub hl [0, 1] rfl)
  | succ n ih =>
    intro g_t_ways hn hok0 H locs hw ls hl kk
    have hok := hok0.1
    refine lv_iload_n hx hb dX10_orders_17 rfl (lv_at hl 2 rfl) ?_
    refine lv_if_le (tgt := 70) hx hb dX10_orders_18 (by decide) (fun c2 => absurd c2 (nI_nle (Nat.succ_pos _) (by omega))) (fun c2 => ?_)
    refine lv_iconst (v := 0) hx hb dX10_orders_21 (by decide) ?_
    refine lv_istore_n (lv' := [(3, .int 0), (0, .ref a_t), (1, .int x1), (2, .int (nI (n + 1)))]) hx hb dX10_orders_22 rfl hl (by decide) rfl (fun ls hl => ?_)
    obtain ⟨h3, hok⟩ := hok
    refine l_X10_orders_23 a_t a_t_wealth a_t_given a_t_chart a_t_relatives a_t_sightSet a_t_sightMany a_t_digits a_t_pad a_t_act a_t_who a_t_whom a_t_much a_t_had a_t_dues a_t_groups a_t_ways a_t_fit a_t_byMany a_t_kept a_t_isKept x1 (nI (n + 1)) v_t_inside v_t_next v_t_years v_t_sights v_t_padMany v_t_acts v_t_givenNow v_t_entered v_t_badAct v_t_badWhy v_t_firstAct v_t_firstHouse v_t_fitMany v_t_keptAt v_t_isWriting g_t_relatives C 8 0 g_t_ways (by decide) (by decide) h3 _ _ hw _ (lv_sub hl [1, 2, 3, 0] rfl) (fun H locs ls hw hl => ?_)
    replace hw : kW D _ s H locs [(a_t, .inr (10, [.ref a_t_wealth, .ref a_t_given, .ref a_t_chart, .ref a_t_relatives, .int v_t_inside, .int v_t_next, .int v_t_years, .ref a_t_sightSet, .ref a_t_sightMany, .int v_t_sights, .ref a_t_digits, .ref a_t_pad, .int v_t_padMany, .ref a_t_act, .ref a_t_who, .ref a_t_whom, .ref a_t_much, .int v_t_acts, .int v_t_givenNow, .int v_t_entered, .ref a_t_had, .int v_t_badAct, .int v_t_badWhy, .int v_t_firstAct, .int v_t_firstHouse, .ref a_t_dues, .ref a_t_groups, .ref a_t_ways, .ref a_t_fit, .int v_t_fitMany, .ref a_t_byMany, .ref a_t_kept, .ref a_t_isKept, .int v_t_keptAt, .int v_t_isWriting])), (a_t_ways, .inl (cI, 2048, .inl (it (B_X10_orders_23 (nI (n + 1)) g_t_relatives) 0 8 g_t_ways))), (a_t_relatives, .inl (cI, 8, .inl g_t_relatives))] := hw
    replace hl : lv_has ls 4 [(0, .ref a_t), (1, .int x1), (2, .int (nI (n + 1)))] := hl
    refine lv_iinc (v := (nI n)) (lv' := [(2, .int (nI n)), (0, .ref a_t), (1, .int x1)]) hx hb dX10_orders_64 hl (k := 2) rfl (pk_m1 _) (by decide) rfl (fun ls hl => ?_)
    refine lv_goto (tgt := 17) hx hb dX10_orders_67 (by decide) ?_
    have hB : B_X10_orders_17 g_t_relatives n g_t_ways = (it (B_X10_orders_23 (nI (n + 1)) g_t_relatives) 0 8 g_t_ways) := by
      unfold B_X10_orders_17
      exact rfl
    rw [itD_c hB] at kk
    have hok2 := itDA_c hB hok0
    exact ih (it (B_X10_orders_23 (nI (n + 1)) g_t_relatives) 0 8 g_t_ways) (by omega) hok2 _ _ hw _ (lv_sub hl [1, 2, 0] rfl) kk
def B_X10_orders_74 (g_t_ways : (Nat → Int32)) (j : Nat) (v : Int32) : Int32 := (v + (g_t_ways ((8 * ((1 : Int32) <<< ((nI j) &&& 31))) + (nI j)).toNatClampNeg))
def oB_X10_orders_74 (j : Nat) (v : Int32) : Prop := ((vp_in ((8 * ((1 : Int32) <<< ((nI j) &&& 31))) + (nI j)) 2048) ∧ True)
set_option maxHeartbeats 4000000 in
set_option maxRecDepth 100000 in
theorem l_X10_orders_74 {p : Program} {l : Launch} {e : Env} {s : State} {m : MethodId} {args : Array Value} {below : List Frame} {meth : Method} {c : Code} {D : va_G} {cI cZ : ClassId} {Q : State → Prop} {A : Nat → Prop} (a_t a_t_wealth a_t_given a_t_chart a_t_relatives a_t_sightSet a_t_sightMany a_t_digits a_t_pad a_t_act a_t_who a_t_whom a_t_much a_t_had a_t_dues a_t_groups a_t_ways a_t_fit a_t_byMany a_t_kept a_t_isKept : Nat) (x1 : Int32) (v_t_inside : Int32) (v_t_next : Int32) (v_t_years : Int32) (v_t_sights : Int32) (v_t_padMany : Int32) (v_t_acts : Int32) (v_t_givenNow : Int32) (v_t_entered : Int32) (v_t_badAct : Int32) (v_t_badWhy : Int32) (v_t_firstAct : Int32) (v_t_firstHouse : Int32) (v_t_fitMany : Int32) (v_t_keptAt : Int32) (v_t_isWriting : Int32) (g_t_ways : (Nat → Int32)) (g_t_relatives : (Nat → Int32)) (C : kC p s m args meth c cX10_orders 4 wsX10_orders RX10 D cI cZ A) : ∀ (n j : Nat) (x2 : Int32), n = 8 - j → j < 2147483648 → itA oB_X10_orders_74 (B_X10_orders_74 g_t_ways) j n x2 → ∀ (H : Heap) (locs : List Loc), kW D A s H locs [(a_t, .inr (10, [.ref a_t_wealth, .ref a_t_given, .ref a_t_chart, .ref a_t_relatives, .int v_t_inside, .int v_t_next, .int v_t_years, .ref a_t_sightSet, .ref a_t_sightMany, .int v_t_sights, .ref a_t_digits, .ref a_t_pad, .int v_t_padMany, .ref a_t_act, .ref a_t_who, .ref a_t_whom, .ref a_t_much, .int v_t_acts, .int v_t_givenNow, .int v_t_entered, .ref a_t_had, .int v_t_badAct, .int v_t_badWhy, .int v_t_firstAct, .int v_t_firstHouse, .ref a_t_dues, .ref a_t_groups, .ref a_t_ways, .ref a_t_fit, .int v_t_fitMany, .ref a_t_byMany, .ref a_t_kept, .ref a_t_isKept, .int v_t_keptAt, .int v_t_isWriting])), (a_t_ways, .inl (cI, 2048, .inl g_t_ways)), (a_t_relatives, .inl (cI, 8, .inl g_t_relatives))] → ∀ (ls : Array Slot), lv_has ls 4 [(0, .ref a_t), (1, .int x1), (2, .int x2), (3, .int (nI j))] → (∀ (H : Heap) (locs : List Loc) (ls : Array Slot), kW D A s H locs [(a_t, .inr (10, [.ref a_t_wealth, .ref a_t_given, .ref a_t_chart, .ref a_t_relatives, .int v_t_inside, .int v_t_next, .int v_t_years, .ref a_t_sightSet, .ref a_t_sightMany, .int v_t_sights, .ref a_t_digits, .ref a_t_pad, .int v_t_padMany, .ref a_t_act, .ref a_t_who, .ref a_t_whom, .ref a_t_much, .int v_t_acts, .int v_t_givenNow, .int v_t_entered, .ref a_t_had, .int v_t_badAct, .int v_t_badWhy, .int v_t_firstAct, .int v_t_firstHouse, .ref a_t_dues, .ref a_t_groups, .ref a_t_ways, .ref a_t_fit, .int v_t_fitMany, .ref a_t_byMany, .ref a_t_kept, .ref a_t_isKept, .int v_t_keptAt, .int v_t_isWriting])), (a_t_ways, .inl (cI, 2048, .inl g_t_ways)), (a_t_relatives, .inl (cI, 8, .inl g_t_relatives))] → lv_has ls 4 [(0, .ref a_t), (1, .int x1), (2, .int (it (B_X10_orders_74 g_t_ways) j n x2))] → W p l e ({ frames := 2, cells := 0, slots := 0, locals := 48 }) s m args below meth c H locs 0 0 Q (F0 m 102 ls [])) → W p l e ({ frames := 2, cells := 0, slots := 0, locals := 48 }) s m args below meth c H locs 0 0 Q (F0 m 74 ls []) := by
  have hx := C.hx
  have hb := C.hb
  intro n
  induction n with
  | zero =>
    intro j x2 hn hj hok0 H locs hw ls hl kk
    refine lv_iload_n hx hb dX10_orders_74 rfl (lv_at hl 3 rfl) ?_
    refine lv_bipush (v := 8) hx hb dX10_orders_75 (by decide) ?_
    refine lv_icmp_ge (tgt := 102) hx hb dX10_orders_77 (by decide) (fun c8 => ?_) (fun c8 => by exact absurd (nI_le (a := 8) (b := j) (by omega) (by omega)) c8)
    exact kk _ _ _ hw (lv_sub hl [0, 1, 2] rfl)
  | succ n ih =>
    intro j x2 hn hj hok0 H locs hw ls hl kk
    have hok := hok0.1
    refine lv_iload_n hx hb dX10_orders_74 rfl (lv_at hl 3 rfl) ?_
    refine lv_bipush (v := 8) hx hb dX10_orders_75 (by decide) ?_
    refine lv_icmp_ge (tgt := 102) hx hb dX10_orders_77 (by decide) (fun c6 => by exact absurd c6 (nI_ge (a := j) (b := 8) (by omega) (by omega))) (fun c6 => ?_)
    refine lv_iload_n hx hb dX10_orders_80 rfl (lv_at hl 2 rfl) ?_
    refine lv_aload_n hx hb dX10_orders_81 rfl (lv_at hl 0 rfl) ?_
    refine k_get C hw (CC := RX10) (T := TX10) (N := 35) nX10_orders_X10 0 rfl rfl 27 (by decide) (List.mem_of_getElem? (i := 1) rfl) rfl rfl dX10_orders_82 ?_
    refine lv_bipush (v := 8) hx hb dX10_orders_85 (by decide) ?_
    refine lv_iconst (v := 1) hx hb dX10_orders_87 (by decide) ?_
    refine lv_iload_n hx hb dX10_orders_88 rfl (lv_at hl 3 rfl) ?_
    refine lv_ishl hx hb dX10_orders_89 ?_
    refine lv_imul hx hb dX10_orders_90 ?_
    refine lv_iload_n hx hb dX10_orders_91 rfl (lv_at hl 3 rfl) ?_
    refine lv_iadd hx hb dX10_orders_92 ?_
    obtain ⟨h7, hok⟩ := hok
    refine k_iald C hw 1 rfl h7 dX10_orders_93 ?_
    refine lv_iadd hx hb dX10_orders_94 ?_
    refine lv_istore_n (lv' := [(2, .int (x2 + (g_t_ways ((8 * ((1 : Int32) <<< ((nI j) &&& 31))) + (nI j)).toNatClampNeg))), (0, .ref a_t), (1, .int x1), (3, .int (nI j))]) hx hb dX10_orders_95 rfl hl (by decide) rfl (fun ls hl => ?_)
    refine lv_iinc (v := (nI (j + 1))) (lv' := [(3, .int (nI (j + 1))), (2, .int (x2 + (g_t_ways ((8 * ((1 : Int32) <<< ((nI j) &&& 31))) + (nI j)).toNatClampNeg))), (0, .ref a_t), (1, .int x1)]) hx hb dX10_orders_96 hl (k := 3) rfl (nI_1 _) (by decide) rfl (fun ls hl => ?_)
    refine lv_goto (tgt := 74) hx hb dX10_orders_99 (by decide) ?_
    have hB : B_X10_orders_74 g_t_ways j x2 = (x2 + (g_t_ways ((8 * ((1 : Int32) <<< ((nI j) &&& 31))) + (nI j)).toNatClampNeg)) := by
      unfold B_X10_orders_74
      exact rfl
    rw [it_c hB] at kk
    have hok2 := itA_c hB hok0
    exact ih (j + 1) (x2 + (g_t_ways ((8 * ((1 : Int32) <<< ((nI j) &&& 31))) + (nI j)).toNatClampNeg)) (by omega) (by omega) hok2 _ _ hw _ (lv_sub hl [2, 3, 1, 0] rfl) kk
def f_X10_orders (g_t_ways : (Nat → Int32)) (g_t_relatives : (Nat → Int32)) (p1 : Int32) : Int32 × (Nat → Int32) := (if (f_X10_in ((p1).toInt64) (0 : Int64) (1 : Int64)) = 0 then ((-2), g_t_ways) else (lt (it (B_X10_orders_74 (itD (B_X10_orders_17 g_t_relatives) 255 g_t_ways)) 0 8 (0 : Int32)) (fun z10 => (if p1 = 0 then (z10, (itD (B_X10_orders_17 g_t_relatives) 255 g_t_ways)) else (if z10 = 0 then ((-6), (itD (B_X10_orders_17 g_t_relatives) 255 g_t_ways)) else (lt (f_X10_leastOrder (itD (B_X10_orders_17 g_t_relatives) 255 g_t_ways) g_t_relatives) (fun z15 => (z15, (itD (B_X10_orders_17 g_t_relatives) 255 g_t_ways)))))))))
def o_X10_orders (g_t_ways : (Nat → Int32)) (g_t_relatives : (Nat → Int32)) (p1 : Int32) : Prop := (if (f_X10_in ((p1).toInt64) (0 : Int64) (1 : Int64)) = 0 then True else ((itDA (oB_X10_orders_17 g_t_relatives) (B_X10_orders_17 g_t_relatives) 255 g_t_ways) ∧ ((itA oB_X10_orders_74 (B_X10_orders_74 (itD (B_X10_orders_17 g_t_relatives) 255 g_t_ways)) 0 8 (0 : Int32)) ∧ (lt (it (B_X10_orders_74 (itD (B_X10_orders_17 g_t_relatives) 255 g_t_ways)) 0 8 (0 : Int32)) (fun z10 => (if p1 = 0 then True else (if z10 = 0 then True else ((o_X10_leastOrder (itD (B_X10_orders_17 g_t_relatives) 255 g_t_ways) g_t_relatives) ∧ True))))))))
set_option maxHeartbeats 4000000 in
set_option maxRecDepth 100000 in
theorem T_X10_orders (l : Launch) (D : va_G) (cI cZ : ClassId) (a_t a_t_wealth a_t_given a_t_chart a_t_relatives a_t_sightSet a_t_sightMany a_t_digits a_t_pad a_t_act a_t_who a_t_whom a_t_much a_t_had a_t_dues a_t_groups a_t_ways a_t_fit a_t_byMany a_t_kept a_t_isKept : Nat) (v_t_inside : Int32) (v_t_next : Int32) (v_t_years : Int32) (v_t_sights : Int32) (v_t_padMany : Int32) (v_t_acts : Int32) (v_t_givenNow : Int32) (v_t_entered : Int32) (v_t_badAct : Int32) (v_t_badWhy : Int32) (v_t_firstAct : Int32) (v_t_firstHouse : Int32) (v_t_fitMany : Int32) (v_t_keptAt : Int32) (v_t_isWriting : Int32) (g_t_ways : (Nat → Int32)) (g_t_relatives : (Nat → Int32)) (p1 : Int32) (hok : o_X10_orders g_t_ways g_t_relatives p1) : CT l D cI cZ yX10_orders wsX10_orders ({ frames := 2, cells := 0, slots := 0, locals := 48 }) [.ref a_t, .int p1] [(a_t, .inr (10, [.ref a_t_wealth, .ref a_t_given, .ref a_t_chart, .ref a_t_relatives, .int v_t_inside, .int v_t_next, .int v_t_years, .ref a_t_sightSet, .ref a_t_sightMany, .int v_t_sights, .ref a_t_digits, .ref a_t_pad, .int v_t_padMany, .ref a_t_act, .ref a_t_who, .ref a_t_whom, .ref a_t_much, .int v_t_acts, .int v_t_givenNow, .int v_t_entered, .ref a_t_had, .int v_t_badAct, .int v_t_badWhy, .int v_t_firstAct, .int v_t_firstHouse, .ref a_t_dues, .ref a_t_groups, .ref a_t_ways, .ref a_t_fit, .int v_t_fitMany, .ref a_t_byMany, .ref a_t_kept, .ref a_t_isKept, .int v_t_keptAt, .int v_t_isWriting])), (a_t_ways, .inl (cI, 2048, .inl g_t_ways)), (a_t_relatives, .inl (cI, 8, .inl g_t_relatives))] (some (.int (f_X10_orders g_t_ways g_t_relatives p1).1)) [(a_t, .inr (10, [.ref a_t_wealth, .ref a_t_given, .ref a_t_chart, .ref a_t_relatives, .int v_t_inside, .int v_t_next, .int v_t_years, .ref a_t_sightSet, .ref a_t_sightMany, .int v_t_sights, .ref a_t_digits, .ref a_t_pad, .int v_t_padMany, .ref a_t_act, .ref a_t_who, .ref a_t_whom, .ref a_t_much, .int v_t_acts, .int v_t_givenNow, .int v_t_entered, .ref a_t_had, .int v_t_badAct, .int v_t_badWhy, .int v_t_firstAct, .int v_t_firstHouse, .ref a_t_dues, .ref a_t_groups, .ref a_t_ways, .ref a_t_fit, .int v_t_fitMany, .ref a_t_byMany, .ref a_t_kept, .ref a_t_isKept, .int v_t_keptAt, .int v_t_isWriting])), (a_t_ways, .inl (cI, 2048, .inl (f_X10_orders g_t_ways g_t_relatives p1).2)), (a_t_relatives, .inl (cI, 8, .inl g_t_relatives))] := by
  refine CT.intro RX10 (by decide) rfl (Nat.le_of_ble_eq_true rfl) rfl ?_
  intro p e s m below meth c C hr hw ls hl
  have hx := C.hx
  have hb := C.hb
  replace hl : lv_has ls 4 [(0, .ref a_t), (1, .int p1)] := hl
  refine lv_iload_n hx hb dX10_orders_0 rfl (lv_at hl 1 rfl) ?_
  refine lv_i2l (v := ((p1).toInt64)) hx hb dX10_orders_1 rfl ?_
  refine lv_lconst (v := 0) hx hb dX10_orders_2 (by decide) ?_
  refine lv_lconst (v := 1) hx hb dX10_orders_3 (by decide) ?_
  refine k_callS (As := [.long ((p1).toInt64), .long 0, .long 1]) (rest := []) (n := 3) C hw (T_X10_in l D cI cZ ((p1).toInt64) (0 : Int64) (1 : Int64)) gX10_orders_X10_in rfl ⟨rfl, rfl⟩ (by decide +kernel) ⟨Nat.le_of_ble_eq_true rfl, Nat.le_of_ble_eq_true rfl⟩ [] rfl rfl [] rfl rfl rfl hl.1 rfl (Nat.le_of_ble_eq_true rfl) ⟨Nat.zero_le _, Nat.zero_le _⟩ dX10_orders_4 (fun H locs hw => ?_)
  refine W.eq (g2 := F0 m 7 ls [.int (f_X10_in ((p1).toInt64) (0 : Int64) (1 : Int64))]) rfl ?_
  replace hw : kW D _ s H locs [(a_t, .inr (10, [.ref a_t_wealth, .ref a_t_given, .ref a_t_chart, .ref a_t_relatives, .int v_t_inside, .int v_t_next, .int v_t_years, .ref a_t_sightSet, .ref a_t_sightMany, .int v_t_sights, .ref a_t_digits, .ref a_t_pad, .int v_t_padMany, .ref a_t_act, .ref a_t_who, .ref a_t_whom, .ref a_t_much, .int v_t_acts, .int v_t_givenNow, .int v_t_entered, .ref a_t_had, .int v_t_badAct, .int v_t_badWhy, .int v_t_firstAct, .int v_t_firstHouse, .ref a_t_dues, .ref a_t_groups, .ref a_t_ways, .ref a_t_fit, .int v_t_fitMany, .ref a_t_byMany, .ref a_t_kept, .ref a_t_isKept, .int v_t_keptAt, .int v_t_isWriting])), (a_t_ways, .inl (cI, 2048, .inl g_t_ways)), (a_t_relatives, .inl (cI, 8, .inl g_t_relatives))] := hw
  refine lv_if_ne (tgt := 13) hx hb dX10_orders_7 (by decide) (fun c1 => ?_) (fun c1 => ?_)
  · replace hok := Eq.mp (if_neg c1) hok
    refine lv_sipush (v := 255) hx hb dX10_orders_13 (by decide) ?_
    refine lv_istore_n (lv' := [(2, .int 255), (0, .ref a_t), (1, .int p1)]) hx hb dX10_orders_16 rfl hl (by decide) rfl (fun ls hl => ?_)
    obtain ⟨h5, hok⟩ := hok
    refine l_X10_orders_17 a_t a_t_wealth a_t_given a_t_chart a_t_relatives a_t_sightSet a_t_sightMany a_t_digits a_t_pad a_t_act a_t_who a_t_whom a_t_much a_t_had a_t_dues a_t_groups a_t_ways a_t_fit a_t_byMany a_t_kept a_t_isKept p1 v_t_inside v_t_next v_t_years v_t_sights v_t_padMany v_t_acts v_t_givenNow v_t_entered v_t_badAct v_t_badWhy v_t_firstAct v_t_firstHouse v_t_fitMany v_t_keptAt v_t_isWriting g_t_relatives C 255 g_t_ways (by decide) h5 _ _ hw _ (lv_sub hl [1, 2, 0] rfl) (fun H locs ls hw hl => ?_)
    replace hw : kW D _ s H locs [(a_t, .inr (10, [.ref a_t_wealth, .ref a_t_given, .ref a_t_chart, .ref a_t_relatives, .int v_t_inside, .int v_t_next, .int v_t_years, .ref a_t_sightSet, .ref a_t_sightMany, .int v_t_sights, .ref a_t_digits, .ref a_t_pad, .int v_t_padMany, .ref a_t_act, .ref a_t_who, .ref a_t_whom, .ref a_t_much, .int v_t_acts, .int v_t_givenNow, .int v_t_entered, .ref a_t_had, .int v_t_badAct, .int v_t_badWhy, .int v_t_firstAct, .int v_t_firstHouse, .ref a_t_dues, .ref a_t_groups, .ref a_t_ways, .ref a_t_fit, .int v_t_fitMany, .ref a_t_byMany, .ref a_t_kept, .ref a_t_isKept, .int v_t_keptAt, .int v_t_isWriting])), (a_t_ways, .inl (cI, 2048, .inl (itD (B_X10_orders_17 g_t_relatives) 255 g_t_ways))), (a_t_relatives, .inl (cI, 8, .inl g_t_relatives))] := hw
    replace hl : lv_has ls 4 [(0, .ref a_t), (1, .int p1)] := hl
    refine lv_iconst (v := 0) hx hb dX10_orders_70 (by decide) ?_
    refine lv_istore_n (lv' := [(2, .int 0), (0, .ref a_t), (1, .int p1)]) hx hb dX10_orders_71 rfl hl (by decide) rfl (fun ls hl => ?_)
    refine lv_iconst (v := 0) hx hb dX10_orders_72 (by decide) ?_
    refine lv_istore_n (lv' := [(3, .int 0), (2, .int 0), (0, .ref a_t), (1, .int p1)]) hx hb dX10_orders_73 rfl hl (by decide) rfl (fun ls hl => ?_)
    obtain ⟨h9, hok⟩ := hok
    refine l_X10_orders_74 a_t a_t_wealth a_t_given a_t_chart a_t_relatives a_t_sightSet a_t_sightMany a_t_digits a_t_pad a_t_act a_t_who a_t_whom a_t_much a_t_had a_t_dues a_t_groups a_t_ways a_t_fit a_t_byMany a_t_kept a_t_isKept p1 v_t_inside v_t_next v_t_years v_t_sights v_t_padMany v_t_acts v_t_givenNow v_t_entered v_t_badAct v_t_badWhy v_t_firstAct v_t_firstHouse v_t_fitMany v_t_keptAt v_t_isWriting (itD (B_X10_orders_17 g_t_relatives) 255 g_t_ways) g_t_relatives C 8 0 (0 : Int32) (by decide) (by decide) h9 _ _ hw _ (lv_sub hl [2, 3, 1, 0] rfl) (fun H locs ls hw hl => ?_)
    obtain ⟨z10, h11⟩ : ∃ z, (it (B_X10_orders_74 (itD (B_X10_orders_17 g_t_relatives) 255 g_t_ways)) 0 8 (0 : Int32)) = z := ⟨_, rfl⟩
    replace hw := kW_cast (ws' := [(a_t, .inr (10, [.ref a_t_wealth, .ref a_t_given, .ref a_t_chart, .ref a_t_relatives, .int v_t_inside, .int v_t_next, .int v_t_years, .ref a_t_sightSet, .ref a_t_sightMany, .int v_t_sights, .ref a_t_digits, .ref a_t_pad, .int v_t_padMany, .ref a_t_act, .ref a_t_who, .ref a_t_whom, .ref a_t_much, .int v_t_acts, .int v_t_givenNow, .int v_t_entered, .ref a_t_had, .int v_t_badAct, .int v_t_badWhy, .int v_t_firstAct, .int v_t_firstHouse, .ref a_t_dues, .ref a_t_groups, .ref a_t_ways, .ref a_t_fit, .int v_t_fitMany, .ref a_t_byMany, .ref a_t_kept, .ref a_t_isKept, .int v_t_keptAt, .int v_t_isWriting])), (a_t_ways, .inl (cI, 2048, .inl (itD (B_X10_orders_17 g_t_relatives) 255 g_t_ways))), (a_t_relatives, .inl (cI, 8, .inl g_t_relatives))]) (by subst h11; rfl) hw
    replace hl : lv_has ls 4 [(0, .ref a_t), (1, .int p1), (2, .int z10)] := by subst h11; exact hl
    replace hok := Eq.mp (lt_c h11) hok
    refine lv_iload_n hx hb dX10_orders_102 rfl (lv_at hl 1 rfl) ?_
    refine lv_if_ne (tgt := 110) hx hb dX10_orders_103 (by decide) (fun c12 => ?_) (fun c12 => ?_)
    · replace hok := Eq.mp (if_neg c12) hok
      refine lv_iload_n hx hb dX10_orders_110 rfl (lv_at hl 2 rfl) ?_
      refine lv_if_ne (tgt := 119) hx hb dX10_orders_111 (by decide) (fun c13 => ?_) (fun c13 => ?_)
      · replace hok := Eq.mp (if_neg c13) hok
        refine lv_aload_n hx hb dX10_orders_119 rfl (lv_at hl 0 rfl) ?_
        obtain ⟨h14, hok⟩ := hok
        refine k_callV (As := []) (rest := []) (n := 0) (CC := RX10) (T := TX10) (N := 35) C hw (T_X10_leastOrder l D cI cZ a_t a_t_wealth a_t_given a_t_chart a_t_relatives a_t_sightSet a_t_sightMany a_t_digits a_t_pad a_t_act a_t_who a_t_whom a_t_much a_t_had a_t_dues a_t_groups a_t_ways a_t_fit a_t_byMany a_t_kept a_t_isKept v_t_inside v_t_next v_t_years v_t_sights v_t_padMany v_t_acts v_t_givenNow v_t_entered v_t_badAct v_t_badWhy v_t_firstAct v_t_firstHouse v_t_fitMany v_t_keptAt v_t_isWriting (itD (B_X10_orders_17 g_t_relatives) 255 g_t_ways) g_t_relatives h14) gX10_orders_X10_leastOrder rfl ⟨rfl, rfl⟩ (by decide +kernel) ⟨Nat.le_of_ble_eq_true rfl, Nat.le_of_ble_eq_true rfl⟩ 0 rfl rfl [0, 1, 2] rfl rfl [a_t, a_t_ways, a_t_relatives] rfl rfl rfl hl.1 rfl (Nat.le_of_ble_eq_true rfl) ⟨Nat.zero_le _, Nat.zero_le _⟩ dX10_orders_120 (fun H locs hw => ?_)
        obtain ⟨z15, h16⟩ : ∃ z, (f_X10_leastOrder (itD (B_X10_orders_17 g_t_relatives) 255 g_t_ways) g_t_relatives) = z := ⟨_, rfl⟩
        refine W.eq (g2 := F0 m 123 ls [.int z15]) (by subst h16; rfl) ?_
        replace hw := kW_cast (ws' := [(a_t, .inr (10, [.ref a_t_wealth, .ref a_t_given, .ref a_t_chart, .ref a_t_relatives, .int v_t_inside, .int v_t_next, .int v_t_years, .ref a_t_sightSet, .ref a_t_sightMany, .int v_t_sights, .ref a_t_digits, .ref a_t_pad, .int v_t_padMany, .ref a_t_act, .ref a_t_who, .ref a_t_whom, .ref a_t_much, .int v_t_acts, .int v_t_givenNow, .int v_t_entered, .ref a_t_had, .int v_t_badAct, .int v_t_badWhy, .int v_t_firstAct, .int v_t_firstHouse, .ref a_t_dues, .ref a_t_groups, .ref a_t_ways, .ref a_t_fit, .int v_t_fitMany, .ref a_t_byMany, .ref a_t_kept, .ref a_t_isKept, .int v_t_keptAt, .int v_t_isWriting])), (a_t_ways, .inl (cI, 2048, .inl (itD (B_X10_orders_17 g_t_relatives) 255 g_t_ways))), (a_t_relatives, .inl (cI, 8, .inl g_t_relatives))]) (by subst h16; rfl) hw
        rw [show f_X10_orders g_t_ways g_t_relatives p1 = (z15, (itD (B_X10_orders_17 g_t_relatives) 255 g_t_ways)) from by
            unfold f_X10_orders
            exact (if_neg c1).trans ((lt_c h11).trans ((if_neg c12).trans ((if_neg c13).trans ((lt_c h16).trans (rfl)))))]
        exact k_iret C hr hw dX10_orders_123
      · refine lv_bipush (v := (-6)) hx hb dX10_orders_114 (by decide) ?_
        refine lv_goto (tgt := 123) hx hb dX10_orders_116 (by decide) ?_
        rw [show f_X10_orders g_t_ways g_t_relatives p1 = ((-6), (itD (B_X10_orders_17 g_t_relatives) 255 g_t_ways)) from by
            unfold f_X10_orders
            exact (if_neg c1).trans ((lt_c h11).trans ((if_neg c12).trans ((if_pos c13).trans (rfl))))]
        exact k_iret C hr hw dX10_orders_123
    · refine lv_iload_n hx hb dX10_orders_106 rfl (lv_at hl 2 rfl) ?_
      refine lv_goto (tgt := 123) hx hb dX10_orders_107 (by decide) ?_
      rw [show f_X10_orders g_t_ways g_t_relatives p1 = (z10, (itD (B_X10_orders_17 g_t_relatives) 255 g_t_ways)) from by
          unfold f_X10_orders
          exact (if_neg c1).trans ((lt_c h11).trans ((if_pos c12).trans (rfl)))]
      exact k_iret C hr hw dX10_orders_123
  · refine lv_bipush (v := (-2)) hx hb dX10_orders_10 (by decide) ?_
    rw [show f_X10_orders g_t_ways g_t_relatives p1 = ((-2), g_t_ways) from by
        unfold f_X10_orders
        exact (if_pos c1).trans (rfl)]
    exact k_iret C hr hw dX10_orders_12

def B_X10_ring_56 (x2 : Int32) (j : Nat) (v : Int32) : Int32 := ((v + x2) - (v + x2) / (nI j) * (nI j))
def oB_X10_ring_56 (j : Nat) (v : Int32) : Prop := ((¬ (nI j) = 0) ∧ True)
set_option maxHeartbeats 4000000 in
set_option maxRecDepth 100000 in
theorem l_X10_ring_56 {p : Program} {l : Launch} {e : Env} {s : State} {m : MethodId} {args : Array Value} {below : List Frame} {meth : Method} {c : Code} {D : va_G} {cI cZ : ClassId} {Q : State → Prop} {A : Nat → Prop} (x1 : Int32) (x2 : Int32) (C : kC p s m args meth c cX10_ring 6 wsX10_ring RX10 D cI cZ A) (b : Nat) (hB : x1 = nI b) (hb31 : b < 2147483647) : ∀ (n j : Nat) (x4 : Int32), n = b + 1 - j → j < 2147483648 → itA oB_X10_ring_56 (B_X10_ring_56 x2) j n x4 → ∀ (H : Heap) (locs : List Loc), kW D A s H locs [] → ∀ (ls : Array Slot), lv_has ls 6 [(1, .int x1), (2, .int x2), (4, .int x4), (5, .int (nI j))] → (∀ (H : Heap) (locs : List Loc) (ls : Array Slot), kW D A s H locs [] → lv_has ls 6 [(4, .int (it (B_X10_ring_56 x2) j n x4))] → W p l e ({ frames := 1, cells := 0, slots := 0, locals := 25 }) s m args below meth c H locs 0 0 Q (F0 m 77 ls [])) → W p l e ({ frames := 1, cells := 0, slots := 0, locals := 25 }) s m args below meth c H locs 0 0 Q (F0 m 56 ls []) := by
  have hx := C.hx
  have hb := C.hb
  intro n
  induction n with
  | zero =>
    intro j x4 hn hj hok0 H locs hw ls hl kk
    refine lv_iload hx hb dX10_ring_56 (lv_at hl 3 rfl) ?_
    refine lv_iload_n hx hb dX10_ring_58 rfl (lv_at hl 0 rfl) ?_
    refine lv_icmp_gt (tgt := 77) hx hb dX10_ring_59 (by decide) (fun c7 => ?_) (fun c7 => by rw [hB] at c7; exact absurd (nI_lt (a := b) (b := j) (by omega) (by omega)) c7)
    exact kk _ _ _ hw (lv_sub hl [2] rfl)
  | succ n ih =>
    intro j x4 hn hj hok0 H locs hw ls hl kk
    have hok := hok0.1
    refine lv_iload hx hb dX10_ring_56 (lv_at hl 3 rfl) ?_
    refine lv_iload_n hx hb dX10_ring_58 rfl (lv_at hl 0 rfl) ?_
    refine lv_icmp_gt (tgt := 77) hx hb dX10_ring_59 (by decide) (fun c5 => by rw [hB] at c5; exact absurd c5 (nI_nlt (a := b) (b := j) (by omega) (by omega))) (fun c5 => ?_)
    refine lv_iload hx hb dX10_ring_62 (lv_at hl 2 rfl) ?_
    refine lv_iload_n hx hb dX10_ring_64 rfl (lv_at hl 1 rfl) ?_
    refine lv_iadd hx hb dX10_ring_65 ?_
    refine lv_iload hx hb dX10_ring_66 (lv_at hl 3 rfl) ?_
    obtain ⟨h6, hok⟩ := hok
    refine lv_irem hx hb dX10_ring_68 h6 ?_
    refine lv_istore (lv' := [(4, .int ((x4 + x2) - (x4 + x2) / (nI j) * (nI j))), (1, .int x1), (2, .int x2), (5, .int (nI j))]) hx hb dX10_ring_69 hl (by decide) rfl (fun ls hl => ?_)
    refine lv_iinc (v := (nI (j + 1))) (lv' := [(5, .int (nI (j + 1))), (4, .int ((x4 + x2) - (x4 + x2) / (nI j) * (nI j))), (1, .int x1), (2, .int x2)]) hx hb dX10_ring_71 hl (k := 3) rfl (nI_1 _) (by decide) rfl (fun ls hl => ?_)
    refine lv_goto (tgt := 56) hx hb dX10_ring_74 (by decide) ?_
    have hB : B_X10_ring_56 x2 j x4 = ((x4 + x2) - (x4 + x2) / (nI j) * (nI j)) := by
      unfold B_X10_ring_56
      exact rfl
    rw [it_c hB] at kk
    have hok2 := itA_c hB hok0
    exact ih (j + 1) ((x4 + x2) - (x4 + x2) / (nI j) * (nI j)) (by omega) (by omega) hok2 _ _ hw _ (lv_sub hl [2, 3, 1, 0] rfl) kk
def f_X10_ring (p1 : Int32) (p2 : Int32) (p3 : Int32) : Int32 := (if (f_X10_in ((p1).toInt64) (1 : Int64) (999 : Int64)) = 0 then (-2) else (if (f_X10_in ((p2).toInt64) (1 : Int64) (99 : Int64)) = 0 then (-2) else (if (f_X10_in ((p3).toInt64) (0 : Int64) (((p1 - 1)).toInt64)) = 0 then (-2) else (lt (it (B_X10_ring_56 p2) ((p1 - p3) + 1).toNatClampNeg ((p1.toNatClampNeg + 1) - ((p1 - p3) + 1).toNatClampNeg) ((p2 - 1) - (p2 - 1) / (p1 - p3) * (p1 - p3))) (fun z12 => z12)))))
def o_X10_ring (p1 : Int32) (p2 : Int32) (p3 : Int32) : Prop := (if (f_X10_in ((p1).toInt64) (1 : Int64) (999 : Int64)) = 0 then True else (if (f_X10_in ((p2).toInt64) (1 : Int64) (99 : Int64)) = 0 then True else (if (f_X10_in ((p3).toInt64) (0 : Int64) (((p1 - 1)).toInt64)) = 0 then True else ((¬ (p1 - p3) = 0) ∧ ((0 ≤ ((p1 - p3) + 1)) ∧ ((0 ≤ p1) ∧ ((p1.toNatClampNeg < 2147483647) ∧ ((itA oB_X10_ring_56 (B_X10_ring_56 p2) ((p1 - p3) + 1).toNatClampNeg ((p1.toNatClampNeg + 1) - ((p1 - p3) + 1).toNatClampNeg) ((p2 - 1) - (p2 - 1) / (p1 - p3) * (p1 - p3))) ∧ True))))))))
set_option maxHeartbeats 4000000 in
set_option maxRecDepth 100000 in
theorem T_X10_ring (l : Launch) (D : va_G) (cI cZ : ClassId) (a_t : Nat) (p1 : Int32) (p2 : Int32) (p3 : Int32) (hok : o_X10_ring p1 p2 p3) : CT l D cI cZ yX10_ring wsX10_ring ({ frames := 1, cells := 0, slots := 0, locals := 25 }) [.ref a_t, .int p1, .int p2, .int p3] [] (some (.int (f_X10_ring p1 p2 p3))) [] := by
  refine CT.intro RX10 (by decide) rfl (Nat.le_of_ble_eq_true rfl) rfl ?_
  intro p e s m below meth c C hr hw ls hl
  have hx := C.hx
  have hb := C.hb
  replace hl : lv_has ls 6 [(0, .ref a_t), (1, .int p1), (2, .int p2), (3, .int p3)] := hl
  refine lv_iload_n hx hb dX10_ring_0 rfl (lv_at hl 1 rfl) ?_
  refine lv_i2l (v := ((p1).toInt64)) hx hb dX10_ring_1 rfl ?_
  refine lv_lconst (v := 1) hx hb dX10_ring_2 (by decide) ?_
  refine lv_ldc2 (v := 999) hx hb C.hown (C.hts _ (List.mem_of_getElem? (i := 1) rfl)) dX10_ring_3 ?_
  refine k_callS (As := [.long ((p1).toInt64), .long 1, .long 999]) (rest := []) (n := 3) C hw (T_X10_in l D cI cZ ((p1).toInt64) (1 : Int64) (999 : Int64)) gX10_ring_X10_in rfl ⟨rfl, rfl⟩ (by decide +kernel) ⟨Nat.le_of_ble_eq_true rfl, Nat.le_of_ble_eq_true rfl⟩ [] rfl rfl [] rfl rfl rfl hl.1 rfl (Nat.le_of_ble_eq_true rfl) ⟨Nat.zero_le _, Nat.zero_le _⟩ dX10_ring_6 (fun H locs hw => ?_)
  refine W.eq (g2 := F0 m 9 ls [.int (f_X10_in ((p1).toInt64) (1 : Int64) (999 : Int64))]) rfl ?_
  replace hw : kW D _ s H locs [] := hw
  refine lv_if_eq (tgt := 37) hx hb dX10_ring_9 (by decide) (fun c1 => ?_) (fun c1 => ?_)
  · refine lv_bipush (v := (-2)) hx hb dX10_ring_37 (by decide) ?_
    rw [show f_X10_ring p1 p2 p3 = (-2) from by
        unfold f_X10_ring
        exact (if_pos c1).trans (rfl)]
    exact k_iret C hr hw dX10_ring_39
  · replace hok := Eq.mp (if_neg c1) hok
    refine lv_iload_n hx hb dX10_ring_12 rfl (lv_at hl 2 rfl) ?_
    refine lv_i2l (v := ((p2).toInt64)) hx hb dX10_ring_13 rfl ?_
    refine lv_lconst (v := 1) hx hb dX10_ring_14 (by decide) ?_
    refine lv_ldc2 (v := 99) hx hb C.hown (C.hts _ (List.mem_of_getElem? (i := 2) rfl)) dX10_ring_15 ?_
    refine k_callS (As := [.long ((p2).toInt64), .long 1, .long 99]) (rest := []) (n := 3) C hw (T_X10_in l D cI cZ ((p2).toInt64) (1 : Int64) (99 : Int64)) gX10_ring_X10_in rfl ⟨rfl, rfl⟩ (by decide +kernel) ⟨Nat.le_of_ble_eq_true rfl, Nat.le_of_ble_eq_true rfl⟩ [] rfl rfl [] rfl rfl rfl hl.1 rfl (Nat.le_of_ble_eq_true rfl) ⟨Nat.zero_le _, Nat.zero_le _⟩ dX10_ring_18 (fun H locs hw => ?_)
    refine W.eq (g2 := F0 m 21 ls [.int (f_X10_in ((p2).toInt64) (1 : Int64) (99 : Int64))]) rfl ?_
    replace hw : kW D _ s H locs [] := hw
    refine lv_if_eq (tgt := 37) hx hb dX10_ring_21 (by decide) (fun c2 => ?_) (fun c2 => ?_)
    · refine lv_bipush (v := (-2)) hx hb dX10_ring_37 (by decide) ?_
      rw [show f_X10_ring p1 p2 p3 = (-2) from by
          unfold f_X10_ring
          exact (if_neg c1).trans ((if_pos c2).trans (rfl))]
      exact k_iret C hr hw dX10_ring_39
    · replace hok := Eq.mp (if_neg c2) hok
      refine lv_iload_n hx hb dX10_ring_24 rfl (lv_at hl 3 rfl) ?_
      refine lv_i2l (v := ((p3).toInt64)) hx hb dX10_ring_25 rfl ?_
      refine lv_lconst (v := 0) hx hb dX10_ring_26 (by decide) ?_
      refine lv_iload_n hx hb dX10_ring_27 rfl (lv_at hl 1 rfl) ?_
      refine lv_iconst (v := 1) hx hb dX10_ring_28 (by decide) ?_
      refine lv_isub hx hb dX10_ring_29 ?_
      refine lv_i2l (v := (((p1 - 1)).toInt64)) hx hb dX10_ring_30 rfl ?_
      refine k_callS (As := [.long ((p3).toInt64), .long 0, .long (((p1 - 1)).toInt64)]) (rest := []) (n := 3) C hw (T_X10_in l D cI cZ ((p3).toInt64) (0 : Int64) (((p1 - 1)).toInt64)) gX10_ring_X10_in rfl ⟨rfl, rfl⟩ (by decide +kernel) ⟨Nat.le_of_ble_eq_true rfl, Nat.le_of_ble_eq_true rfl⟩ [] rfl rfl [] rfl rfl rfl hl.1 rfl (Nat.le_of_ble_eq_true rfl) ⟨Nat.zero_le _, Nat.zero_le _⟩ dX10_ring_31 (fun H locs hw => ?_)
      refine W.eq (g2 := F0 m 34 ls [.int (f_X10_in ((p3).toInt64) (0 : Int64) (((p1 - 1)).toInt64))]) rfl ?_
      replace hw : kW D _ s H locs [] := hw
      refine lv_if_ne (tgt := 40) hx hb dX10_ring_34 (by decide) (fun c3 => ?_) (fun c3 => ?_)
      · replace hok := Eq.mp (if_neg c3) hok
        refine lv_iload_n hx hb dX10_ring_40 rfl (lv_at hl 2 rfl) ?_
        refine lv_iconst (v := 1) hx hb dX10_ring_41 (by decide) ?_
        refine lv_isub hx hb dX10_ring_42 ?_
        refine lv_iload_n hx hb dX10_ring_43 rfl (lv_at hl 1 rfl) ?_
        refine lv_iload_n hx hb dX10_ring_44 rfl (lv_at hl 3 rfl) ?_
        refine lv_isub hx hb dX10_ring_45 ?_
        obtain ⟨h4, hok⟩ := hok
        refine lv_irem hx hb dX10_ring_46 h4 ?_
        refine lv_istore (lv' := [(4, .int ((p2 - 1) - (p2 - 1) / (p1 - p3) * (p1 - p3))), (0, .ref a_t), (1, .int p1), (2, .int p2), (3, .int p3)]) hx hb dX10_ring_47 hl (by decide) rfl (fun ls hl => ?_)
        refine lv_iload_n hx hb dX10_ring_49 rfl (lv_at hl 2 rfl) ?_
        refine lv_iload_n hx hb dX10_ring_50 rfl (lv_at hl 4 rfl) ?_
        refine lv_isub hx hb dX10_ring_51 ?_
        refine lv_iconst (v := 1) hx hb dX10_ring_52 (by decide) ?_
        refine lv_iadd hx hb dX10_ring_53 ?_
        refine lv_istore (lv' := [(5, .int ((p1 - p3) + 1)), (4, .int ((p2 - 1) - (p2 - 1) / (p1 - p3) * (p1 - p3))), (0, .ref a_t), (1, .int p1), (2, .int p2), (3, .int p3)]) hx hb dX10_ring_54 hl (by decide) rfl (fun ls hl => ?_)
        obtain ⟨h8, hok⟩ := hok
        obtain ⟨h9, hok⟩ := hok
        obtain ⟨h10, hok⟩ := hok
        obtain ⟨h11, hok⟩ := hok
        have hl2 : lv_has ls 6 [(1, .int p1), (2, .int p2), (4, .int ((p2 - 1) - (p2 - 1) / (p1 - p3) * (p1 - p3))), (5, .int (nI ((p1 - p3) + 1).toNatClampNeg))] := by
          rw [← nI_self h8]
          exact (lv_sub hl [3, 4, 1, 0] rfl)
        refine l_X10_ring_56  p1 p2 C p1.toNatClampNeg (nI_self h9) h10 ((p1.toNatClampNeg + 1) - ((p1 - p3) + 1).toNatClampNeg) ((p1 - p3) + 1).toNatClampNeg ((p2 - 1) - (p2 - 1) / (p1 - p3) * (p1 - p3)) rfl (by exact clamp_lt _) h11 _ _ hw _ hl2 (fun H locs ls hw hl => ?_)
        obtain ⟨z12, h13⟩ : ∃ z, (it (B_X10_ring_56 p2) ((p1 - p3) + 1).toNatClampNeg ((p1.toNatClampNeg + 1) - ((p1 - p3) + 1).toNatClampNeg) ((p2 - 1) - (p2 - 1) / (p1 - p3) * (p1 - p3))) = z := ⟨_, rfl⟩
        replace hw := kW_cast (ws' := []) (by subst h13; rfl) hw
        replace hl : lv_has ls 6 [(4, .int z12)] := by subst h13; exact hl
        refine lv_iload hx hb dX10_ring_77 (lv_at hl 0 rfl) ?_
        rw [show f_X10_ring p1 p2 p3 = z12 from by
            unfold f_X10_ring
            exact (if_neg c1).trans ((if_neg c2).trans ((if_neg c3).trans ((lt_c h13).trans (rfl))))]
        exact k_iret C hr hw dX10_ring_79
      · refine lv_bipush (v := (-2)) hx hb dX10_ring_37 (by decide) ?_
        rw [show f_X10_ring p1 p2 p3 = (-2) from by
            unfold f_X10_ring
            exact (if_neg c1).trans ((if_neg c2).trans ((if_pos c3).trans (rfl)))]
        exact k_iret C hr hw dX10_ring_39

theorem nX10_count_X10 : ∀ w ∈ wsX100, w ∈ wsX10_count := fun _ h => List.mem_cons_of_mem _ (List.mem_append_right _ h)
def f_X10_count (v_t_sights : Int32) (g_t_sightSet : (Nat → Int32)) (g_t_sightMany : (Nat → Int32)) (p1 : Int32) (p2 : Int32) : Int32 × Int32 × (Nat → Int32) × (Nat → Int32) := (if (f_X10_in ((p1).toInt64) (0 : Int64) (255 : Int64)) = 0 then ((-2), v_t_sights, g_t_sightSet, g_t_sightMany) else (if (f_X10_in ((p2).toInt64) (0 : Int64) (8 : Int64)) = 0 then ((-2), v_t_sights, g_t_sightSet, g_t_sightMany) else (if v_t_sights = 8 then ((-4), v_t_sights, g_t_sightSet, g_t_sightMany) else ((v_t_sights + 1), (v_t_sights + 1), (upd g_t_sightSet v_t_sights.toNatClampNeg p1), (upd g_t_sightMany v_t_sights.toNatClampNeg p2)))))
def o_X10_count (v_t_sights : Int32) (p1 : Int32) (p2 : Int32) : Prop := (if (f_X10_in ((p1).toInt64) (0 : Int64) (255 : Int64)) = 0 then True else (if (f_X10_in ((p2).toInt64) (0 : Int64) (8 : Int64)) = 0 then True else (if v_t_sights = 8 then True else ((vp_in v_t_sights 8) ∧ ((vp_in v_t_sights 8) ∧ True)))))
set_option maxHeartbeats 4000000 in
set_option maxRecDepth 100000 in
theorem T_X10_count (l : Launch) (D : va_G) (cI cZ : ClassId) (a_t a_t_wealth a_t_given a_t_chart a_t_relatives a_t_sightSet a_t_sightMany a_t_digits a_t_pad a_t_act a_t_who a_t_whom a_t_much a_t_had a_t_dues a_t_groups a_t_ways a_t_fit a_t_byMany a_t_kept a_t_isKept : Nat) (v_t_inside : Int32) (v_t_next : Int32) (v_t_years : Int32) (v_t_sights : Int32) (v_t_padMany : Int32) (v_t_acts : Int32) (v_t_givenNow : Int32) (v_t_entered : Int32) (v_t_badAct : Int32) (v_t_badWhy : Int32) (v_t_firstAct : Int32) (v_t_firstHouse : Int32) (v_t_fitMany : Int32) (v_t_keptAt : Int32) (v_t_isWriting : Int32) (g_t_sightSet : (Nat → Int32)) (g_t_sightMany : (Nat → Int32)) (p1 : Int32) (p2 : Int32) (hok : o_X10_count v_t_sights p1 p2) : CT l D cI cZ yX10_count wsX10_count ({ frames := 1, cells := 0, slots := 0, locals := 25 }) [.ref a_t, .int p1, .int p2] [(a_t, .inr (10, [.ref a_t_wealth, .ref a_t_given, .ref a_t_chart, .ref a_t_relatives, .int v_t_inside, .int v_t_next, .int v_t_years, .ref a_t_sightSet, .ref a_t_sightMany, .int v_t_sights, .ref a_t_digits, .ref a_t_pad, .int v_t_padMany, .ref a_t_act, .ref a_t_who, .ref a_t_whom, .ref a_t_much, .int v_t_acts, .int v_t_givenNow, .int v_t_entered, .ref a_t_had, .int v_t_badAct, .int v_t_badWhy, .int v_t_firstAct, .int v_t_firstHouse, .ref a_t_dues, .ref a_t_groups, .ref a_t_ways, .ref a_t_fit, .int v_t_fitMany, .ref a_t_byMany, .ref a_t_kept, .ref a_t_isKept, .int v_t_keptAt, .int v_t_isWriting])), (a_t_sightSet, .inl (cI, 8, .inl g_t_sightSet)), (a_t_sightMany, .inl (cI, 8, .inl g_t_sightMany))] (some (.int (f_X10_count v_t_sights g_t_sightSet g_t_sightMany p1 p2).1)) [(a_t, .inr (10, [.ref a_t_wealth, .ref a_t_given, .ref a_t_chart, .ref a_t_relatives, .int v_t_inside, .int v_t_next, .int v_t_years, .ref a_t_sightSet, .ref a_t_sightMany, .int (f_X10_count v_t_sights g_t_sightSet g_t_sightMany p1 p2).2.1, .ref a_t_digits, .ref a_t_pad, .int v_t_padMany, .ref a_t_act, .ref a_t_who, .ref a_t_whom, .ref a_t_much, .int v_t_acts, .int v_t_givenNow, .int v_t_entered, .ref a_t_had, .int v_t_badAct, .int v_t_badWhy, .int v_t_firstAct, .int v_t_firstHouse, .ref a_t_dues, .ref a_t_groups, .ref a_t_ways, .ref a_t_fit, .int v_t_fitMany, .ref a_t_byMany, .ref a_t_kept, .ref a_t_isKept, .int v_t_keptAt, .int v_t_isWriting])), (a_t_sightSet, .inl (cI, 8, .inl (f_X10_count v_t_sights g_t_sightSet g_t_sightMany p1 p2).2.2.1)), (a_t_sightMany, .inl (cI, 8, .inl (f_X10_count v_t_sights g_t_sightSet g_t_sightMany p1 p2).2.2.2))] := by
  refine CT.intro RX10 (by decide) rfl (Nat.le_of_ble_eq_true rfl) rfl ?_
  intro p e s m below meth c C hr hw ls hl
  have hx := C.hx
  have hb := C.hb
  replace hl : lv_has ls 3 [(0, .ref a_t), (1, .int p1), (2, .int p2)] := hl
  refine lv_iload_n hx hb dX10_count_0 rfl (lv_at hl 1 rfl) ?_
  refine lv_i2l (v := ((p1).toInt64)) hx hb dX10_count_1 rfl ?_
  refine lv_lconst (v := 0) hx hb dX10_count_2 (by decide) ?_
  refine lv_ldc2 (v := 255) hx hb C.hown (C.hts _ (List.mem_of_getElem? (i := 1) rfl)) dX10_count_3 ?_
  refine k_callS (As := [.long ((p1).toInt64), .long 0, .long 255]) (rest := []) (n := 3) C hw (T_X10_in l D cI cZ ((p1).toInt64) (0 : Int64) (255 : Int64)) gX10_count_X10_in rfl ⟨rfl, rfl⟩ (by decide +kernel) ⟨Nat.le_of_ble_eq_true rfl, Nat.le_of_ble_eq_true rfl⟩ [] rfl rfl [] rfl rfl rfl hl.1 rfl (Nat.le_of_ble_eq_true rfl) ⟨Nat.zero_le _, Nat.zero_le _⟩ dX10_count_6 (fun H locs hw => ?_)
  refine W.eq (g2 := F0 m 9 ls [.int (f_X10_in ((p1).toInt64) (0 : Int64) (255 : Int64))]) rfl ?_
  replace hw : kW D _ s H locs [(a_t, .inr (10, [.ref a_t_wealth, .ref a_t_given, .ref a_t_chart, .ref a_t_relatives, .int v_t_inside, .int v_t_next, .int v_t_years, .ref a_t_sightSet, .ref a_t_sightMany, .int v_t_sights, .ref a_t_digits, .ref a_t_pad, .int v_t_padMany, .ref a_t_act, .ref a_t_who, .ref a_t_whom, .ref a_t_much, .int v_t_acts, .int v_t_givenNow, .int v_t_entered, .ref a_t_had, .int v_t_badAct, .int v_t_badWhy, .int v_t_firstAct, .int v_t_firstHouse, .ref a_t_dues, .ref a_t_groups, .ref a_t_ways, .ref a_t_fit, .int v_t_fitMany, .ref a_t_byMany, .ref a_t_kept, .ref a_t_isKept, .int v_t_keptAt, .int v_t_isWriting])), (a_t_sightSet, .inl (cI, 8, .inl g_t_sightSet)), (a_t_sightMany, .inl (cI, 8, .inl g_t_sightMany))] := hw
  refine lv_if_eq (tgt := 24) hx hb dX10_count_9 (by decide) (fun c1 => ?_) (fun c1 => ?_)
  · refine lv_bipush (v := (-2)) hx hb dX10_count_24 (by decide) ?_
    rw [show f_X10_count v_t_sights g_t_sightSet g_t_sightMany p1 p2 = ((-2), v_t_sights, g_t_sightSet, g_t_sightMany) from by
        unfold f_X10_count
        exact (if_pos c1).trans (rfl)]
    exact k_iret C hr hw dX10_count_26
  · replace hok := Eq.mp (if_neg c1) hok
    refine lv_iload_n hx hb dX10_count_12 rfl (lv_at hl 2 rfl) ?_
    refine lv_i2l (v := ((p2).toInt64)) hx hb dX10_count_13 rfl ?_
    refine lv_lconst (v := 0) hx hb dX10_count_14 (by decide) ?_
    refine lv_ldc2 (v := 8) hx hb C.hown (C.hts _ (List.mem_of_getElem? (i := 2) rfl)) dX10_count_15 ?_
    refine k_callS (As := [.long ((p2).toInt64), .long 0, .long 8]) (rest := []) (n := 3) C hw (T_X10_in l D cI cZ ((p2).toInt64) (0 : Int64) (8 : Int64)) gX10_count_X10_in rfl ⟨rfl, rfl⟩ (by decide +kernel) ⟨Nat.le_of_ble_eq_true rfl, Nat.le_of_ble_eq_true rfl⟩ [] rfl rfl [] rfl rfl rfl hl.1 rfl (Nat.le_of_ble_eq_true rfl) ⟨Nat.zero_le _, Nat.zero_le _⟩ dX10_count_18 (fun H locs hw => ?_)
    refine W.eq (g2 := F0 m 21 ls [.int (f_X10_in ((p2).toInt64) (0 : Int64) (8 : Int64))]) rfl ?_
    replace hw : kW D _ s H locs [(a_t, .inr (10, [.ref a_t_wealth, .ref a_t_given, .ref a_t_chart, .ref a_t_relatives, .int v_t_inside, .int v_t_next, .int v_t_years, .ref a_t_sightSet, .ref a_t_sightMany, .int v_t_sights, .ref a_t_digits, .ref a_t_pad, .int v_t_padMany, .ref a_t_act, .ref a_t_who, .ref a_t_whom, .ref a_t_much, .int v_t_acts, .int v_t_givenNow, .int v_t_entered, .ref a_t_had, .int v_t_badAct, .int v_t_badWhy, .int v_t_firstAct, .int v_t_firstHouse, .ref a_t_dues, .ref a_t_groups, .ref a_t_ways, .ref a_t_fit, .int v_t_fitMany, .ref a_t_byMany, .ref a_t_kept, .ref a_t_isKept, .int v_t_keptAt, .int v_t_isWriting])), (a_t_sightSet, .inl (cI, 8, .inl g_t_sightSet)), (a_t_sightMany, .inl (cI, 8, .inl g_t_sightMany))] := hw
    refine lv_if_ne (tgt := 27) hx hb dX10_count_21 (by decide) (fun c2 => ?_) (fun c2 => ?_)
    · replace hok := Eq.mp (if_neg c2) hok
      refine lv_aload_n hx hb dX10_count_27 rfl (lv_at hl 0 rfl) ?_
      refine k_get C hw (CC := RX10) (T := TX10) (N := 35) nX10_count_X10 0 rfl rfl 9 (by decide) (List.mem_of_getElem? (i := 3) rfl) rfl rfl dX10_count_28 ?_
      refine lv_bipush (v := 8) hx hb dX10_count_31 (by decide) ?_
      refine lv_icmp_ne (tgt := 39) hx hb dX10_count_33 (by decide) (fun c3 => ?_) (fun c3 => ?_)
      · replace hok := Eq.mp (if_neg c3) hok
        refine lv_aload_n hx hb dX10_count_39 rfl (lv_at hl 0 rfl) ?_
        refine k_get C hw (CC := RX10) (T := TX10) (N := 35) nX10_count_X10 0 rfl rfl 7 (by decide) (List.mem_of_getElem? (i := 4) rfl) rfl rfl dX10_count_40 ?_
        refine lv_aload_n hx hb dX10_count_43 rfl (lv_at hl 0 rfl) ?_
        refine k_get C hw (CC := RX10) (T := TX10) (N := 35) nX10_count_X10 0 rfl rfl 9 (by decide) (List.mem_of_getElem? (i := 3) rfl) rfl rfl dX10_count_44 ?_
        refine lv_iload_n hx hb dX10_count_47 rfl (lv_at hl 1 rfl) ?_
        obtain ⟨h4, hok⟩ := hok
        refine k_iast C hw 1 rfl h4 dX10_count_48 (fun H locs hw => ?_)
        replace hw : kW D _ s H locs [(a_t, .inr (10, [.ref a_t_wealth, .ref a_t_given, .ref a_t_chart, .ref a_t_relatives, .int v_t_inside, .int v_t_next, .int v_t_years, .ref a_t_sightSet, .ref a_t_sightMany, .int v_t_sights, .ref a_t_digits, .ref a_t_pad, .int v_t_padMany, .ref a_t_act, .ref a_t_who, .ref a_t_whom, .ref a_t_much, .int v_t_acts, .int v_t_givenNow, .int v_t_entered, .ref a_t_had, .int v_t_badAct, .int v_t_badWhy, .int v_t_firstAct, .int v_t_firstHouse, .ref a_t_dues, .ref a_t_groups, .ref a_t_ways, .ref a_t_fit, .int v_t_fitMany, .ref a_t_byMany, .ref a_t_kept, .ref a_t_isKept, .int v_t_keptAt, .int v_t_isWriting])), (a_t_sightSet, .inl (cI, 8, .inl (upd g_t_sightSet v_t_sights.toNatClampNeg p1))), (a_t_sightMany, .inl (cI, 8, .inl g_t_sightMany))] := hw
        refine lv_aload_n hx hb dX10_count_49 rfl (lv_at hl 0 rfl) ?_
        refine k_get C hw (CC := RX10) (T := TX10) (N := 35) nX10_count_X10 0 rfl rfl 8 (by decide) (List.mem_of_getElem? (i := 5) rfl) rfl rfl dX10_count_50 ?_
        refine lv_aload_n hx hb dX10_count_53 rfl (lv_at hl 0 rfl) ?_
        refine k_get C hw (CC := RX10) (T := TX10) (N := 35) nX10_count_X10 0 rfl rfl 9 (by decide) (List.mem_of_getElem? (i := 3) rfl) rfl rfl dX10_count_54 ?_
        refine lv_iload_n hx hb dX10_count_57 rfl (lv_at hl 2 rfl) ?_
        obtain ⟨h5, hok⟩ := hok
        refine k_iast C hw 2 rfl h5 dX10_count_58 (fun H locs hw => ?_)
        replace hw : kW D _ s H locs [(a_t, .inr (10, [.ref a_t_wealth, .ref a_t_given, .ref a_t_chart, .ref a_t_relatives, .int v_t_inside, .int v_t_next, .int v_t_years, .ref a_t_sightSet, .ref a_t_sightMany, .int v_t_sights, .ref a_t_digits, .ref a_t_pad, .int v_t_padMany, .ref a_t_act, .ref a_t_who, .ref a_t_whom, .ref a_t_much, .int v_t_acts, .int v_t_givenNow, .int v_t_entered, .ref a_t_had, .int v_t_badAct, .int v_t_badWhy, .int v_t_firstAct, .int v_t_firstHouse, .ref a_t_dues, .ref a_t_groups, .ref a_t_ways, .ref a_t_fit, .int v_t_fitMany, .ref a_t_byMany, .ref a_t_kept, .ref a_t_isKept, .int v_t_keptAt, .int v_t_isWriting])), (a_t_sightSet, .inl (cI, 8, .inl (upd g_t_sightSet v_t_sights.toNatClampNeg p1))), (a_t_sightMany, .inl (cI, 8, .inl (upd g_t_sightMany v_t_sights.toNatClampNeg p2)))] := hw
        refine lv_aload_n hx hb dX10_count_59 rfl (lv_at hl 0 rfl) ?_
        refine lv_dup hx hb dX10_count_60 rfl ?_
        refine k_get C hw (CC := RX10) (T := TX10) (N := 35) nX10_count_X10 0 rfl rfl 9 (by decide) (List.mem_of_getElem? (i := 3) rfl) rfl rfl dX10_count_61 ?_
        refine lv_iconst (v := 1) hx hb dX10_count_64 (by decide) ?_
        refine lv_iadd hx hb dX10_count_65 ?_
        refine k_put C hw (CC := RX10) (T := TX10) (N := 35) (v := .int (v_t_sights + 1)) nX10_count_X10 tyX10_ok nmX10 0 rfl rfl 9 (by decide) (List.mem_of_getElem? (i := 3) rfl) rfl rfl rfl rfl (Nat.le_of_ble_eq_true rfl) dX10_count_66 (fun H locs hw => ?_)
        replace hw : kW D _ s H locs [(a_t, .inr (10, [.ref a_t_wealth, .ref a_t_given, .ref a_t_chart, .ref a_t_relatives, .int v_t_inside, .int v_t_next, .int v_t_years, .ref a_t_sightSet, .ref a_t_sightMany, .int (v_t_sights + 1), .ref a_t_digits, .ref a_t_pad, .int v_t_padMany, .ref a_t_act, .ref a_t_who, .ref a_t_whom, .ref a_t_much, .int v_t_acts, .int v_t_givenNow, .int v_t_entered, .ref a_t_had, .int v_t_badAct, .int v_t_badWhy, .int v_t_firstAct, .int v_t_firstHouse, .ref a_t_dues, .ref a_t_groups, .ref a_t_ways, .ref a_t_fit, .int v_t_fitMany, .ref a_t_byMany, .ref a_t_kept, .ref a_t_isKept, .int v_t_keptAt, .int v_t_isWriting])), (a_t_sightSet, .inl (cI, 8, .inl (upd g_t_sightSet v_t_sights.toNatClampNeg p1))), (a_t_sightMany, .inl (cI, 8, .inl (upd g_t_sightMany v_t_sights.toNatClampNeg p2)))] := hw
        refine lv_aload_n hx hb dX10_count_69 rfl (lv_at hl 0 rfl) ?_
        refine k_get C hw (CC := RX10) (T := TX10) (N := 35) nX10_count_X10 0 rfl rfl 9 (by decide) (List.mem_of_getElem? (i := 3) rfl) rfl rfl dX10_count_70 ?_
        rw [show f_X10_count v_t_sights g_t_sightSet g_t_sightMany p1 p2 = ((v_t_sights + 1), (v_t_sights + 1), (upd g_t_sightSet v_t_sights.toNatClampNeg p1), (upd g_t_sightMany v_t_sights.toNatClampNeg p2)) from by
            unfold f_X10_count
            exact (if_neg c1).trans ((if_neg c2).trans ((if_neg c3).trans (rfl)))]
        exact k_iret C hr hw dX10_count_73
      · refine lv_bipush (v := (-4)) hx hb dX10_count_36 (by decide) ?_
        rw [show f_X10_count v_t_sights g_t_sightSet g_t_sightMany p1 p2 = ((-4), v_t_sights, g_t_sightSet, g_t_sightMany) from by
            unfold f_X10_count
            exact (if_neg c1).trans ((if_neg c2).trans ((if_pos c3).trans (rfl)))]
        exact k_iret C hr hw dX10_count_38
    · refine lv_bipush (v := (-2)) hx hb dX10_count_24 (by decide) ?_
      rw [show f_X10_count v_t_sights g_t_sightSet g_t_sightMany p1 p2 = ((-2), v_t_sights, g_t_sightSet, g_t_sightMany) from by
          unfold f_X10_count
          exact (if_neg c1).trans ((if_pos c2).trans (rfl))]
      exact k_iret C hr hw dX10_count_26

theorem nX10_forget_X10 : ∀ w ∈ wsX100, w ∈ wsX10_forget := fun _ h => List.mem_cons_of_mem _ (List.mem_append_right _ h)
def f_X10_forget (v_t_sights : Int32) : Int32 × Int32 := (v_t_sights, 0)
set_option maxHeartbeats 4000000 in
set_option maxRecDepth 100000 in
theorem T_X10_forget (l : Launch) (D : va_G) (cI cZ : ClassId) (a_t a_t_wealth a_t_given a_t_chart a_t_relatives a_t_sightSet a_t_sightMany a_t_digits a_t_pad a_t_act a_t_who a_t_whom a_t_much a_t_had a_t_dues a_t_groups a_t_ways a_t_fit a_t_byMany a_t_kept a_t_isKept : Nat) (v_t_inside : Int32) (v_t_next : Int32) (v_t_years : Int32) (v_t_sights : Int32) (v_t_padMany : Int32) (v_t_acts : Int32) (v_t_givenNow : Int32) (v_t_entered : Int32) (v_t_badAct : Int32) (v_t_badWhy : Int32) (v_t_firstAct : Int32) (v_t_firstHouse : Int32) (v_t_fitMany : Int32) (v_t_keptAt : Int32) (v_t_isWriting : Int32) : CT l D cI cZ yX10_forget wsX10_forget ({ frames := 0, cells := 0, slots := 0, locals := 0 }) [.ref a_t] [(a_t, .inr (10, [.ref a_t_wealth, .ref a_t_given, .ref a_t_chart, .ref a_t_relatives, .int v_t_inside, .int v_t_next, .int v_t_years, .ref a_t_sightSet, .ref a_t_sightMany, .int v_t_sights, .ref a_t_digits, .ref a_t_pad, .int v_t_padMany, .ref a_t_act, .ref a_t_who, .ref a_t_whom, .ref a_t_much, .int v_t_acts, .int v_t_givenNow, .int v_t_entered, .ref a_t_had, .int v_t_badAct, .int v_t_badWhy, .int v_t_firstAct, .int v_t_firstHouse, .ref a_t_dues, .ref a_t_groups, .ref a_t_ways, .ref a_t_fit, .int v_t_fitMany, .ref a_t_byMany, .ref a_t_kept, .ref a_t_isKept, .int v_t_keptAt, .int v_t_isWriting]))] (some (.int (f_X10_forget v_t_sights).1)) [(a_t, .inr (10, [.ref a_t_wealth, .ref a_t_given, .ref a_t_chart, .ref a_t_relatives, .int v_t_inside, .int v_t_next, .int v_t_years, .ref a_t_sightSet, .ref a_t_sightMany, .int (f_X10_forget v_t_sights).2, .ref a_t_digits, .ref a_t_pad, .int v_t_padMany, .ref a_t_act, .ref a_t_who, .ref a_t_whom, .ref a_t_much, .int v_t_acts, .int v_t_givenNow, .int v_t_entered, .ref a_t_had, .int v_t_badAct, .int v_t_badWhy, .int v_t_firstAct, .int v_t_firstHouse, .ref a_t_dues, .ref a_t_groups, .ref a_t_ways, .ref a_t_fit, .int v_t_fitMany, .ref a_t_byMany, .ref a_t_kept, .ref a_t_isKept, .int v_t_keptAt, .int v_t_isWriting]))] := by
  refine CT.intro RX10 (by decide) rfl (Nat.le_of_ble_eq_true rfl) rfl ?_
  intro p e s m below meth c C hr hw ls hl
  have hx := C.hx
  have hb := C.hb
  replace hl : lv_has ls 2 [(0, .ref a_t)] := hl
  refine lv_aload_n hx hb dX10_forget_0 rfl (lv_at hl 0 rfl) ?_
  refine k_get C hw (CC := RX10) (T := TX10) (N := 35) nX10_forget_X10 0 rfl rfl 9 (by decide) (List.mem_of_getElem? (i := 1) rfl) rfl rfl dX10_forget_1 ?_
  refine lv_istore_n (lv' := [(1, .int v_t_sights), (0, .ref a_t)]) hx hb dX10_forget_4 rfl hl (by decide) rfl (fun ls hl => ?_)
  refine lv_aload_n hx hb dX10_forget_5 rfl (lv_at hl 1 rfl) ?_
  refine lv_iconst (v := 0) hx hb dX10_forget_6 (by decide) ?_
  refine k_put C hw (CC := RX10) (T := TX10) (N := 35) (v := .int 0) nX10_forget_X10 tyX10_ok nmX10 0 rfl rfl 9 (by decide) (List.mem_of_getElem? (i := 1) rfl) rfl rfl rfl rfl (Nat.le_of_ble_eq_true rfl) dX10_forget_7 (fun H locs hw => ?_)
  replace hw : kW D _ s H locs [(a_t, .inr (10, [.ref a_t_wealth, .ref a_t_given, .ref a_t_chart, .ref a_t_relatives, .int v_t_inside, .int v_t_next, .int v_t_years, .ref a_t_sightSet, .ref a_t_sightMany, .int 0, .ref a_t_digits, .ref a_t_pad, .int v_t_padMany, .ref a_t_act, .ref a_t_who, .ref a_t_whom, .ref a_t_much, .int v_t_acts, .int v_t_givenNow, .int v_t_entered, .ref a_t_had, .int v_t_badAct, .int v_t_badWhy, .int v_t_firstAct, .int v_t_firstHouse, .ref a_t_dues, .ref a_t_groups, .ref a_t_ways, .ref a_t_fit, .int v_t_fitMany, .ref a_t_byMany, .ref a_t_kept, .ref a_t_isKept, .int v_t_keptAt, .int v_t_isWriting]))] := hw
  refine lv_iload_n hx hb dX10_forget_10 rfl (lv_at hl 0 rfl) ?_
  rw [show f_X10_forget v_t_sights = (v_t_sights, 0) from by
      unfold f_X10_forget
      exact rfl]
  exact k_iret C hr hw dX10_forget_11

theorem nX10_isFit_X10 : ∀ w ∈ wsX100, w ∈ wsX10_isFit := fun _ h => List.mem_cons_of_mem _ (List.mem_append_right _ h)
def B_X10_isFit_4 (x1 : Int32) (g_t_sightSet : (Nat → Int32)) (g_t_sightMany : (Nat → Int32)) (j : Nat) (v : Int32) : Int32 := (if v = 0 then 0 else (if (f_X10_ones (x1 &&& (g_t_sightSet j))) = (g_t_sightMany j) then 1 else 0))
def oB_X10_isFit_4 (x1 : Int32) (g_t_sightSet : (Nat → Int32)) (j : Nat) (v : Int32) : Prop := (if v = 0 then True else ((j < 8) ∧ ((o_X10_ones (x1 &&& (g_t_sightSet j))) ∧ ((j < 8) ∧ True))))
set_option maxHeartbeats 4000000 in
set_option maxRecDepth 100000 in
theorem l_X10_isFit_4 {p : Program} {l : Launch} {e : Env} {s : State} {m : MethodId} {args : Array Value} {below : List Frame} {meth : Method} {c : Code} {D : va_G} {cI cZ : ClassId} {Q : State → Prop} {A : Nat → Prop} (a_t a_t_wealth a_t_given a_t_chart a_t_relatives a_t_sightSet a_t_sightMany a_t_digits a_t_pad a_t_act a_t_who a_t_whom a_t_much a_t_had a_t_dues a_t_groups a_t_ways a_t_fit a_t_byMany a_t_kept a_t_isKept : Nat) (x1 : Int32) (v_t_inside : Int32) (v_t_next : Int32) (v_t_years : Int32) (v_t_sights : Int32) (v_t_padMany : Int32) (v_t_acts : Int32) (v_t_givenNow : Int32) (v_t_entered : Int32) (v_t_badAct : Int32) (v_t_badWhy : Int32) (v_t_firstAct : Int32) (v_t_firstHouse : Int32) (v_t_fitMany : Int32) (v_t_keptAt : Int32) (v_t_isWriting : Int32) (g_t_sightSet : (Nat → Int32)) (g_t_sightMany : (Nat → Int32)) (C : kC p s m args meth c cX10_isFit 4 wsX10_isFit RX10 D cI cZ A) (b : Nat) (hB : v_t_sights = nI b) (hb31 : b < 2147483648) : ∀ (n j : Nat) (x2 : Int32), n = b - j → j < 2147483648 → itA (oB_X10_isFit_4 x1 g_t_sightSet) (B_X10_isFit_4 x1 g_t_sightSet g_t_sightMany) j n x2 → ∀ (H : Heap) (locs : List Loc), kW D A s H locs [(a_t, .inr (10, [.ref a_t_wealth, .ref a_t_given, .ref a_t_chart, .ref a_t_relatives, .int v_t_inside, .int v_t_next, .int v_t_years, .ref a_t_sightSet, .ref a_t_sightMany, .int v_t_sights, .ref a_t_digits, .ref a_t_pad, .int v_t_padMany, .ref a_t_act, .ref a_t_who, .ref a_t_whom, .ref a_t_much, .int v_t_acts, .int v_t_givenNow, .int v_t_entered, .ref a_t_had, .int v_t_badAct, .int v_t_badWhy, .int v_t_firstAct, .int v_t_firstHouse, .ref a_t_dues, .ref a_t_groups, .ref a_t_ways, .ref a_t_fit, .int v_t_fitMany, .ref a_t_byMany, .ref a_t_kept, .ref a_t_isKept, .int v_t_keptAt, .int v_t_isWriting])), (a_t_sightSet, .inl (cI, 8, .inl g_t_sightSet)), (a_t_sightMany, .inl (cI, 8, .inl g_t_sightMany))] → ∀ (ls : Array Slot), lv_has ls 4 [(0, .ref a_t), (1, .int x1), (2, .int x2), (3, .int (nI j))] → (∀ (H : Heap) (locs : List Loc) (ls : Array Slot), kW D A s H locs [(a_t, .inr (10, [.ref a_t_wealth, .ref a_t_given, .ref a_t_chart, .ref a_t_relatives, .int v_t_inside, .int v_t_next, .int v_t_years, .ref a_t_sightSet, .ref a_t_sightMany, .int v_t_sights, .ref a_t_digits, .ref a_t_pad, .int v_t_padMany, .ref a_t_act, .ref a_t_who, .ref a_t_whom, .ref a_t_much, .int v_t_acts, .int v_t_givenNow, .int v_t_entered, .ref a_t_had, .int v_t_badAct, .int v_t_badWhy, .int v_t_firstAct, .int v_t_firstHouse, .ref a_t_dues, .ref a_t_groups, .ref a_t_ways, .ref a_t_fit, .int v_t_fitMany, .ref a_t_byMany, .ref a_t_kept, .ref a_t_isKept, .int v_t_keptAt, .int v_t_isWriting])), (a_t_sightSet, .inl (cI, 8, .inl g_t_sightSet)), (a_t_sightMany, .inl (cI, 8, .inl g_t_sightMany))] → lv_has ls 4 [(2, .int (it (B_X10_isFit_4 x1 g_t_sightSet g_t_sightMany) j n x2))] → W p l e ({ frames := 1, cells := 0, slots := 0, locals := 22 }) s m args below meth c H locs 0 0 Q (F0 m 48 ls [])) → W p l e ({ frames := 1, cells := 0, slots := 0, locals := 22 }) s m args below meth c H locs 0 0 Q (F0 m 4 ls []) := by
  have hx := C.hx
  have hb := C.hb
  intro n
  induction n with
  | zero =>
    intro j x2 hn hj hok0 H locs hw ls hl kk
    refine lv_iload_n hx hb dX10_isFit_4 rfl (lv_at hl 3 rfl) ?_
    refine lv_aload_n hx hb dX10_isFit_5 rfl (lv_at hl 0 rfl) ?_
    refine k_get C hw (CC := RX10) (T := TX10) (N := 35) nX10_isFit_X10 0 rfl rfl 9 (by decide) (List.mem_of_getElem? (i := 1) rfl) rfl rfl dX10_isFit_6 ?_
    refine lv_icmp_ge (tgt := 48) hx hb dX10_isFit_9 (by decide) (fun c7 => ?_) (fun c7 => by rw [hB] at c7; exact absurd (nI_le (a := b) (b := j) (by omega) (by omega)) c7)
    exact kk _ _ _ hw (lv_sub hl [2] rfl)
  | succ n ih =>
    intro j x2 hn hj hok0 H locs hw ls hl kk
    have hok := hok0.1
    refine lv_iload_n hx hb dX10_isFit_4 rfl (lv_at hl 3 rfl) ?_
    refine lv_aload_n hx hb dX10_isFit_5 rfl (lv_at hl 0 rfl) ?_
    refine k_get C hw (CC := RX10) (T := TX10) (N := 35) nX10_isFit_X10 0 rfl rfl 9 (by decide) (List.mem_of_getElem? (i := 1) rfl) rfl rfl dX10_isFit_6 ?_
    refine lv_icmp_ge (tgt := 48) hx hb dX10_isFit_9 (by decide) (fun c1 => by rw [hB] at c1; exact absurd c1 (nI_ge (a := j) (b := b) (by omega) (by omega))) (fun c1 => ?_)
    refine lv_iload_n hx hb dX10_isFit_12 rfl (lv_at hl 2 rfl) ?_
    refine lv_if_eq (tgt := 40) hx hb dX10_isFit_13 (by decide) (fun c2 => ?_) (fun c2 => ?_)
    · refine lv_iconst (v := 0) hx hb dX10_isFit_40 (by decide) ?_
      refine lv_istore_n (lv' := [(2, .int 0), (0, .ref a_t), (1, .int x1), (3, .int (nI j))]) hx hb dX10_isFit_41 rfl hl (by decide) rfl (fun ls hl => ?_)
      refine lv_iinc (v := (nI (j + 1))) (lv' := [(3, .int (nI (j + 1))), (2, .int 0), (0, .ref a_t), (1, .int x1)]) hx hb dX10_isFit_42 hl (k := 3) rfl (nI_1 _) (by decide) rfl (fun ls hl => ?_)
      refine lv_goto (tgt := 4) hx hb dX10_isFit_45 (by decide) ?_
      have hB : B_X10_isFit_4 x1 g_t_sightSet g_t_sightMany j x2 = 0 := by
        unfold B_X10_isFit_4
        exact (if_pos c2).trans (rfl)
      rw [it_c hB] at kk
      have hok2 := itA_c hB hok0
      exact ih (j + 1) 0 (by omega) (by omega) hok2 _ _ hw _ (lv_sub hl [2, 3, 1, 0] rfl) kk
    · replace hok := Eq.mp (if_neg c2) hok
      refine lv_iload_n hx hb dX10_isFit_16 rfl (lv_at hl 1 rfl) ?_
      refine lv_aload_n hx hb dX10_isFit_17 rfl (lv_at hl 0 rfl) ?_
      refine k_get C hw (CC := RX10) (T := TX10) (N := 35) nX10_isFit_X10 0 rfl rfl 7 (by decide) (List.mem_of_getElem? (i := 2) rfl) rfl rfl dX10_isFit_18 ?_
      refine lv_iload_n hx hb dX10_isFit_21 rfl (lv_at hl 3 rfl) ?_
      obtain ⟨h3, hok⟩ := hok
      refine k_ialdN C hw 1 rfl j rfl h3 (by decide) dX10_isFit_22 ?_
      refine lv_iand hx hb dX10_isFit_23 ?_
      obtain ⟨h4, hok⟩ := hok
      refine k_callS (As := [.int (x1 &&& (g_t_sightSet j))]) (rest := []) (n := 1) C hw (T_X10_ones l D cI cZ (x1 &&& (g_t_sightSet j)) h4) gX10_isFit_X10_ones rfl ⟨rfl, rfl⟩ (by decide +kernel) ⟨Nat.le_of_ble_eq_true rfl, Nat.le_of_ble_eq_true rfl⟩ [] rfl rfl [] rfl rfl rfl hl.1 rfl (Nat.le_of_ble_eq_true rfl) ⟨Nat.zero_le _, Nat.zero_le _⟩ dX10_isFit_24 (fun H locs hw => ?_)
      refine W.eq (g2 := F0 m 27 ls [.int (f_X10_ones (x1 &&& (g_t_sightSet j)))]) rfl ?_
      replace hw : kW D _ s H locs [(a_t, .inr (10, [.ref a_t_wealth, .ref a_t_given, .ref a_t_chart, .ref a_t_relatives, .int v_t_inside, .int v_t_next, .int v_t_years, .ref a_t_sightSet, .ref a_t_sightMany, .int v_t_sights, .ref a_t_digits, .ref a_t_pad, .int v_t_padMany, .ref a_t_act, .ref a_t_who, .ref a_t_whom, .ref a_t_much, .int v_t_acts, .int v_t_givenNow, .int v_t_entered, .ref a_t_had, .int v_t_badAct, .int v_t_badWhy, .int v_t_firstAct, .int v_t_firstHouse, .ref a_t_dues, .ref a_t_groups, .ref a_t_ways, .ref a_t_fit, .int v_t_fitMany, .ref a_t_byMany, .ref a_t_kept, .ref a_t_isKept, .int v_t_keptAt, .int v_t_isWriting])), (a_t_sightSet, .inl (cI, 8, .inl g_t_sightSet)), (a_t_sightMany, .inl (cI, 8, .inl g_t_sightMany))] := hw
      refine lv_aload_n hx hb dX10_isFit_27 rfl (lv_at hl 0 rfl) ?_
      refine k_get C hw (CC := RX10) (T := TX10) (N := 35) nX10_isFit_X10 0 rfl rfl 8 (by decide) (List.mem_of_getElem? (i := 3) rfl) rfl rfl dX10_isFit_28 ?_
      refine lv_iload_n hx hb dX10_isFit_31 rfl (lv_at hl 3 rfl) ?_
      obtain ⟨h5, hok⟩ := hok
      refine k_ialdN C hw 2 rfl j rfl h5 (by decide) dX10_isFit_32 ?_
      refine lv_icmp_ne (tgt := 40) hx hb dX10_isFit_33 (by decide) (fun c6 => ?_) (fun c6 => ?_)
      · refine lv_iconst (v := 0) hx hb dX10_isFit_40 (by decide) ?_
        refine lv_istore_n (lv' := [(2, .int 0), (0, .ref a_t), (1, .int x1), (3, .int (nI j))]) hx hb dX10_isFit_41 rfl hl (by decide) rfl (fun ls hl => ?_)
        refine lv_iinc (v := (nI (j + 1))) (lv' := [(3, .int (nI (j + 1))), (2, .int 0), (0, .ref a_t), (1, .int x1)]) hx hb dX10_isFit_42 hl (k := 3) rfl (nI_1 _) (by decide) rfl (fun ls hl => ?_)
        refine lv_goto (tgt := 4) hx hb dX10_isFit_45 (by decide) ?_
        have hB : B_X10_isFit_4 x1 g_t_sightSet g_t_sightMany j x2 = 0 := by
          unfold B_X10_isFit_4
          exact (if_neg c2).trans ((if_neg c6).trans (rfl))
        rw [it_c hB] at kk
        have hok2 := itA_c hB hok0
        exact ih (j + 1) 0 (by omega) (by omega) hok2 _ _ hw _ (lv_sub hl [2, 3, 1, 0] rfl) kk
      · refine lv_iconst (v := 1) hx hb dX10_isFit_36 (by decide) ?_
        refine lv_goto (tgt := 41) hx hb dX10_isFit_37 (by decide) ?_
        refine lv_istore_n (lv' := [(2, .int 1), (0, .ref a_t), (1, .int x1), (3, .int (nI j))]) hx hb dX10_isFit_41 rfl hl (by decide) rfl (fun ls hl => ?_)
        refine lv_iinc (v := (nI (j + 1))) (lv' := [(3, .int (nI (j + 1))), (2, .int 1), (0, .ref a_t), (1, .int x1)]) hx hb dX10_isFit_42 hl (k := 3) rfl (nI_1 _) (by decide) rfl (fun ls hl => ?_)
        refine lv_goto (tgt := 4) hx hb dX10_isFit_45 (by decide) ?_
        have hB : B_X10_isFit_4 x1 g_t_sightSet g_t_sightMany j x2 = 1 := by
          unfold B_X10_isFit_4
          exact (if_neg c2).trans ((if_pos c6).trans (rfl))
        rw [it_c hB] at kk
        have hok2 := itA_c hB hok0
        exact ih (j + 1) 1 (by omega) (by omega) hok2 _ _ hw _ (lv_sub hl [2, 3, 1, 0] rfl) kk
def f_X10_isFit (v_t_sights : Int32) (g_t_sightSet : (Nat → Int32)) (g_t_sightMany : (Nat → Int32)) (p1 : Int32) : Int32 := (lt (it (B_X10_isFit_4 p1 g_t_sightSet g_t_sightMany) 0 ((v_t_sights.toNatClampNeg) - 0) (1 : Int32)) (fun z10 => z10))
def o_X10_isFit (v_t_sights : Int32) (g_t_sightSet : (Nat → Int32)) (g_t_sightMany : (Nat → Int32)) (p1 : Int32) : Prop := ((0 ≤ v_t_sights) ∧ ((itA (oB_X10_isFit_4 p1 g_t_sightSet) (B_X10_isFit_4 p1 g_t_sightSet g_t_sightMany) 0 ((v_t_sights.toNatClampNeg) - 0) (1 : Int32)) ∧ (lt (it (B_X10_isFit_4 p1 g_t_sightSet g_t_sightMany) 0 ((v_t_sights.toNatClampNeg) - 0) (1 : Int32)) (fun z10 => ((narrow .boolean (.int z10) = .int z10) ∧ True)))))
set_option maxHeartbeats 4000000 in
set_option maxRecDepth 100000 in
theorem T_X10_isFit (l : Launch) (D : va_G) (cI cZ : ClassId) (a_t a_t_wealth a_t_given a_t_chart a_t_relatives a_t_sightSet a_t_sightMany a_t_digits a_t_pad a_t_act a_t_who a_t_whom a_t_much a_t_had a_t_dues a_t_groups a_t_ways a_t_fit a_t_byMany a_t_kept a_t_isKept : Nat) (v_t_inside : Int32) (v_t_next : Int32) (v_t_years : Int32) (v_t_sights : Int32) (v_t_padMany : Int32) (v_t_acts : Int32) (v_t_givenNow : Int32) (v_t_entered : Int32) (v_t_badAct : Int32) (v_t_badWhy : Int32) (v_t_firstAct : Int32) (v_t_firstHouse : Int32) (v_t_fitMany : Int32) (v_t_keptAt : Int32) (v_t_isWriting : Int32) (g_t_sightSet : (Nat → Int32)) (g_t_sightMany : (Nat → Int32)) (p1 : Int32) (hok : o_X10_isFit v_t_sights g_t_sightSet g_t_sightMany p1) : CT l D cI cZ yX10_isFit wsX10_isFit ({ frames := 1, cells := 0, slots := 0, locals := 22 }) [.ref a_t, .int p1] [(a_t, .inr (10, [.ref a_t_wealth, .ref a_t_given, .ref a_t_chart, .ref a_t_relatives, .int v_t_inside, .int v_t_next, .int v_t_years, .ref a_t_sightSet, .ref a_t_sightMany, .int v_t_sights, .ref a_t_digits, .ref a_t_pad, .int v_t_padMany, .ref a_t_act, .ref a_t_who, .ref a_t_whom, .ref a_t_much, .int v_t_acts, .int v_t_givenNow, .int v_t_entered, .ref a_t_had, .int v_t_badAct, .int v_t_badWhy, .int v_t_firstAct, .int v_t_firstHouse, .ref a_t_dues, .ref a_t_groups, .ref a_t_ways, .ref a_t_fit, .int v_t_fitMany, .ref a_t_byMany, .ref a_t_kept, .ref a_t_isKept, .int v_t_keptAt, .int v_t_isWriting])), (a_t_sightSet, .inl (cI, 8, .inl g_t_sightSet)), (a_t_sightMany, .inl (cI, 8, .inl g_t_sightMany))] (some (.int (f_X10_isFit v_t_sights g_t_sightSet g_t_sightMany p1))) [(a_t, .inr (10, [.ref a_t_wealth, .ref a_t_given, .ref a_t_chart, .ref a_t_relatives, .int v_t_inside, .int v_t_next, .int v_t_years, .ref a_t_sightSet, .ref a_t_sightMany, .int v_t_sights, .ref a_t_digits, .ref a_t_pad, .int v_t_padMany, .ref a_t_act, .ref a_t_who, .ref a_t_whom, .ref a_t_much, .int v_t_acts, .int v_t_givenNow, .int v_t_entered, .ref a_t_had, .int v_t_badAct, .int v_t_badWhy, .int v_t_firstAct, .int v_t_firstHouse, .ref a_t_dues, .ref a_t_groups, .ref a_t_ways, .ref a_t_fit, .int v_t_fitMany, .ref a_t_byMany, .ref a_t_kept, .ref a_t_isKept, .int v_t_keptAt, .int v_t_isWriting])), (a_t_sightSet, .inl (cI, 8, .inl g_t_sightSet)), (a_t_sightMany, .inl (cI, 8, .inl g_t_sightMany))] := by
  refine CT.intro RX10 (by decide) rfl (Nat.le_of_ble_eq_true rfl) rfl ?_
  intro p e s m below meth c C hr hw ls hl
  have hx := C.hx
  have hb := C.hb
  replace hl : lv_has ls 4 [(0, .ref a_t), (1, .int p1)] := hl
  refine lv_iconst (v := 1) hx hb dX10_isFit_0 (by decide) ?_
  refine lv_istore_n (lv' := [(2, .int 1), (0, .ref a_t), (1, .int p1)]) hx hb dX10_isFit_1 rfl hl (by decide) rfl (fun ls hl => ?_)
  refine lv_iconst (v := 0) hx hb dX10_isFit_2 (by decide) ?_
  refine lv_istore_n (lv' := [(3, .int 0), (2, .int 1), (0, .ref a_t), (1, .int p1)]) hx hb dX10_isFit_3 rfl hl (by decide) rfl (fun ls hl => ?_)
  obtain ⟨h8, hok⟩ := hok
  obtain ⟨h9, hok⟩ := hok
  refine l_X10_isFit_4 a_t a_t_wealth a_t_given a_t_chart a_t_relatives a_t_sightSet a_t_sightMany a_t_digits a_t_pad a_t_act a_t_who a_t_whom a_t_much a_t_had a_t_dues a_t_groups a_t_ways a_t_fit a_t_byMany a_t_kept a_t_isKept p1 v_t_inside v_t_next v_t_years v_t_sights v_t_padMany v_t_acts v_t_givenNow v_t_entered v_t_badAct v_t_badWhy v_t_firstAct v_t_firstHouse v_t_fitMany v_t_keptAt v_t_isWriting g_t_sightSet g_t_sightMany C v_t_sights.toNatClampNeg (nI_self h8) (clamp_lt _) ((v_t_sights.toNatClampNeg) - 0) 0 (1 : Int32) rfl (by decide) h9 _ _ hw _ (lv_sub hl [2, 3, 1, 0] rfl) (fun H locs ls hw hl => ?_)
  obtain ⟨z10, h11⟩ : ∃ z, (it (B_X10_isFit_4 p1 g_t_sightSet g_t_sightMany) 0 ((v_t_sights.toNatClampNeg) - 0) (1 : Int32)) = z := ⟨_, rfl⟩
  replace hw := kW_cast (ws' := [(a_t, .inr (10, [.ref a_t_wealth, .ref a_t_given, .ref a_t_chart, .ref a_t_relatives, .int v_t_inside, .int v_t_next, .int v_t_years, .ref a_t_sightSet, .ref a_t_sightMany, .int v_t_sights, .ref a_t_digits, .ref a_t_pad, .int v_t_padMany, .ref a_t_act, .ref a_t_who, .ref a_t_whom, .ref a_t_much, .int v_t_acts, .int v_t_givenNow, .int v_t_entered, .ref a_t_had, .int v_t_badAct, .int v_t_badWhy, .int v_t_firstAct, .int v_t_firstHouse, .ref a_t_dues, .ref a_t_groups, .ref a_t_ways, .ref a_t_fit, .int v_t_fitMany, .ref a_t_byMany, .ref a_t_kept, .ref a_t_isKept, .int v_t_keptAt, .int v_t_isWriting])), (a_t_sightSet, .inl (cI, 8, .inl g_t_sightSet)), (a_t_sightMany, .inl (cI, 8, .inl g_t_sightMany))]) (by subst h11; rfl) hw
  replace hl : lv_has ls 4 [(2, .int z10)] := by subst h11; exact hl
  replace hok := Eq.mp (lt_c h11) hok
  refine lv_iload_n hx hb dX10_isFit_48 rfl (lv_at hl 0 rfl) ?_
  obtain ⟨h12, hok⟩ := hok
  rw [show f_X10_isFit v_t_sights g_t_sightSet g_t_sightMany p1 = z10 from by
      unfold f_X10_isFit
      exact (lt_c h11).trans (rfl)]
  exact k_zret (v := z10) C hr hw h12 dX10_isFit_49

theorem nX10_findFits_X10 : ∀ w ∈ wsX100, w ∈ wsX10_findFits := fun _ h => List.mem_cons_of_mem _ (List.mem_append_right _ h)
def B_X10_findFits_7 (v_t_sights : Int32) (g_t_sightSet : (Nat → Int32)) (g_t_sightMany : (Nat → Int32)) (j : Nat) (v : Int32 × (Nat → Int32)) : Int32 × (Nat → Int32) := (if (f_X10_isFit v_t_sights g_t_sightSet g_t_sightMany (nI j)) = 0 then (v.1, v.2) else ((v.1 + 1), (upd v.2 v.1.toNatClampNeg (nI j))))
def oB_X10_findFits_7 (v_t_sights : Int32) (g_t_sightSet : (Nat → Int32)) (g_t_sightMany : (Nat → Int32)) (j : Nat) (v : Int32 × (Nat → Int32)) : Prop := ((o_X10_isFit v_t_sights g_t_sightSet g_t_sightMany (nI j)) ∧ (if (f_X10_isFit v_t_sights g_t_sightSet g_t_sightMany (nI j)) = 0 then True else ((vp_in v.1 256) ∧ True)))
set_option maxHeartbeats 4000000 in
set_option maxRecDepth 100000 in
theorem l_X10_findFits_7 {p : Program} {l : Launch} {e : Env} {s : State} {m : MethodId} {args : Array Value} {below : List Frame} {meth : Method} {c : Code} {D : va_G} {cI cZ : ClassId} {Q : State → Prop} {A : Nat → Prop} (a_t a_t_wealth a_t_given a_t_chart a_t_relatives a_t_sightSet a_t_sightMany a_t_digits a_t_pad a_t_act a_t_who a_t_whom a_t_much a_t_had a_t_dues a_t_groups a_t_ways a_t_fit a_t_byMany a_t_kept a_t_isKept : Nat) (v_t_inside : Int32) (v_t_next : Int32) (v_t_years : Int32) (v_t_sights : Int32) (v_t_padMany : Int32) (v_t_acts : Int32) (v_t_givenNow : Int32) (v_t_entered : Int32) (v_t_badAct : Int32) (v_t_badWhy : Int32) (v_t_firstAct : Int32) (v_t_firstHouse : Int32) (v_t_keptAt : Int32) (v_t_isWriting : Int32) (g_t_sightSet : (Nat → Int32)) (g_t_sightMany : (Nat → Int32)) (C : kC p s m args meth c cX10_findFits 2 wsX10_findFits RX10 D cI cZ A) : ∀ (n j : Nat) (v_t_fitMany : Int32) (g_t_fit : (Nat → Int32)), n = 256 - j → j < 2147483648 → itA (oB_X10_findFits_7 v_t_sights g_t_sightSet g_t_sightMany) (B_X10_findFits_7 v_t_sights g_t_sightSet g_t_sightMany) j n (v_t_fitMany, g_t_fit) → ∀ (H : Heap) (locs : List Loc), kW D A s H locs [(a_t, .inr (10, [.ref a_t_wealth, .ref a_t_given, .ref a_t_chart, .ref a_t_relatives, .int v_t_inside, .int v_t_next, .int v_t_years, .ref a_t_sightSet, .ref a_t_sightMany, .int v_t_sights, .ref a_t_digits, .ref a_t_pad, .int v_t_padMany, .ref a_t_act, .ref a_t_who, .ref a_t_whom, .ref a_t_much, .int v_t_acts, .int v_t_givenNow, .int v_t_entered, .ref a_t_had, .int v_t_badAct, .int v_t_badWhy, .int v_t_firstAct, .int v_t_firstHouse, .ref a_t_dues, .ref a_t_groups, .ref a_t_ways, .ref a_t_fit, .int v_t_fitMany, .ref a_t_byMany, .ref a_t_kept, .ref a_t_isKept, .int v_t_keptAt, .int v_t_isWriting])), (a_t_sightSet, .inl (cI, 8, .inl g_t_sightSet)), (a_t_sightMany, .inl (cI, 8, .inl g_t_sightMany)), (a_t_fit, .inl (cI, 256, .inl g_t_fit))] → ∀ (ls : Array Slot), lv_has ls 2 [(0, .ref a_t), (1, .int (nI j))] → (∀ (H : Heap) (locs : List Loc) (ls : Array Slot), kW D A s H locs [(a_t, .inr (10, [.ref a_t_wealth, .ref a_t_given, .ref a_t_chart, .ref a_t_relatives, .int v_t_inside, .int v_t_next, .int v_t_years, .ref a_t_sightSet, .ref a_t_sightMany, .int v_t_sights, .ref a_t_digits, .ref a_t_pad, .int v_t_padMany, .ref a_t_act, .ref a_t_who, .ref a_t_whom, .ref a_t_much, .int v_t_acts, .int v_t_givenNow, .int v_t_entered, .ref a_t_had, .int v_t_badAct, .int v_t_badWhy, .int v_t_firstAct, .int v_t_firstHouse, .ref a_t_dues, .ref a_t_groups, .ref a_t_ways, .ref a_t_fit, .int (it (B_X10_findFits_7 v_t_sights g_t_sightSet g_t_sightMany) j n (v_t_fitMany, g_t_fit)).1, .ref a_t_byMany, .ref a_t_kept, .ref a_t_isKept, .int v_t_keptAt, .int v_t_isWriting])), (a_t_sightSet, .inl (cI, 8, .inl g_t_sightSet)), (a_t_sightMany, .inl (cI, 8, .inl g_t_sightMany)), (a_t_fit, .inl (cI, 256, .inl (it (B_X10_findFits_7 v_t_sights g_t_sightSet g_t_sightMany) j n (v_t_fitMany, g_t_fit)).2))] → lv_has ls 2 [] → W p l e ({ frames := 2, cells := 0, slots := 0, locals := 45 }) s m args below meth c H locs 0 0 Q (F0 m 48 ls [])) → W p l e ({ frames := 2, cells := 0, slots := 0, locals := 45 }) s m args below meth c H locs 0 0 Q (F0 m 7 ls []) := by
  have hx := C.hx
  have hb := C.hb
  intro n
  induction n with
  | zero =>
    intro j v_t_fitMany g_t_fit hn hj hok0 H locs hw ls hl kk
    refine lv_iload_n hx hb dX10_findFits_7 rfl (lv_at hl 1 rfl) ?_
    refine lv_sipush (v := 256) hx hb dX10_findFits_8 (by decide) ?_
    refine lv_icmp_ge (tgt := 48) hx hb dX10_findFits_11 (by decide) (fun c5 => ?_) (fun c5 => by exact absurd (nI_le (a := 256) (b := j) (by omega) (by omega)) c5)
    exact kk _ _ _ hw (lv_sub hl [] rfl)
  | succ n ih =>
    intro j v_t_fitMany g_t_fit hn hj hok0 H locs hw ls hl kk
    have hok := hok0.1
    refine lv_iload_n hx hb dX10_findFits_7 rfl (lv_at hl 1 rfl) ?_
    refine lv_sipush (v := 256) hx hb dX10_findFits_8 (by decide) ?_
    refine lv_icmp_ge (tgt := 48) hx hb dX10_findFits_11 (by decide) (fun c1 => by exact absurd c1 (nI_ge (a := j) (b := 256) (by omega) (by omega))) (fun c1 => ?_)
    refine lv_aload_n hx hb dX10_findFits_14 rfl (lv_at hl 0 rfl) ?_
    refine lv_iload_n hx hb dX10_findFits_15 rfl (lv_at hl 1 rfl) ?_
    obtain ⟨h2, hok⟩ := hok
    refine k_callV (As := [.int (nI j)]) (rest := []) (n := 1) (CC := RX10) (T := TX10) (N := 35) C hw (T_X10_isFit l D cI cZ a_t a_t_wealth a_t_given a_t_chart a_t_relatives a_t_sightSet a_t_sightMany a_t_digits a_t_pad a_t_act a_t_who a_t_whom a_t_much a_t_had a_t_dues a_t_groups a_t_ways a_t_fit a_t_byMany a_t_kept a_t_isKept v_t_inside v_t_next v_t_years v_t_sights v_t_padMany v_t_acts v_t_givenNow v_t_entered v_t_badAct v_t_badWhy v_t_firstAct v_t_firstHouse v_t_fitMany v_t_keptAt v_t_isWriting g_t_sightSet g_t_sightMany (nI j) h2) gX10_findFits_X10_isFit rfl ⟨rfl, rfl⟩ (by decide +kernel) ⟨Nat.le_of_ble_eq_true rfl, Nat.le_of_ble_eq_true rfl⟩ 0 rfl rfl [0, 1, 2] rfl rfl [a_t, a_t_sightSet, a_t_sightMany] rfl rfl rfl hl.1 rfl (Nat.le_of_ble_eq_true rfl) ⟨Nat.zero_le _, Nat.zero_le _⟩ dX10_findFits_16 (fun H locs hw => ?_)
    refine W.eq (g2 := F0 m 19 ls [.int (f_X10_isFit v_t_sights g_t_sightSet g_t_sightMany (nI j))]) rfl ?_
    replace hw : kW D _ s H locs [(a_t, .inr (10, [.ref a_t_wealth, .ref a_t_given, .ref a_t_chart, .ref a_t_relatives, .int v_t_inside, .int v_t_next, .int v_t_years, .ref a_t_sightSet, .ref a_t_sightMany, .int v_t_sights, .ref a_t_digits, .ref a_t_pad, .int v_t_padMany, .ref a_t_act, .ref a_t_who, .ref a_t_whom, .ref a_t_much, .int v_t_acts, .int v_t_givenNow, .int v_t_entered, .ref a_t_had, .int v_t_badAct, .int v_t_badWhy, .int v_t_firstAct, .int v_t_firstHouse, .ref a_t_dues, .ref a_t_groups, .ref a_t_ways, .ref a_t_fit, .int v_t_fitMany, .ref a_t_byMany, .ref a_t_kept, .ref a_t_isKept, .int v_t_keptAt, .int v_t_isWriting])), (a_t_sightSet, .inl (cI, 8, .inl g_t_sightSet)), (a_t_sightMany, .inl (cI, 8, .inl g_t_sightMany)), (a_t_fit, .inl (cI, 256, .inl g_t_fit))] := hw
    refine lv_if_eq (tgt := 42) hx hb dX10_findFits_19 (by decide) (fun c3 => ?_) (fun c3 => ?_)
    · refine lv_iinc (v := (nI (j + 1))) (lv' := [(1, .int (nI (j + 1))), (0, .ref a_t)]) hx hb dX10_findFits_42 hl (k := 1) rfl (nI_1 _) (by decide) rfl (fun ls hl => ?_)
      refine lv_goto (tgt := 7) hx hb dX10_findFits_45 (by decide) ?_
      have hB : B_X10_findFits_7 v_t_sights g_t_sightSet g_t_sightMany j (v_t_fitMany, g_t_fit) = (v_t_fitMany, g_t_fit) := by
        unfold B_X10_findFits_7
        exact (if_pos c3).trans (rfl)
      rw [it_c hB] at kk
      have hok2 := itA_c hB hok0
      exact ih (j + 1) v_t_fitMany g_t_fit (by omega) (by omega) hok2 _ _ hw _ (lv_sub hl [1, 0] rfl) kk
    · replace hok := Eq.mp (if_neg c3) hok
      refine lv_aload_n hx hb dX10_findFits_22 rfl (lv_at hl 0 rfl) ?_
      refine k_get C hw (CC := RX10) (T := TX10) (N := 35) nX10_findFits_X10 0 rfl rfl 28 (by decide) (List.mem_of_getElem? (i := 2) rfl) rfl rfl dX10_findFits_23 ?_
      refine lv_aload_n hx hb dX10_findFits_26 rfl (lv_at hl 0 rfl) ?_
      refine k_get C hw (CC := RX10) (T := TX10) (N := 35) nX10_findFits_X10 0 rfl rfl 29 (by decide) (List.mem_of_getElem? (i := 1) rfl) rfl rfl dX10_findFits_27 ?_
      refine lv_iload_n hx hb dX10_findFits_30 rfl (lv_at hl 1 rfl) ?_
      obtain ⟨h4, hok⟩ := hok
      refine k_iast C hw 3 rfl h4 dX10_findFits_31 (fun H locs hw => ?_)
      replace hw : kW D _ s H locs [(a_t, .inr (10, [.ref a_t_wealth, .ref a_t_given, .ref a_t_chart, .ref a_t_relatives, .int v_t_inside, .int v_t_next, .int v_t_years, .ref a_t_sightSet, .ref a_t_sightMany, .int v_t_sights, .ref a_t_digits, .ref a_t_pad, .int v_t_padMany, .ref a_t_act, .ref a_t_who, .ref a_t_whom, .ref a_t_much, .int v_t_acts, .int v_t_givenNow, .int v_t_entered, .ref a_t_had, .int v_t_badAct, .int v_t_badWhy, .int v_t_firstAct, .int v_t_firstHouse, .ref a_t_dues, .ref a_t_groups, .ref a_t_ways, .ref a_t_fit, .int v_t_fitMany, .ref a_t_byMany, .ref a_t_kept, .ref a_t_isKept, .int v_t_keptAt, .int v_t_isWriting])), (a_t_sightSet, .inl (cI, 8, .inl g_t_sightSet)), (a_t_sightMany, .inl (cI, 8, .inl g_t_sightMany)), (a_t_fit, .inl (cI, 256, .inl (upd g_t_fit v_t_fitMany.toNatClampNeg (nI j))))] := hw
      refine lv_aload_n hx hb dX10_findFits_32 rfl (lv_at hl 0 rfl) ?_
      refine lv_dup hx hb dX10_findFits_33 rfl ?_
      refine k_get C hw (CC := RX10) (T := TX10) (N := 35) nX10_findFits_X10 0 rfl rfl 29 (by decide) (List.mem_of_getElem? (i := 1) rfl) rfl rfl dX10_findFits_34 ?_
      refine lv_iconst (v := 1) hx hb dX10_findFits_37 (by decide) ?_
      refine lv_iadd hx hb dX10_findFits_38 ?_
      refine k_put C hw (CC := RX10) (T := TX10) (N := 35) (v := .int (v_t_fitMany + 1)) nX10_findFits_X10 tyX10_ok nmX10 0 rfl rfl 29 (by decide) (List.mem_of_getElem? (i := 1) rfl) rfl rfl rfl rfl (Nat.le_of_ble_eq_true rfl) dX10_findFits_39 (fun H locs hw => ?_)
      replace hw : kW D _ s H locs [(a_t, .inr (10, [.ref a_t_wealth, .ref a_t_given, .ref a_t_chart, .ref a_t_relatives, .int v_t_inside, .int v_t_next, .int v_t_years, .ref a_t_sightSet, .ref a_t_sightMany, .int v_t_sights, .ref a_t_digits, .ref a_t_pad, .int v_t_padMany, .ref a_t_act, .ref a_t_who, .ref a_t_whom, .ref a_t_much, .int v_t_acts, .int v_t_givenNow, .int v_t_entered, .ref a_t_had, .int v_t_badAct, .int v_t_badWhy, .int v_t_firstAct, .int v_t_firstHouse, .ref a_t_dues, .ref a_t_groups, .ref a_t_ways, .ref a_t_fit, .int (v_t_fitMany + 1), .ref a_t_byMany, .ref a_t_kept, .ref a_t_isKept, .int v_t_keptAt, .int v_t_isWriting])), (a_t_sightSet, .inl (cI, 8, .inl g_t_sightSet)), (a_t_sightMany, .inl (cI, 8, .inl g_t_sightMany)), (a_t_fit, .inl (cI, 256, .inl (upd g_t_fit v_t_fitMany.toNatClampNeg (nI j))))] := hw
      refine lv_iinc (v := (nI (j + 1))) (lv' := [(1, .int (nI (j + 1))), (0, .ref a_t)]) hx hb dX10_findFits_42 hl (k := 1) rfl (nI_1 _) (by decide) rfl (fun ls hl => ?_)
      refine lv_goto (tgt := 7) hx hb dX10_findFits_45 (by decide) ?_
      have hB : B_X10_findFits_7 v_t_sights g_t_sightSet g_t_sightMany j (v_t_fitMany, g_t_fit) = ((v_t_fitMany + 1), (upd g_t_fit v_t_fitMany.toNatClampNeg (nI j))) := by
        unfold B_X10_findFits_7
        exact (if_neg c3).trans (rfl)
      rw [it_c hB] at kk
      have hok2 := itA_c hB hok0
      exact ih (j + 1) (v_t_fitMany + 1) (upd g_t_fit v_t_fitMany.toNatClampNeg (nI j)) (by omega) (by omega) hok2 _ _ hw _ (lv_sub hl [1, 0] rfl) kk
def f_X10_findFits (v_t_sights : Int32) (g_t_sightSet : (Nat → Int32)) (g_t_sightMany : (Nat → Int32)) (g_t_fit : (Nat → Int32)) : Int32 × (Nat → Int32) := (lt (it (B_X10_findFits_7 v_t_sights g_t_sightSet g_t_sightMany) 0 256 ((0 : Int32), g_t_fit)) (fun z7 => (z7.1, z7.2)))
def o_X10_findFits (v_t_sights : Int32) (g_t_sightSet : (Nat → Int32)) (g_t_sightMany : (Nat → Int32)) (g_t_fit : (Nat → Int32)) : Prop := ((itA (oB_X10_findFits_7 v_t_sights g_t_sightSet g_t_sightMany) (B_X10_findFits_7 v_t_sights g_t_sightSet g_t_sightMany) 0 256 ((0 : Int32), g_t_fit)) ∧ True)
set_option maxHeartbeats 4000000 in
set_option maxRecDepth 100000 in
theorem T_X10_findFits (l : Launch) (D : va_G) (cI cZ : ClassId) (a_t a_t_wealth a_t_given a_t_chart a_t_relatives a_t_sightSet a_t_sightMany a_t_digits a_t_pad a_t_act a_t_who a_t_whom a_t_much a_t_had a_t_dues a_t_groups a_t_ways a_t_fit a_t_byMany a_t_kept a_t_isKept : Nat) (v_t_inside : Int32) (v_t_next : Int32) (v_t_years : Int32) (v_t_sights : Int32) (v_t_padMany : Int32) (v_t_acts : Int32) (v_t_givenNow : Int32) (v_t_entered : Int32) (v_t_badAct : Int32) (v_t_badWhy : Int32) (v_t_firstAct : Int32) (v_t_firstHouse : Int32) (v_t_fitMany : Int32) (v_t_keptAt : Int32) (v_t_isWriting : Int32) (g_t_sightSet : (Nat → Int32)) (g_t_sightMany : (Nat → Int32)) (g_t_fit : (Nat → Int32)) (hok : o_X10_findFits v_t_sights g_t_sightSet g_t_sightMany g_t_fit) : CT l D cI cZ yX10_findFits wsX10_findFits ({ frames := 2, cells := 0, slots := 0, locals := 45 }) [.ref a_t] [(a_t, .inr (10, [.ref a_t_wealth, .ref a_t_given, .ref a_t_chart, .ref a_t_relatives, .int v_t_inside, .int v_t_next, .int v_t_years, .ref a_t_sightSet, .ref a_t_sightMany, .int v_t_sights, .ref a_t_digits, .ref a_t_pad, .int v_t_padMany, .ref a_t_act, .ref a_t_who, .ref a_t_whom, .ref a_t_much, .int v_t_acts, .int v_t_givenNow, .int v_t_entered, .ref a_t_had, .int v_t_badAct, .int v_t_badWhy, .int v_t_firstAct, .int v_t_firstHouse, .ref a_t_dues, .ref a_t_groups, .ref a_t_ways, .ref a_t_fit, .int v_t_fitMany, .ref a_t_byMany, .ref a_t_kept, .ref a_t_isKept, .int v_t_keptAt, .int v_t_isWriting])), (a_t_sightSet, .inl (cI, 8, .inl g_t_sightSet)), (a_t_sightMany, .inl (cI, 8, .inl g_t_sightMany)), (a_t_fit, .inl (cI, 256, .inl g_t_fit))] none [(a_t, .inr (10, [.ref a_t_wealth, .ref a_t_given, .ref a_t_chart, .ref a_t_relatives, .int v_t_inside, .int v_t_next, .int v_t_years, .ref a_t_sightSet, .ref a_t_sightMany, .int v_t_sights, .ref a_t_digits, .ref a_t_pad, .int v_t_padMany, .ref a_t_act, .ref a_t_who, .ref a_t_whom, .ref a_t_much, .int v_t_acts, .int v_t_givenNow, .int v_t_entered, .ref a_t_had, .int v_t_badAct, .int v_t_badWhy, .int v_t_firstAct, .int v_t_firstHouse, .ref a_t_dues, .ref a_t_groups, .ref a_t_ways, .ref a_t_fit, .int (f_X10_findFits v_t_sights g_t_sightSet g_t_sightMany g_t_fit).1, .ref a_t_byMany, .ref a_t_kept, .ref a_t_isKept, .int v_t_keptAt, .int v_t_isWriting])), (a_t_sightSet, .inl (cI, 8, .inl g_t_sightSet)), (a_t_sightMany, .inl (cI, 8, .inl g_t_sightMany)), (a_t_fit, .inl (cI, 256, .inl (f_X10_findFits v_t_sights g_t_sightSet g_t_sightMany g_t_fit).2))] := by
  refine CT.intro RX10 (by decide) rfl (Nat.le_of_ble_eq_true rfl) rfl ?_
  intro p e s m below meth c C hr hw ls hl
  have hx := C.hx
  have hb := C.hb
  replace hl : lv_has ls 2 [(0, .ref a_t)] := hl
  refine lv_aload_n hx hb dX10_findFits_0 rfl (lv_at hl 0 rfl) ?_
  refine lv_iconst (v := 0) hx hb dX10_findFits_1 (by decide) ?_
  refine k_put C hw (CC := RX10) (T := TX10) (N := 35) (v := .int 0) nX10_findFits_X10 tyX10_ok nmX10 0 rfl rfl 29 (by decide) (List.mem_of_getElem? (i := 1) rfl) rfl rfl rfl rfl (Nat.le_of_ble_eq_true rfl) dX10_findFits_2 (fun H locs hw => ?_)
  replace hw : kW D _ s H locs [(a_t, .inr (10, [.ref a_t_wealth, .ref a_t_given, .ref a_t_chart, .ref a_t_relatives, .int v_t_inside, .int v_t_next, .int v_t_years, .ref a_t_sightSet, .ref a_t_sightMany, .int v_t_sights, .ref a_t_digits, .ref a_t_pad, .int v_t_padMany, .ref a_t_act, .ref a_t_who, .ref a_t_whom, .ref a_t_much, .int v_t_acts, .int v_t_givenNow, .int v_t_entered, .ref a_t_had, .int v_t_badAct, .int v_t_badWhy, .int v_t_firstAct, .int v_t_firstHouse, .ref a_t_dues, .ref a_t_groups, .ref a_t_ways, .ref a_t_fit, .int 0, .ref a_t_byMany, .ref a_t_kept, .ref a_t_isKept, .int v_t_keptAt, .int v_t_isWriting])), (a_t_sightSet, .inl (cI, 8, .inl g_t_sightSet)), (a_t_sightMany, .inl (cI, 8, .inl g_t_sightMany)), (a_t_fit, .inl (cI, 256, .inl g_t_fit))] := hw
  refine lv_iconst (v := 0) hx hb dX10_findFits_5 (by decide) ?_
  refine lv_istore_n (lv' := [(1, .int 0), (0, .ref a_t)]) hx hb dX10_findFits_6 rfl hl (by decide) rfl (fun ls hl => ?_)
  obtain ⟨h6, hok⟩ := hok
  refine l_X10_findFits_7 a_t a_t_wealth a_t_given a_t_chart a_t_relatives a_t_sightSet a_t_sightMany a_t_digits a_t_pad a_t_act a_t_who a_t_whom a_t_much a_t_had a_t_dues a_t_groups a_t_ways a_t_fit a_t_byMany a_t_kept a_t_isKept v_t_inside v_t_next v_t_years v_t_sights v_t_padMany v_t_acts v_t_givenNow v_t_entered v_t_badAct v_t_badWhy v_t_firstAct v_t_firstHouse v_t_keptAt v_t_isWriting g_t_sightSet g_t_sightMany C 256 0 (0 : Int32) g_t_fit (by decide) (by decide) h6 _ _ hw _ (lv_sub hl [1, 0] rfl) (fun H locs ls hw hl => ?_)
  obtain ⟨z7, h8⟩ : ∃ z, (it (B_X10_findFits_7 v_t_sights g_t_sightSet g_t_sightMany) 0 256 ((0 : Int32), g_t_fit)) = z := ⟨_, rfl⟩
  replace hw := kW_cast (ws' := [(a_t, .inr (10, [.ref a_t_wealth, .ref a_t_given, .ref a_t_chart, .ref a_t_relatives, .int v_t_inside, .int v_t_next, .int v_t_years, .ref a_t_sightSet, .ref a_t_sightMany, .int v_t_sights, .ref a_t_digits, .ref a_t_pad, .int v_t_padMany, .ref a_t_act, .ref a_t_who, .ref a_t_whom, .ref a_t_much, .int v_t_acts, .int v_t_givenNow, .int v_t_entered, .ref a_t_had, .int v_t_badAct, .int v_t_badWhy, .int v_t_firstAct, .int v_t_firstHouse, .ref a_t_dues, .ref a_t_groups, .ref a_t_ways, .ref a_t_fit, .int z7.1, .ref a_t_byMany, .ref a_t_kept, .ref a_t_isKept, .int v_t_keptAt, .int v_t_isWriting])), (a_t_sightSet, .inl (cI, 8, .inl g_t_sightSet)), (a_t_sightMany, .inl (cI, 8, .inl g_t_sightMany)), (a_t_fit, .inl (cI, 256, .inl z7.2))]) (by subst h8; rfl) hw
  replace hl : lv_has ls 2 [] := by subst h8; exact hl
  rw [show f_X10_findFits v_t_sights g_t_sightSet g_t_sightMany g_t_fit = (z7.1, z7.2) from by
      unfold f_X10_findFits
      exact (lt_c h8).trans (rfl)]
  exact k_vret C hr hw dX10_findFits_48

theorem nX10_ever_X10 : ∀ w ∈ wsX100, w ∈ wsX10_ever := fun _ h => List.mem_cons_of_mem _ (List.mem_append_right _ h)
def f_X10_ever (v_t_sights : Int32) (g_t_sightSet : (Nat → Int32)) (g_t_sightMany : (Nat → Int32)) (g_t_fit : (Nat → Int32)) (p1 : Int32) : Int32 × Int32 × (Nat → Int32) := (lt (f_X10_findFits v_t_sights g_t_sightSet g_t_sightMany g_t_fit) (fun z2 => (if p1 = (-1) then (z2.1, z2.1, z2.2) else (if (f_X10_in ((p1).toInt64) (0 : Int64) (((z2.1 - 1)).toInt64)) = 0 then ((-6), z2.1, z2.2) else ((z2.2 p1.toNatClampNeg), z2.1, z2.2)))))
def o_X10_ever (v_t_sights : Int32) (g_t_sightSet : (Nat → Int32)) (g_t_sightMany : (Nat → Int32)) (g_t_fit : (Nat → Int32)) (p1 : Int32) : Prop := ((o_X10_findFits v_t_sights g_t_sightSet g_t_sightMany g_t_fit) ∧ (lt (f_X10_findFits v_t_sights g_t_sightSet g_t_sightMany g_t_fit) (fun z2 => (if p1 = (-1) then True else (if (f_X10_in ((p1).toInt64) (0 : Int64) (((z2.1 - 1)).toInt64)) = 0 then True else ((vp_in p1 256) ∧ True))))))
set_option maxHeartbeats 4000000 in
set_option maxRecDepth 100000 in
theorem T_X10_ever (l : Launch) (D : va_G) (cI cZ : ClassId) (a_t a_t_wealth a_t_given a_t_chart a_t_relatives a_t_sightSet a_t_sightMany a_t_digits a_t_pad a_t_act a_t_who a_t_whom a_t_much a_t_had a_t_dues a_t_groups a_t_ways a_t_fit a_t_byMany a_t_kept a_t_isKept : Nat) (v_t_inside : Int32) (v_t_next : Int32) (v_t_years : Int32) (v_t_sights : Int32) (v_t_padMany : Int32) (v_t_acts : Int32) (v_t_givenNow : Int32) (v_t_entered : Int32) (v_t_badAct : Int32) (v_t_badWhy : Int32) (v_t_firstAct : Int32) (v_t_firstHouse : Int32) (v_t_fitMany : Int32) (v_t_keptAt : Int32) (v_t_isWriting : Int32) (g_t_sightSet : (Nat → Int32)) (g_t_sightMany : (Nat → Int32)) (g_t_fit : (Nat → Int32)) (p1 : Int32) (hok : o_X10_ever v_t_sights g_t_sightSet g_t_sightMany g_t_fit p1) : CT l D cI cZ yX10_ever wsX10_ever ({ frames := 3, cells := 0, slots := 0, locals := 66 }) [.ref a_t, .int p1] [(a_t, .inr (10, [.ref a_t_wealth, .ref a_t_given, .ref a_t_chart, .ref a_t_relatives, .int v_t_inside, .int v_t_next, .int v_t_years, .ref a_t_sightSet, .ref a_t_sightMany, .int v_t_sights, .ref a_t_digits, .ref a_t_pad, .int v_t_padMany, .ref a_t_act, .ref a_t_who, .ref a_t_whom, .ref a_t_much, .int v_t_acts, .int v_t_givenNow, .int v_t_entered, .ref a_t_had, .int v_t_badAct, .int v_t_badWhy, .int v_t_firstAct, .int v_t_firstHouse, .ref a_t_dues, .ref a_t_groups, .ref a_t_ways, .ref a_t_fit, .int v_t_fitMany, .ref a_t_byMany, .ref a_t_kept, .ref a_t_isKept, .int v_t_keptAt, .int v_t_isWriting])), (a_t_sightSet, .inl (cI, 8, .inl g_t_sightSet)), (a_t_sightMany, .inl (cI, 8, .inl g_t_sightMany)), (a_t_fit, .inl (cI, 256, .inl g_t_fit))] (some (.int (f_X10_ever v_t_sights g_t_sightSet g_t_sightMany g_t_fit p1).1)) [(a_t, .inr (10, [.ref a_t_wealth, .ref a_t_given, .ref a_t_chart, .ref a_t_relatives, .int v_t_inside, .int v_t_next, .int v_t_years, .ref a_t_sightSet, .ref a_t_sightMany, .int v_t_sights, .ref a_t_digits, .ref a_t_pad, .int v_t_padMany, .ref a_t_act, .ref a_t_who, .ref a_t_whom, .ref a_t_much, .int v_t_acts, .int v_t_givenNow, .int v_t_entered, .ref a_t_had, .int v_t_badAct, .int v_t_badWhy, .int v_t_firstAct, .int v_t_firstHouse, .ref a_t_dues, .ref a_t_groups, .ref a_t_ways, .ref a_t_fit, .int (f_X10_ever v_t_sights g_t_sightSet g_t_sightMany g_t_fit p1).2.1, .ref a_t_byMany, .ref a_t_kept, .ref a_t_isKept, .int v_t_keptAt, .int v_t_isWriting])), (a_t_sightSet, .inl (cI, 8, .inl g_t_sightSet)), (a_t_sightMany, .inl (cI, 8, .inl g_t_sightMany)), (a_t_fit, .inl (cI, 256, .inl (f_X10_ever v_t_sights g_t_sightSet g_t_sightMany g_t_fit p1).2.2))] := by
  refine CT.intro RX10 (by decide) rfl (Nat.le_of_ble_eq_true rfl) rfl ?_
  intro p e s m below meth c C hr hw ls hl
  have hx := C.hx
  have hb := C.hb
  replace hl : lv_has ls 2 [(0, .ref a_t), (1, .int p1)] := hl
  refine lv_aload_n hx hb dX10_ever_0 rfl (lv_at hl 0 rfl) ?_
  obtain ⟨h1, hok⟩ := hok
  refine k_callV (As := []) (rest := []) (n := 0) (CC := RX10) (T := TX10) (N := 35) C hw (T_X10_findFits l D cI cZ a_t a_t_wealth a_t_given a_t_chart a_t_relatives a_t_sightSet a_t_sightMany a_t_digits a_t_pad a_t_act a_t_who a_t_whom a_t_much a_t_had a_t_dues a_t_groups a_t_ways a_t_fit a_t_byMany a_t_kept a_t_isKept v_t_inside v_t_next v_t_years v_t_sights v_t_padMany v_t_acts v_t_givenNow v_t_entered v_t_badAct v_t_badWhy v_t_firstAct v_t_firstHouse v_t_fitMany v_t_keptAt v_t_isWriting g_t_sightSet g_t_sightMany g_t_fit h1) gX10_ever_X10_findFits rfl ⟨rfl, rfl⟩ (by decide +kernel) ⟨Nat.le_of_ble_eq_true rfl, Nat.le_of_ble_eq_true rfl⟩ 0 rfl rfl [0, 1, 2, 3] rfl rfl [a_t, a_t_sightSet, a_t_sightMany, a_t_fit] rfl rfl rfl hl.1 rfl (Nat.le_of_ble_eq_true rfl) ⟨Nat.zero_le _, Nat.zero_le _⟩ dX10_ever_1 (fun H locs hw => ?_)
  obtain ⟨z2, h3⟩ : ∃ z, (f_X10_findFits v_t_sights g_t_sightSet g_t_sightMany g_t_fit) = z := ⟨_, rfl⟩
  refine W.eq (g2 := F0 m 4 ls []) (by subst h3; rfl) ?_
  replace hw := kW_cast (ws' := [(a_t, .inr (10, [.ref a_t_wealth, .ref a_t_given, .ref a_t_chart, .ref a_t_relatives, .int v_t_inside, .int v_t_next, .int v_t_years, .ref a_t_sightSet, .ref a_t_sightMany, .int v_t_sights, .ref a_t_digits, .ref a_t_pad, .int v_t_padMany, .ref a_t_act, .ref a_t_who, .ref a_t_whom, .ref a_t_much, .int v_t_acts, .int v_t_givenNow, .int v_t_entered, .ref a_t_had, .int v_t_badAct, .int v_t_badWhy, .int v_t_firstAct, .int v_t_firstHouse, .ref a_t_dues, .ref a_t_groups, .ref a_t_ways, .ref a_t_fit, .int z2.1, .ref a_t_byMany, .ref a_t_kept, .ref a_t_isKept, .int v_t_keptAt, .int v_t_isWriting])), (a_t_sightSet, .inl (cI, 8, .inl g_t_sightSet)), (a_t_sightMany, .inl (cI, 8, .inl g_t_sightMany)), (a_t_fit, .inl (cI, 256, .inl z2.2))]) (by subst h3; rfl) hw
  replace hok := Eq.mp (lt_c h3) hok
  refine lv_iload_n hx hb dX10_ever_4 rfl (lv_at hl 1 rfl) ?_
  refine lv_iconst (v := (-1)) hx hb dX10_ever_5 (by decide) ?_
  refine lv_icmp_ne (tgt := 16) hx hb dX10_ever_6 (by decide) (fun c4 => ?_) (fun c4 => ?_)
  · replace hok := Eq.mp (if_neg c4) hok
    refine lv_iload_n hx hb dX10_ever_16 rfl (lv_at hl 1 rfl) ?_
    refine lv_i2l (v := ((p1).toInt64)) hx hb dX10_ever_17 rfl ?_
    refine lv_lconst (v := 0) hx hb dX10_ever_18 (by decide) ?_
    refine lv_aload_n hx hb dX10_ever_19 rfl (lv_at hl 0 rfl) ?_
    refine k_get C hw (CC := RX10) (T := TX10) (N := 35) nX10_ever_X10 0 rfl rfl 29 (by decide) (List.mem_of_getElem? (i := 1) rfl) rfl rfl dX10_ever_20 ?_
    refine lv_iconst (v := 1) hx hb dX10_ever_23 (by decide) ?_
    refine lv_isub hx hb dX10_ever_24 ?_
    refine lv_i2l (v := (((z2.1 - 1)).toInt64)) hx hb dX10_ever_25 rfl ?_
    refine k_callS (As := [.long ((p1).toInt64), .long 0, .long (((z2.1 - 1)).toInt64)]) (rest := []) (n := 3) C hw (T_X10_in l D cI cZ ((p1).toInt64) (0 : Int64) (((z2.1 - 1)).toInt64)) gX10_ever_X10_in rfl ⟨rfl, rfl⟩ (by decide +kernel) ⟨Nat.le_of_ble_eq_true rfl, Nat.le_of_ble_eq_true rfl⟩ [] rfl rfl [] rfl rfl rfl hl.1 rfl (Nat.le_of_ble_eq_true rfl) ⟨Nat.zero_le _, Nat.zero_le _⟩ dX10_ever_26 (fun H locs hw => ?_)
    refine W.eq (g2 := F0 m 29 ls [.int (f_X10_in ((p1).toInt64) (0 : Int64) (((z2.1 - 1)).toInt64))]) rfl ?_
    replace hw : kW D _ s H locs [(a_t, .inr (10, [.ref a_t_wealth, .ref a_t_given, .ref a_t_chart, .ref a_t_relatives, .int v_t_inside, .int v_t_next, .int v_t_years, .ref a_t_sightSet, .ref a_t_sightMany, .int v_t_sights, .ref a_t_digits, .ref a_t_pad, .int v_t_padMany, .ref a_t_act, .ref a_t_who, .ref a_t_whom, .ref a_t_much, .int v_t_acts, .int v_t_givenNow, .int v_t_entered, .ref a_t_had, .int v_t_badAct, .int v_t_badWhy, .int v_t_firstAct, .int v_t_firstHouse, .ref a_t_dues, .ref a_t_groups, .ref a_t_ways, .ref a_t_fit, .int z2.1, .ref a_t_byMany, .ref a_t_kept, .ref a_t_isKept, .int v_t_keptAt, .int v_t_isWriting])), (a_t_sightSet, .inl (cI, 8, .inl g_t_sightSet)), (a_t_sightMany, .inl (cI, 8, .inl g_t_sightMany)), (a_t_fit, .inl (cI, 256, .inl z2.2))] := hw
    refine lv_if_eq (tgt := 41) hx hb dX10_ever_29 (by decide) (fun c5 => ?_) (fun c5 => ?_)
    · refine lv_bipush (v := (-6)) hx hb dX10_ever_41 (by decide) ?_
      rw [show f_X10_ever v_t_sights g_t_sightSet g_t_sightMany g_t_fit p1 = ((-6), z2.1, z2.2) from by
          unfold f_X10_ever
          exact (lt_c h3).trans ((if_neg c4).trans ((if_pos c5).trans (rfl)))]
      exact k_iret C hr hw dX10_ever_43
    · replace hok := Eq.mp (if_neg c5) hok
      refine lv_aload_n hx hb dX10_ever_32 rfl (lv_at hl 0 rfl) ?_
      refine k_get C hw (CC := RX10) (T := TX10) (N := 35) nX10_ever_X10 0 rfl rfl 28 (by decide) (List.mem_of_getElem? (i := 2) rfl) rfl rfl dX10_ever_33 ?_
      refine lv_iload_n hx hb dX10_ever_36 rfl (lv_at hl 1 rfl) ?_
      obtain ⟨h6, hok⟩ := hok
      refine k_iald C hw 3 rfl h6 dX10_ever_37 ?_
      refine lv_goto (tgt := 43) hx hb dX10_ever_38 (by decide) ?_
      rw [show f_X10_ever v_t_sights g_t_sightSet g_t_sightMany g_t_fit p1 = ((z2.2 p1.toNatClampNeg), z2.1, z2.2) from by
          unfold f_X10_ever
          exact (lt_c h3).trans ((if_neg c4).trans ((if_neg c5).trans (rfl)))]
      exact k_iret C hr hw dX10_ever_43
  · refine lv_aload_n hx hb dX10_ever_9 rfl (lv_at hl 0 rfl) ?_
    refine k_get C hw (CC := RX10) (T := TX10) (N := 35) nX10_ever_X10 0 rfl rfl 29 (by decide) (List.mem_of_getElem? (i := 1) rfl) rfl rfl dX10_ever_10 ?_
    refine lv_goto (tgt := 43) hx hb dX10_ever_13 (by decide) ?_
    rw [show f_X10_ever v_t_sights g_t_sightSet g_t_sightMany g_t_fit p1 = (z2.1, z2.1, z2.2) from by
        unfold f_X10_ever
        exact (lt_c h3).trans ((if_pos c4).trans (rfl))]
    exact k_iret C hr hw dX10_ever_43

theorem nX10_mostLeft_X10 : ∀ w ∈ wsX100, w ∈ wsX10_mostLeft := fun _ h => List.mem_cons_of_mem _ (List.mem_append_right _ h)
def B_X10_mostLeft_4 (j : Nat) (v : (Nat → Int32)) : (Nat → Int32) := (upd v j 0)
set_option maxHeartbeats 4000000 in
set_option maxRecDepth 100000 in
theorem l_X10_mostLeft_4 {p : Program} {l : Launch} {e : Env} {s : State} {m : MethodId} {args : Array Value} {below : List Frame} {meth : Method} {c : Code} {D : va_G} {cI cZ : ClassId} {Q : State → Prop} {A : Nat → Prop} (a_t a_t_wealth a_t_given a_t_chart a_t_relatives a_t_sightSet a_t_sightMany a_t_digits a_t_pad a_t_act a_t_who a_t_whom a_t_much a_t_had a_t_dues a_t_groups a_t_ways a_t_fit a_t_byMany a_t_kept a_t_isKept : Nat) (x1 : Int32) (x2 : Int32) (v_t_inside : Int32) (v_t_next : Int32) (v_t_years : Int32) (v_t_sights : Int32) (v_t_padMany : Int32) (v_t_acts : Int32) (v_t_givenNow : Int32) (v_t_entered : Int32) (v_t_badAct : Int32) (v_t_badWhy : Int32) (v_t_firstAct : Int32) (v_t_firstHouse : Int32) (v_t_fitMany : Int32) (v_t_keptAt : Int32) (v_t_isWriting : Int32) (g_t_fit : (Nat → Int32)) (C : kC p s m args meth c cX10_mostLeft 5 wsX10_mostLeft RX10 D cI cZ A) : ∀ (n j : Nat) (g_t_byMany : (Nat → Int32)), n = 9 - j → j < 2147483648 → ∀ (H : Heap) (locs : List Loc), kW D A s H locs [(a_t, .inr (10, [.ref a_t_wealth, .ref a_t_given, .ref a_t_chart, .ref a_t_relatives, .int v_t_inside, .int v_t_next, .int v_t_years, .ref a_t_sightSet, .ref a_t_sightMany, .int v_t_sights, .ref a_t_digits, .ref a_t_pad, .int v_t_padMany, .ref a_t_act, .ref a_t_who, .ref a_t_whom, .ref a_t_much, .int v_t_acts, .int v_t_givenNow, .int v_t_entered, .ref a_t_had, .int v_t_badAct, .int v_t_badWhy, .int v_t_firstAct, .int v_t_firstHouse, .ref a_t_dues, .ref a_t_groups, .ref a_t_ways, .ref a_t_fit, .int v_t_fitMany, .ref a_t_byMany, .ref a_t_kept, .ref a_t_isKept, .int v_t_keptAt, .int v_t_isWriting])), (a_t_fit, .inl (cI, 256, .inl g_t_fit)), (a_t_byMany, .inl (cI, 9, .inl g_t_byMany))] → ∀ (ls : Array Slot), lv_has ls 5 [(0, .ref a_t), (1, .int x1), (2, .int x2), (3, .int (nI j))] → (∀ (H : Heap) (locs : List Loc) (ls : Array Slot), kW D A s H locs [(a_t, .inr (10, [.ref a_t_wealth, .ref a_t_given, .ref a_t_chart, .ref a_t_relatives, .int v_t_inside, .int v_t_next, .int v_t_years, .ref a_t_sightSet, .ref a_t_sightMany, .int v_t_sights, .ref a_t_digits, .ref a_t_pad, .int v_t_padMany, .ref a_t_act, .ref a_t_who, .ref a_t_whom, .ref a_t_much, .int v_t_acts, .int v_t_givenNow, .int v_t_entered, .ref a_t_had, .int v_t_badAct, .int v_t_badWhy, .int v_t_firstAct, .int v_t_firstHouse, .ref a_t_dues, .ref a_t_groups, .ref a_t_ways, .ref a_t_fit, .int v_t_fitMany, .ref a_t_byMany, .ref a_t_kept, .ref a_t_isKept, .int v_t_keptAt, .int v_t_isWriting])), (a_t_fit, .inl (cI, 256, .inl g_t_fit)), (a_t_byMany, .inl (cI, 9, .inl (it B_X10_mostLeft_4 j n g_t_byMany)))] → lv_has ls 5 [(0, .ref a_t), (1, .int x1), (2, .int x2)] → W p l e ({ frames := 1, cells := 0, slots := 0, locals := 22 }) s m args below meth c H locs 0 0 Q (F0 m 23 ls [])) → W p l e ({ frames := 1, cells := 0, slots := 0, locals := 22 }) s m args below meth c H locs 0 0 Q (F0 m 4 ls []) := by
  have hx := C.hx
  have hb := C.hb
  intro n
  induction n with
  | zero =>
    intro j g_t_byMany hn hj H locs hw ls hl kk
    refine lv_iload_n hx hb dX10_mostLeft_4 rfl (lv_at hl 3 rfl) ?_
    refine lv_bipush (v := 9) hx hb dX10_mostLeft_5 (by decide) ?_
    refine lv_icmp_ge (tgt := 23) hx hb dX10_mostLeft_7 (by decide) (fun c2 => ?_) (fun c2 => by exact absurd (nI_le (a := 9) (b := j) (by omega) (by omega)) c2)
    exact kk _ _ _ hw (lv_sub hl [0, 1, 2] rfl)
  | succ n ih =>
    intro j g_t_byMany hn hj H locs hw ls hl kk
    refine lv_iload_n hx hb dX10_mostLeft_4 rfl (lv_at hl 3 rfl) ?_
    refine lv_bipush (v := 9) hx hb dX10_mostLeft_5 (by decide) ?_
    refine lv_icmp_ge (tgt := 23) hx hb dX10_mostLeft_7 (by decide) (fun c1 => by exact absurd c1 (nI_ge (a := j) (b := 9) (by omega) (by omega))) (fun c1 => ?_)
    refine lv_aload_n hx hb dX10_mostLeft_10 rfl (lv_at hl 0 rfl) ?_
    refine k_get C hw (CC := RX10) (T := TX10) (N := 35) nX10_mostLeft_X10 0 rfl rfl 30 (by decide) (List.mem_of_getElem? (i := 1) rfl) rfl rfl dX10_mostLeft_11 ?_
    refine lv_iload_n hx hb dX10_mostLeft_14 rfl (lv_at hl 3 rfl) ?_
    refine lv_iconst (v := 0) hx hb dX10_mostLeft_15 (by decide) ?_
    refine k_iastN C hw 2 rfl j rfl (by omega) (by decide) dX10_mostLeft_16 (fun H locs hw => ?_)
    replace hw : kW D _ s H locs [(a_t, .inr (10, [.ref a_t_wealth, .ref a_t_given, .ref a_t_chart, .ref a_t_relatives, .int v_t_inside, .int v_t_next, .int v_t_years, .ref a_t_sightSet, .ref a_t_sightMany, .int v_t_sights, .ref a_t_digits, .ref a_t_pad, .int v_t_padMany, .ref a_t_act, .ref a_t_who, .ref a_t_whom, .ref a_t_much, .int v_t_acts, .int v_t_givenNow, .int v_t_entered, .ref a_t_had, .int v_t_badAct, .int v_t_badWhy, .int v_t_firstAct, .int v_t_firstHouse, .ref a_t_dues, .ref a_t_groups, .ref a_t_ways, .ref a_t_fit, .int v_t_fitMany, .ref a_t_byMany, .ref a_t_kept, .ref a_t_isKept, .int v_t_keptAt, .int v_t_isWriting])), (a_t_fit, .inl (cI, 256, .inl g_t_fit)), (a_t_byMany, .inl (cI, 9, .inl (upd g_t_byMany j 0)))] := hw
    refine lv_iinc (v := (nI (j + 1))) (lv' := [(3, .int (nI (j + 1))), (0, .ref a_t), (1, .int x1), (2, .int x2)]) hx hb dX10_mostLeft_17 hl (k := 3) rfl (nI_1 _) (by decide) rfl (fun ls hl => ?_)
    refine lv_goto (tgt := 4) hx hb dX10_mostLeft_20 (by decide) ?_
    have hB : B_X10_mostLeft_4 j g_t_byMany = (upd g_t_byMany j 0) := by
      unfold B_X10_mostLeft_4
      exact rfl
    rw [it_c hB] at kk
    exact ih (j + 1) (upd g_t_byMany j 0) (by omega) (by omega) _ _ hw _ (lv_sub hl [1, 2, 3, 0] rfl) kk
def B_X10_mostLeft_25 (x1 : Int32) (g_t_fit : (Nat → Int32)) (j : Nat) (v : Int32 × (Nat → Int32)) : Int32 × (Nat → Int32) := (if ((upd v.2 (f_X10_ones ((g_t_fit j) &&& x1)).toNatClampNeg ((v.2 (f_X10_ones ((g_t_fit j) &&& x1)).toNatClampNeg) + 1)) (f_X10_ones ((g_t_fit j) &&& x1)).toNatClampNeg) ≤ v.1 then (v.1, (upd v.2 (f_X10_ones ((g_t_fit j) &&& x1)).toNatClampNeg ((v.2 (f_X10_ones ((g_t_fit j) &&& x1)).toNatClampNeg) + 1))) else (((upd v.2 (f_X10_ones ((g_t_fit j) &&& x1)).toNatClampNeg ((v.2 (f_X10_ones ((g_t_fit j) &&& x1)).toNatClampNeg) + 1)) (f_X10_ones ((g_t_fit j) &&& x1)).toNatClampNeg), (upd v.2 (f_X10_ones ((g_t_fit j) &&& x1)).toNatClampNeg ((v.2 (f_X10_ones ((g_t_fit j) &&& x1)).toNatClampNeg) + 1))))
def oB_X10_mostLeft_25 (x1 : Int32) (g_t_fit : (Nat → Int32)) (j : Nat) (v : Int32 × (Nat → Int32)) : Prop := ((j < 256) ∧ ((o_X10_ones ((g_t_fit j) &&& x1)) ∧ ((vp_in (f_X10_ones ((g_t_fit j) &&& x1)) 9) ∧ ((vp_in (f_X10_ones ((g_t_fit j) &&& x1)) 9) ∧ ((vp_in (f_X10_ones ((g_t_fit j) &&& x1)) 9) ∧ (if ((upd v.2 (f_X10_ones ((g_t_fit j) &&& x1)).toNatClampNeg ((v.2 (f_X10_ones ((g_t_fit j) &&& x1)).toNatClampNeg) + 1)) (f_X10_ones ((g_t_fit j) &&& x1)).toNatClampNeg) ≤ v.1 then True else ((vp_in (f_X10_ones ((g_t_fit j) &&& x1)) 9) ∧ True)))))))
set_option maxHeartbeats 4000000 in
set_option maxRecDepth 100000 in
theorem l_X10_mostLeft_25 {p : Program} {l : Launch} {e : Env} {s : State} {m : MethodId} {args : Array Value} {below : List Frame} {meth : Method} {c : Code} {D : va_G} {cI cZ : ClassId} {Q : State → Prop} {A : Nat → Prop} (a_t a_t_wealth a_t_given a_t_chart a_t_relatives a_t_sightSet a_t_sightMany a_t_digits a_t_pad a_t_act a_t_who a_t_whom a_t_much a_t_had a_t_dues a_t_groups a_t_ways a_t_fit a_t_byMany a_t_kept a_t_isKept : Nat) (x1 : Int32) (v_t_inside : Int32) (v_t_next : Int32) (v_t_years : Int32) (v_t_sights : Int32) (v_t_padMany : Int32) (v_t_acts : Int32) (v_t_givenNow : Int32) (v_t_entered : Int32) (v_t_badAct : Int32) (v_t_badWhy : Int32) (v_t_firstAct : Int32) (v_t_firstHouse : Int32) (v_t_fitMany : Int32) (v_t_keptAt : Int32) (v_t_isWriting : Int32) (g_t_fit : (Nat → Int32)) (C : kC p s m args meth c cX10_mostLeft 5 wsX10_mostLeft RX10 D cI cZ A) (b : Nat) (hB : v_t_fitMany = nI b) (hb31 : b < 2147483648) : ∀ (n j : Nat) (x2 : Int32) (g_t_byMany : (Nat → Int32)), n = b - j → j < 2147483648 → itA (oB_X10_mostLeft_25 x1 g_t_fit) (B_X10_mostLeft_25 x1 g_t_fit) j n (x2, g_t_byMany) → ∀ (H : Heap) (locs : List Loc), kW D A s H locs [(a_t, .inr (10, [.ref a_t_wealth, .ref a_t_given, .ref a_t_chart, .ref a_t_relatives, .int v_t_inside, .int v_t_next, .int v_t_years, .ref a_t_sightSet, .ref a_t_sightMany, .int v_t_sights, .ref a_t_digits, .ref a_t_pad, .int v_t_padMany, .ref a_t_act, .ref a_t_who, .ref a_t_whom, .ref a_t_much, .int v_t_acts, .int v_t_givenNow, .int v_t_entered, .ref a_t_had, .int v_t_badAct, .int v_t_badWhy, .int v_t_firstAct, .int v_t_firstHouse, .ref a_t_dues, .ref a_t_groups, .ref a_t_ways, .ref a_t_fit, .int v_t_fitMany, .ref a_t_byMany, .ref a_t_kept, .ref a_t_isKept, .int v_t_keptAt, .int v_t_isWriting])), (a_t_fit, .inl (cI, 256, .inl g_t_fit)), (a_t_byMany, .inl (cI, 9, .inl g_t_byMany))] → ∀ (ls : Array Slot), lv_has ls 5 [(0, .ref a_t), (1, .int x1), (2, .int x2), (3, .int (nI j))] → (∀ (H : Heap) (locs : List Loc) (ls : Array Slot), kW D A s H locs [(a_t, .inr (10, [.ref a_t_wealth, .ref a_t_given, .ref a_t_chart, .ref a_t_relatives, .int v_t_inside, .int v_t_next, .int v_t_years, .ref a_t_sightSet, .ref a_t_sightMany, .int v_t_sights, .ref a_t_digits, .ref a_t_pad, .int v_t_padMany, .ref a_t_act, .ref a_t_who, .ref a_t_whom, .ref a_t_much, .int v_t_acts, .int v_t_givenNow, .int v_t_entered, .ref a_t_had, .int v_t_badAct, .int v_t_badWhy, .int v_t_firstAct, .int v_t_firstHouse, .ref a_t_dues, .ref a_t_groups, .ref a_t_ways, .ref a_t_fit, .int v_t_fitMany, .ref a_t_byMany, .ref a_t_kept, .ref a_t_isKept, .int v_t_keptAt, .int v_t_isWriting])), (a_t_fit, .inl (cI, 256, .inl g_t_fit)), (a_t_byMany, .inl (cI, 9, .inl (it (B_X10_mostLeft_25 x1 g_t_fit) j n (x2, g_t_byMany)).2))] → lv_has ls 5 [(2, .int (it (B_X10_mostLeft_25 x1 g_t_fit) j n (x2, g_t_byMany)).1)] → W p l e ({ frames := 1, cells := 0, slots := 0, locals := 22 }) s m args below meth c H locs 0 0 Q (F0 m 86 ls [])) → W p l e ({ frames := 1, cells := 0, slots := 0, locals := 22 }) s m args below meth c H locs 0 0 Q (F0 m 25 ls []) := by
  have hx := C.hx
  have hb := C.hb
  intro n
  induction n with
  | zero =>
    intro j x2 g_t_byMany hn hj hok0 H locs hw ls hl kk
    refine lv_iload_n hx hb dX10_mostLeft_25 rfl (lv_at hl 3 rfl) ?_
    refine lv_aload_n hx hb dX10_mostLeft_26 rfl (lv_at hl 0 rfl) ?_
    refine k_get C hw (CC := RX10) (T := TX10) (N := 35) nX10_mostLeft_X10 0 rfl rfl 29 (by decide) (List.mem_of_getElem? (i := 2) rfl) rfl rfl dX10_mostLeft_27 ?_
    refine lv_icmp_ge (tgt := 86) hx hb dX10_mostLeft_30 (by decide) (fun c11 => ?_) (fun c11 => by rw [hB] at c11; exact absurd (nI_le (a := b) (b := j) (by omega) (by omega)) c11)
    exact kk _ _ _ hw (lv_sub hl [2] rfl)
  | succ n ih =>
    intro j x2 g_t_byMany hn hj hok0 H locs hw ls hl kk
    have hok := hok0.1
    refine lv_iload_n hx hb dX10_mostLeft_25 rfl (lv_at hl 3 rfl) ?_
    refine lv_aload_n hx hb dX10_mostLeft_26 rfl (lv_at hl 0 rfl) ?_
    refine k_get C hw (CC := RX10) (T := TX10) (N := 35) nX10_mostLeft_X10 0 rfl rfl 29 (by decide) (List.mem_of_getElem? (i := 2) rfl) rfl rfl dX10_mostLeft_27 ?_
    refine lv_icmp_ge (tgt := 86) hx hb dX10_mostLeft_30 (by decide) (fun c3 => by rw [hB] at c3; exact absurd c3 (nI_ge (a := j) (b := b) (by omega) (by omega))) (fun c3 => ?_)
    refine lv_aload_n hx hb dX10_mostLeft_33 rfl (lv_at hl 0 rfl) ?_
    refine k_get C hw (CC := RX10) (T := TX10) (N := 35) nX10_mostLeft_X10 0 rfl rfl 28 (by decide) (List.mem_of_getElem? (i := 3) rfl) rfl rfl dX10_mostLeft_34 ?_
    refine lv_iload_n hx hb dX10_mostLeft_37 rfl (lv_at hl 3 rfl) ?_
    obtain ⟨h4, hok⟩ := hok
    refine k_ialdN C hw 1 rfl j rfl h4 (by decide) dX10_mostLeft_38 ?_
    refine lv_iload_n hx hb dX10_mostLeft_39 rfl (lv_at hl 1 rfl) ?_
    refine lv_iand hx hb dX10_mostLeft_40 ?_
    obtain ⟨h5, hok⟩ := hok
    refine k_callS (As := [.int ((g_t_fit j) &&& x1)]) (rest := []) (n := 1) C hw (T_X10_ones l D cI cZ ((g_t_fit j) &&& x1) h5) gX10_mostLeft_X10_ones rfl ⟨rfl, rfl⟩ (by decide +kernel) ⟨Nat.le_of_ble_eq_true rfl, Nat.le_of_ble_eq_true rfl⟩ [] rfl rfl [] rfl rfl rfl hl.1 rfl (Nat.le_of_ble_eq_true rfl) ⟨Nat.zero_le _, Nat.zero_le _⟩ dX10_mostLeft_41 (fun H locs hw => ?_)
    refine W.eq (g2 := F0 m 44 ls [.int (f_X10_ones ((g_t_fit j) &&& x1))]) rfl ?_
    replace hw : kW D _ s H locs [(a_t, .inr (10, [.ref a_t_wealth, .ref a_t_given, .ref a_t_chart, .ref a_t_relatives, .int v_t_inside, .int v_t_next, .int v_t_years, .ref a_t_sightSet, .ref a_t_sightMany, .int v_t_sights, .ref a_t_digits, .ref a_t_pad, .int v_t_padMany, .ref a_t_act, .ref a_t_who, .ref a_t_whom, .ref a_t_much, .int v_t_acts, .int v_t_givenNow, .int v_t_entered, .ref a_t_had, .int v_t_badAct, .int v_t_badWhy, .int v_t_firstAct, .int v_t_firstHouse, .ref a_t_dues, .ref a_t_groups, .ref a_t_ways, .ref a_t_fit, .int v_t_fitMany, .ref a_t_byMany, .ref a_t_kept, .ref a_t_isKept, .int v_t_keptAt, .int v_t_isWriting])), (a_t_fit, .inl (cI, 256, .inl g_t_fit)), (a_t_byMany, .inl (cI, 9, .inl g_t_byMany))] := hw
    refine lv_istore (lv' := [(4, .int (f_X10_ones ((g_t_fit j) &&& x1))), (0, .ref a_t), (1, .int x1), (2, .int x2), (3, .int (nI j))]) hx hb dX10_mostLeft_44 hl (by decide) rfl (fun ls hl => ?_)
    refine lv_aload_n hx hb dX10_mostLeft_46 rfl (lv_at hl 1 rfl) ?_
    refine k_get C hw (CC := RX10) (T := TX10) (N := 35) nX10_mostLeft_X10 0 rfl rfl 30 (by decide) (List.mem_of_getElem? (i := 1) rfl) rfl rfl dX10_mostLeft_47 ?_
    refine lv_iload hx hb dX10_mostLeft_50 (lv_at hl 0 rfl) ?_
    refine lv_dup2_11 hx hb dX10_mostLeft_52 rfl rfl ?_
    obtain ⟨h6, hok⟩ := hok
    refine k_iald C hw 2 rfl h6 dX10_mostLeft_53 ?_
    refine lv_iconst (v := 1) hx hb dX10_mostLeft_54 (by decide) ?_
    refine lv_iadd hx hb dX10_mostLeft_55 ?_
    obtain ⟨h7, hok⟩ := hok
    refine k_iast C hw 2 rfl h7 dX10_mostLeft_56 (fun H locs hw => ?_)
    replace hw : kW D _ s H locs [(a_t, .inr (10, [.ref a_t_wealth, .ref a_t_given, .ref a_t_chart, .ref a_t_relatives, .int v_t_inside, .int v_t_next, .int v_t_years, .ref a_t_sightSet, .ref a_t_sightMany, .int v_t_sights, .ref a_t_digits, .ref a_t_pad, .int v_t_padMany, .ref a_t_act, .ref a_t_who, .ref a_t_whom, .ref a_t_much, .int v_t_acts, .int v_t_givenNow, .int v_t_entered, .ref a_t_had, .int v_t_badAct, .int v_t_badWhy, .int v_t_firstAct, .int v_t_firstHouse, .ref a_t_dues, .ref a_t_groups, .ref a_t_ways, .ref a_t_fit, .int v_t_fitMany, .ref a_t_byMany, .ref a_t_kept, .ref a_t_isKept, .int v_t_keptAt, .int v_t_isWriting])), (a_t_fit, .inl (cI, 256, .inl g_t_fit)), (a_t_byMany, .inl (cI, 9, .inl (upd g_t_byMany (f_X10_ones ((g_t_fit j) &&& x1)).toNatClampNeg ((g_t_byMany (f_X10_ones ((g_t_fit j) &&& x1)).toNatClampNeg) + 1))))] := hw
    refine lv_aload_n hx hb dX10_mostLeft_57 rfl (lv_at hl 1 rfl) ?_
    refine k_get C hw (CC := RX10) (T := TX10) (N := 35) nX10_mostLeft_X10 0 rfl rfl 30 (by decide) (List.mem_of_getElem? (i := 1) rfl) rfl rfl dX10_mostLeft_58 ?_
    refine lv_iload hx hb dX10_mostLeft_61 (lv_at hl 0 rfl) ?_
    obtain ⟨h8, hok⟩ := hok
    refine k_iald C hw 2 rfl h8 dX10_mostLeft_63 ?_
    refine lv_iload_n hx hb dX10_mostLeft_64 rfl (lv_at hl 3 rfl) ?_
    refine lv_icmp_le (tgt := 78) hx hb dX10_mostLeft_65 (by decide) (fun c9 => ?_) (fun c9 => ?_)
    · refine lv_iload_n hx hb dX10_mostLeft_78 rfl (lv_at hl 3 rfl) ?_
      refine lv_istore_n (lv' := [(2, .int x2), (4, .int (f_X10_ones ((g_t_fit j) &&& x1))), (0, .ref a_t), (1, .int x1), (3, .int (nI j))]) hx hb dX10_mostLeft_79 rfl hl (by decide) rfl (fun ls hl => ?_)
      refine lv_iinc (v := (nI (j + 1))) (lv' := [(3, .int (nI (j + 1))), (2, .int x2), (4, .int (f_X10_ones ((g_t_fit j) &&& x1))), (0, .ref a_t), (1, .int x1)]) hx hb dX10_mostLeft_80 hl (k := 4) rfl (nI_1 _) (by decide) rfl (fun ls hl => ?_)
      refine lv_goto (tgt := 25) hx hb dX10_mostLeft_83 (by decide) ?_
      have hB : B_X10_mostLeft_25 x1 g_t_fit j (x2, g_t_byMany) = (x2, (upd g_t_byMany (f_X10_ones ((g_t_fit j) &&& x1)).toNatClampNeg ((g_t_byMany (f_X10_ones ((g_t_fit j) &&& x1)).toNatClampNeg) + 1))) := by
        unfold B_X10_mostLeft_25
        exact (if_pos c9).trans (rfl)
      rw [it_c hB] at kk
      have hok2 := itA_c hB hok0
      exact ih (j + 1) x2 (upd g_t_byMany (f_X10_ones ((g_t_fit j) &&& x1)).toNatClampNeg ((g_t_byMany (f_X10_ones ((g_t_fit j) &&& x1)).toNatClampNeg) + 1)) (by omega) (by omega) hok2 _ _ hw _ (lv_sub hl [3, 4, 1, 0] rfl) kk
    · replace hok := Eq.mp (if_neg c9) hok
      refine lv_aload_n hx hb dX10_mostLeft_68 rfl (lv_at hl 1 rfl) ?_
      refine k_get C hw (CC := RX10) (T := TX10) (N := 35) nX10_mostLeft_X10 0 rfl rfl 30 (by decide) (List.mem_of_getElem? (i := 1) rfl) rfl rfl dX10_mostLeft_69 ?_
      refine lv_iload hx hb dX10_mostLeft_72 (lv_at hl 0 rfl) ?_
      obtain ⟨h10, hok⟩ := hok
      refine k_iald C hw 2 rfl h10 dX10_mostLeft_74 ?_
      refine lv_goto (tgt := 79) hx hb dX10_mostLeft_75 (by decide) ?_
      refine lv_istore_n (lv' := [(2, .int ((upd g_t_byMany (f_X10_ones ((g_t_fit j) &&& x1)).toNatClampNeg ((g_t_byMany (f_X10_ones ((g_t_fit j) &&& x1)).toNatClampNeg) + 1)) (f_X10_ones ((g_t_fit j) &&& x1)).toNatClampNeg)), (4, .int (f_X10_ones ((g_t_fit j) &&& x1))), (0, .ref a_t), (1, .int x1), (3, .int (nI j))]) hx hb dX10_mostLeft_79 rfl hl (by decide) rfl (fun ls hl => ?_)
      refine lv_iinc (v := (nI (j + 1))) (lv' := [(3, .int (nI (j + 1))), (2, .int ((upd g_t_byMany (f_X10_ones ((g_t_fit j) &&& x1)).toNatClampNeg ((g_t_byMany (f_X10_ones ((g_t_fit j) &&& x1)).toNatClampNeg) + 1)) (f_X10_ones ((g_t_fit j) &&& x1)).toNatClampNeg)), (4, .int (f_X10_ones ((g_t_fit j) &&& x1))), (0, .ref a_t), (1, .int x1)]) hx hb dX10_mostLeft_80 hl (k := 4) rfl (nI_1 _) (by decide) rfl (fun ls hl => ?_)
      refine lv_goto (tgt := 25) hx hb dX10_mostLeft_83 (by decide) ?_
      have hB : B_X10_mostLeft_25 x1 g_t_fit j (x2, g_t_byMany) = (((upd g_t_byMany (f_X10_ones ((g_t_fit j) &&& x1)).toNatClampNeg ((g_t_byMany (f_X10_ones ((g_t_fit j) &&& x1)).toNatClampNeg) + 1)) (f_X10_ones ((g_t_fit j) &&& x1)).toNatClampNeg), (upd g_t_byMany (f_X10_ones ((g_t_fit j) &&& x1)).toNatClampNeg ((g_t_byMany (f_X10_ones ((g_t_fit j) &&& x1)).toNatClampNeg) + 1))) := by
        unfold B_X10_mostLeft_25
        exact (if_neg c9).trans (rfl)
      rw [it_c hB] at kk
      have hok2 := itA_c hB hok0
      exact ih (j + 1) ((upd g_t_byMany (f_X10_ones ((g_t_fit j) &&& x1)).toNatClampNeg ((g_t_byMany (f_X10_ones ((g_t_fit j) &&& x1)).toNatClampNeg) + 1)) (f_X10_ones ((g_t_fit j) &&& x1)).toNatClampNeg) (upd g_t_byMany (f_X10_ones ((g_t_fit j) &&& x1)).toNatClampNeg ((g_t_byMany (f_X10_ones ((g_t_fit j) &&& x1)).toNatClampNeg) + 1)) (by omega) (by omega) hok2 _ _ hw _ (lv_sub hl [3, 4, 1, 0] rfl) kk
def f_X10_mostLeft (v_t_fitMany : Int32) (g_t_fit : (Nat → Int32)) (g_t_byMany : (Nat → Int32)) (p1 : Int32) : Int32 × (Nat → Int32) := (lt (it (B_X10_mostLeft_25 p1 g_t_fit) 0 ((v_t_fitMany.toNatClampNeg) - 0) ((0 : Int32), (it B_X10_mostLeft_4 0 9 g_t_byMany))) (fun z14 => (z14.1, z14.2)))
def o_X10_mostLeft (v_t_fitMany : Int32) (g_t_fit : (Nat → Int32)) (g_t_byMany : (Nat → Int32)) (p1 : Int32) : Prop := ((0 ≤ v_t_fitMany) ∧ ((itA (oB_X10_mostLeft_25 p1 g_t_fit) (B_X10_mostLeft_25 p1 g_t_fit) 0 ((v_t_fitMany.toNatClampNeg) - 0) ((0 : Int32), (it B_X10_mostLeft_4 0 9 g_t_byMany))) ∧ True))
set_option maxHeartbeats 4000000 in
set_option maxRecDepth 100000 in
theorem T_X10_mostLeft (l : Launch) (D : va_G) (cI cZ : ClassId) (a_t a_t_wealth a_t_given a_t_chart a_t_relatives a_t_sightSet a_t_sightMany a_t_digits a_t_pad a_t_act a_t_who a_t_whom a_t_much a_t_had a_t_dues a_t_groups a_t_ways a_t_fit a_t_byMany a_t_kept a_t_isKept : Nat) (v_t_inside : Int32) (v_t_next : Int32) (v_t_years : Int32) (v_t_sights : Int32) (v_t_padMany : Int32) (v_t_acts : Int32) (v_t_givenNow : Int32) (v_t_entered : Int32) (v_t_badAct : Int32) (v_t_badWhy : Int32) (v_t_firstAct : Int32) (v_t_firstHouse : Int32) (v_t_fitMany : Int32) (v_t_keptAt : Int32) (v_t_isWriting : Int32) (g_t_fit : (Nat → Int32)) (g_t_byMany : (Nat → Int32)) (p1 : Int32) (hok : o_X10_mostLeft v_t_fitMany g_t_fit g_t_byMany p1) : CT l D cI cZ yX10_mostLeft wsX10_mostLeft ({ frames := 1, cells := 0, slots := 0, locals := 22 }) [.ref a_t, .int p1] [(a_t, .inr (10, [.ref a_t_wealth, .ref a_t_given, .ref a_t_chart, .ref a_t_relatives, .int v_t_inside, .int v_t_next, .int v_t_years, .ref a_t_sightSet, .ref a_t_sightMany, .int v_t_sights, .ref a_t_digits, .ref a_t_pad, .int v_t_padMany, .ref a_t_act, .ref a_t_who, .ref a_t_whom, .ref a_t_much, .int v_t_acts, .int v_t_givenNow, .int v_t_entered, .ref a_t_had, .int v_t_badAct, .int v_t_badWhy, .int v_t_firstAct, .int v_t_firstHouse, .ref a_t_dues, .ref a_t_groups, .ref a_t_ways, .ref a_t_fit, .int v_t_fitMany, .ref a_t_byMany, .ref a_t_kept, .ref a_t_isKept, .int v_t_keptAt, .int v_t_isWriting])), (a_t_fit, .inl (cI, 256, .inl g_t_fit)), (a_t_byMany, .inl (cI, 9, .inl g_t_byMany))] (some (.int (f_X10_mostLeft v_t_fitMany g_t_fit g_t_byMany p1).1)) [(a_t, .inr (10, [.ref a_t_wealth, .ref a_t_given, .ref a_t_chart, .ref a_t_relatives, .int v_t_inside, .int v_t_next, .int v_t_years, .ref a_t_sightSet, .ref a_t_sightMany, .int v_t_sights, .ref a_t_digits, .ref a_t_pad, .int v_t_padMany, .ref a_t_act, .ref a_t_who, .ref a_t_whom, .ref a_t_much, .int v_t_acts, .int v_t_givenNow, .int v_t_entered, .ref a_t_had, .int v_t_badAct, .int v_t_badWhy, .int v_t_firstAct, .int v_t_firstHouse, .ref a_t_dues, .ref a_t_groups, .ref a_t_ways, .ref a_t_fit, .int v_t_fitMany, .ref a_t_byMany, .ref a_t_kept, .ref a_t_isKept, .int v_t_keptAt, .int v_t_isWriting])), (a_t_fit, .inl (cI, 256, .inl g_t_fit)), (a_t_byMany, .inl (cI, 9, .inl (f_X10_mostLeft v_t_fitMany g_t_fit g_t_byMany p1).2))] := by
  refine CT.intro RX10 (by decide) rfl (Nat.le_of_ble_eq_true rfl) rfl ?_
  intro p e s m below meth c C hr hw ls hl
  have hx := C.hx
  have hb := C.hb
  replace hl : lv_has ls 5 [(0, .ref a_t), (1, .int p1)] := hl
  refine lv_iconst (v := 0) hx hb dX10_mostLeft_0 (by decide) ?_
  refine lv_istore_n (lv' := [(2, .int 0), (0, .ref a_t), (1, .int p1)]) hx hb dX10_mostLeft_1 rfl hl (by decide) rfl (fun ls hl => ?_)
  refine lv_iconst (v := 0) hx hb dX10_mostLeft_2 (by decide) ?_
  refine lv_istore_n (lv' := [(3, .int 0), (2, .int 0), (0, .ref a_t), (1, .int p1)]) hx hb dX10_mostLeft_3 rfl hl (by decide) rfl (fun ls hl => ?_)
  refine l_X10_mostLeft_4 a_t a_t_wealth a_t_given a_t_chart a_t_relatives a_t_sightSet a_t_sightMany a_t_digits a_t_pad a_t_act a_t_who a_t_whom a_t_much a_t_had a_t_dues a_t_groups a_t_ways a_t_fit a_t_byMany a_t_kept a_t_isKept p1 (0 : Int32) v_t_inside v_t_next v_t_years v_t_sights v_t_padMany v_t_acts v_t_givenNow v_t_entered v_t_badAct v_t_badWhy v_t_firstAct v_t_firstHouse v_t_fitMany v_t_keptAt v_t_isWriting g_t_fit C 9 0 g_t_byMany (by decide) (by decide) _ _ hw _ (lv_sub hl [2, 3, 1, 0] rfl) (fun H locs ls hw hl => ?_)
  replace hw : kW D _ s H locs [(a_t, .inr (10, [.ref a_t_wealth, .ref a_t_given, .ref a_t_chart, .ref a_t_relatives, .int v_t_inside, .int v_t_next, .int v_t_years, .ref a_t_sightSet, .ref a_t_sightMany, .int v_t_sights, .ref a_t_digits, .ref a_t_pad, .int v_t_padMany, .ref a_t_act, .ref a_t_who, .ref a_t_whom, .ref a_t_much, .int v_t_acts, .int v_t_givenNow, .int v_t_entered, .ref a_t_had, .int v_t_badAct, .int v_t_badWhy, .int v_t_firstAct, .int v_t_firstHouse, .ref a_t_dues, .ref a_t_groups, .ref a_t_ways, .ref a_t_fit, .int v_t_fitMany, .ref a_t_byMany, .ref a_t_kept, .ref a_t_isKept, .int v_t_keptAt, .int v_t_isWriting])), (a_t_fit, .inl (cI, 256, .inl g_t_fit)), (a_t_byMany, .inl (cI, 9, .inl (it B_X10_mostLeft_4 0 9 g_t_byMany)))] := hw
  replace hl : lv_has ls 5 [(0, .ref a_t), (1, .int p1), (2, .int 0)] := hl
  refine lv_iconst (v := 0) hx hb dX10_mostLeft_23 (by decide) ?_
  refine lv_istore_n (lv' := [(3, .int 0), (0, .ref a_t), (1, .int p1), (2, .int 0)]) hx hb dX10_mostLeft_24 rfl hl (by decide) rfl (fun ls hl => ?_)
  obtain ⟨h12, hok⟩ := hok
  obtain ⟨h13, hok⟩ := hok
  refine l_X10_mostLeft_25 a_t a_t_wealth a_t_given a_t_chart a_t_relatives a_t_sightSet a_t_sightMany a_t_digits a_t_pad a_t_act a_t_who a_t_whom a_t_much a_t_had a_t_dues a_t_groups a_t_ways a_t_fit a_t_byMany a_t_kept a_t_isKept p1 v_t_inside v_t_next v_t_years v_t_sights v_t_padMany v_t_acts v_t_givenNow v_t_entered v_t_badAct v_t_badWhy v_t_firstAct v_t_firstHouse v_t_fitMany v_t_keptAt v_t_isWriting g_t_fit C v_t_fitMany.toNatClampNeg (nI_self h12) (clamp_lt _) ((v_t_fitMany.toNatClampNeg) - 0) 0 (0 : Int32) (it B_X10_mostLeft_4 0 9 g_t_byMany) rfl (by decide) h13 _ _ hw _ (lv_sub hl [1, 2, 3, 0] rfl) (fun H locs ls hw hl => ?_)
  obtain ⟨z14, h15⟩ : ∃ z, (it (B_X10_mostLeft_25 p1 g_t_fit) 0 ((v_t_fitMany.toNatClampNeg) - 0) ((0 : Int32), (it B_X10_mostLeft_4 0 9 g_t_byMany))) = z := ⟨_, rfl⟩
  replace hw := kW_cast (ws' := [(a_t, .inr (10, [.ref a_t_wealth, .ref a_t_given, .ref a_t_chart, .ref a_t_relatives, .int v_t_inside, .int v_t_next, .int v_t_years, .ref a_t_sightSet, .ref a_t_sightMany, .int v_t_sights, .ref a_t_digits, .ref a_t_pad, .int v_t_padMany, .ref a_t_act, .ref a_t_who, .ref a_t_whom, .ref a_t_much, .int v_t_acts, .int v_t_givenNow, .int v_t_entered, .ref a_t_had, .int v_t_badAct, .int v_t_badWhy, .int v_t_firstAct, .int v_t_firstHouse, .ref a_t_dues, .ref a_t_groups, .ref a_t_ways, .ref a_t_fit, .int v_t_fitMany, .ref a_t_byMany, .ref a_t_kept, .ref a_t_isKept, .int v_t_keptAt, .int v_t_isWriting])), (a_t_fit, .inl (cI, 256, .inl g_t_fit)), (a_t_byMany, .inl (cI, 9, .inl z14.2))]) (by subst h15; rfl) hw
  replace hl : lv_has ls 5 [(2, .int z14.1)] := by subst h15; exact hl
  refine lv_iload_n hx hb dX10_mostLeft_86 rfl (lv_at hl 0 rfl) ?_
  rw [show f_X10_mostLeft v_t_fitMany g_t_fit g_t_byMany p1 = (z14.1, z14.2) from by
      unfold f_X10_mostLeft
      exact (lt_c h15).trans (rfl)]
  exact k_iret C hr hw dX10_mostLeft_87

theorem nX10_ask_X10 : ∀ w ∈ wsX100, w ∈ wsX10_ask := fun _ h => List.mem_cons_of_mem _ (List.mem_append_right _ h)
def B_X10_ask_27 (v_t_fitMany : Int32) (g_t_fit : (Nat → Int32)) (j : Nat) (v : Int32 × Int32 × (Nat → Int32)) : (Int32 × Int32 × (Nat → Int32)) ⊕ (Int32 × Int32 × (Nat → Int32)) := (if v_t_fitMany ≤ 0 then Sum.inr (v.1, v.2.1, v.2.2) else (lt (f_X10_mostLeft v_t_fitMany g_t_fit v.2.2 (nI j)) (fun z8 => (if v.2.1 ≤ z8.1 then Sum.inl (v.1, (f_X10_less v.2.1 z8.1), z8.2) else Sum.inl ((nI j), (f_X10_less v.2.1 z8.1), z8.2)))))
def oB_X10_ask_27 (v_t_fitMany : Int32) (g_t_fit : (Nat → Int32)) (j : Nat) (v : Int32 × Int32 × (Nat → Int32)) : Prop := (if v_t_fitMany ≤ 0 then True else ((o_X10_mostLeft v_t_fitMany g_t_fit v.2.2 (nI j)) ∧ True))
set_option maxHeartbeats 4000000 in
set_option maxRecDepth 100000 in
theorem l_X10_ask_27 {p : Program} {l : Launch} {e : Env} {s : State} {m : MethodId} {args : Array Value} {below : List Frame} {meth : Method} {c : Code} {D : va_G} {cI cZ : ClassId} {Q : State → Prop} {A : Nat → Prop} (a_t a_t_wealth a_t_given a_t_chart a_t_relatives a_t_sightSet a_t_sightMany a_t_digits a_t_pad a_t_act a_t_who a_t_whom a_t_much a_t_had a_t_dues a_t_groups a_t_ways a_t_fit a_t_byMany a_t_kept a_t_isKept : Nat) (x1 : Int32) (v_t_inside : Int32) (v_t_next : Int32) (v_t_years : Int32) (v_t_sights : Int32) (v_t_padMany : Int32) (v_t_acts : Int32) (v_t_givenNow : Int32) (v_t_entered : Int32) (v_t_badAct : Int32) (v_t_badWhy : Int32) (v_t_firstAct : Int32) (v_t_firstHouse : Int32) (v_t_fitMany : Int32) (v_t_keptAt : Int32) (v_t_isWriting : Int32) (g_t_sightSet : (Nat → Int32)) (g_t_sightMany : (Nat → Int32)) (g_t_fit : (Nat → Int32)) (C : kC p s m args meth c cX10_ask 6 wsX10_ask RX10 D cI cZ A) : ∀ (n j : Nat) (x2 : Int32) (x3 : Int32) (g_t_byMany : (Nat → Int32)), n = 256 - j → j < 2147483648 → lbA (oB_X10_ask_27 v_t_fitMany g_t_fit) (B_X10_ask_27 v_t_fitMany g_t_fit) j n (x2, x3, g_t_byMany) → ∀ (H : Heap) (locs : List Loc), kW D A s H locs [(a_t, .inr (10, [.ref a_t_wealth, .ref a_t_given, .ref a_t_chart, .ref a_t_relatives, .int v_t_inside, .int v_t_next, .int v_t_years, .ref a_t_sightSet, .ref a_t_sightMany, .int v_t_sights, .ref a_t_digits, .ref a_t_pad, .int v_t_padMany, .ref a_t_act, .ref a_t_who, .ref a_t_whom, .ref a_t_much, .int v_t_acts, .int v_t_givenNow, .int v_t_entered, .ref a_t_had, .int v_t_badAct, .int v_t_badWhy, .int v_t_firstAct, .int v_t_firstHouse, .ref a_t_dues, .ref a_t_groups, .ref a_t_ways, .ref a_t_fit, .int v_t_fitMany, .ref a_t_byMany, .ref a_t_kept, .ref a_t_isKept, .int v_t_keptAt, .int v_t_isWriting])), (a_t_sightSet, .inl (cI, 8, .inl g_t_sightSet)), (a_t_sightMany, .inl (cI, 8, .inl g_t_sightMany)), (a_t_fit, .inl (cI, 256, .inl g_t_fit)), (a_t_byMany, .inl (cI, 9, .inl g_t_byMany))] → ∀ (ls : Array Slot), lv_has ls 6 [(0, .ref a_t), (1, .int x1), (2, .int x2), (3, .int x3), (4, .int (nI j))] → (∀ (H : Heap) (locs : List Loc) (ls : Array Slot), kW D A s H locs [(a_t, .inr (10, [.ref a_t_wealth, .ref a_t_given, .ref a_t_chart, .ref a_t_relatives, .int v_t_inside, .int v_t_next, .int v_t_years, .ref a_t_sightSet, .ref a_t_sightMany, .int v_t_sights, .ref a_t_digits, .ref a_t_pad, .int v_t_padMany, .ref a_t_act, .ref a_t_who, .ref a_t_whom, .ref a_t_much, .int v_t_acts, .int v_t_givenNow, .int v_t_entered, .ref a_t_had, .int v_t_badAct, .int v_t_badWhy, .int v_t_firstAct, .int v_t_firstHouse, .ref a_t_dues, .ref a_t_groups, .ref a_t_ways, .ref a_t_fit, .int v_t_fitMany, .ref a_t_byMany, .ref a_t_kept, .ref a_t_isKept, .int v_t_keptAt, .int v_t_isWriting])), (a_t_sightSet, .inl (cI, 8, .inl g_t_sightSet)), (a_t_sightMany, .inl (cI, 8, .inl g_t_sightMany)), (a_t_fit, .inl (cI, 256, .inl g_t_fit)), (a_t_byMany, .inl (cI, 9, .inl (lb (B_X10_ask_27 v_t_fitMany g_t_fit) j n (x2, x3, g_t_byMany)).2.2))] → lv_has ls 6 [(0, .ref a_t), (1, .int x1), (2, .int (lb (B_X10_ask_27 v_t_fitMany g_t_fit) j n (x2, x3, g_t_byMany)).1), (3, .int (lb (B_X10_ask_27 v_t_fitMany g_t_fit) j n (x2, x3, g_t_byMany)).2.1)] → W p l e ({ frames := 3, cells := 0, slots := 0, locals := 66 }) s m args below meth c H locs 0 0 Q (F0 m 76 ls [])) → W p l e ({ frames := 3, cells := 0, slots := 0, locals := 66 }) s m args below meth c H locs 0 0 Q (F0 m 27 ls []) := by
  have hx := C.hx
  have hb := C.hb
  intro n
  induction n with
  | zero =>
    intro j x2 x3 g_t_byMany hn hj hok0 H locs hw ls hl kk
    refine lv_iload hx hb dX10_ask_27 (lv_at hl 4 rfl) ?_
    refine lv_sipush (v := 256) hx hb dX10_ask_29 (by decide) ?_
    refine lv_icmp_ge (tgt := 76) hx hb dX10_ask_32 (by decide) (fun c11 => ?_) (fun c11 => by exact absurd (nI_le (a := 256) (b := j) (by omega) (by omega)) c11)
    exact kk _ _ _ hw (lv_sub hl [0, 1, 2, 3] rfl)
  | succ n ih =>
    intro j x2 x3 g_t_byMany hn hj hok0 H locs hw ls hl kk
    have hok := hok0.1
    refine lv_iload hx hb dX10_ask_27 (lv_at hl 4 rfl) ?_
    refine lv_sipush (v := 256) hx hb dX10_ask_29 (by decide) ?_
    refine lv_icmp_ge (tgt := 76) hx hb dX10_ask_32 (by decide) (fun c5 => by exact absurd c5 (nI_ge (a := j) (b := 256) (by omega) (by omega))) (fun c5 => ?_)
    refine lv_aload_n hx hb dX10_ask_35 rfl (lv_at hl 0 rfl) ?_
    refine k_get C hw (CC := RX10) (T := TX10) (N := 35) nX10_ask_X10 0 rfl rfl 29 (by decide) (List.mem_of_getElem? (i := 1) rfl) rfl rfl dX10_ask_36 ?_
    refine lv_if_le (tgt := 76) hx hb dX10_ask_39 (by decide) (fun c6 => ?_) (fun c6 => ?_)
    · have hB : B_X10_ask_27 v_t_fitMany g_t_fit j (x2, x3, g_t_byMany) = Sum.inr (x2, x3, g_t_byMany) := by
        unfold B_X10_ask_27
        exact (if_pos c6).trans (rfl)
      rw [lb_b hB] at kk
      exact kk _ _ _ hw (lv_sub hl [0, 1, 2, 3] rfl)
    · replace hok := Eq.mp (if_neg c6) hok
      refine lv_aload_n hx hb dX10_ask_42 rfl (lv_at hl 0 rfl) ?_
      refine lv_iload hx hb dX10_ask_43 (lv_at hl 4 rfl) ?_
      obtain ⟨h7, hok⟩ := hok
      refine k_callV (As := [.int (nI j)]) (rest := []) (n := 1) (CC := RX10) (T := TX10) (N := 35) C hw (T_X10_mostLeft l D cI cZ a_t a_t_wealth a_t_given a_t_chart a_t_relatives a_t_sightSet a_t_sightMany a_t_digits a_t_pad a_t_act a_t_who a_t_whom a_t_much a_t_had a_t_dues a_t_groups a_t_ways a_t_fit a_t_byMany a_t_kept a_t_isKept v_t_inside v_t_next v_t_years v_t_sights v_t_padMany v_t_acts v_t_givenNow v_t_entered v_t_badAct v_t_badWhy v_t_firstAct v_t_firstHouse v_t_fitMany v_t_keptAt v_t_isWriting g_t_fit g_t_byMany (nI j) h7) gX10_ask_X10_mostLeft rfl ⟨rfl, rfl⟩ (by decide +kernel) ⟨Nat.le_of_ble_eq_true rfl, Nat.le_of_ble_eq_true rfl⟩ 0 rfl rfl [0, 3, 4] rfl rfl [a_t, a_t_fit, a_t_byMany] rfl rfl rfl hl.1 rfl (Nat.le_of_ble_eq_true rfl) ⟨Nat.zero_le _, Nat.zero_le _⟩ dX10_ask_45 (fun H locs hw => ?_)
      obtain ⟨z8, h9⟩ : ∃ z, (f_X10_mostLeft v_t_fitMany g_t_fit g_t_byMany (nI j)) = z := ⟨_, rfl⟩
      refine W.eq (g2 := F0 m 48 ls [.int z8.1]) (by subst h9; rfl) ?_
      replace hw := kW_cast (ws' := [(a_t, .inr (10, [.ref a_t_wealth, .ref a_t_given, .ref a_t_chart, .ref a_t_relatives, .int v_t_inside, .int v_t_next, .int v_t_years, .ref a_t_sightSet, .ref a_t_sightMany, .int v_t_sights, .ref a_t_digits, .ref a_t_pad, .int v_t_padMany, .ref a_t_act, .ref a_t_who, .ref a_t_whom, .ref a_t_much, .int v_t_acts, .int v_t_givenNow, .int v_t_entered, .ref a_t_had, .int v_t_badAct, .int v_t_badWhy, .int v_t_firstAct, .int v_t_firstHouse, .ref a_t_dues, .ref a_t_groups, .ref a_t_ways, .ref a_t_fit, .int v_t_fitMany, .ref a_t_byMany, .ref a_t_kept, .ref a_t_isKept, .int v_t_keptAt, .int v_t_isWriting])), (a_t_sightSet, .inl (cI, 8, .inl g_t_sightSet)), (a_t_sightMany, .inl (cI, 8, .inl g_t_sightMany)), (a_t_fit, .inl (cI, 256, .inl g_t_fit)), (a_t_byMany, .inl (cI, 9, .inl z8.2))]) (by subst h9; rfl) hw
      refine lv_istore (lv' := [(5, .int z8.1), (0, .ref a_t), (1, .int x1), (2, .int x2), (3, .int x3), (4, .int (nI j))]) hx hb dX10_ask_48 hl (by decide) rfl (fun ls hl => ?_)
      refine lv_iload hx hb dX10_ask_50 (lv_at hl 0 rfl) ?_
      refine lv_iload_n hx hb dX10_ask_52 rfl (lv_at hl 4 rfl) ?_
      refine lv_icmp_ge (tgt := 61) hx hb dX10_ask_53 (by decide) (fun c10 => ?_) (fun c10 => ?_)
      · refine lv_iload_n hx hb dX10_ask_61 rfl (lv_at hl 3 rfl) ?_
        refine lv_istore_n (lv' := [(2, .int x2), (5, .int z8.1), (0, .ref a_t), (1, .int x1), (3, .int x3), (4, .int (nI j))]) hx hb dX10_ask_62 rfl hl (by decide) rfl (fun ls hl => ?_)
        refine lv_iload_n hx hb dX10_ask_63 rfl (lv_at hl 4 rfl) ?_
        refine lv_iload hx hb dX10_ask_64 (lv_at hl 1 rfl) ?_
        refine k_callS (As := [.int x3, .int z8.1]) (rest := []) (n := 2) C hw (T_X10_less l D cI cZ x3 z8.1) gX10_ask_X10_less rfl ⟨rfl, rfl⟩ (by decide +kernel) ⟨Nat.le_of_ble_eq_true rfl, Nat.le_of_ble_eq_true rfl⟩ [] rfl rfl [] rfl rfl rfl hl.1 rfl (Nat.le_of_ble_eq_true rfl) ⟨Nat.zero_le _, Nat.zero_le _⟩ dX10_ask_66 (fun H locs hw => ?_)
        refine W.eq (g2 := F0 m 69 ls [.int (f_X10_less x3 z8.1)]) rfl ?_
        replace hw : kW D _ s H locs [(a_t, .inr (10, [.ref a_t_wealth, .ref a_t_given, .ref a_t_chart, .ref a_t_relatives, .int v_t_inside, .int v_t_next, .int v_t_years, .ref a_t_sightSet, .ref a_t_sightMany, .int v_t_sights, .ref a_t_digits, .ref a_t_pad, .int v_t_padMany, .ref a_t_act, .ref a_t_who, .ref a_t_whom, .ref a_t_much, .int v_t_acts, .int v_t_givenNow, .int v_t_entered, .ref a_t_had, .int v_t_badAct, .int v_t_badWhy, .int v_t_firstAct, .int v_t_firstHouse, .ref a_t_dues, .ref a_t_groups, .ref a_t_ways, .ref a_t_fit, .int v_t_fitMany, .ref a_t_byMany, .ref a_t_kept, .ref a_t_isKept, .int v_t_keptAt, .int v_t_isWriting])), (a_t_sightSet, .inl (cI, 8, .inl g_t_sightSet)), (a_t_sightMany, .inl (cI, 8, .inl g_t_sightMany)), (a_t_fit, .inl (cI, 256, .inl g_t_fit)), (a_t_byMany, .inl (cI, 9, .inl z8.2))] := hw
        refine lv_istore_n (lv' := [(3, .int (f_X10_less x3 z8.1)), (2, .int x2), (5, .int z8.1), (0, .ref a_t), (1, .int x1), (4, .int (nI j))]) hx hb dX10_ask_69 rfl hl (by decide) rfl (fun ls hl => ?_)
        refine lv_iinc (v := (nI (j + 1))) (lv' := [(4, .int (nI (j + 1))), (3, .int (f_X10_less x3 z8.1)), (2, .int x2), (5, .int z8.1), (0, .ref a_t), (1, .int x1)]) hx hb dX10_ask_70 hl (k := 5) rfl (nI_1 _) (by decide) rfl (fun ls hl => ?_)
        refine lv_goto (tgt := 27) hx hb dX10_ask_73 (by decide) ?_
        have hB : B_X10_ask_27 v_t_fitMany g_t_fit j (x2, x3, g_t_byMany) = Sum.inl (x2, (f_X10_less x3 z8.1), z8.2) := by
          unfold B_X10_ask_27
          exact (if_neg c6).trans ((lt_c h9).trans ((if_pos c10).trans (rfl)))
        rw [lb_c hB] at kk
        have hok2 := lbA_c hB hok0
        exact ih (j + 1) x2 (f_X10_less x3 z8.1) z8.2 (by omega) (by omega) hok2 _ _ hw _ (lv_sub hl [4, 5, 2, 1, 0] rfl) kk
      · refine lv_iload hx hb dX10_ask_56 (lv_at hl 5 rfl) ?_
        refine lv_goto (tgt := 62) hx hb dX10_ask_58 (by decide) ?_
        refine lv_istore_n (lv' := [(2, .int (nI j)), (5, .int z8.1), (0, .ref a_t), (1, .int x1), (3, .int x3), (4, .int (nI j))]) hx hb dX10_ask_62 rfl hl (by decide) rfl (fun ls hl => ?_)
        refine lv_iload_n hx hb dX10_ask_63 rfl (lv_at hl 4 rfl) ?_
        refine lv_iload hx hb dX10_ask_64 (lv_at hl 1 rfl) ?_
        refine k_callS (As := [.int x3, .int z8.1]) (rest := []) (n := 2) C hw (T_X10_less l D cI cZ x3 z8.1) gX10_ask_X10_less rfl ⟨rfl, rfl⟩ (by decide +kernel) ⟨Nat.le_of_ble_eq_true rfl, Nat.le_of_ble_eq_true rfl⟩ [] rfl rfl [] rfl rfl rfl hl.1 rfl (Nat.le_of_ble_eq_true rfl) ⟨Nat.zero_le _, Nat.zero_le _⟩ dX10_ask_66 (fun H locs hw => ?_)
        refine W.eq (g2 := F0 m 69 ls [.int (f_X10_less x3 z8.1)]) rfl ?_
        replace hw : kW D _ s H locs [(a_t, .inr (10, [.ref a_t_wealth, .ref a_t_given, .ref a_t_chart, .ref a_t_relatives, .int v_t_inside, .int v_t_next, .int v_t_years, .ref a_t_sightSet, .ref a_t_sightMany, .int v_t_sights, .ref a_t_digits, .ref a_t_pad, .int v_t_padMany, .ref a_t_act, .ref a_t_who, .ref a_t_whom, .ref a_t_much, .int v_t_acts, .int v_t_givenNow, .int v_t_entered, .ref a_t_had, .int v_t_badAct, .int v_t_badWhy, .int v_t_firstAct, .int v_t_firstHouse, .ref a_t_dues, .ref a_t_groups, .ref a_t_ways, .ref a_t_fit, .int v_t_fitMany, .ref a_t_byMany, .ref a_t_kept, .ref a_t_isKept, .int v_t_keptAt, .int v_t_isWriting])), (a_t_sightSet, .inl (cI, 8, .inl g_t_sightSet)), (a_t_sightMany, .inl (cI, 8, .inl g_t_sightMany)), (a_t_fit, .inl (cI, 256, .inl g_t_fit)), (a_t_byMany, .inl (cI, 9, .inl z8.2))] := hw
        refine lv_istore_n (lv' := [(3, .int (f_X10_less x3 z8.1)), (2, .int (nI j)), (5, .int z8.1), (0, .ref a_t), (1, .int x1), (4, .int (nI j))]) hx hb dX10_ask_69 rfl hl (by decide) rfl (fun ls hl => ?_)
        refine lv_iinc (v := (nI (j + 1))) (lv' := [(4, .int (nI (j + 1))), (3, .int (f_X10_less x3 z8.1)), (2, .int (nI j)), (5, .int z8.1), (0, .ref a_t), (1, .int x1)]) hx hb dX10_ask_70 hl (k := 5) rfl (nI_1 _) (by decide) rfl (fun ls hl => ?_)
        refine lv_goto (tgt := 27) hx hb dX10_ask_73 (by decide) ?_
        have hB : B_X10_ask_27 v_t_fitMany g_t_fit j (x2, x3, g_t_byMany) = Sum.inl ((nI j), (f_X10_less x3 z8.1), z8.2) := by
          unfold B_X10_ask_27
          exact (if_neg c6).trans ((lt_c h9).trans ((if_neg c10).trans (rfl)))
        rw [lb_c hB] at kk
        have hok2 := lbA_c hB hok0
        exact ih (j + 1) (nI j) (f_X10_less x3 z8.1) z8.2 (by omega) (by omega) hok2 _ _ hw _ (lv_sub hl [4, 5, 2, 1, 0] rfl) kk
def f_X10_ask (v_t_sights : Int32) (v_t_fitMany : Int32) (g_t_sightSet : (Nat → Int32)) (g_t_sightMany : (Nat → Int32)) (g_t_fit : (Nat → Int32)) (g_t_byMany : (Nat → Int32)) (p1 : Int32) : Int32 × Int32 × (Nat → Int32) × (Nat → Int32) := (if (f_X10_in ((p1).toInt64) (0 : Int64) (1 : Int64)) = 0 then ((-2), v_t_fitMany, g_t_fit, g_t_byMany) else (lt (f_X10_findFits v_t_sights g_t_sightSet g_t_sightMany g_t_fit) (fun z3 => (if z3.1 = 0 then ((-6), z3.1, z3.2, (lb (B_X10_ask_27 z3.1 z3.2) 1 255 ((0 : Int32), z3.1, g_t_byMany)).2.2) else (if p1 = 0 then ((lb (B_X10_ask_27 z3.1 z3.2) 1 255 ((0 : Int32), z3.1, g_t_byMany)).1, z3.1, z3.2, (lb (B_X10_ask_27 z3.1 z3.2) 1 255 ((0 : Int32), z3.1, g_t_byMany)).2.2) else ((lb (B_X10_ask_27 z3.1 z3.2) 1 255 ((0 : Int32), z3.1, g_t_byMany)).2.1, z3.1, z3.2, (lb (B_X10_ask_27 z3.1 z3.2) 1 255 ((0 : Int32), z3.1, g_t_byMany)).2.2))))))
def o_X10_ask (v_t_sights : Int32) (g_t_sightSet : (Nat → Int32)) (g_t_sightMany : (Nat → Int32)) (g_t_fit : (Nat → Int32)) (g_t_byMany : (Nat → Int32)) (p1 : Int32) : Prop := (if (f_X10_in ((p1).toInt64) (0 : Int64) (1 : Int64)) = 0 then True else ((o_X10_findFits v_t_sights g_t_sightSet g_t_sightMany g_t_fit) ∧ (lt (f_X10_findFits v_t_sights g_t_sightSet g_t_sightMany g_t_fit) (fun z3 => ((lbA (oB_X10_ask_27 z3.1 z3.2) (B_X10_ask_27 z3.1 z3.2) 1 255 ((0 : Int32), z3.1, g_t_byMany)) ∧ True)))))
set_option maxHeartbeats 4000000 in
set_option maxRecDepth 100000 in
theorem T_X10_ask (l : Launch) (D : va_G) (cI cZ : ClassId) (a_t a_t_wealth a_t_given a_t_chart a_t_relatives a_t_sightSet a_t_sightMany a_t_digits a_t_pad a_t_act a_t_who a_t_whom a_t_much a_t_had a_t_dues a_t_groups a_t_ways a_t_fit a_t_byMany a_t_kept a_t_isKept : Nat) (v_t_inside : Int32) (v_t_next : Int32) (v_t_years : Int32) (v_t_sights : Int32) (v_t_padMany : Int32) (v_t_acts : Int32) (v_t_givenNow : Int32) (v_t_entered : Int32) (v_t_badAct : Int32) (v_t_badWhy : Int32) (v_t_firstAct : Int32) (v_t_firstHouse : Int32) (v_t_fitMany : Int32) (v_t_keptAt : Int32) (v_t_isWriting : Int32) (g_t_sightSet : (Nat → Int32)) (g_t_sightMany : (Nat → Int32)) (g_t_fit : (Nat → Int32)) (g_t_byMany : (Nat → Int32)) (p1 : Int32) (hok : o_X10_ask v_t_sights g_t_sightSet g_t_sightMany g_t_fit g_t_byMany p1) : CT l D cI cZ yX10_ask wsX10_ask ({ frames := 3, cells := 0, slots := 0, locals := 66 }) [.ref a_t, .int p1] [(a_t, .inr (10, [.ref a_t_wealth, .ref a_t_given, .ref a_t_chart, .ref a_t_relatives, .int v_t_inside, .int v_t_next, .int v_t_years, .ref a_t_sightSet, .ref a_t_sightMany, .int v_t_sights, .ref a_t_digits, .ref a_t_pad, .int v_t_padMany, .ref a_t_act, .ref a_t_who, .ref a_t_whom, .ref a_t_much, .int v_t_acts, .int v_t_givenNow, .int v_t_entered, .ref a_t_had, .int v_t_badAct, .int v_t_badWhy, .int v_t_firstAct, .int v_t_firstHouse, .ref a_t_dues, .ref a_t_groups, .ref a_t_ways, .ref a_t_fit, .int v_t_fitMany, .ref a_t_byMany, .ref a_t_kept, .ref a_t_isKept, .int v_t_keptAt, .int v_t_isWriting])), (a_t_sightSet, .inl (cI, 8, .inl g_t_sightSet)), (a_t_sightMany, .inl (cI, 8, .inl g_t_sightMany)), (a_t_fit, .inl (cI, 256, .inl g_t_fit)), (a_t_byMany, .inl (cI, 9, .inl g_t_byMany))] (some (.int (f_X10_ask v_t_sights v_t_fitMany g_t_sightSet g_t_sightMany g_t_fit g_t_byMany p1).1)) [(a_t, .inr (10, [.ref a_t_wealth, .ref a_t_given, .ref a_t_chart, .ref a_t_relatives, .int v_t_inside, .int v_t_next, .int v_t_years, .ref a_t_sightSet, .ref a_t_sightMany, .int v_t_sights, .ref a_t_digits, .ref a_t_pad, .int v_t_padMany, .ref a_t_act, .ref a_t_who, .ref a_t_whom, .ref a_t_much, .int v_t_acts, .int v_t_givenNow, .int v_t_entered, .ref a_t_had, .int v_t_badAct, .int v_t_badWhy, .int v_t_firstAct, .int v_t_firstHouse, .ref a_t_dues, .ref a_t_groups, .ref a_t_ways, .ref a_t_fit, .int (f_X10_ask v_t_sights v_t_fitMany g_t_sightSet g_t_sightMany g_t_fit g_t_byMany p1).2.1, .ref a_t_byMany, .ref a_t_kept, .ref a_t_isKept, .int v_t_keptAt, .int v_t_isWriting])), (a_t_sightSet, .inl (cI, 8, .inl g_t_sightSet)), (a_t_sightMany, .inl (cI, 8, .inl g_t_sightMany)), (a_t_fit, .inl (cI, 256, .inl (f_X10_ask v_t_sights v_t_fitMany g_t_sightSet g_t_sightMany g_t_fit g_t_byMany p1).2.2.1)), (a_t_byMany, .inl (cI, 9, .inl (f_X10_ask v_t_sights v_t_fitMany g_t_sightSet g_t_sightMany g_t_fit g_t_byMany p1).2.2.2))] := by
  refine CT.intro RX10 (by decide) rfl (Nat.le_of_ble_eq_true rfl) rfl ?_
  intro p e s m below meth c C hr hw ls hl
  have hx := C.hx
  have hb := C.hb
  replace hl : lv_has ls 6 [(0, .ref a_t), (1, .int p1)] := hl
  refine lv_iload_n hx hb dX10_ask_0 rfl (lv_at hl 1 rfl) ?_
  refine lv_i2l (v := ((p1).toInt64)) hx hb dX10_ask_1 rfl ?_
  refine lv_lconst (v := 0) hx hb dX10_ask_2 (by decide) ?_
  refine lv_lconst (v := 1) hx hb dX10_ask_3 (by decide) ?_
  refine k_callS (As := [.long ((p1).toInt64), .long 0, .long 1]) (rest := []) (n := 3) C hw (T_X10_in l D cI cZ ((p1).toInt64) (0 : Int64) (1 : Int64)) gX10_ask_X10_in rfl ⟨rfl, rfl⟩ (by decide +kernel) ⟨Nat.le_of_ble_eq_true rfl, Nat.le_of_ble_eq_true rfl⟩ [] rfl rfl [] rfl rfl rfl hl.1 rfl (Nat.le_of_ble_eq_true rfl) ⟨Nat.zero_le _, Nat.zero_le _⟩ dX10_ask_4 (fun H locs hw => ?_)
  refine W.eq (g2 := F0 m 7 ls [.int (f_X10_in ((p1).toInt64) (0 : Int64) (1 : Int64))]) rfl ?_
  replace hw : kW D _ s H locs [(a_t, .inr (10, [.ref a_t_wealth, .ref a_t_given, .ref a_t_chart, .ref a_t_relatives, .int v_t_inside, .int v_t_next, .int v_t_years, .ref a_t_sightSet, .ref a_t_sightMany, .int v_t_sights, .ref a_t_digits, .ref a_t_pad, .int v_t_padMany, .ref a_t_act, .ref a_t_who, .ref a_t_whom, .ref a_t_much, .int v_t_acts, .int v_t_givenNow, .int v_t_entered, .ref a_t_had, .int v_t_badAct, .int v_t_badWhy, .int v_t_firstAct, .int v_t_firstHouse, .ref a_t_dues, .ref a_t_groups, .ref a_t_ways, .ref a_t_fit, .int v_t_fitMany, .ref a_t_byMany, .ref a_t_kept, .ref a_t_isKept, .int v_t_keptAt, .int v_t_isWriting])), (a_t_sightSet, .inl (cI, 8, .inl g_t_sightSet)), (a_t_sightMany, .inl (cI, 8, .inl g_t_sightMany)), (a_t_fit, .inl (cI, 256, .inl g_t_fit)), (a_t_byMany, .inl (cI, 9, .inl g_t_byMany))] := hw
  refine lv_if_ne (tgt := 13) hx hb dX10_ask_7 (by decide) (fun c1 => ?_) (fun c1 => ?_)
  · replace hok := Eq.mp (if_neg c1) hok
    refine lv_aload_n hx hb dX10_ask_13 rfl (lv_at hl 0 rfl) ?_
    obtain ⟨h2, hok⟩ := hok
    refine k_callV (As := []) (rest := []) (n := 0) (CC := RX10) (T := TX10) (N := 35) C hw (T_X10_findFits l D cI cZ a_t a_t_wealth a_t_given a_t_chart a_t_relatives a_t_sightSet a_t_sightMany a_t_digits a_t_pad a_t_act a_t_who a_t_whom a_t_much a_t_had a_t_dues a_t_groups a_t_ways a_t_fit a_t_byMany a_t_kept a_t_isKept v_t_inside v_t_next v_t_years v_t_sights v_t_padMany v_t_acts v_t_givenNow v_t_entered v_t_badAct v_t_badWhy v_t_firstAct v_t_firstHouse v_t_fitMany v_t_keptAt v_t_isWriting g_t_sightSet g_t_sightMany g_t_fit h2) gX10_ask_X10_findFits rfl ⟨rfl, rfl⟩ (by decide +kernel) ⟨Nat.le_of_ble_eq_true rfl, Nat.le_of_ble_eq_true rfl⟩ 0 rfl rfl [0, 1, 2, 3] rfl rfl [a_t, a_t_sightSet, a_t_sightMany, a_t_fit] rfl rfl rfl hl.1 rfl (Nat.le_of_ble_eq_true rfl) ⟨Nat.zero_le _, Nat.zero_le _⟩ dX10_ask_14 (fun H locs hw => ?_)
    obtain ⟨z3, h4⟩ : ∃ z, (f_X10_findFits v_t_sights g_t_sightSet g_t_sightMany g_t_fit) = z := ⟨_, rfl⟩
    refine W.eq (g2 := F0 m 17 ls []) (by subst h4; rfl) ?_
    replace hw := kW_cast (ws' := [(a_t, .inr (10, [.ref a_t_wealth, .ref a_t_given, .ref a_t_chart, .ref a_t_relatives, .int v_t_inside, .int v_t_next, .int v_t_years, .ref a_t_sightSet, .ref a_t_sightMany, .int v_t_sights, .ref a_t_digits, .ref a_t_pad, .int v_t_padMany, .ref a_t_act, .ref a_t_who, .ref a_t_whom, .ref a_t_much, .int v_t_acts, .int v_t_givenNow, .int v_t_entered, .ref a_t_had, .int v_t_badAct, .int v_t_badWhy, .int v_t_firstAct, .int v_t_firstHouse, .ref a_t_dues, .ref a_t_groups, .ref a_t_ways, .ref a_t_fit, .int z3.1, .ref a_t_byMany, .ref a_t_kept, .ref a_t_isKept, .int v_t_keptAt, .int v_t_isWriting])), (a_t_sightSet, .inl (cI, 8, .inl g_t_sightSet)), (a_t_sightMany, .inl (cI, 8, .inl g_t_sightMany)), (a_t_fit, .inl (cI, 256, .inl z3.2)), (a_t_byMany, .inl (cI, 9, .inl g_t_byMany))]) (by subst h4; rfl) hw
    replace hok := Eq.mp (lt_c h4) hok
    refine lv_iconst (v := 0) hx hb dX10_ask_17 (by decide) ?_
    refine lv_istore_n (lv' := [(2, .int 0), (0, .ref a_t), (1, .int p1)]) hx hb dX10_ask_18 rfl hl (by decide) rfl (fun ls hl => ?_)
    refine lv_aload_n hx hb dX10_ask_19 rfl (lv_at hl 1 rfl) ?_
    refine k_get C hw (CC := RX10) (T := TX10) (N := 35) nX10_ask_X10 0 rfl rfl 29 (by decide) (List.mem_of_getElem? (i := 1) rfl) rfl rfl dX10_ask_20 ?_
    refine lv_istore_n (lv' := [(3, .int z3.1), (2, .int 0), (0, .ref a_t), (1, .int p1)]) hx hb dX10_ask_23 rfl hl (by decide) rfl (fun ls hl => ?_)
    refine lv_iconst (v := 1) hx hb dX10_ask_24 (by decide) ?_
    refine lv_istore (lv' := [(4, .int 1), (3, .int z3.1), (2, .int 0), (0, .ref a_t), (1, .int p1)]) hx hb dX10_ask_25 hl (by decide) rfl (fun ls hl => ?_)
    obtain ⟨h12, hok⟩ := hok
    refine l_X10_ask_27 a_t a_t_wealth a_t_given a_t_chart a_t_relatives a_t_sightSet a_t_sightMany a_t_digits a_t_pad a_t_act a_t_who a_t_whom a_t_much a_t_had a_t_dues a_t_groups a_t_ways a_t_fit a_t_byMany a_t_kept a_t_isKept p1 v_t_inside v_t_next v_t_years v_t_sights v_t_padMany v_t_acts v_t_givenNow v_t_entered v_t_badAct v_t_badWhy v_t_firstAct v_t_firstHouse z3.1 v_t_keptAt v_t_isWriting g_t_sightSet g_t_sightMany z3.2 C 255 1 (0 : Int32) z3.1 g_t_byMany (by decide) (by decide) h12 _ _ hw _ (lv_sub hl [3, 4, 2, 1, 0] rfl) (fun H locs ls hw hl => ?_)
    replace hw : kW D _ s H locs [(a_t, .inr (10, [.ref a_t_wealth, .ref a_t_given, .ref a_t_chart, .ref a_t_relatives, .int v_t_inside, .int v_t_next, .int v_t_years, .ref a_t_sightSet, .ref a_t_sightMany, .int v_t_sights, .ref a_t_digits, .ref a_t_pad, .int v_t_padMany, .ref a_t_act, .ref a_t_who, .ref a_t_whom, .ref a_t_much, .int v_t_acts, .int v_t_givenNow, .int v_t_entered, .ref a_t_had, .int v_t_badAct, .int v_t_badWhy, .int v_t_firstAct, .int v_t_firstHouse, .ref a_t_dues, .ref a_t_groups, .ref a_t_ways, .ref a_t_fit, .int z3.1, .ref a_t_byMany, .ref a_t_kept, .ref a_t_isKept, .int v_t_keptAt, .int v_t_isWriting])), (a_t_sightSet, .inl (cI, 8, .inl g_t_sightSet)), (a_t_sightMany, .inl (cI, 8, .inl g_t_sightMany)), (a_t_fit, .inl (cI, 256, .inl z3.2)), (a_t_byMany, .inl (cI, 9, .inl (lb (B_X10_ask_27 z3.1 z3.2) 1 255 ((0 : Int32), z3.1, g_t_byMany)).2.2))] := hw
    replace hl : lv_has ls 6 [(0, .ref a_t), (1, .int p1), (2, .int (lb (B_X10_ask_27 z3.1 z3.2) 1 255 ((0 : Int32), z3.1, g_t_byMany)).1), (3, .int (lb (B_X10_ask_27 z3.1 z3.2) 1 255 ((0 : Int32), z3.1, g_t_byMany)).2.1)] := hl
    refine lv_aload_n hx hb dX10_ask_76 rfl (lv_at hl 0 rfl) ?_
    refine k_get C hw (CC := RX10) (T := TX10) (N := 35) nX10_ask_X10 0 rfl rfl 29 (by decide) (List.mem_of_getElem? (i := 1) rfl) rfl rfl dX10_ask_77 ?_
    refine lv_if_ne (tgt := 88) hx hb dX10_ask_80 (by decide) (fun c13 => ?_) (fun c13 => ?_)
    · refine lv_iload_n hx hb dX10_ask_88 rfl (lv_at hl 1 rfl) ?_
      refine lv_if_ne (tgt := 96) hx hb dX10_ask_89 (by decide) (fun c14 => ?_) (fun c14 => ?_)
      · refine lv_iload_n hx hb dX10_ask_96 rfl (lv_at hl 3 rfl) ?_
        rw [show f_X10_ask v_t_sights v_t_fitMany g_t_sightSet g_t_sightMany g_t_fit g_t_byMany p1 = ((lb (B_X10_ask_27 z3.1 z3.2) 1 255 ((0 : Int32), z3.1, g_t_byMany)).2.1, z3.1, z3.2, (lb (B_X10_ask_27 z3.1 z3.2) 1 255 ((0 : Int32), z3.1, g_t_byMany)).2.2) from by
            unfold f_X10_ask
            exact (if_neg c1).trans ((lt_c h4).trans ((if_neg c13).trans ((if_neg c14).trans (rfl))))]
        exact k_iret C hr hw dX10_ask_97
      · refine lv_iload_n hx hb dX10_ask_92 rfl (lv_at hl 2 rfl) ?_
        refine lv_goto (tgt := 97) hx hb dX10_ask_93 (by decide) ?_
        rw [show f_X10_ask v_t_sights v_t_fitMany g_t_sightSet g_t_sightMany g_t_fit g_t_byMany p1 = ((lb (B_X10_ask_27 z3.1 z3.2) 1 255 ((0 : Int32), z3.1, g_t_byMany)).1, z3.1, z3.2, (lb (B_X10_ask_27 z3.1 z3.2) 1 255 ((0 : Int32), z3.1, g_t_byMany)).2.2) from by
            unfold f_X10_ask
            exact (if_neg c1).trans ((lt_c h4).trans ((if_neg c13).trans ((if_pos c14).trans (rfl))))]
        exact k_iret C hr hw dX10_ask_97
    · refine lv_bipush (v := (-6)) hx hb dX10_ask_83 (by decide) ?_
      refine lv_goto (tgt := 97) hx hb dX10_ask_85 (by decide) ?_
      rw [show f_X10_ask v_t_sights v_t_fitMany g_t_sightSet g_t_sightMany g_t_fit g_t_byMany p1 = ((-6), z3.1, z3.2, (lb (B_X10_ask_27 z3.1 z3.2) 1 255 ((0 : Int32), z3.1, g_t_byMany)).2.2) from by
          unfold f_X10_ask
          exact (if_neg c1).trans ((lt_c h4).trans ((if_pos c13).trans (rfl)))]
      exact k_iret C hr hw dX10_ask_97
  · refine lv_bipush (v := (-2)) hx hb dX10_ask_10 (by decide) ?_
    rw [show f_X10_ask v_t_sights v_t_fitMany g_t_sightSet g_t_sightMany g_t_fit g_t_byMany p1 = ((-2), v_t_fitMany, g_t_fit, g_t_byMany) from by
        unfold f_X10_ask
        exact (if_pos c1).trans (rfl)]
    exact k_iret C hr hw dX10_ask_12

def B_X10_wins_25 (j : Nat) (v : Int32 × Int32 × Int32) : (Int32 × Int32 × Int32) ⊕ (Int32 × Int32 × Int32) := (if v.2.1 ≤ 0 then Sum.inr (v.1, v.2.1, v.2.2) else (if (v.1 / v.2.1) = 1 then (if v.1 ≤ v.2.1 then Sum.inr (v.1, v.2.1, v.2.2) else (if v.2.2 = 0 then Sum.inl (v.2.1, (v.1 - v.2.1), 1) else Sum.inl (v.2.1, (v.1 - v.2.1), 0))) else Sum.inr (v.1, v.2.1, v.2.2)))
def oB_X10_wins_25 (j : Nat) (v : Int32 × Int32 × Int32) : Prop := (if v.2.1 ≤ 0 then True else ((¬ v.2.1 = 0) ∧ True))
set_option maxHeartbeats 4000000 in
set_option maxRecDepth 100000 in
theorem l_X10_wins_25 {p : Program} {l : Launch} {e : Env} {s : State} {m : MethodId} {args : Array Value} {below : List Frame} {meth : Method} {c : Code} {D : va_G} {cI cZ : ClassId} {Q : State → Prop} {A : Nat → Prop} (C : kC p s m args meth c cX10_wins 6 wsX10_wins RX10 D cI cZ A) : ∀ (n j : Nat) (x2 : Int32) (x3 : Int32) (x4 : Int32), lbS oB_X10_wins_25 B_X10_wins_25 j n (x2, x3, x4) → ∀ (H : Heap) (locs : List Loc), kW D A s H locs [] → ∀ (ls : Array Slot), lv_has ls 6 [(2, .int x2), (3, .int x3), (4, .int x4)] → (∀ (H : Heap) (locs : List Loc) (ls : Array Slot), kW D A s H locs [] → lv_has ls 6 [(3, .int (lb B_X10_wins_25 j n (x2, x3, x4)).2.1), (4, .int (lb B_X10_wins_25 j n (x2, x3, x4)).2.2)] → W p l e ({ frames := 0, cells := 0, slots := 0, locals := 0 }) s m args below meth c H locs 0 0 Q (F0 m 66 ls [])) → W p l e ({ frames := 0, cells := 0, slots := 0, locals := 0 }) s m args below meth c H locs 0 0 Q (F0 m 25 ls []) := by
  have hx := C.hx
  have hb := C.hb
  intro n
  induction n with
  | zero =>
    intro j x2 x3 x4 hok0 H locs hw ls hl kk
    exact absurd hok0 id
  | succ n ih =>
    intro j x2 x3 x4 hok0 H locs hw ls hl kk
    have hok := hok0.1
    refine lv_iload_n hx hb dX10_wins_25 rfl (lv_at hl 1 rfl) ?_
    refine lv_if_le (tgt := 66) hx hb dX10_wins_26 (by decide) (fun c3 => ?_) (fun c3 => ?_)
    · have hB : B_X10_wins_25 j (x2, x3, x4) = Sum.inr (x2, x3, x4) := by
        unfold B_X10_wins_25
        exact (if_pos c3).trans (rfl)
      rw [lb_b hB] at kk
      exact kk _ _ _ hw (lv_sub hl [1, 2] rfl)
    · replace hok := Eq.mp (if_neg c3) hok
      refine lv_iload_n hx hb dX10_wins_29 rfl (lv_at hl 0 rfl) ?_
      refine lv_iload_n hx hb dX10_wins_30 rfl (lv_at hl 1 rfl) ?_
      obtain ⟨h4, hok⟩ := hok
      refine lv_idiv hx hb dX10_wins_31 h4 ?_
      refine lv_iconst (v := 1) hx hb dX10_wins_32 (by decide) ?_
      refine lv_icmp_ne (tgt := 66) hx hb dX10_wins_33 (by decide) (fun c5 => ?_) (fun c5 => ?_)
      · have hB : B_X10_wins_25 j (x2, x3, x4) = Sum.inr (x2, x3, x4) := by
          unfold B_X10_wins_25
          exact (if_neg c3).trans ((if_neg c5).trans (rfl))
        rw [lb_b hB] at kk
        exact kk _ _ _ hw (lv_sub hl [1, 2] rfl)
      · refine lv_iload_n hx hb dX10_wins_36 rfl (lv_at hl 0 rfl) ?_
        refine lv_iload_n hx hb dX10_wins_37 rfl (lv_at hl 1 rfl) ?_
        refine lv_icmp_le (tgt := 66) hx hb dX10_wins_38 (by decide) (fun c6 => ?_) (fun c6 => ?_)
        · have hB : B_X10_wins_25 j (x2, x3, x4) = Sum.inr (x2, x3, x4) := by
            unfold B_X10_wins_25
            exact (if_neg c3).trans ((if_pos c5).trans ((if_pos c6).trans (rfl)))
          rw [lb_b hB] at kk
          exact kk _ _ _ hw (lv_sub hl [1, 2] rfl)
        · refine lv_iload_n hx hb dX10_wins_41 rfl (lv_at hl 0 rfl) ?_
          refine lv_iload_n hx hb dX10_wins_42 rfl (lv_at hl 1 rfl) ?_
          refine lv_isub hx hb dX10_wins_43 ?_
          refine lv_istore (lv' := [(5, .int (x2 - x3)), (2, .int x2), (3, .int x3), (4, .int x4)]) hx hb dX10_wins_44 hl (by decide) rfl (fun ls hl => ?_)
          refine lv_iload_n hx hb dX10_wins_46 rfl (lv_at hl 2 rfl) ?_
          refine lv_istore_n (lv' := [(2, .int x3), (5, .int (x2 - x3)), (3, .int x3), (4, .int x4)]) hx hb dX10_wins_47 rfl hl (by decide) rfl (fun ls hl => ?_)
          refine lv_iload hx hb dX10_wins_48 (lv_at hl 1 rfl) ?_
          refine lv_istore_n (lv' := [(3, .int (x2 - x3)), (2, .int x3), (5, .int (x2 - x3)), (4, .int x4)]) hx hb dX10_wins_50 rfl hl (by decide) rfl (fun ls hl => ?_)
          refine lv_iload hx hb dX10_wins_51 (lv_at hl 3 rfl) ?_
          refine lv_if_ne (tgt := 60) hx hb dX10_wins_53 (by decide) (fun c7 => ?_) (fun c7 => ?_)
          · refine lv_iconst (v := 0) hx hb dX10_wins_60 (by decide) ?_
            refine lv_istore (lv' := [(4, .int 0), (3, .int (x2 - x3)), (2, .int x3), (5, .int (x2 - x3))]) hx hb dX10_wins_61 hl (by decide) rfl (fun ls hl => ?_)
            refine lv_goto (tgt := 25) hx hb dX10_wins_63 (by decide) ?_
            have hB : B_X10_wins_25 j (x2, x3, x4) = Sum.inl (x3, (x2 - x3), 0) := by
              unfold B_X10_wins_25
              exact (if_neg c3).trans ((if_pos c5).trans ((if_neg c6).trans ((if_neg c7).trans (rfl))))
            rw [lb_c hB] at kk
            have hok2 := lbS_c hB hok0
            exact ih (j + 1) x3 (x2 - x3) 0 hok2 _ _ hw _ (lv_sub hl [2, 1, 0] rfl) kk
          · refine lv_iconst (v := 1) hx hb dX10_wins_56 (by decide) ?_
            refine lv_goto (tgt := 61) hx hb dX10_wins_57 (by decide) ?_
            refine lv_istore (lv' := [(4, .int 1), (3, .int (x2 - x3)), (2, .int x3), (5, .int (x2 - x3))]) hx hb dX10_wins_61 hl (by decide) rfl (fun ls hl => ?_)
            refine lv_goto (tgt := 25) hx hb dX10_wins_63 (by decide) ?_
            have hB : B_X10_wins_25 j (x2, x3, x4) = Sum.inl (x3, (x2 - x3), 1) := by
              unfold B_X10_wins_25
              exact (if_neg c3).trans ((if_pos c5).trans ((if_neg c6).trans ((if_pos c7).trans (rfl))))
            rw [lb_c hB] at kk
            have hok2 := lbS_c hB hok0
            exact ih (j + 1) x3 (x2 - x3) 1 hok2 _ _ hw _ (lv_sub hl [2, 1, 0] rfl) kk
def f_X10_wins (p1 : Int32) (p2 : Int32) : Int32 := (if p2 ≤ p1 then (if p2 ≤ p1 then (if (lb B_X10_wins_25 0 1001 (p1, p2, (1 : Int32))).2.1 ≤ 0 then (if 0 = (lb B_X10_wins_25 0 1001 (p1, p2, (1 : Int32))).2.2 then 1 else 0) else (if 1 = (lb B_X10_wins_25 0 1001 (p1, p2, (1 : Int32))).2.2 then 1 else 0)) else (if (lb B_X10_wins_25 0 1001 (p1, p1, (1 : Int32))).2.1 ≤ 0 then (if 0 = (lb B_X10_wins_25 0 1001 (p1, p1, (1 : Int32))).2.2 then 1 else 0) else (if 1 = (lb B_X10_wins_25 0 1001 (p1, p1, (1 : Int32))).2.2 then 1 else 0))) else (if p2 ≤ p1 then (if (lb B_X10_wins_25 0 1001 (p2, p2, (1 : Int32))).2.1 ≤ 0 then (if 0 = (lb B_X10_wins_25 0 1001 (p2, p2, (1 : Int32))).2.2 then 1 else 0) else (if 1 = (lb B_X10_wins_25 0 1001 (p2, p2, (1 : Int32))).2.2 then 1 else 0)) else (if (lb B_X10_wins_25 0 1001 (p2, p1, (1 : Int32))).2.1 ≤ 0 then (if 0 = (lb B_X10_wins_25 0 1001 (p2, p1, (1 : Int32))).2.2 then 1 else 0) else (if 1 = (lb B_X10_wins_25 0 1001 (p2, p1, (1 : Int32))).2.2 then 1 else 0))))
def o_X10_wins (p1 : Int32) (p2 : Int32) : Prop := (if p2 ≤ p1 then (if p2 ≤ p1 then ((lbS oB_X10_wins_25 B_X10_wins_25 0 1001 (p1, p2, (1 : Int32))) ∧ True) else ((lbS oB_X10_wins_25 B_X10_wins_25 0 1001 (p1, p1, (1 : Int32))) ∧ True)) else (if p2 ≤ p1 then ((lbS oB_X10_wins_25 B_X10_wins_25 0 1001 (p2, p2, (1 : Int32))) ∧ True) else ((lbS oB_X10_wins_25 B_X10_wins_25 0 1001 (p2, p1, (1 : Int32))) ∧ True)))
set_option maxHeartbeats 4000000 in
set_option maxRecDepth 100000 in
theorem T_X10_wins (l : Launch) (D : va_G) (cI cZ : ClassId) (p1 : Int32) (p2 : Int32) (hok : o_X10_wins p1 p2) : CT l D cI cZ yX10_wins wsX10_wins ({ frames := 0, cells := 0, slots := 0, locals := 0 }) [.int p1, .int p2] [] (some (.int (f_X10_wins p1 p2))) [] := by
  refine CT.intro RX10 (by decide) rfl (Nat.le_of_ble_eq_true rfl) rfl ?_
  intro p e s m below meth c C hr hw ls hl
  have hx := C.hx
  have hb := C.hb
  replace hl : lv_has ls 6 [(0, .int p1), (1, .int p2)] := hl
  refine lv_iload_n hx hb dX10_wins_0 rfl (lv_at hl 0 rfl) ?_
  refine lv_iload_n hx hb dX10_wins_1 rfl (lv_at hl 1 rfl) ?_
  refine lv_icmp_ge (tgt := 9) hx hb dX10_wins_2 (by decide) (fun c1 => ?_) (fun c1 => ?_)
  · replace hok := Eq.mp (if_pos c1) hok
    refine lv_iload_n hx hb dX10_wins_9 rfl (lv_at hl 0 rfl) ?_
    refine lv_istore_n (lv' := [(2, .int p1), (0, .int p1), (1, .int p2)]) hx hb dX10_wins_10 rfl hl (by decide) rfl (fun ls hl => ?_)
    refine lv_iload_n hx hb dX10_wins_11 rfl (lv_at hl 1 rfl) ?_
    refine lv_iload_n hx hb dX10_wins_12 rfl (lv_at hl 2 rfl) ?_
    refine lv_icmp_ge (tgt := 20) hx hb dX10_wins_13 (by decide) (fun c2 => ?_) (fun c2 => ?_)
    · replace hok := Eq.mp (if_pos c2) hok
      refine lv_iload_n hx hb dX10_wins_20 rfl (lv_at hl 2 rfl) ?_
      refine lv_istore_n (lv' := [(3, .int p2), (2, .int p1), (0, .int p1), (1, .int p2)]) hx hb dX10_wins_21 rfl hl (by decide) rfl (fun ls hl => ?_)
      refine lv_iconst (v := 1) hx hb dX10_wins_22 (by decide) ?_
      refine lv_istore (lv' := [(4, .int 1), (3, .int p2), (2, .int p1), (0, .int p1), (1, .int p2)]) hx hb dX10_wins_23 hl (by decide) rfl (fun ls hl => ?_)
      obtain ⟨h8, hok⟩ := hok
      refine l_X10_wins_25   C 1001 0 p1 p2 (1 : Int32) h8 _ _ hw _ (lv_sub hl [2, 1, 0] rfl) (fun H locs ls hw hl => ?_)
      replace hw : kW D _ s H locs [] := hw
      replace hl : lv_has ls 6 [(3, .int (lb B_X10_wins_25 0 1001 (p1, p2, (1 : Int32))).2.1), (4, .int (lb B_X10_wins_25 0 1001 (p1, p2, (1 : Int32))).2.2)] := hl
      refine lv_iload_n hx hb dX10_wins_66 rfl (lv_at hl 0 rfl) ?_
      refine lv_if_le (tgt := 74) hx hb dX10_wins_67 (by decide) (fun c9 => ?_) (fun c9 => ?_)
      · refine lv_iconst (v := 0) hx hb dX10_wins_74 (by decide) ?_
        refine lv_iload hx hb dX10_wins_75 (lv_at hl 1 rfl) ?_
        refine lv_icmp_ne (tgt := 84) hx hb dX10_wins_77 (by decide) (fun c10 => ?_) (fun c10 => ?_)
        · refine lv_iconst (v := 0) hx hb dX10_wins_84 (by decide) ?_
          rw [show f_X10_wins p1 p2 = 0 from by
              unfold f_X10_wins
              exact (if_pos c1).trans ((if_pos c2).trans ((if_pos c9).trans ((if_neg c10).trans (rfl))))]
          exact k_zret (v := 0) C hr hw nz0 dX10_wins_85
        · refine lv_iconst (v := 1) hx hb dX10_wins_80 (by decide) ?_
          refine lv_goto (tgt := 85) hx hb dX10_wins_81 (by decide) ?_
          rw [show f_X10_wins p1 p2 = 1 from by
              unfold f_X10_wins
              exact (if_pos c1).trans ((if_pos c2).trans ((if_pos c9).trans ((if_pos c10).trans (rfl))))]
          exact k_zret (v := 1) C hr hw nz1 dX10_wins_85
      · refine lv_iconst (v := 1) hx hb dX10_wins_70 (by decide) ?_
        refine lv_goto (tgt := 75) hx hb dX10_wins_71 (by decide) ?_
        refine lv_iload hx hb dX10_wins_75 (lv_at hl 1 rfl) ?_
        refine lv_icmp_ne (tgt := 84) hx hb dX10_wins_77 (by decide) (fun c11 => ?_) (fun c11 => ?_)
        · refine lv_iconst (v := 0) hx hb dX10_wins_84 (by decide) ?_
          rw [show f_X10_wins p1 p2 = 0 from by
              unfold f_X10_wins
              exact (if_pos c1).trans ((if_pos c2).trans ((if_neg c9).trans ((if_neg c11).trans (rfl))))]
          exact k_zret (v := 0) C hr hw nz0 dX10_wins_85
        · refine lv_iconst (v := 1) hx hb dX10_wins_80 (by decide) ?_
          refine lv_goto (tgt := 85) hx hb dX10_wins_81 (by decide) ?_
          rw [show f_X10_wins p1 p2 = 1 from by
              unfold f_X10_wins
              exact (if_pos c1).trans ((if_pos c2).trans ((if_neg c9).trans ((if_pos c11).trans (rfl))))]
          exact k_zret (v := 1) C hr hw nz1 dX10_wins_85
    · replace hok := Eq.mp (if_neg c2) hok
      refine lv_iload_n hx hb dX10_wins_16 rfl (lv_at hl 1 rfl) ?_
      refine lv_goto (tgt := 21) hx hb dX10_wins_17 (by decide) ?_
      refine lv_istore_n (lv' := [(3, .int p1), (2, .int p1), (0, .int p1), (1, .int p2)]) hx hb dX10_wins_21 rfl hl (by decide) rfl (fun ls hl => ?_)
      refine lv_iconst (v := 1) hx hb dX10_wins_22 (by decide) ?_
      refine lv_istore (lv' := [(4, .int 1), (3, .int p1), (2, .int p1), (0, .int p1), (1, .int p2)]) hx hb dX10_wins_23 hl (by decide) rfl (fun ls hl => ?_)
      obtain ⟨h12, hok⟩ := hok
      refine l_X10_wins_25   C 1001 0 p1 p1 (1 : Int32) h12 _ _ hw _ (lv_sub hl [2, 1, 0] rfl) (fun H locs ls hw hl => ?_)
      replace hw : kW D _ s H locs [] := hw
      replace hl : lv_has ls 6 [(3, .int (lb B_X10_wins_25 0 1001 (p1, p1, (1 : Int32))).2.1), (4, .int (lb B_X10_wins_25 0 1001 (p1, p1, (1 : Int32))).2.2)] := hl
      refine lv_iload_n hx hb dX10_wins_66 rfl (lv_at hl 0 rfl) ?_
      refine lv_if_le (tgt := 74) hx hb dX10_wins_67 (by decide) (fun c13 => ?_) (fun c13 => ?_)
      · refine lv_iconst (v := 0) hx hb dX10_wins_74 (by decide) ?_
        refine lv_iload hx hb dX10_wins_75 (lv_at hl 1 rfl) ?_
        refine lv_icmp_ne (tgt := 84) hx hb dX10_wins_77 (by decide) (fun c14 => ?_) (fun c14 => ?_)
        · refine lv_iconst (v := 0) hx hb dX10_wins_84 (by decide) ?_
          rw [show f_X10_wins p1 p2 = 0 from by
              unfold f_X10_wins
              exact (if_pos c1).trans ((if_neg c2).trans ((if_pos c13).trans ((if_neg c14).trans (rfl))))]
          exact k_zret (v := 0) C hr hw nz0 dX10_wins_85
        · refine lv_iconst (v := 1) hx hb dX10_wins_80 (by decide) ?_
          refine lv_goto (tgt := 85) hx hb dX10_wins_81 (by decide) ?_
          rw [show f_X10_wins p1 p2 = 1 from by
              unfold f_X10_wins
              exact (if_pos c1).trans ((if_neg c2).trans ((if_pos c13).trans ((if_pos c14).trans (rfl))))]
          exact k_zret (v := 1) C hr hw nz1 dX10_wins_85
      · refine lv_iconst (v := 1) hx hb dX10_wins_70 (by decide) ?_
        refine lv_goto (tgt := 75) hx hb dX10_wins_71 (by decide) ?_
        refine lv_iload hx hb dX10_wins_75 (lv_at hl 1 rfl) ?_
        refine lv_icmp_ne (tgt := 84) hx hb dX10_wins_77 (by decide) (fun c15 => ?_) (fun c15 => ?_)
        · refine lv_iconst (v := 0) hx hb dX10_wins_84 (by decide) ?_
          rw [show f_X10_wins p1 p2 = 0 from by
              unfold f_X10_wins
              exact (if_pos c1).trans ((if_neg c2).trans ((if_neg c13).trans ((if_neg c15).trans (rfl))))]
          exact k_zret (v := 0) C hr hw nz0 dX10_wins_85
        · refine lv_iconst (v := 1) hx hb dX10_wins_80 (by decide) ?_
          refine lv_goto (tgt := 85) hx hb dX10_wins_81 (by decide) ?_
          rw [show f_X10_wins p1 p2 = 1 from by
              unfold f_X10_wins
              exact (if_pos c1).trans ((if_neg c2).trans ((if_neg c13).trans ((if_pos c15).trans (rfl))))]
          exact k_zret (v := 1) C hr hw nz1 dX10_wins_85
  · replace hok := Eq.mp (if_neg c1) hok
    refine lv_iload_n hx hb dX10_wins_5 rfl (lv_at hl 1 rfl) ?_
    refine lv_goto (tgt := 10) hx hb dX10_wins_6 (by decide) ?_
    refine lv_istore_n (lv' := [(2, .int p2), (0, .int p1), (1, .int p2)]) hx hb dX10_wins_10 rfl hl (by decide) rfl (fun ls hl => ?_)
    refine lv_iload_n hx hb dX10_wins_11 rfl (lv_at hl 1 rfl) ?_
    refine lv_iload_n hx hb dX10_wins_12 rfl (lv_at hl 2 rfl) ?_
    refine lv_icmp_ge (tgt := 20) hx hb dX10_wins_13 (by decide) (fun c16 => ?_) (fun c16 => ?_)
    · replace hok := Eq.mp (if_pos c16) hok
      refine lv_iload_n hx hb dX10_wins_20 rfl (lv_at hl 2 rfl) ?_
      refine lv_istore_n (lv' := [(3, .int p2), (2, .int p2), (0, .int p1), (1, .int p2)]) hx hb dX10_wins_21 rfl hl (by decide) rfl (fun ls hl => ?_)
      refine lv_iconst (v := 1) hx hb dX10_wins_22 (by decide) ?_
      refine lv_istore (lv' := [(4, .int 1), (3, .int p2), (2, .int p2), (0, .int p1), (1, .int p2)]) hx hb dX10_wins_23 hl (by decide) rfl (fun ls hl => ?_)
      obtain ⟨h17, hok⟩ := hok
      refine l_X10_wins_25   C 1001 0 p2 p2 (1 : Int32) h17 _ _ hw _ (lv_sub hl [2, 1, 0] rfl) (fun H locs ls hw hl => ?_)
      replace hw : kW D _ s H locs [] := hw
      replace hl : lv_has ls 6 [(3, .int (lb B_X10_wins_25 0 1001 (p2, p2, (1 : Int32))).2.1), (4, .int (lb B_X10_wins_25 0 1001 (p2, p2, (1 : Int32))).2.2)] := hl
      refine lv_iload_n hx hb dX10_wins_66 rfl (lv_at hl 0 rfl) ?_
      refine lv_if_le (tgt := 74) hx hb dX10_wins_67 (by decide) (fun c18 => ?_) (fun c18 => ?_)
      · refine lv_iconst (v := 0) hx hb dX10_wins_74 (by decide) ?_
        refine lv_iload hx hb dX10_wins_75 (lv_at hl 1 rfl) ?_
        refine lv_icmp_ne (tgt := 84) hx hb dX10_wins_77 (by decide) (fun c19 => ?_) (fun c19 => ?_)
        · refine lv_iconst (v := 0) hx hb dX10_wins_84 (by decide) ?_
          rw [show f_X10_wins p1 p2 = 0 from by
              unfold f_X10_wins
              exact (if_neg c1).trans ((if_pos c16).trans ((if_pos c18).trans ((if_neg c19).trans (rfl))))]
          exact k_zret (v := 0) C hr hw nz0 dX10_wins_85
        · refine lv_iconst (v := 1) hx hb dX10_wins_80 (by decide) ?_
          refine lv_goto (tgt := 85) hx hb dX10_wins_81 (by decide) ?_
          rw [show f_X10_wins p1 p2 = 1 from by
              unfold f_X10_wins
              exact (if_neg c1).trans ((if_pos c16).trans ((if_pos c18).trans ((if_pos c19).trans (rfl))))]
          exact k_zret (v := 1) C hr hw nz1 dX10_wins_85
      · refine lv_iconst (v := 1) hx hb dX10_wins_70 (by decide) ?_
        refine lv_goto (tgt := 75) hx hb dX10_wins_71 (by decide) ?_
        refine lv_iload hx hb dX10_wins_75 (lv_at hl 1 rfl) ?_
        refine lv_icmp_ne (tgt := 84) hx hb dX10_wins_77 (by decide) (fun c20 => ?_) (fun c20 => ?_)
        · refine lv_iconst (v := 0) hx hb dX10_wins_84 (by decide) ?_
          rw [show f_X10_wins p1 p2 = 0 from by
              unfold f_X10_wins
              exact (if_neg c1).trans ((if_pos c16).trans ((if_neg c18).trans ((if_neg c20).trans (rfl))))]
          exact k_zret (v := 0) C hr hw nz0 dX10_wins_85
        · refine lv_iconst (v := 1) hx hb dX10_wins_80 (by decide) ?_
          refine lv_goto (tgt := 85) hx hb dX10_wins_81 (by decide) ?_
          rw [show f_X10_wins p1 p2 = 1 from by
              unfold f_X10_wins
              exact (if_neg c1).trans ((if_pos c16).trans ((if_neg c18).trans ((if_pos c20).trans (rfl))))]
          exact k_zret (v := 1) C hr hw nz1 dX10_wins_85
    · replace hok := Eq.mp (if_neg c16) hok
      refine lv_iload_n hx hb dX10_wins_16 rfl (lv_at hl 1 rfl) ?_
      refine lv_goto (tgt := 21) hx hb dX10_wins_17 (by decide) ?_
      refine lv_istore_n (lv' := [(3, .int p1), (2, .int p2), (0, .int p1), (1, .int p2)]) hx hb dX10_wins_21 rfl hl (by decide) rfl (fun ls hl => ?_)
      refine lv_iconst (v := 1) hx hb dX10_wins_22 (by decide) ?_
      refine lv_istore (lv' := [(4, .int 1), (3, .int p1), (2, .int p2), (0, .int p1), (1, .int p2)]) hx hb dX10_wins_23 hl (by decide) rfl (fun ls hl => ?_)
      obtain ⟨h21, hok⟩ := hok
      refine l_X10_wins_25   C 1001 0 p2 p1 (1 : Int32) h21 _ _ hw _ (lv_sub hl [2, 1, 0] rfl) (fun H locs ls hw hl => ?_)
      replace hw : kW D _ s H locs [] := hw
      replace hl : lv_has ls 6 [(3, .int (lb B_X10_wins_25 0 1001 (p2, p1, (1 : Int32))).2.1), (4, .int (lb B_X10_wins_25 0 1001 (p2, p1, (1 : Int32))).2.2)] := hl
      refine lv_iload_n hx hb dX10_wins_66 rfl (lv_at hl 0 rfl) ?_
      refine lv_if_le (tgt := 74) hx hb dX10_wins_67 (by decide) (fun c22 => ?_) (fun c22 => ?_)
      · refine lv_iconst (v := 0) hx hb dX10_wins_74 (by decide) ?_
        refine lv_iload hx hb dX10_wins_75 (lv_at hl 1 rfl) ?_
        refine lv_icmp_ne (tgt := 84) hx hb dX10_wins_77 (by decide) (fun c23 => ?_) (fun c23 => ?_)
        · refine lv_iconst (v := 0) hx hb dX10_wins_84 (by decide) ?_
          rw [show f_X10_wins p1 p2 = 0 from by
              unfold f_X10_wins
              exact (if_neg c1).trans ((if_neg c16).trans ((if_pos c22).trans ((if_neg c23).trans (rfl))))]
          exact k_zret (v := 0) C hr hw nz0 dX10_wins_85
        · refine lv_iconst (v := 1) hx hb dX10_wins_80 (by decide) ?_
          refine lv_goto (tgt := 85) hx hb dX10_wins_81 (by decide) ?_
          rw [show f_X10_wins p1 p2 = 1 from by
              unfold f_X10_wins
              exact (if_neg c1).trans ((if_neg c16).trans ((if_pos c22).trans ((if_pos c23).trans (rfl))))]
          exact k_zret (v := 1) C hr hw nz1 dX10_wins_85
      · refine lv_iconst (v := 1) hx hb dX10_wins_70 (by decide) ?_
        refine lv_goto (tgt := 75) hx hb dX10_wins_71 (by decide) ?_
        refine lv_iload hx hb dX10_wins_75 (lv_at hl 1 rfl) ?_
        refine lv_icmp_ne (tgt := 84) hx hb dX10_wins_77 (by decide) (fun c24 => ?_) (fun c24 => ?_)
        · refine lv_iconst (v := 0) hx hb dX10_wins_84 (by decide) ?_
          rw [show f_X10_wins p1 p2 = 0 from by
              unfold f_X10_wins
              exact (if_neg c1).trans ((if_neg c16).trans ((if_neg c22).trans ((if_neg c24).trans (rfl))))]
          exact k_zret (v := 0) C hr hw nz0 dX10_wins_85
        · refine lv_iconst (v := 1) hx hb dX10_wins_80 (by decide) ?_
          refine lv_goto (tgt := 85) hx hb dX10_wins_81 (by decide) ?_
          rw [show f_X10_wins p1 p2 = 1 from by
              unfold f_X10_wins
              exact (if_neg c1).trans ((if_neg c16).trans ((if_neg c22).trans ((if_pos c24).trans (rfl))))]
          exact k_zret (v := 1) C hr hw nz1 dX10_wins_85

def B_X10_leastShare_39 (x2 : Int32) (x3 : Int32) (n : Nat) (v : Int32) : Int32 := (if (f_X10_wins (x2 - ((nI (n + 1)) * x3)) x3) = 0 then (nI (n + 1)) else v)
def oB_X10_leastShare_39 (x2 : Int32) (x3 : Int32) (n : Nat) (v : Int32) : Prop := ((o_X10_wins (x2 - ((nI (n + 1)) * x3)) x3) ∧ True)
set_option maxHeartbeats 4000000 in
set_option maxRecDepth 100000 in
theorem l_X10_leastShare_39 {p : Program} {l : Launch} {e : Env} {s : State} {m : MethodId} {args : Array Value} {below : List Frame} {meth : Method} {c : Code} {D : va_G} {cI cZ : ClassId} {Q : State → Prop} {A : Nat → Prop} (x2 : Int32) (x3 : Int32) (C : kC p s m args meth c cX10_leastShare 6 wsX10_leastShare RX10 D cI cZ A) : ∀ (n : Nat) (x4 : Int32), n < 2147483648 → itDA (oB_X10_leastShare_39 x2 x3) (B_X10_leastShare_39 x2 x3) n x4 → ∀ (H : Heap) (locs : List Loc), kW D A s H locs [] → ∀ (ls : Array Slot), lv_has ls 6 [(2, .int x2), (3, .int x3), (4, .int x4), (5, .int (nI n))] → (∀ (H : Heap) (locs : List Loc) (ls : Array Slot), kW D A s H locs [] → lv_has ls 6 [(4, .int (itD (B_X10_leastShare_39 x2 x3) n x4))] → W p l e ({ frames := 1, cells := 0, slots := 0, locals := 25 }) s m args below meth c H locs 0 0 Q (F0 m 72 ls [])) → W p l e ({ frames := 1, cells := 0, slots := 0, locals := 25 }) s m args below meth c H locs 0 0 Q (F0 m 39 ls []) := by
  have hx := C.hx
  have hb := C.hb
  intro n
  induction n with
  | zero =>
    intro x4 hn hok0 H locs hw ls hl kk
    refine lv_iload hx hb dX10_leastShare_39 (lv_at hl 3 rfl) ?_
    refine lv_if_le (tgt := 72) hx hb dX10_leastShare_41 (by decide) (fun c8 => ?_) (fun c8 => absurd (by decide) c8)
    exact kk _ _ _ hw (lv_sub hl [2] rfl)
  | succ n ih =>
    intro x4 hn hok0 H locs hw ls hl kk
    have hok := hok0.1
    refine lv_iload hx hb dX10_leastShare_39 (lv_at hl 3 rfl) ?_
    refine lv_if_le (tgt := 72) hx hb dX10_leastShare_41 (by decide) (fun c5 => absurd c5 (nI_nle (Nat.succ_pos _) (by omega))) (fun c5 => ?_)
    refine lv_iload_n hx hb dX10_leastShare_44 rfl (lv_at hl 0 rfl) ?_
    refine lv_iload hx hb dX10_leastShare_45 (lv_at hl 3 rfl) ?_
    refine lv_iload_n hx hb dX10_leastShare_47 rfl (lv_at hl 1 rfl) ?_
    refine lv_imul hx hb dX10_leastShare_48 ?_
    refine lv_isub hx hb dX10_leastShare_49 ?_
    refine lv_iload_n hx hb dX10_leastShare_50 rfl (lv_at hl 1 rfl) ?_
    obtain ⟨h6, hok⟩ := hok
    refine k_callS (As := [.int (x2 - ((nI (n + 1)) * x3)), .int x3]) (rest := []) (n := 2) C hw (T_X10_wins l D cI cZ (x2 - ((nI (n + 1)) * x3)) x3 h6) gX10_leastShare_X10_wins rfl ⟨rfl, rfl⟩ (by decide +kernel) ⟨Nat.le_of_ble_eq_true rfl, Nat.le_of_ble_eq_true rfl⟩ [] rfl rfl [] rfl rfl rfl hl.1 rfl (Nat.le_of_ble_eq_true rfl) ⟨Nat.zero_le _, Nat.zero_le _⟩ dX10_leastShare_51 (fun H locs hw => ?_)
    refine W.eq (g2 := F0 m 54 ls [.int (f_X10_wins (x2 - ((nI (n + 1)) * x3)) x3)]) rfl ?_
    replace hw : kW D _ s H locs [] := hw
    refine lv_if_eq (tgt := 62) hx hb dX10_leastShare_54 (by decide) (fun c7 => ?_) (fun c7 => ?_)
    · refine lv_iload hx hb dX10_leastShare_62 (lv_at hl 3 rfl) ?_
      refine lv_istore (lv' := [(4, .int (nI (n + 1))), (2, .int x2), (3, .int x3), (5, .int (nI (n + 1)))]) hx hb dX10_leastShare_64 hl (by decide) rfl (fun ls hl => ?_)
      refine lv_iinc (v := (nI n)) (lv' := [(5, .int (nI n)), (4, .int (nI (n + 1))), (2, .int x2), (3, .int x3)]) hx hb dX10_leastShare_66 hl (k := 3) rfl (pk_m1 _) (by decide) rfl (fun ls hl => ?_)
      refine lv_goto (tgt := 39) hx hb dX10_leastShare_69 (by decide) ?_
      have hB : B_X10_leastShare_39 x2 x3 n x4 = (nI (n + 1)) := by
        unfold B_X10_leastShare_39
        exact (if_pos c7).trans (rfl)
      rw [itD_c hB] at kk
      have hok2 := itDA_c hB hok0
      exact ih (nI (n + 1)) (by omega) hok2 _ _ hw _ (lv_sub hl [2, 3, 1, 0] rfl) kk
    · refine lv_iload hx hb dX10_leastShare_57 (lv_at hl 2 rfl) ?_
      refine lv_goto (tgt := 64) hx hb dX10_leastShare_59 (by decide) ?_
      refine lv_istore (lv' := [(4, .int x4), (2, .int x2), (3, .int x3), (5, .int (nI (n + 1)))]) hx hb dX10_leastShare_64 hl (by decide) rfl (fun ls hl => ?_)
      refine lv_iinc (v := (nI n)) (lv' := [(5, .int (nI n)), (4, .int x4), (2, .int x2), (3, .int x3)]) hx hb dX10_leastShare_66 hl (k := 3) rfl (pk_m1 _) (by decide) rfl (fun ls hl => ?_)
      refine lv_goto (tgt := 39) hx hb dX10_leastShare_69 (by decide) ?_
      have hB : B_X10_leastShare_39 x2 x3 n x4 = x4 := by
        unfold B_X10_leastShare_39
        exact (if_neg c7).trans (rfl)
      rw [itD_c hB] at kk
      have hok2 := itDA_c hB hok0
      exact ih x4 (by omega) hok2 _ _ hw _ (lv_sub hl [2, 3, 1, 0] rfl) kk
def f_X10_leastShare (p1 : Int32) (p2 : Int32) : Int32 := (if p2 ≤ p1 then (if p2 ≤ p1 then (if p2 = 0 then (itD (B_X10_leastShare_39 p1 p2) 0 ((-6) : Int32)) else (lt (itD (B_X10_leastShare_39 p1 p2) (p1 / p2).toNatClampNeg ((-6) : Int32)) (fun z11 => z11))) else (if p1 = 0 then (itD (B_X10_leastShare_39 p1 p1) 0 ((-6) : Int32)) else (lt (itD (B_X10_leastShare_39 p1 p1) (p1 / p1).toNatClampNeg ((-6) : Int32)) (fun z18 => z18)))) else (if p2 ≤ p1 then (if p2 = 0 then (itD (B_X10_leastShare_39 p2 p2) 0 ((-6) : Int32)) else (lt (itD (B_X10_leastShare_39 p2 p2) (p2 / p2).toNatClampNeg ((-6) : Int32)) (fun z26 => z26))) else (if p1 = 0 then (itD (B_X10_leastShare_39 p2 p1) 0 ((-6) : Int32)) else (lt (itD (B_X10_leastShare_39 p2 p1) (p2 / p1).toNatClampNeg ((-6) : Int32)) (fun z33 => z33)))))
def o_X10_leastShare (p1 : Int32) (p2 : Int32) : Prop := (if p2 ≤ p1 then (if p2 ≤ p1 then (if p2 = 0 then ((itDA (oB_X10_leastShare_39 p1 p2) (B_X10_leastShare_39 p1 p2) 0 ((-6) : Int32)) ∧ True) else ((¬ p2 = 0) ∧ ((0 ≤ (p1 / p2)) ∧ ((itDA (oB_X10_leastShare_39 p1 p2) (B_X10_leastShare_39 p1 p2) (p1 / p2).toNatClampNeg ((-6) : Int32)) ∧ True)))) else (if p1 = 0 then ((itDA (oB_X10_leastShare_39 p1 p1) (B_X10_leastShare_39 p1 p1) 0 ((-6) : Int32)) ∧ True) else ((¬ p1 = 0) ∧ ((0 ≤ (p1 / p1)) ∧ ((itDA (oB_X10_leastShare_39 p1 p1) (B_X10_leastShare_39 p1 p1) (p1 / p1).toNatClampNeg ((-6) : Int32)) ∧ True))))) else (if p2 ≤ p1 then (if p2 = 0 then ((itDA (oB_X10_leastShare_39 p2 p2) (B_X10_leastShare_39 p2 p2) 0 ((-6) : Int32)) ∧ True) else ((¬ p2 = 0) ∧ ((0 ≤ (p2 / p2)) ∧ ((itDA (oB_X10_leastShare_39 p2 p2) (B_X10_leastShare_39 p2 p2) (p2 / p2).toNatClampNeg ((-6) : Int32)) ∧ True)))) else (if p1 = 0 then ((itDA (oB_X10_leastShare_39 p2 p1) (B_X10_leastShare_39 p2 p1) 0 ((-6) : Int32)) ∧ True) else ((¬ p1 = 0) ∧ ((0 ≤ (p2 / p1)) ∧ ((itDA (oB_X10_leastShare_39 p2 p1) (B_X10_leastShare_39 p2 p1) (p2 / p1).toNatClampNeg ((-6) : Int32)) ∧ True))))))
set_option maxHeartbeats 4000000 in
set_option maxRecDepth 100000 in
theorem T_X10_leastShare (l : Launch) (D : va_G) (cI cZ : ClassId) (p1 : Int32) (p2 : Int32) (hok : o_X10_leastShare p1 p2) : CT l D cI cZ yX10_leastShare wsX10_leastShare ({ frames := 1, cells := 0, slots := 0, locals := 25 }) [.int p1, .int p2] [] (some (.int (f_X10_leastShare p1 p2))) [] := by
  refine CT.intro RX10 (by decide) rfl (Nat.le_of_ble_eq_true rfl) rfl ?_
  intro p e s m below meth c C hr hw ls hl
  have hx := C.hx
  have hb := C.hb
  replace hl : lv_has ls 6 [(0, .int p1), (1, .int p2)] := hl
  refine lv_iload_n hx hb dX10_leastShare_0 rfl (lv_at hl 0 rfl) ?_
  refine lv_iload_n hx hb dX10_leastShare_1 rfl (lv_at hl 1 rfl) ?_
  refine lv_icmp_ge (tgt := 9) hx hb dX10_leastShare_2 (by decide) (fun c1 => ?_) (fun c1 => ?_)
  · replace hok := Eq.mp (if_pos c1) hok
    refine lv_iload_n hx hb dX10_leastShare_9 rfl (lv_at hl 0 rfl) ?_
    refine lv_istore_n (lv' := [(2, .int p1), (0, .int p1), (1, .int p2)]) hx hb dX10_leastShare_10 rfl hl (by decide) rfl (fun ls hl => ?_)
    refine lv_iload_n hx hb dX10_leastShare_11 rfl (lv_at hl 1 rfl) ?_
    refine lv_iload_n hx hb dX10_leastShare_12 rfl (lv_at hl 2 rfl) ?_
    refine lv_icmp_ge (tgt := 20) hx hb dX10_leastShare_13 (by decide) (fun c2 => ?_) (fun c2 => ?_)
    · replace hok := Eq.mp (if_pos c2) hok
      refine lv_iload_n hx hb dX10_leastShare_20 rfl (lv_at hl 2 rfl) ?_
      refine lv_istore_n (lv' := [(3, .int p2), (2, .int p1), (0, .int p1), (1, .int p2)]) hx hb dX10_leastShare_21 rfl hl (by decide) rfl (fun ls hl => ?_)
      refine lv_bipush (v := (-6)) hx hb dX10_leastShare_22 (by decide) ?_
      refine lv_istore (lv' := [(4, .int (-6)), (3, .int p2), (2, .int p1), (0, .int p1), (1, .int p2)]) hx hb dX10_leastShare_24 hl (by decide) rfl (fun ls hl => ?_)
      refine lv_iload_n hx hb dX10_leastShare_26 rfl (lv_at hl 1 rfl) ?_
      refine lv_if_ne (tgt := 34) hx hb dX10_leastShare_27 (by decide) (fun c3 => ?_) (fun c3 => ?_)
      · replace hok := Eq.mp (if_neg c3) hok
        refine lv_iload_n hx hb dX10_leastShare_34 rfl (lv_at hl 2 rfl) ?_
        refine lv_iload_n hx hb dX10_leastShare_35 rfl (lv_at hl 1 rfl) ?_
        obtain ⟨h4, hok⟩ := hok
        refine lv_idiv hx hb dX10_leastShare_36 h4 ?_
        refine lv_istore (lv' := [(5, .int (p1 / p2)), (4, .int (-6)), (3, .int p2), (2, .int p1), (0, .int p1), (1, .int p2)]) hx hb dX10_leastShare_37 hl (by decide) rfl (fun ls hl => ?_)
        obtain ⟨h9, hok⟩ := hok
        obtain ⟨h10, hok⟩ := hok
        have hl2 : lv_has ls 6 [(2, .int p1), (3, .int p2), (4, .int (-6)), (5, .int (nI (p1 / p2).toNatClampNeg))] := by
          rw [← nI_self h9]
          exact (lv_sub hl [3, 2, 1, 0] rfl)
        refine l_X10_leastShare_39  p1 p2 C (p1 / p2).toNatClampNeg ((-6) : Int32) (clamp_lt _) h10 _ _ hw _ hl2 (fun H locs ls hw hl => ?_)
        obtain ⟨z11, h12⟩ : ∃ z, (itD (B_X10_leastShare_39 p1 p2) (p1 / p2).toNatClampNeg ((-6) : Int32)) = z := ⟨_, rfl⟩
        replace hw := kW_cast (ws' := []) (by subst h12; rfl) hw
        replace hl : lv_has ls 6 [(4, .int z11)] := by subst h12; exact hl
        refine lv_iload hx hb dX10_leastShare_72 (lv_at hl 0 rfl) ?_
        rw [show f_X10_leastShare p1 p2 = z11 from by
            unfold f_X10_leastShare
            exact (if_pos c1).trans ((if_pos c2).trans ((if_neg c3).trans ((lt_c h12).trans (rfl))))]
        exact k_iret C hr hw dX10_leastShare_74
      · replace hok := Eq.mp (if_pos c3) hok
        refine lv_iconst (v := 0) hx hb dX10_leastShare_30 (by decide) ?_
        refine lv_goto (tgt := 37) hx hb dX10_leastShare_31 (by decide) ?_
        refine lv_istore (lv' := [(5, .int 0), (4, .int (-6)), (3, .int p2), (2, .int p1), (0, .int p1), (1, .int p2)]) hx hb dX10_leastShare_37 hl (by decide) rfl (fun ls hl => ?_)
        obtain ⟨h13, hok⟩ := hok
        refine l_X10_leastShare_39  p1 p2 C 0 ((-6) : Int32) (by decide) h13 _ _ hw _ (lv_sub hl [3, 2, 1, 0] rfl) (fun H locs ls hw hl => ?_)
        replace hw : kW D _ s H locs [] := hw
        replace hl : lv_has ls 6 [(4, .int (itD (B_X10_leastShare_39 p1 p2) 0 ((-6) : Int32)))] := hl
        refine lv_iload hx hb dX10_leastShare_72 (lv_at hl 0 rfl) ?_
        rw [show f_X10_leastShare p1 p2 = (itD (B_X10_leastShare_39 p1 p2) 0 ((-6) : Int32)) from by
            unfold f_X10_leastShare
            exact (if_pos c1).trans ((if_pos c2).trans ((if_pos c3).trans (rfl)))]
        exact k_iret C hr hw dX10_leastShare_74
    · replace hok := Eq.mp (if_neg c2) hok
      refine lv_iload_n hx hb dX10_leastShare_16 rfl (lv_at hl 1 rfl) ?_
      refine lv_goto (tgt := 21) hx hb dX10_leastShare_17 (by decide) ?_
      refine lv_istore_n (lv' := [(3, .int p1), (2, .int p1), (0, .int p1), (1, .int p2)]) hx hb dX10_leastShare_21 rfl hl (by decide) rfl (fun ls hl => ?_)
      refine lv_bipush (v := (-6)) hx hb dX10_leastShare_22 (by decide) ?_
      refine lv_istore (lv' := [(4, .int (-6)), (3, .int p1), (2, .int p1), (0, .int p1), (1, .int p2)]) hx hb dX10_leastShare_24 hl (by decide) rfl (fun ls hl => ?_)
      refine lv_iload_n hx hb dX10_leastShare_26 rfl (lv_at hl 1 rfl) ?_
      refine lv_if_ne (tgt := 34) hx hb dX10_leastShare_27 (by decide) (fun c14 => ?_) (fun c14 => ?_)
      · replace hok := Eq.mp (if_neg c14) hok
        refine lv_iload_n hx hb dX10_leastShare_34 rfl (lv_at hl 2 rfl) ?_
        refine lv_iload_n hx hb dX10_leastShare_35 rfl (lv_at hl 1 rfl) ?_
        obtain ⟨h15, hok⟩ := hok
        refine lv_idiv hx hb dX10_leastShare_36 h15 ?_
        refine lv_istore (lv' := [(5, .int (p1 / p1)), (4, .int (-6)), (3, .int p1), (2, .int p1), (0, .int p1), (1, .int p2)]) hx hb dX10_leastShare_37 hl (by decide) rfl (fun ls hl => ?_)
        obtain ⟨h16, hok⟩ := hok
        obtain ⟨h17, hok⟩ := hok
        have hl2 : lv_has ls 6 [(2, .int p1), (3, .int p1), (4, .int (-6)), (5, .int (nI (p1 / p1).toNatClampNeg))] := by
          rw [← nI_self h16]
          exact (lv_sub hl [3, 2, 1, 0] rfl)
        refine l_X10_leastShare_39  p1 p1 C (p1 / p1).toNatClampNeg ((-6) : Int32) (clamp_lt _) h17 _ _ hw _ hl2 (fun H locs ls hw hl => ?_)
        obtain ⟨z18, h19⟩ : ∃ z, (itD (B_X10_leastShare_39 p1 p1) (p1 / p1).toNatClampNeg ((-6) : Int32)) = z := ⟨_, rfl⟩
        replace hw := kW_cast (ws' := []) (by subst h19; rfl) hw
        replace hl : lv_has ls 6 [(4, .int z18)] := by subst h19; exact hl
        refine lv_iload hx hb dX10_leastShare_72 (lv_at hl 0 rfl) ?_
        rw [show f_X10_leastShare p1 p2 = z18 from by
            unfold f_X10_leastShare
            exact (if_pos c1).trans ((if_neg c2).trans ((if_neg c14).trans ((lt_c h19).trans (rfl))))]
        exact k_iret C hr hw dX10_leastShare_74
      · replace hok := Eq.mp (if_pos c14) hok
        refine lv_iconst (v := 0) hx hb dX10_leastShare_30 (by decide) ?_
        refine lv_goto (tgt := 37) hx hb dX10_leastShare_31 (by decide) ?_
        refine lv_istore (lv' := [(5, .int 0), (4, .int (-6)), (3, .int p1), (2, .int p1), (0, .int p1), (1, .int p2)]) hx hb dX10_leastShare_37 hl (by decide) rfl (fun ls hl => ?_)
        obtain ⟨h20, hok⟩ := hok
        refine l_X10_leastShare_39  p1 p1 C 0 ((-6) : Int32) (by decide) h20 _ _ hw _ (lv_sub hl [3, 2, 1, 0] rfl) (fun H locs ls hw hl => ?_)
        replace hw : kW D _ s H locs [] := hw
        replace hl : lv_has ls 6 [(4, .int (itD (B_X10_leastShare_39 p1 p1) 0 ((-6) : Int32)))] := hl
        refine lv_iload hx hb dX10_leastShare_72 (lv_at hl 0 rfl) ?_
        rw [show f_X10_leastShare p1 p2 = (itD (B_X10_leastShare_39 p1 p1) 0 ((-6) : Int32)) from by
            unfold f_X10_leastShare
            exact (if_pos c1).trans ((if_neg c2).trans ((if_pos c14).trans (rfl)))]
        exact k_iret C hr hw dX10_leastShare_74
  · replace hok := Eq.mp (if_neg c1) hok
    refine lv_iload_n hx hb dX10_leastShare_5 rfl (lv_at hl 1 rfl) ?_
    refine lv_goto (tgt := 10) hx hb dX10_leastShare_6 (by decide) ?_
    refine lv_istore_n (lv' := [(2, .int p2), (0, .int p1), (1, .int p2)]) hx hb dX10_leastShare_10 rfl hl (by decide) rfl (fun ls hl => ?_)
    refine lv_iload_n hx hb dX10_leastShare_11 rfl (lv_at hl 1 rfl) ?_
    refine lv_iload_n hx hb dX10_leastShare_12 rfl (lv_at hl 2 rfl) ?_
    refine lv_icmp_ge (tgt := 20) hx hb dX10_leastShare_13 (by decide) (fun c21 => ?_) (fun c21 => ?_)
    · replace hok := Eq.mp (if_pos c21) hok
      refine lv_iload_n hx hb dX10_leastShare_20 rfl (lv_at hl 2 rfl) ?_
      refine lv_istore_n (lv' := [(3, .int p2), (2, .int p2), (0, .int p1), (1, .int p2)]) hx hb dX10_leastShare_21 rfl hl (by decide) rfl (fun ls hl => ?_)
      refine lv_bipush (v := (-6)) hx hb dX10_leastShare_22 (by decide) ?_
      refine lv_istore (lv' := [(4, .int (-6)), (3, .int p2), (2, .int p2), (0, .int p1), (1, .int p2)]) hx hb dX10_leastShare_24 hl (by decide) rfl (fun ls hl => ?_)
      refine lv_iload_n hx hb dX10_leastShare_26 rfl (lv_at hl 1 rfl) ?_
      refine lv_if_ne (tgt := 34) hx hb dX10_leastShare_27 (by decide) (fun c22 => ?_) (fun c22 => ?_)
      · replace hok := Eq.mp (if_neg c22) hok
        refine lv_iload_n hx hb dX10_leastShare_34 rfl (lv_at hl 2 rfl) ?_
        refine lv_iload_n hx hb dX10_leastShare_35 rfl (lv_at hl 1 rfl) ?_
        obtain ⟨h23, hok⟩ := hok
        refine lv_idiv hx hb dX10_leastShare_36 h23 ?_
        refine lv_istore (lv' := [(5, .int (p2 / p2)), (4, .int (-6)), (3, .int p2), (2, .int p2), (0, .int p1), (1, .int p2)]) hx hb dX10_leastShare_37 hl (by decide) rfl (fun ls hl => ?_)
        obtain ⟨h24, hok⟩ := hok
        obtain ⟨h25, hok⟩ := hok
        have hl2 : lv_has ls 6 [(2, .int p2), (3, .int p2), (4, .int (-6)), (5, .int (nI (p2 / p2).toNatClampNeg))] := by
          rw [← nI_self h24]
          exact (lv_sub hl [3, 2, 1, 0] rfl)
        refine l_X10_leastShare_39  p2 p2 C (p2 / p2).toNatClampNeg ((-6) : Int32) (clamp_lt _) h25 _ _ hw _ hl2 (fun H locs ls hw hl => ?_)
        obtain ⟨z26, h27⟩ : ∃ z, (itD (B_X10_leastShare_39 p2 p2) (p2 / p2).toNatClampNeg ((-6) : Int32)) = z := ⟨_, rfl⟩
        replace hw := kW_cast (ws' := []) (by subst h27; rfl) hw
        replace hl : lv_has ls 6 [(4, .int z26)] := by subst h27; exact hl
        refine lv_iload hx hb dX10_leastShare_72 (lv_at hl 0 rfl) ?_
        rw [show f_X10_leastShare p1 p2 = z26 from by
            unfold f_X10_leastShare
            exact (if_neg c1).trans ((if_pos c21).trans ((if_neg c22).trans ((lt_c h27).trans (rfl))))]
        exact k_iret C hr hw dX10_leastShare_74
      · replace hok := Eq.mp (if_pos c22) hok
        refine lv_iconst (v := 0) hx hb dX10_leastShare_30 (by decide) ?_
        refine lv_goto (tgt := 37) hx hb dX10_leastShare_31 (by decide) ?_
        refine lv_istore (lv' := [(5, .int 0), (4, .int (-6)), (3, .int p2), (2, .int p2), (0, .int p1), (1, .int p2)]) hx hb dX10_leastShare_37 hl (by decide) rfl (fun ls hl => ?_)
        obtain ⟨h28, hok⟩ := hok
        refine l_X10_leastShare_39  p2 p2 C 0 ((-6) : Int32) (by decide) h28 _ _ hw _ (lv_sub hl [3, 2, 1, 0] rfl) (fun H locs ls hw hl => ?_)
        replace hw : kW D _ s H locs [] := hw
        replace hl : lv_has ls 6 [(4, .int (itD (B_X10_leastShare_39 p2 p2) 0 ((-6) : Int32)))] := hl
        refine lv_iload hx hb dX10_leastShare_72 (lv_at hl 0 rfl) ?_
        rw [show f_X10_leastShare p1 p2 = (itD (B_X10_leastShare_39 p2 p2) 0 ((-6) : Int32)) from by
            unfold f_X10_leastShare
            exact (if_neg c1).trans ((if_pos c21).trans ((if_pos c22).trans (rfl)))]
        exact k_iret C hr hw dX10_leastShare_74
    · replace hok := Eq.mp (if_neg c21) hok
      refine lv_iload_n hx hb dX10_leastShare_16 rfl (lv_at hl 1 rfl) ?_
      refine lv_goto (tgt := 21) hx hb dX10_leastShare_17 (by decide) ?_
      refine lv_istore_n (lv' := [(3, .int p1), (2, .int p2), (0, .int p1), (1, .int p2)]) hx hb dX10_leastShare_21 rfl hl (by decide) rfl (fun ls hl => ?_)
      refine lv_bipush (v := (-6)) hx hb dX10_leastShare_22 (by decide) ?_
      refine lv_istore (lv' := [(4, .int (-6)), (3, .int p1), (2, .int p2), (0, .int p1), (1, .int p2)]) hx hb dX10_leastShare_24 hl (by decide) rfl (fun ls hl => ?_)
      refine lv_iload_n hx hb dX10_leastShare_26 rfl (lv_at hl 1 rfl) ?_
      refine lv_if_ne (tgt := 34) hx hb dX10_leastShare_27 (by decide) (fun c29 => ?_) (fun c29 => ?_)
      · replace hok := Eq.mp (if_neg c29) hok
        refine lv_iload_n hx hb dX10_leastShare_34 rfl (lv_at hl 2 rfl) ?_
        refine lv_iload_n hx hb dX10_leastShare_35 rfl (lv_at hl 1 rfl) ?_
        obtain ⟨h30, hok⟩ := hok
        refine lv_idiv hx hb dX10_leastShare_36 h30 ?_
        refine lv_istore (lv' := [(5, .int (p2 / p1)), (4, .int (-6)), (3, .int p1), (2, .int p2), (0, .int p1), (1, .int p2)]) hx hb dX10_leastShare_37 hl (by decide) rfl (fun ls hl => ?_)
        obtain ⟨h31, hok⟩ := hok
        obtain ⟨h32, hok⟩ := hok
        have hl2 : lv_has ls 6 [(2, .int p2), (3, .int p1), (4, .int (-6)), (5, .int (nI (p2 / p1).toNatClampNeg))] := by
          rw [← nI_self h31]
          exact (lv_sub hl [3, 2, 1, 0] rfl)
        refine l_X10_leastShare_39  p2 p1 C (p2 / p1).toNatClampNeg ((-6) : Int32) (clamp_lt _) h32 _ _ hw _ hl2 (fun H locs ls hw hl => ?_)
        obtain ⟨z33, h34⟩ : ∃ z, (itD (B_X10_leastShare_39 p2 p1) (p2 / p1).toNatClampNeg ((-6) : Int32)) = z := ⟨_, rfl⟩
        replace hw := kW_cast (ws' := []) (by subst h34; rfl) hw
        replace hl : lv_has ls 6 [(4, .int z33)] := by subst h34; exact hl
        refine lv_iload hx hb dX10_leastShare_72 (lv_at hl 0 rfl) ?_
        rw [show f_X10_leastShare p1 p2 = z33 from by
            unfold f_X10_leastShare
            exact (if_neg c1).trans ((if_neg c21).trans ((if_neg c29).trans ((lt_c h34).trans (rfl))))]
        exact k_iret C hr hw dX10_leastShare_74
      · replace hok := Eq.mp (if_pos c29) hok
        refine lv_iconst (v := 0) hx hb dX10_leastShare_30 (by decide) ?_
        refine lv_goto (tgt := 37) hx hb dX10_leastShare_31 (by decide) ?_
        refine lv_istore (lv' := [(5, .int 0), (4, .int (-6)), (3, .int p1), (2, .int p2), (0, .int p1), (1, .int p2)]) hx hb dX10_leastShare_37 hl (by decide) rfl (fun ls hl => ?_)
        obtain ⟨h35, hok⟩ := hok
        refine l_X10_leastShare_39  p2 p1 C 0 ((-6) : Int32) (by decide) h35 _ _ hw _ (lv_sub hl [3, 2, 1, 0] rfl) (fun H locs ls hw hl => ?_)
        replace hw : kW D _ s H locs [] := hw
        replace hl : lv_has ls 6 [(4, .int (itD (B_X10_leastShare_39 p2 p1) 0 ((-6) : Int32)))] := hl
        refine lv_iload hx hb dX10_leastShare_72 (lv_at hl 0 rfl) ?_
        rw [show f_X10_leastShare p1 p2 = (itD (B_X10_leastShare_39 p2 p1) 0 ((-6) : Int32)) from by
            unfold f_X10_leastShare
            exact (if_neg c1).trans ((if_neg c21).trans ((if_pos c29).trans (rfl)))]
        exact k_iret C hr hw dX10_leastShare_74

def f_X10_crumbs (p1 : Int32) (p2 : Int32) (p3 : Int32) : Int32 := (if (f_X10_in ((p1).toInt64) (0 : Int64) (999 : Int64)) = 0 then (-2) else (if (f_X10_in ((p2).toInt64) (0 : Int64) (999 : Int64)) = 0 then (-2) else (if (f_X10_in ((p3).toInt64) (0 : Int64) (1 : Int64)) = 0 then (-2) else (if p3 = 1 then (f_X10_leastShare p1 p2) else (if 0 ≤ (f_X10_leastShare p1 p2) then 1 else 0)))))
def o_X10_crumbs (p1 : Int32) (p2 : Int32) (p3 : Int32) : Prop := (if (f_X10_in ((p1).toInt64) (0 : Int64) (999 : Int64)) = 0 then True else (if (f_X10_in ((p2).toInt64) (0 : Int64) (999 : Int64)) = 0 then True else (if (f_X10_in ((p3).toInt64) (0 : Int64) (1 : Int64)) = 0 then True else ((o_X10_leastShare p1 p2) ∧ True))))
set_option maxHeartbeats 4000000 in
set_option maxRecDepth 100000 in
theorem T_X10_crumbs (l : Launch) (D : va_G) (cI cZ : ClassId) (a_t : Nat) (p1 : Int32) (p2 : Int32) (p3 : Int32) (hok : o_X10_crumbs p1 p2 p3) : CT l D cI cZ yX10_crumbs wsX10_crumbs ({ frames := 2, cells := 0, slots := 0, locals := 50 }) [.ref a_t, .int p1, .int p2, .int p3] [] (some (.int (f_X10_crumbs p1 p2 p3))) [] := by
  refine CT.intro RX10 (by decide) rfl (Nat.le_of_ble_eq_true rfl) rfl ?_
  intro p e s m below meth c C hr hw ls hl
  have hx := C.hx
  have hb := C.hb
  replace hl : lv_has ls 5 [(0, .ref a_t), (1, .int p1), (2, .int p2), (3, .int p3)] := hl
  refine lv_iload_n hx hb dX10_crumbs_0 rfl (lv_at hl 1 rfl) ?_
  refine lv_i2l (v := ((p1).toInt64)) hx hb dX10_crumbs_1 rfl ?_
  refine lv_lconst (v := 0) hx hb dX10_crumbs_2 (by decide) ?_
  refine lv_ldc2 (v := 999) hx hb C.hown (C.hts _ (List.mem_of_getElem? (i := 1) rfl)) dX10_crumbs_3 ?_
  refine k_callS (As := [.long ((p1).toInt64), .long 0, .long 999]) (rest := []) (n := 3) C hw (T_X10_in l D cI cZ ((p1).toInt64) (0 : Int64) (999 : Int64)) gX10_crumbs_X10_in rfl ⟨rfl, rfl⟩ (by decide +kernel) ⟨Nat.le_of_ble_eq_true rfl, Nat.le_of_ble_eq_true rfl⟩ [] rfl rfl [] rfl rfl rfl hl.1 rfl (Nat.le_of_ble_eq_true rfl) ⟨Nat.zero_le _, Nat.zero_le _⟩ dX10_crumbs_6 (fun H locs hw => ?_)
  refine W.eq (g2 := F0 m 9 ls [.int (f_X10_in ((p1).toInt64) (0 : Int64) (999 : Int64))]) rfl ?_
  replace hw : kW D _ s H locs [] := hw
  refine lv_if_eq (tgt := 34) hx hb dX10_crumbs_9 (by decide) (fun c1 => ?_) (fun c1 => ?_)
  · refine lv_bipush (v := (-2)) hx hb dX10_crumbs_34 (by decide) ?_
    rw [show f_X10_crumbs p1 p2 p3 = (-2) from by
        unfold f_X10_crumbs
        exact (if_pos c1).trans (rfl)]
    exact k_iret C hr hw dX10_crumbs_36
  · replace hok := Eq.mp (if_neg c1) hok
    refine lv_iload_n hx hb dX10_crumbs_12 rfl (lv_at hl 2 rfl) ?_
    refine lv_i2l (v := ((p2).toInt64)) hx hb dX10_crumbs_13 rfl ?_
    refine lv_lconst (v := 0) hx hb dX10_crumbs_14 (by decide) ?_
    refine lv_ldc2 (v := 999) hx hb C.hown (C.hts _ (List.mem_of_getElem? (i := 1) rfl)) dX10_crumbs_15 ?_
    refine k_callS (As := [.long ((p2).toInt64), .long 0, .long 999]) (rest := []) (n := 3) C hw (T_X10_in l D cI cZ ((p2).toInt64) (0 : Int64) (999 : Int64)) gX10_crumbs_X10_in rfl ⟨rfl, rfl⟩ (by decide +kernel) ⟨Nat.le_of_ble_eq_true rfl, Nat.le_of_ble_eq_true rfl⟩ [] rfl rfl [] rfl rfl rfl hl.1 rfl (Nat.le_of_ble_eq_true rfl) ⟨Nat.zero_le _, Nat.zero_le _⟩ dX10_crumbs_18 (fun H locs hw => ?_)
    refine W.eq (g2 := F0 m 21 ls [.int (f_X10_in ((p2).toInt64) (0 : Int64) (999 : Int64))]) rfl ?_
    replace hw : kW D _ s H locs [] := hw
    refine lv_if_eq (tgt := 34) hx hb dX10_crumbs_21 (by decide) (fun c2 => ?_) (fun c2 => ?_)
    · refine lv_bipush (v := (-2)) hx hb dX10_crumbs_34 (by decide) ?_
      rw [show f_X10_crumbs p1 p2 p3 = (-2) from by
          unfold f_X10_crumbs
          exact (if_neg c1).trans ((if_pos c2).trans (rfl))]
      exact k_iret C hr hw dX10_crumbs_36
    · replace hok := Eq.mp (if_neg c2) hok
      refine lv_iload_n hx hb dX10_crumbs_24 rfl (lv_at hl 3 rfl) ?_
      refine lv_i2l (v := ((p3).toInt64)) hx hb dX10_crumbs_25 rfl ?_
      refine lv_lconst (v := 0) hx hb dX10_crumbs_26 (by decide) ?_
      refine lv_lconst (v := 1) hx hb dX10_crumbs_27 (by decide) ?_
      refine k_callS (As := [.long ((p3).toInt64), .long 0, .long 1]) (rest := []) (n := 3) C hw (T_X10_in l D cI cZ ((p3).toInt64) (0 : Int64) (1 : Int64)) gX10_crumbs_X10_in rfl ⟨rfl, rfl⟩ (by decide +kernel) ⟨Nat.le_of_ble_eq_true rfl, Nat.le_of_ble_eq_true rfl⟩ [] rfl rfl [] rfl rfl rfl hl.1 rfl (Nat.le_of_ble_eq_true rfl) ⟨Nat.zero_le _, Nat.zero_le _⟩ dX10_crumbs_28 (fun H locs hw => ?_)
      refine W.eq (g2 := F0 m 31 ls [.int (f_X10_in ((p3).toInt64) (0 : Int64) (1 : Int64))]) rfl ?_
      replace hw : kW D _ s H locs [] := hw
      refine lv_if_ne (tgt := 37) hx hb dX10_crumbs_31 (by decide) (fun c3 => ?_) (fun c3 => ?_)
      · replace hok := Eq.mp (if_neg c3) hok
        refine lv_iload_n hx hb dX10_crumbs_37 rfl (lv_at hl 1 rfl) ?_
        refine lv_iload_n hx hb dX10_crumbs_38 rfl (lv_at hl 2 rfl) ?_
        obtain ⟨h4, hok⟩ := hok
        refine k_callS (As := [.int p1, .int p2]) (rest := []) (n := 2) C hw (T_X10_leastShare l D cI cZ p1 p2 h4) gX10_crumbs_X10_leastShare rfl ⟨rfl, rfl⟩ (by decide +kernel) ⟨Nat.le_of_ble_eq_true rfl, Nat.le_of_ble_eq_true rfl⟩ [] rfl rfl [] rfl rfl rfl hl.1 rfl (Nat.le_of_ble_eq_true rfl) ⟨Nat.zero_le _, Nat.zero_le _⟩ dX10_crumbs_39 (fun H locs hw => ?_)
        refine W.eq (g2 := F0 m 42 ls [.int (f_X10_leastShare p1 p2)]) rfl ?_
        replace hw : kW D _ s H locs [] := hw
        refine lv_istore (lv' := [(4, .int (f_X10_leastShare p1 p2)), (0, .ref a_t), (1, .int p1), (2, .int p2), (3, .int p3)]) hx hb dX10_crumbs_42 hl (by decide) rfl (fun ls hl => ?_)
        refine lv_iload_n hx hb dX10_crumbs_44 rfl (lv_at hl 4 rfl) ?_
        refine lv_iconst (v := 1) hx hb dX10_crumbs_45 (by decide) ?_
        refine lv_icmp_ne (tgt := 54) hx hb dX10_crumbs_46 (by decide) (fun c5 => ?_) (fun c5 => ?_)
        · refine lv_iload hx hb dX10_crumbs_54 (lv_at hl 0 rfl) ?_
          refine lv_if_ge (tgt := 63) hx hb dX10_crumbs_56 (by decide) (fun c6 => ?_) (fun c6 => ?_)
          · refine lv_iconst (v := 1) hx hb dX10_crumbs_63 (by decide) ?_
            rw [show f_X10_crumbs p1 p2 p3 = 1 from by
                unfold f_X10_crumbs
                exact (if_neg c1).trans ((if_neg c2).trans ((if_neg c3).trans ((if_neg c5).trans ((if_pos c6).trans (rfl)))))]
            exact k_iret C hr hw dX10_crumbs_64
          · refine lv_iconst (v := 0) hx hb dX10_crumbs_59 (by decide) ?_
            refine lv_goto (tgt := 64) hx hb dX10_crumbs_60 (by decide) ?_
            rw [show f_X10_crumbs p1 p2 p3 = 0 from by
                unfold f_X10_crumbs
                exact (if_neg c1).trans ((if_neg c2).trans ((if_neg c3).trans ((if_neg c5).trans ((if_neg c6).trans (rfl)))))]
            exact k_iret C hr hw dX10_crumbs_64
        · refine lv_iload hx hb dX10_crumbs_49 (lv_at hl 0 rfl) ?_
          refine lv_goto (tgt := 64) hx hb dX10_crumbs_51 (by decide) ?_
          rw [show f_X10_crumbs p1 p2 p3 = (f_X10_leastShare p1 p2) from by
              unfold f_X10_crumbs
              exact (if_neg c1).trans ((if_neg c2).trans ((if_neg c3).trans ((if_pos c5).trans (rfl))))]
          exact k_iret C hr hw dX10_crumbs_64
      · refine lv_bipush (v := (-2)) hx hb dX10_crumbs_34 (by decide) ?_
        rw [show f_X10_crumbs p1 p2 p3 = (-2) from by
            unfold f_X10_crumbs
            exact (if_neg c1).trans ((if_neg c2).trans ((if_pos c3).trans (rfl)))]
        exact k_iret C hr hw dX10_crumbs_36

