def B_X9_placeOfLeaver_19 (x2 : Int32) (j : Nat) (v : Int32) : Int32 := ((v + x2) - (v + x2) / (nI j) * (nI j))
def oB_X9_placeOfLeaver_19 (j : Nat) (v : Int32) : Prop := ((¬ (nI j) = 0) ∧ True)
set_option maxHeartbeats 4000000 in
set_option maxRecDepth 100000 in
theorem l_X9_placeOfLeaver_19 {p : Program} {l : Launch} {e : Env} {s : State} {m : MethodId} {args : Array Value} {below : List Frame} {meth : Method} {c : Code} {D : va_G} {cI cZ : ClassId} {Q : State → Prop} {A : Nat → Prop} (x1 : Int32) (x2 : Int32) (C : kC p s m args meth c cX9_placeOfLeaver 5 wsX9_placeOfLeaver RX9 D cI cZ A) (b : Nat) (hB : x1 = nI b) (hb31 : b < 2147483647) : ∀ (n j : Nat) (x3 : Int32), n = b + 1 - j → j < 2147483648 → itA oB_X9_placeOfLeaver_19 (B_X9_placeOfLeaver_19 x2) j n x3 → ∀ (H : Heap) (locs : List Loc), kW D A s H locs [] → ∀ (ls : Array Slot), lv_has ls 5 [(1, .int x1), (2, .int x2), (3, .int x3), (4, .int (nI j))] → (∀ (H : Heap) (locs : List Loc) (ls : Array Slot), kW D A s H locs [] → lv_has ls 5 [(3, .int (it (B_X9_placeOfLeaver_19 x2) j n x3))] → W p l e ({ frames := 0, cells := 0, slots := 0, locals := 0 }) s m args below meth c H locs 0 0 Q (F0 m 38 ls [])) → W p l e ({ frames := 0, cells := 0, slots := 0, locals := 0 }) s m args below meth c H locs 0 0 Q (F0 m 19 ls []) := by
  have hx := C.hx
  have hb := C.hb
  intro n
  induction n with
  | zero =>
    intro j x3 hn hj hok0 H locs hw ls hl kk
    refine lv_iload hx hb dX9_placeOfLeaver_19 (lv_at hl 3 rfl) ?_
    refine lv_iload_n hx hb dX9_placeOfLeaver_21 rfl (lv_at hl 0 rfl) ?_
    refine lv_icmp_gt (tgt := 38) hx hb dX9_placeOfLeaver_22 (by decide) (fun c5 => ?_) (fun c5 => by rw [hB] at c5; exact absurd (nI_lt (a := b) (b := j) (by omega) (by omega)) c5)
    exact kk _ _ _ hw (lv_sub hl [2] rfl)
  | succ n ih =>
    intro j x3 hn hj hok0 H locs hw ls hl kk
    have hok := hok0.1
    refine lv_iload hx hb dX9_placeOfLeaver_19 (lv_at hl 3 rfl) ?_
    refine lv_iload_n hx hb dX9_placeOfLeaver_21 rfl (lv_at hl 0 rfl) ?_
    refine lv_icmp_gt (tgt := 38) hx hb dX9_placeOfLeaver_22 (by decide) (fun c3 => by rw [hB] at c3; exact absurd c3 (nI_nlt (a := b) (b := j) (by omega) (by omega))) (fun c3 => ?_)
    refine lv_iload_n hx hb dX9_placeOfLeaver_25 rfl (lv_at hl 2 rfl) ?_
    refine lv_iload_n hx hb dX9_placeOfLeaver_26 rfl (lv_at hl 1 rfl) ?_
    refine lv_iadd hx hb dX9_placeOfLeaver_27 ?_
    refine lv_iload hx hb dX9_placeOfLeaver_28 (lv_at hl 3 rfl) ?_
    obtain ⟨h4, hok⟩ := hok
    refine lv_irem hx hb dX9_placeOfLeaver_30 h4 ?_
    refine lv_istore_n (lv' := [(3, .int ((x3 + x2) - (x3 + x2) / (nI j) * (nI j))), (1, .int x1), (2, .int x2), (4, .int (nI j))]) hx hb dX9_placeOfLeaver_31 rfl hl (by decide) rfl (fun ls hl => ?_)
    refine lv_iinc (v := (nI (j + 1))) (lv' := [(4, .int (nI (j + 1))), (3, .int ((x3 + x2) - (x3 + x2) / (nI j) * (nI j))), (1, .int x1), (2, .int x2)]) hx hb dX9_placeOfLeaver_32 hl (k := 3) rfl (nI_1 _) (by decide) rfl (fun ls hl => ?_)
    refine lv_goto (tgt := 19) hx hb dX9_placeOfLeaver_35 (by decide) ?_
    have hB : B_X9_placeOfLeaver_19 x2 j x3 = ((x3 + x2) - (x3 + x2) / (nI j) * (nI j)) := by
      unfold B_X9_placeOfLeaver_19
      exact rfl
    rw [it_c hB] at kk
    have hok2 := itA_c hB hok0
    exact ih (j + 1) ((x3 + x2) - (x3 + x2) / (nI j) * (nI j)) (by omega) (by omega) hok2 _ _ hw _ (lv_sub hl [2, 3, 1, 0] rfl) kk
def f_X9_placeOfLeaver (p1 : Int32) (p2 : Int32) (p3 : Int32) : Int32 := (if 1 ≤ p1 then (lt (it (B_X9_placeOfLeaver_19 p3) (p1 + 1).toNatClampNeg ((p2.toNatClampNeg + 1) - (p1 + 1).toNatClampNeg) ((p3 - 1) - (p3 - 1) / p1 * p1)) (fun z10 => z10)) else (-6))
def o_X9_placeOfLeaver (p1 : Int32) (p2 : Int32) (p3 : Int32) : Prop := (if 1 ≤ p1 then ((¬ p1 = 0) ∧ ((0 ≤ (p1 + 1)) ∧ ((0 ≤ p2) ∧ ((p2.toNatClampNeg < 2147483647) ∧ ((itA oB_X9_placeOfLeaver_19 (B_X9_placeOfLeaver_19 p3) (p1 + 1).toNatClampNeg ((p2.toNatClampNeg + 1) - (p1 + 1).toNatClampNeg) ((p3 - 1) - (p3 - 1) / p1 * p1)) ∧ True))))) else True)
set_option maxHeartbeats 4000000 in
set_option maxRecDepth 100000 in
theorem T_X9_placeOfLeaver (l : Launch) (D : va_G) (cI cZ : ClassId) (p1 : Int32) (p2 : Int32) (p3 : Int32) (hok : o_X9_placeOfLeaver p1 p2 p3) : CT l D cI cZ yX9_placeOfLeaver wsX9_placeOfLeaver ({ frames := 0, cells := 0, slots := 0, locals := 0 }) [.int p1, .int p2, .int p3] [] (some (.int (f_X9_placeOfLeaver p1 p2 p3))) [] := by
  refine CT.intro RX9 (by decide) rfl (Nat.le_of_ble_eq_true rfl) rfl ?_
  intro p e s m below meth c C hr hw ls hl
  have hx := C.hx
  have hb := C.hb
  replace hl : lv_has ls 5 [(0, .int p1), (1, .int p2), (2, .int p3)] := hl
  refine lv_iload_n hx hb dX9_placeOfLeaver_0 rfl (lv_at hl 0 rfl) ?_
  refine lv_iconst (v := 1) hx hb dX9_placeOfLeaver_1 (by decide) ?_
  refine lv_icmp_ge (tgt := 8) hx hb dX9_placeOfLeaver_2 (by decide) (fun c1 => ?_) (fun c1 => ?_)
  · replace hok := Eq.mp (if_pos c1) hok
    refine lv_iload_n hx hb dX9_placeOfLeaver_8 rfl (lv_at hl 2 rfl) ?_
    refine lv_iconst (v := 1) hx hb dX9_placeOfLeaver_9 (by decide) ?_
    refine lv_isub hx hb dX9_placeOfLeaver_10 ?_
    refine lv_iload_n hx hb dX9_placeOfLeaver_11 rfl (lv_at hl 0 rfl) ?_
    obtain ⟨h2, hok⟩ := hok
    refine lv_irem hx hb dX9_placeOfLeaver_12 h2 ?_
    refine lv_istore_n (lv' := [(3, .int ((p3 - 1) - (p3 - 1) / p1 * p1)), (0, .int p1), (1, .int p2), (2, .int p3)]) hx hb dX9_placeOfLeaver_13 rfl hl (by decide) rfl (fun ls hl => ?_)
    refine lv_iload_n hx hb dX9_placeOfLeaver_14 rfl (lv_at hl 1 rfl) ?_
    refine lv_iconst (v := 1) hx hb dX9_placeOfLeaver_15 (by decide) ?_
    refine lv_iadd hx hb dX9_placeOfLeaver_16 ?_
    refine lv_istore (lv' := [(4, .int (p1 + 1)), (3, .int ((p3 - 1) - (p3 - 1) / p1 * p1)), (0, .int p1), (1, .int p2), (2, .int p3)]) hx hb dX9_placeOfLeaver_17 hl (by decide) rfl (fun ls hl => ?_)
    obtain ⟨h6, hok⟩ := hok
    obtain ⟨h7, hok⟩ := hok
    obtain ⟨h8, hok⟩ := hok
    obtain ⟨h9, hok⟩ := hok
    have hl2 : lv_has ls 5 [(1, .int p2), (2, .int p3), (3, .int ((p3 - 1) - (p3 - 1) / p1 * p1)), (4, .int (nI (p1 + 1).toNatClampNeg))] := by
      rw [← nI_self h6]
      exact (lv_sub hl [3, 4, 1, 0] rfl)
    refine l_X9_placeOfLeaver_19  p2 p3 C p2.toNatClampNeg (nI_self h7) h8 ((p2.toNatClampNeg + 1) - (p1 + 1).toNatClampNeg) (p1 + 1).toNatClampNeg ((p3 - 1) - (p3 - 1) / p1 * p1) rfl (by exact clamp_lt _) h9 _ _ hw _ hl2 (fun H locs ls hw hl => ?_)
    obtain ⟨z10, h11⟩ : ∃ z, (it (B_X9_placeOfLeaver_19 p3) (p1 + 1).toNatClampNeg ((p2.toNatClampNeg + 1) - (p1 + 1).toNatClampNeg) ((p3 - 1) - (p3 - 1) / p1 * p1)) = z := ⟨_, rfl⟩
    replace hw := kW_cast (ws' := []) (by subst h11; rfl) hw
    replace hl : lv_has ls 5 [(3, .int z10)] := by subst h11; exact hl
    refine lv_iload_n hx hb dX9_placeOfLeaver_38 rfl (lv_at hl 0 rfl) ?_
    rw [show f_X9_placeOfLeaver p1 p2 p3 = z10 from by
        unfold f_X9_placeOfLeaver
        exact (if_pos c1).trans ((lt_c h11).trans (rfl))]
    exact k_iret C hr hw dX9_placeOfLeaver_39
  · refine lv_bipush (v := (-6)) hx hb dX9_placeOfLeaver_5 (by decide) ?_
    rw [show f_X9_placeOfLeaver p1 p2 p3 = (-6) from by
        unfold f_X9_placeOfLeaver
        exact (if_neg c1).trans (rfl)]
    exact k_iret C hr hw dX9_placeOfLeaver_7

def f_X9_ring (p1 : Int32) (p2 : Int32) (p3 : Int32) : Int32 := (if (f_X9_within p1 (1 : Int32) (999 : Int32)) = 0 then (-2) else (if (f_X9_within p2 (1 : Int32) (99 : Int32)) = 0 then (-2) else (if (f_X9_within p3 (0 : Int32) (p1 - 1)) = 0 then (-2) else (f_X9_placeOfLeaver (p1 - p3) p1 p2))))
def o_X9_ring (p1 : Int32) (p2 : Int32) (p3 : Int32) : Prop := (if (f_X9_within p1 (1 : Int32) (999 : Int32)) = 0 then True else (if (f_X9_within p2 (1 : Int32) (99 : Int32)) = 0 then True else (if (f_X9_within p3 (0 : Int32) (p1 - 1)) = 0 then True else ((o_X9_placeOfLeaver (p1 - p3) p1 p2) ∧ True))))
set_option maxHeartbeats 4000000 in
set_option maxRecDepth 100000 in
theorem T_X9_ring (l : Launch) (D : va_G) (cI cZ : ClassId) (a_t : Nat) (p1 : Int32) (p2 : Int32) (p3 : Int32) (hok : o_X9_ring p1 p2 p3) : CT l D cI cZ yX9_ring wsX9_ring ({ frames := 1, cells := 0, slots := 0, locals := 24 }) [.ref a_t, .int p1, .int p2, .int p3] [] (some (.int (f_X9_ring p1 p2 p3))) [] := by
  refine CT.intro RX9 (by decide) rfl (Nat.le_of_ble_eq_true rfl) rfl ?_
  intro p e s m below meth c C hr hw ls hl
  have hx := C.hx
  have hb := C.hb
  replace hl : lv_has ls 4 [(0, .ref a_t), (1, .int p1), (2, .int p2), (3, .int p3)] := hl
  refine lv_iload_n hx hb dX9_ring_0 rfl (lv_at hl 1 rfl) ?_
  refine lv_iconst (v := 1) hx hb dX9_ring_1 (by decide) ?_
  refine lv_sipush (v := 999) hx hb dX9_ring_2 (by decide) ?_
  refine k_callS (As := [.int p1, .int 1, .int 999]) (rest := []) (n := 3) C hw (T_X9_within l D cI cZ p1 (1 : Int32) (999 : Int32)) gX9_ring_X9_within rfl ⟨rfl, rfl⟩ (by decide +kernel) ⟨Nat.le_of_ble_eq_true rfl, Nat.le_of_ble_eq_true rfl⟩ [] rfl rfl [] rfl rfl rfl hl.1 rfl (Nat.le_of_ble_eq_true rfl) ⟨Nat.zero_le _, Nat.zero_le _⟩ dX9_ring_5 (fun H locs hw => ?_)
  refine W.eq (g2 := F0 m 8 ls [.int (f_X9_within p1 (1 : Int32) (999 : Int32))]) rfl ?_
  replace hw : kW D _ s H locs [] := hw
  refine lv_if_eq (tgt := 32) hx hb dX9_ring_8 (by decide) (fun c1 => ?_) (fun c1 => ?_)
  · refine lv_bipush (v := (-2)) hx hb dX9_ring_32 (by decide) ?_
    rw [show f_X9_ring p1 p2 p3 = (-2) from by
        unfold f_X9_ring
        exact (if_pos c1).trans (rfl)]
    exact k_iret C hr hw dX9_ring_34
  · replace hok := Eq.mp (if_neg c1) hok
    refine lv_iload_n hx hb dX9_ring_11 rfl (lv_at hl 2 rfl) ?_
    refine lv_iconst (v := 1) hx hb dX9_ring_12 (by decide) ?_
    refine lv_bipush (v := 99) hx hb dX9_ring_13 (by decide) ?_
    refine k_callS (As := [.int p2, .int 1, .int 99]) (rest := []) (n := 3) C hw (T_X9_within l D cI cZ p2 (1 : Int32) (99 : Int32)) gX9_ring_X9_within rfl ⟨rfl, rfl⟩ (by decide +kernel) ⟨Nat.le_of_ble_eq_true rfl, Nat.le_of_ble_eq_true rfl⟩ [] rfl rfl [] rfl rfl rfl hl.1 rfl (Nat.le_of_ble_eq_true rfl) ⟨Nat.zero_le _, Nat.zero_le _⟩ dX9_ring_15 (fun H locs hw => ?_)
    refine W.eq (g2 := F0 m 18 ls [.int (f_X9_within p2 (1 : Int32) (99 : Int32))]) rfl ?_
    replace hw : kW D _ s H locs [] := hw
    refine lv_if_eq (tgt := 32) hx hb dX9_ring_18 (by decide) (fun c2 => ?_) (fun c2 => ?_)
    · refine lv_bipush (v := (-2)) hx hb dX9_ring_32 (by decide) ?_
      rw [show f_X9_ring p1 p2 p3 = (-2) from by
          unfold f_X9_ring
          exact (if_neg c1).trans ((if_pos c2).trans (rfl))]
      exact k_iret C hr hw dX9_ring_34
    · replace hok := Eq.mp (if_neg c2) hok
      refine lv_iload_n hx hb dX9_ring_21 rfl (lv_at hl 3 rfl) ?_
      refine lv_iconst (v := 0) hx hb dX9_ring_22 (by decide) ?_
      refine lv_iload_n hx hb dX9_ring_23 rfl (lv_at hl 1 rfl) ?_
      refine lv_iconst (v := 1) hx hb dX9_ring_24 (by decide) ?_
      refine lv_isub hx hb dX9_ring_25 ?_
      refine k_callS (As := [.int p3, .int 0, .int (p1 - 1)]) (rest := []) (n := 3) C hw (T_X9_within l D cI cZ p3 (0 : Int32) (p1 - 1)) gX9_ring_X9_within rfl ⟨rfl, rfl⟩ (by decide +kernel) ⟨Nat.le_of_ble_eq_true rfl, Nat.le_of_ble_eq_true rfl⟩ [] rfl rfl [] rfl rfl rfl hl.1 rfl (Nat.le_of_ble_eq_true rfl) ⟨Nat.zero_le _, Nat.zero_le _⟩ dX9_ring_26 (fun H locs hw => ?_)
      refine W.eq (g2 := F0 m 29 ls [.int (f_X9_within p3 (0 : Int32) (p1 - 1))]) rfl ?_
      replace hw : kW D _ s H locs [] := hw
      refine lv_if_ne (tgt := 35) hx hb dX9_ring_29 (by decide) (fun c3 => ?_) (fun c3 => ?_)
      · replace hok := Eq.mp (if_neg c3) hok
        refine lv_iload_n hx hb dX9_ring_35 rfl (lv_at hl 1 rfl) ?_
        refine lv_iload_n hx hb dX9_ring_36 rfl (lv_at hl 3 rfl) ?_
        refine lv_isub hx hb dX9_ring_37 ?_
        refine lv_iload_n hx hb dX9_ring_38 rfl (lv_at hl 1 rfl) ?_
        refine lv_iload_n hx hb dX9_ring_39 rfl (lv_at hl 2 rfl) ?_
        obtain ⟨h4, hok⟩ := hok
        refine k_callS (As := [.int (p1 - p3), .int p1, .int p2]) (rest := []) (n := 3) C hw (T_X9_placeOfLeaver l D cI cZ (p1 - p3) p1 p2 h4) gX9_ring_X9_placeOfLeaver rfl ⟨rfl, rfl⟩ (by decide +kernel) ⟨Nat.le_of_ble_eq_true rfl, Nat.le_of_ble_eq_true rfl⟩ [] rfl rfl [] rfl rfl rfl hl.1 rfl (Nat.le_of_ble_eq_true rfl) ⟨Nat.zero_le _, Nat.zero_le _⟩ dX9_ring_40 (fun H locs hw => ?_)
        refine W.eq (g2 := F0 m 43 ls [.int (f_X9_placeOfLeaver (p1 - p3) p1 p2)]) rfl ?_
        replace hw : kW D _ s H locs [] := hw
        rw [show f_X9_ring p1 p2 p3 = (f_X9_placeOfLeaver (p1 - p3) p1 p2) from by
            unfold f_X9_ring
            exact (if_neg c1).trans ((if_neg c2).trans ((if_neg c3).trans (rfl)))]
        exact k_iret C hr hw dX9_ring_43
      · refine lv_bipush (v := (-2)) hx hb dX9_ring_32 (by decide) ?_
        rw [show f_X9_ring p1 p2 p3 = (-2) from by
            unfold f_X9_ring
            exact (if_neg c1).trans ((if_neg c2).trans ((if_pos c3).trans (rfl)))]
        exact k_iret C hr hw dX9_ring_34

theorem nX9_count_X7 : ∀ w ∈ wsX70, w ∈ wsX9_count := fun _ h => List.mem_cons_of_mem _ (List.mem_append_right _ h)
theorem nX9_count_X9 : ∀ w ∈ wsX90, w ∈ wsX9_count := fun _ h => List.mem_cons_of_mem _ (List.mem_append_left _ (List.mem_append_right _ h))
def f_X9_count (v_t_sights_size : Int32) (g_t_sights_sets : (Nat → Int32)) (g_t_sights_counts : (Nat → Int32)) (p1 : Int32) (p2 : Int32) : Int32 × Int32 × (Nat → Int32) × (Nat → Int32) := (if (f_X9_within p1 (0 : Int32) (255 : Int32)) = 0 then ((-2), v_t_sights_size, g_t_sights_sets, g_t_sights_counts) else (if (f_X9_within p2 (0 : Int32) (8 : Int32)) = 0 then ((-2), v_t_sights_size, g_t_sights_sets, g_t_sights_counts) else (if v_t_sights_size < 8 then (lt (f_X7_add v_t_sights_size g_t_sights_sets g_t_sights_counts p1 p2) (fun z5 => (z5.1, z5.1, z5.2.1, z5.2.2))) else ((-4), v_t_sights_size, g_t_sights_sets, g_t_sights_counts))))
def o_X9_count (v_t_sights_size : Int32) (p1 : Int32) (p2 : Int32) : Prop := (if (f_X9_within p1 (0 : Int32) (255 : Int32)) = 0 then True else (if (f_X9_within p2 (0 : Int32) (8 : Int32)) = 0 then True else (if v_t_sights_size < 8 then ((o_X7_add v_t_sights_size) ∧ True) else True)))
set_option maxHeartbeats 4000000 in
set_option maxRecDepth 100000 in
theorem T_X9_count (l : Launch) (D : va_G) (cI cZ : ClassId) (a_t a_t_parish a_t_kinship a_t_sights a_t_pad a_t_trial a_t_evening a_t_rows a_t_guess a_t_imageZero a_t_imageOne a_t_sights_sets a_t_sights_counts : Nat) (v_t_sights_size : Int32) (g_t_sights_sets : (Nat → Int32)) (g_t_sights_counts : (Nat → Int32)) (p1 : Int32) (p2 : Int32) (hok : o_X9_count v_t_sights_size p1 p2) : CT l D cI cZ yX9_count wsX9_count ({ frames := 1, cells := 0, slots := 0, locals := 22 }) [.ref a_t, .int p1, .int p2] [(a_t, .inr (9, [.ref a_t_parish, .ref a_t_kinship, .ref a_t_sights, .ref a_t_pad, .ref a_t_trial, .ref a_t_evening, .ref a_t_rows, .ref a_t_guess, .ref a_t_imageZero, .ref a_t_imageOne])), (a_t_sights, .inr (7, [.ref a_t_sights_sets, .ref a_t_sights_counts, .int v_t_sights_size])), (a_t_sights_sets, .inl (cI, 8, .inl g_t_sights_sets)), (a_t_sights_counts, .inl (cI, 8, .inl g_t_sights_counts))] (some (.int (f_X9_count v_t_sights_size g_t_sights_sets g_t_sights_counts p1 p2).1)) [(a_t, .inr (9, [.ref a_t_parish, .ref a_t_kinship, .ref a_t_sights, .ref a_t_pad, .ref a_t_trial, .ref a_t_evening, .ref a_t_rows, .ref a_t_guess, .ref a_t_imageZero, .ref a_t_imageOne])), (a_t_sights, .inr (7, [.ref a_t_sights_sets, .ref a_t_sights_counts, .int (f_X9_count v_t_sights_size g_t_sights_sets g_t_sights_counts p1 p2).2.1])), (a_t_sights_sets, .inl (cI, 8, .inl (f_X9_count v_t_sights_size g_t_sights_sets g_t_sights_counts p1 p2).2.2.1)), (a_t_sights_counts, .inl (cI, 8, .inl (f_X9_count v_t_sights_size g_t_sights_sets g_t_sights_counts p1 p2).2.2.2))] := by
  refine CT.intro RX9 (by decide) rfl (Nat.le_of_ble_eq_true rfl) rfl ?_
  intro p e s m below meth c C hr hw ls hl
  have hx := C.hx
  have hb := C.hb
  replace hl : lv_has ls 3 [(0, .ref a_t), (1, .int p1), (2, .int p2)] := hl
  refine lv_iload_n hx hb dX9_count_0 rfl (lv_at hl 1 rfl) ?_
  refine lv_iconst (v := 0) hx hb dX9_count_1 (by decide) ?_
  refine lv_sipush (v := 255) hx hb dX9_count_2 (by decide) ?_
  refine k_callS (As := [.int p1, .int 0, .int 255]) (rest := []) (n := 3) C hw (T_X9_within l D cI cZ p1 (0 : Int32) (255 : Int32)) gX9_count_X9_within rfl ⟨rfl, rfl⟩ (by decide +kernel) ⟨Nat.le_of_ble_eq_true rfl, Nat.le_of_ble_eq_true rfl⟩ [] rfl rfl [] rfl rfl rfl hl.1 rfl (Nat.le_of_ble_eq_true rfl) ⟨Nat.zero_le _, Nat.zero_le _⟩ dX9_count_5 (fun H locs hw => ?_)
  refine W.eq (g2 := F0 m 8 ls [.int (f_X9_within p1 (0 : Int32) (255 : Int32))]) rfl ?_
  replace hw : kW D _ s H locs [(a_t, .inr (9, [.ref a_t_parish, .ref a_t_kinship, .ref a_t_sights, .ref a_t_pad, .ref a_t_trial, .ref a_t_evening, .ref a_t_rows, .ref a_t_guess, .ref a_t_imageZero, .ref a_t_imageOne])), (a_t_sights, .inr (7, [.ref a_t_sights_sets, .ref a_t_sights_counts, .int v_t_sights_size])), (a_t_sights_sets, .inl (cI, 8, .inl g_t_sights_sets)), (a_t_sights_counts, .inl (cI, 8, .inl g_t_sights_counts))] := hw
  refine lv_if_eq (tgt := 21) hx hb dX9_count_8 (by decide) (fun c1 => ?_) (fun c1 => ?_)
  · refine lv_bipush (v := (-2)) hx hb dX9_count_21 (by decide) ?_
    rw [show f_X9_count v_t_sights_size g_t_sights_sets g_t_sights_counts p1 p2 = ((-2), v_t_sights_size, g_t_sights_sets, g_t_sights_counts) from by
        unfold f_X9_count
        exact (if_pos c1).trans (rfl)]
    exact k_iret C hr hw dX9_count_23
  · replace hok := Eq.mp (if_neg c1) hok
    refine lv_iload_n hx hb dX9_count_11 rfl (lv_at hl 2 rfl) ?_
    refine lv_iconst (v := 0) hx hb dX9_count_12 (by decide) ?_
    refine lv_bipush (v := 8) hx hb dX9_count_13 (by decide) ?_
    refine k_callS (As := [.int p2, .int 0, .int 8]) (rest := []) (n := 3) C hw (T_X9_within l D cI cZ p2 (0 : Int32) (8 : Int32)) gX9_count_X9_within rfl ⟨rfl, rfl⟩ (by decide +kernel) ⟨Nat.le_of_ble_eq_true rfl, Nat.le_of_ble_eq_true rfl⟩ [] rfl rfl [] rfl rfl rfl hl.1 rfl (Nat.le_of_ble_eq_true rfl) ⟨Nat.zero_le _, Nat.zero_le _⟩ dX9_count_15 (fun H locs hw => ?_)
    refine W.eq (g2 := F0 m 18 ls [.int (f_X9_within p2 (0 : Int32) (8 : Int32))]) rfl ?_
    replace hw : kW D _ s H locs [(a_t, .inr (9, [.ref a_t_parish, .ref a_t_kinship, .ref a_t_sights, .ref a_t_pad, .ref a_t_trial, .ref a_t_evening, .ref a_t_rows, .ref a_t_guess, .ref a_t_imageZero, .ref a_t_imageOne])), (a_t_sights, .inr (7, [.ref a_t_sights_sets, .ref a_t_sights_counts, .int v_t_sights_size])), (a_t_sights_sets, .inl (cI, 8, .inl g_t_sights_sets)), (a_t_sights_counts, .inl (cI, 8, .inl g_t_sights_counts))] := hw
    refine lv_if_ne (tgt := 24) hx hb dX9_count_18 (by decide) (fun c2 => ?_) (fun c2 => ?_)
    · replace hok := Eq.mp (if_neg c2) hok
      refine lv_aload_n hx hb dX9_count_24 rfl (lv_at hl 0 rfl) ?_
      refine k_get C hw (CC := RX9) (T := TX9) (N := 10) nX9_count_X9 0 rfl rfl 2 (by decide) (List.mem_of_getElem? (i := 1) rfl) rfl rfl dX9_count_25 ?_
      refine k_getN C hw (CC := RX7) (T := TX7) (N := 3) nX9_count_X7 1 rfl rfl 2 (by decide) 7 rfl rfl rfl dX9_count_28 ?_
      refine lv_bipush (v := 8) hx hb dX9_count_31 (by decide) ?_
      refine lv_icmp_lt (tgt := 39) hx hb dX9_count_33 (by decide) (fun c3 => ?_) (fun c3 => ?_)
      · replace hok := Eq.mp (if_pos c3) hok
        refine lv_aload_n hx hb dX9_count_39 rfl (lv_at hl 0 rfl) ?_
        refine k_get C hw (CC := RX9) (T := TX9) (N := 10) nX9_count_X9 0 rfl rfl 2 (by decide) (List.mem_of_getElem? (i := 1) rfl) rfl rfl dX9_count_40 ?_
        refine lv_iload_n hx hb dX9_count_43 rfl (lv_at hl 1 rfl) ?_
        refine lv_iload_n hx hb dX9_count_44 rfl (lv_at hl 2 rfl) ?_
        obtain ⟨h4, hok⟩ := hok
        refine k_callVN (As := [.int p1, .int p2]) (rest := []) (n := 2) (CC := RX7) (T := TX7) (N := 3) (host := RX9) C hw (T_X7_add l D cI cZ a_t_sights a_t_sights_sets a_t_sights_counts v_t_sights_size g_t_sights_sets g_t_sights_counts p1 p2 h4) gX9_count_X7_add_n206 rfl ⟨rfl, rfl⟩ 39 rfl (List.mem_of_getElem? (i := 7) rfl) (List.mem_of_getElem? (i := 6) rfl) (List.mem_of_getElem? (i := 8) rfl) (by decide +kernel) ⟨Nat.le_of_ble_eq_true rfl, Nat.le_of_ble_eq_true rfl⟩ 1 rfl rfl [1, 2, 3] rfl rfl [a_t_sights, a_t_sights_sets, a_t_sights_counts] rfl rfl rfl hl.1 rfl (Nat.le_of_ble_eq_true rfl) ⟨Nat.zero_le _, Nat.zero_le _⟩ dX9_count_45 (fun H locs hw => ?_)
        obtain ⟨z5, h6⟩ : ∃ z, (f_X7_add v_t_sights_size g_t_sights_sets g_t_sights_counts p1 p2) = z := ⟨_, rfl⟩
        refine W.eq (g2 := F0 m 48 ls []) (by subst h6; rfl) ?_
        replace hw := kW_cast (ws' := [(a_t, .inr (9, [.ref a_t_parish, .ref a_t_kinship, .ref a_t_sights, .ref a_t_pad, .ref a_t_trial, .ref a_t_evening, .ref a_t_rows, .ref a_t_guess, .ref a_t_imageZero, .ref a_t_imageOne])), (a_t_sights, .inr (7, [.ref a_t_sights_sets, .ref a_t_sights_counts, .int z5.1])), (a_t_sights_sets, .inl (cI, 8, .inl z5.2.1)), (a_t_sights_counts, .inl (cI, 8, .inl z5.2.2))]) (by subst h6; rfl) hw
        refine lv_aload_n hx hb dX9_count_48 rfl (lv_at hl 0 rfl) ?_
        refine k_get C hw (CC := RX9) (T := TX9) (N := 10) nX9_count_X9 0 rfl rfl 2 (by decide) (List.mem_of_getElem? (i := 1) rfl) rfl rfl dX9_count_49 ?_
        refine k_getN C hw (CC := RX7) (T := TX7) (N := 3) nX9_count_X7 1 rfl rfl 2 (by decide) 7 rfl rfl rfl dX9_count_52 ?_
        rw [show f_X9_count v_t_sights_size g_t_sights_sets g_t_sights_counts p1 p2 = (z5.1, z5.1, z5.2.1, z5.2.2) from by
            unfold f_X9_count
            exact (if_neg c1).trans ((if_neg c2).trans ((if_pos c3).trans ((lt_c h6).trans (rfl))))]
        exact k_iret C hr hw dX9_count_55
      · refine lv_bipush (v := (-4)) hx hb dX9_count_36 (by decide) ?_
        rw [show f_X9_count v_t_sights_size g_t_sights_sets g_t_sights_counts p1 p2 = ((-4), v_t_sights_size, g_t_sights_sets, g_t_sights_counts) from by
            unfold f_X9_count
            exact (if_neg c1).trans ((if_neg c2).trans ((if_neg c3).trans (rfl)))]
        exact k_iret C hr hw dX9_count_38
    · refine lv_bipush (v := (-2)) hx hb dX9_count_21 (by decide) ?_
      rw [show f_X9_count v_t_sights_size g_t_sights_sets g_t_sights_counts p1 p2 = ((-2), v_t_sights_size, g_t_sights_sets, g_t_sights_counts) from by
          unfold f_X9_count
          exact (if_neg c1).trans ((if_pos c2).trans (rfl))]
      exact k_iret C hr hw dX9_count_23

theorem nX9_forget_X7 : ∀ w ∈ wsX70, w ∈ wsX9_forget := fun _ h => List.mem_cons_of_mem _ (List.mem_append_right _ h)
theorem nX9_forget_X9 : ∀ w ∈ wsX90, w ∈ wsX9_forget := fun _ h => List.mem_cons_of_mem _ (List.mem_append_left _ (List.mem_append_right _ h))
def f_X9_forget (v_t_sights_size : Int32) : Int32 × Int32 := (v_t_sights_size, 0)
set_option maxHeartbeats 4000000 in
set_option maxRecDepth 100000 in
theorem T_X9_forget (l : Launch) (D : va_G) (cI cZ : ClassId) (a_t a_t_parish a_t_kinship a_t_sights a_t_pad a_t_trial a_t_evening a_t_rows a_t_guess a_t_imageZero a_t_imageOne a_t_sights_sets a_t_sights_counts : Nat) (v_t_sights_size : Int32) : CT l D cI cZ yX9_forget wsX9_forget ({ frames := 0, cells := 0, slots := 0, locals := 0 }) [.ref a_t] [(a_t, .inr (9, [.ref a_t_parish, .ref a_t_kinship, .ref a_t_sights, .ref a_t_pad, .ref a_t_trial, .ref a_t_evening, .ref a_t_rows, .ref a_t_guess, .ref a_t_imageZero, .ref a_t_imageOne])), (a_t_sights, .inr (7, [.ref a_t_sights_sets, .ref a_t_sights_counts, .int v_t_sights_size]))] (some (.int (f_X9_forget v_t_sights_size).1)) [(a_t, .inr (9, [.ref a_t_parish, .ref a_t_kinship, .ref a_t_sights, .ref a_t_pad, .ref a_t_trial, .ref a_t_evening, .ref a_t_rows, .ref a_t_guess, .ref a_t_imageZero, .ref a_t_imageOne])), (a_t_sights, .inr (7, [.ref a_t_sights_sets, .ref a_t_sights_counts, .int (f_X9_forget v_t_sights_size).2]))] := by
  refine CT.intro RX9 (by decide) rfl (Nat.le_of_ble_eq_true rfl) rfl ?_
  intro p e s m below meth c C hr hw ls hl
  have hx := C.hx
  have hb := C.hb
  replace hl : lv_has ls 2 [(0, .ref a_t)] := hl
  refine lv_aload_n hx hb dX9_forget_0 rfl (lv_at hl 0 rfl) ?_
  refine k_get C hw (CC := RX9) (T := TX9) (N := 10) nX9_forget_X9 0 rfl rfl 2 (by decide) (List.mem_of_getElem? (i := 1) rfl) rfl rfl dX9_forget_1 ?_
  refine k_getN C hw (CC := RX7) (T := TX7) (N := 3) nX9_forget_X7 1 rfl rfl 2 (by decide) 7 rfl rfl rfl dX9_forget_4 ?_
  refine lv_istore_n (lv' := [(1, .int v_t_sights_size), (0, .ref a_t)]) hx hb dX9_forget_7 rfl hl (by decide) rfl (fun ls hl => ?_)
  refine lv_aload_n hx hb dX9_forget_8 rfl (lv_at hl 1 rfl) ?_
  refine k_get C hw (CC := RX9) (T := TX9) (N := 10) nX9_forget_X9 0 rfl rfl 2 (by decide) (List.mem_of_getElem? (i := 1) rfl) rfl rfl dX9_forget_9 ?_
  refine lv_iconst (v := 0) hx hb dX9_forget_12 (by decide) ?_
  refine k_putN C hw (CC := RX7) (T := TX7) (N := 3) (v := .int 0) nX9_forget_X7 tyX7_ok nmX7 1 rfl rfl 2 (by decide) 7 rfl rfl rfl rfl rfl (Nat.le_of_ble_eq_true rfl) dX9_forget_13 (fun H locs hw => ?_)
  replace hw : kW D _ s H locs [(a_t, .inr (9, [.ref a_t_parish, .ref a_t_kinship, .ref a_t_sights, .ref a_t_pad, .ref a_t_trial, .ref a_t_evening, .ref a_t_rows, .ref a_t_guess, .ref a_t_imageZero, .ref a_t_imageOne])), (a_t_sights, .inr (7, [.ref a_t_sights_sets, .ref a_t_sights_counts, .int 0]))] := hw
  refine lv_iload_n hx hb dX9_forget_16 rfl (lv_at hl 0 rfl) ?_
  rw [show f_X9_forget v_t_sights_size = (v_t_sights_size, 0) from by
      unfold f_X9_forget
      exact rfl]
  exact k_iret C hr hw dX9_forget_17

theorem nX9_ever_X1 : ∀ w ∈ wsX10, w ∈ wsX9_ever := fun _ h => List.mem_cons_of_mem _ (List.mem_append_left _ (List.mem_append_right _ h))
theorem nX9_ever_X9 : ∀ w ∈ wsX90, w ∈ wsX9_ever := fun _ h => List.mem_cons_of_mem _ (List.mem_append_left _ (List.mem_append_left _ (List.mem_append_right _ h)))
def f_X9_ever (v_t_sights_size : Int32) (g_t_sights_sets : (Nat → Int32)) (g_t_sights_counts : (Nat → Int32)) (g_t_guess_fitting : (Nat → Int32)) (p1 : Int32) : Int32 × Int32 × (Nat → Int32) := (lt (f_X1_findFitting v_t_sights_size g_t_sights_sets g_t_sights_counts g_t_guess_fitting) (fun z2 => (if p1 = (-1) then (z2.1, z2.1, z2.2) else (if (f_X9_within p1 (0 : Int32) (z2.1 - 1)) = 0 then ((-6), z2.1, z2.2) else ((z2.2 p1.toNatClampNeg), z2.1, z2.2)))))
def o_X9_ever (v_t_sights_size : Int32) (g_t_sights_sets : (Nat → Int32)) (g_t_sights_counts : (Nat → Int32)) (g_t_guess_fitting : (Nat → Int32)) (p1 : Int32) : Prop := ((o_X1_findFitting v_t_sights_size g_t_sights_sets g_t_sights_counts g_t_guess_fitting) ∧ (lt (f_X1_findFitting v_t_sights_size g_t_sights_sets g_t_sights_counts g_t_guess_fitting) (fun z2 => (if p1 = (-1) then True else (if (f_X9_within p1 (0 : Int32) (z2.1 - 1)) = 0 then True else ((vp_in p1 256) ∧ True))))))
set_option maxHeartbeats 4000000 in
set_option maxRecDepth 100000 in
theorem T_X9_ever (l : Launch) (D : va_G) (cI cZ : ClassId) (a_t a_t_parish a_t_kinship a_t_sights a_t_pad a_t_trial a_t_evening a_t_rows a_t_guess a_t_imageZero a_t_imageOne a_t_guess_fitting a_t_guess_leftBy a_t_sights_sets a_t_sights_counts : Nat) (v_t_guess_size : Int32) (v_t_guess_question : Int32) (v_t_guess_left : Int32) (v_t_sights_size : Int32) (g_t_sights_sets : (Nat → Int32)) (g_t_sights_counts : (Nat → Int32)) (g_t_guess_fitting : (Nat → Int32)) (p1 : Int32) (hok : o_X9_ever v_t_sights_size g_t_sights_sets g_t_sights_counts g_t_guess_fitting p1) : CT l D cI cZ yX9_ever wsX9_ever ({ frames := 3, cells := 0, slots := 0, locals := 64 }) [.ref a_t, .int p1] [(a_t, .inr (9, [.ref a_t_parish, .ref a_t_kinship, .ref a_t_sights, .ref a_t_pad, .ref a_t_trial, .ref a_t_evening, .ref a_t_rows, .ref a_t_guess, .ref a_t_imageZero, .ref a_t_imageOne])), (a_t_guess, .inr (1, [.ref a_t_guess_fitting, .ref a_t_guess_leftBy, .int v_t_guess_size, .int v_t_guess_question, .int v_t_guess_left])), (a_t_sights, .inr (7, [.ref a_t_sights_sets, .ref a_t_sights_counts, .int v_t_sights_size])), (a_t_sights_sets, .inl (cI, 8, .inl g_t_sights_sets)), (a_t_sights_counts, .inl (cI, 8, .inl g_t_sights_counts)), (a_t_guess_fitting, .inl (cI, 256, .inl g_t_guess_fitting))] (some (.int (f_X9_ever v_t_sights_size g_t_sights_sets g_t_sights_counts g_t_guess_fitting p1).1)) [(a_t, .inr (9, [.ref a_t_parish, .ref a_t_kinship, .ref a_t_sights, .ref a_t_pad, .ref a_t_trial, .ref a_t_evening, .ref a_t_rows, .ref a_t_guess, .ref a_t_imageZero, .ref a_t_imageOne])), (a_t_guess, .inr (1, [.ref a_t_guess_fitting, .ref a_t_guess_leftBy, .int (f_X9_ever v_t_sights_size g_t_sights_sets g_t_sights_counts g_t_guess_fitting p1).2.1, .int v_t_guess_question, .int v_t_guess_left])), (a_t_sights, .inr (7, [.ref a_t_sights_sets, .ref a_t_sights_counts, .int v_t_sights_size])), (a_t_sights_sets, .inl (cI, 8, .inl g_t_sights_sets)), (a_t_sights_counts, .inl (cI, 8, .inl g_t_sights_counts)), (a_t_guess_fitting, .inl (cI, 256, .inl (f_X9_ever v_t_sights_size g_t_sights_sets g_t_sights_counts g_t_guess_fitting p1).2.2))] := by
  refine CT.intro RX9 (by decide) rfl (Nat.le_of_ble_eq_true rfl) rfl ?_
  intro p e s m below meth c C hr hw ls hl
  have hx := C.hx
  have hb := C.hb
  replace hl : lv_has ls 2 [(0, .ref a_t), (1, .int p1)] := hl
  refine lv_aload_n hx hb dX9_ever_0 rfl (lv_at hl 0 rfl) ?_
  refine k_get C hw (CC := RX9) (T := TX9) (N := 10) nX9_ever_X9 0 rfl rfl 7 (by decide) (List.mem_of_getElem? (i := 1) rfl) rfl rfl dX9_ever_1 ?_
  refine lv_aload_n hx hb dX9_ever_4 rfl (lv_at hl 0 rfl) ?_
  refine k_get C hw (CC := RX9) (T := TX9) (N := 10) nX9_ever_X9 0 rfl rfl 2 (by decide) (List.mem_of_getElem? (i := 2) rfl) rfl rfl dX9_ever_5 ?_
  obtain ⟨h1, hok⟩ := hok
  refine k_callVN (As := [.ref a_t_sights]) (rest := []) (n := 1) (CC := RX1) (T := TX1) (N := 5) (host := RX9) C hw (T_X1_findFitting l D cI cZ a_t_guess a_t_guess_fitting a_t_guess_leftBy a_t_sights a_t_sights_sets a_t_sights_counts v_t_guess_size v_t_guess_question v_t_guess_left v_t_sights_size g_t_sights_sets g_t_sights_counts g_t_guess_fitting h1) gX9_ever_X1_findFitting_n210 rfl ⟨rfl, rfl⟩ 40 rfl (List.mem_of_getElem? (i := 4) rfl) (List.mem_of_getElem? (i := 3) rfl) (List.mem_of_getElem? (i := 5) rfl) (by decide +kernel) ⟨Nat.le_of_ble_eq_true rfl, Nat.le_of_ble_eq_true rfl⟩ 1 rfl rfl [1, 2, 3, 4, 5] rfl rfl [a_t_guess, a_t_sights, a_t_sights_sets, a_t_sights_counts, a_t_guess_fitting] rfl rfl rfl hl.1 rfl (Nat.le_of_ble_eq_true rfl) ⟨Nat.zero_le _, Nat.zero_le _⟩ dX9_ever_8 (fun H locs hw => ?_)
  obtain ⟨z2, h3⟩ : ∃ z, (f_X1_findFitting v_t_sights_size g_t_sights_sets g_t_sights_counts g_t_guess_fitting) = z := ⟨_, rfl⟩
  refine W.eq (g2 := F0 m 11 ls []) (by subst h3; rfl) ?_
  replace hw := kW_cast (ws' := [(a_t, .inr (9, [.ref a_t_parish, .ref a_t_kinship, .ref a_t_sights, .ref a_t_pad, .ref a_t_trial, .ref a_t_evening, .ref a_t_rows, .ref a_t_guess, .ref a_t_imageZero, .ref a_t_imageOne])), (a_t_guess, .inr (1, [.ref a_t_guess_fitting, .ref a_t_guess_leftBy, .int z2.1, .int v_t_guess_question, .int v_t_guess_left])), (a_t_sights, .inr (7, [.ref a_t_sights_sets, .ref a_t_sights_counts, .int v_t_sights_size])), (a_t_sights_sets, .inl (cI, 8, .inl g_t_sights_sets)), (a_t_sights_counts, .inl (cI, 8, .inl g_t_sights_counts)), (a_t_guess_fitting, .inl (cI, 256, .inl z2.2))]) (by subst h3; rfl) hw
  replace hok := Eq.mp (lt_c h3) hok
  refine lv_iload_n hx hb dX9_ever_11 rfl (lv_at hl 1 rfl) ?_
  refine lv_iconst (v := (-1)) hx hb dX9_ever_12 (by decide) ?_
  refine lv_icmp_ne (tgt := 24) hx hb dX9_ever_13 (by decide) (fun c4 => ?_) (fun c4 => ?_)
  · replace hok := Eq.mp (if_neg c4) hok
    refine lv_iload_n hx hb dX9_ever_24 rfl (lv_at hl 1 rfl) ?_
    refine lv_iconst (v := 0) hx hb dX9_ever_25 (by decide) ?_
    refine lv_aload_n hx hb dX9_ever_26 rfl (lv_at hl 0 rfl) ?_
    refine k_get C hw (CC := RX9) (T := TX9) (N := 10) nX9_ever_X9 0 rfl rfl 7 (by decide) (List.mem_of_getElem? (i := 1) rfl) rfl rfl dX9_ever_27 ?_
    refine k_getN C hw (CC := RX1) (T := TX1) (N := 5) nX9_ever_X1 1 rfl rfl 2 (by decide) 22 rfl rfl rfl dX9_ever_30 ?_
    refine lv_iconst (v := 1) hx hb dX9_ever_33 (by decide) ?_
    refine lv_isub hx hb dX9_ever_34 ?_
    refine k_callS (As := [.int p1, .int 0, .int (z2.1 - 1)]) (rest := []) (n := 3) C hw (T_X9_within l D cI cZ p1 (0 : Int32) (z2.1 - 1)) gX9_ever_X9_within rfl ⟨rfl, rfl⟩ (by decide +kernel) ⟨Nat.le_of_ble_eq_true rfl, Nat.le_of_ble_eq_true rfl⟩ [] rfl rfl [] rfl rfl rfl hl.1 rfl (Nat.le_of_ble_eq_true rfl) ⟨Nat.zero_le _, Nat.zero_le _⟩ dX9_ever_35 (fun H locs hw => ?_)
    refine W.eq (g2 := F0 m 38 ls [.int (f_X9_within p1 (0 : Int32) (z2.1 - 1))]) rfl ?_
    replace hw : kW D _ s H locs [(a_t, .inr (9, [.ref a_t_parish, .ref a_t_kinship, .ref a_t_sights, .ref a_t_pad, .ref a_t_trial, .ref a_t_evening, .ref a_t_rows, .ref a_t_guess, .ref a_t_imageZero, .ref a_t_imageOne])), (a_t_guess, .inr (1, [.ref a_t_guess_fitting, .ref a_t_guess_leftBy, .int z2.1, .int v_t_guess_question, .int v_t_guess_left])), (a_t_sights, .inr (7, [.ref a_t_sights_sets, .ref a_t_sights_counts, .int v_t_sights_size])), (a_t_sights_sets, .inl (cI, 8, .inl g_t_sights_sets)), (a_t_sights_counts, .inl (cI, 8, .inl g_t_sights_counts)), (a_t_guess_fitting, .inl (cI, 256, .inl z2.2))] := hw
    refine lv_if_eq (tgt := 53) hx hb dX9_ever_38 (by decide) (fun c5 => ?_) (fun c5 => ?_)
    · refine lv_bipush (v := (-6)) hx hb dX9_ever_53 (by decide) ?_
      rw [show f_X9_ever v_t_sights_size g_t_sights_sets g_t_sights_counts g_t_guess_fitting p1 = ((-6), z2.1, z2.2) from by
          unfold f_X9_ever
          exact (lt_c h3).trans ((if_neg c4).trans ((if_pos c5).trans (rfl)))]
      exact k_iret C hr hw dX9_ever_55
    · replace hok := Eq.mp (if_neg c5) hok
      refine lv_aload_n hx hb dX9_ever_41 rfl (lv_at hl 0 rfl) ?_
      refine k_get C hw (CC := RX9) (T := TX9) (N := 10) nX9_ever_X9 0 rfl rfl 7 (by decide) (List.mem_of_getElem? (i := 1) rfl) rfl rfl dX9_ever_42 ?_
      refine k_getN C hw (CC := RX1) (T := TX1) (N := 5) nX9_ever_X1 1 rfl rfl 0 (by decide) 21 rfl rfl rfl dX9_ever_45 ?_
      refine lv_iload_n hx hb dX9_ever_48 rfl (lv_at hl 1 rfl) ?_
      obtain ⟨h6, hok⟩ := hok
      refine k_iald C hw 5 rfl h6 dX9_ever_49 ?_
      refine lv_goto (tgt := 55) hx hb dX9_ever_50 (by decide) ?_
      rw [show f_X9_ever v_t_sights_size g_t_sights_sets g_t_sights_counts g_t_guess_fitting p1 = ((z2.2 p1.toNatClampNeg), z2.1, z2.2) from by
          unfold f_X9_ever
          exact (lt_c h3).trans ((if_neg c4).trans ((if_neg c5).trans (rfl)))]
      exact k_iret C hr hw dX9_ever_55
  · refine lv_aload_n hx hb dX9_ever_16 rfl (lv_at hl 0 rfl) ?_
    refine k_get C hw (CC := RX9) (T := TX9) (N := 10) nX9_ever_X9 0 rfl rfl 7 (by decide) (List.mem_of_getElem? (i := 1) rfl) rfl rfl dX9_ever_17 ?_
    refine k_getN C hw (CC := RX1) (T := TX1) (N := 5) nX9_ever_X1 1 rfl rfl 2 (by decide) 22 rfl rfl rfl dX9_ever_20 ?_
    rw [show f_X9_ever v_t_sights_size g_t_sights_sets g_t_sights_counts g_t_guess_fitting p1 = (z2.1, z2.1, z2.2) from by
        unfold f_X9_ever
        exact (lt_c h3).trans ((if_pos c4).trans (rfl))]
    exact k_iret C hr hw dX9_ever_23

theorem nX9_ask_X1 : ∀ w ∈ wsX10, w ∈ wsX9_ask := fun _ h => List.mem_cons_of_mem _ (List.mem_append_left _ (List.mem_append_right _ h))
theorem nX9_ask_X9 : ∀ w ∈ wsX90, w ∈ wsX9_ask := fun _ h => List.mem_cons_of_mem _ (List.mem_append_left _ (List.mem_append_left _ (List.mem_append_right _ h)))
def f_X9_ask (v_t_guess_size : Int32) (v_t_guess_question : Int32) (v_t_guess_left : Int32) (v_t_sights_size : Int32) (g_t_sights_sets : (Nat → Int32)) (g_t_sights_counts : (Nat → Int32)) (g_t_guess_fitting : (Nat → Int32)) (g_t_guess_leftBy : (Nat → Int32)) (p1 : Int32) : Int32 × Int32 × Int32 × Int32 × (Nat → Int32) × (Nat → Int32) := (if (f_X9_within p1 (0 : Int32) (1 : Int32)) = 0 then ((-2), v_t_guess_size, v_t_guess_question, v_t_guess_left, g_t_guess_fitting, g_t_guess_leftBy) else (lt (f_X1_findFitting v_t_sights_size g_t_sights_sets g_t_sights_counts g_t_guess_fitting) (fun z3 => (lt (f_X1_findQuestion z3.1 z3.2 g_t_guess_leftBy) (fun z6 => (if p1 = 0 then (z6.1, z3.1, z6.1, z6.2.1, z3.2, z6.2.2) else (z6.2.1, z3.1, z6.1, z6.2.1, z3.2, z6.2.2)))))))
def o_X9_ask (v_t_sights_size : Int32) (g_t_sights_sets : (Nat → Int32)) (g_t_sights_counts : (Nat → Int32)) (g_t_guess_fitting : (Nat → Int32)) (g_t_guess_leftBy : (Nat → Int32)) (p1 : Int32) : Prop := (if (f_X9_within p1 (0 : Int32) (1 : Int32)) = 0 then True else ((o_X1_findFitting v_t_sights_size g_t_sights_sets g_t_sights_counts g_t_guess_fitting) ∧ (lt (f_X1_findFitting v_t_sights_size g_t_sights_sets g_t_sights_counts g_t_guess_fitting) (fun z3 => ((o_X1_findQuestion z3.1 z3.2 g_t_guess_leftBy) ∧ True)))))
set_option maxHeartbeats 4000000 in
set_option maxRecDepth 100000 in
theorem T_X9_ask (l : Launch) (D : va_G) (cI cZ : ClassId) (a_t a_t_parish a_t_kinship a_t_sights a_t_pad a_t_trial a_t_evening a_t_rows a_t_guess a_t_imageZero a_t_imageOne a_t_guess_fitting a_t_guess_leftBy a_t_sights_sets a_t_sights_counts : Nat) (v_t_guess_size : Int32) (v_t_guess_question : Int32) (v_t_guess_left : Int32) (v_t_sights_size : Int32) (g_t_sights_sets : (Nat → Int32)) (g_t_sights_counts : (Nat → Int32)) (g_t_guess_fitting : (Nat → Int32)) (g_t_guess_leftBy : (Nat → Int32)) (p1 : Int32) (hok : o_X9_ask v_t_sights_size g_t_sights_sets g_t_sights_counts g_t_guess_fitting g_t_guess_leftBy p1) : CT l D cI cZ yX9_ask wsX9_ask ({ frames := 3, cells := 0, slots := 0, locals := 69 }) [.ref a_t, .int p1] [(a_t, .inr (9, [.ref a_t_parish, .ref a_t_kinship, .ref a_t_sights, .ref a_t_pad, .ref a_t_trial, .ref a_t_evening, .ref a_t_rows, .ref a_t_guess, .ref a_t_imageZero, .ref a_t_imageOne])), (a_t_guess, .inr (1, [.ref a_t_guess_fitting, .ref a_t_guess_leftBy, .int v_t_guess_size, .int v_t_guess_question, .int v_t_guess_left])), (a_t_sights, .inr (7, [.ref a_t_sights_sets, .ref a_t_sights_counts, .int v_t_sights_size])), (a_t_sights_sets, .inl (cI, 8, .inl g_t_sights_sets)), (a_t_sights_counts, .inl (cI, 8, .inl g_t_sights_counts)), (a_t_guess_fitting, .inl (cI, 256, .inl g_t_guess_fitting)), (a_t_guess_leftBy, .inl (cI, 9, .inl g_t_guess_leftBy))] (some (.int (f_X9_ask v_t_guess_size v_t_guess_question v_t_guess_left v_t_sights_size g_t_sights_sets g_t_sights_counts g_t_guess_fitting g_t_guess_leftBy p1).1)) [(a_t, .inr (9, [.ref a_t_parish, .ref a_t_kinship, .ref a_t_sights, .ref a_t_pad, .ref a_t_trial, .ref a_t_evening, .ref a_t_rows, .ref a_t_guess, .ref a_t_imageZero, .ref a_t_imageOne])), (a_t_guess, .inr (1, [.ref a_t_guess_fitting, .ref a_t_guess_leftBy, .int (f_X9_ask v_t_guess_size v_t_guess_question v_t_guess_left v_t_sights_size g_t_sights_sets g_t_sights_counts g_t_guess_fitting g_t_guess_leftBy p1).2.1, .int (f_X9_ask v_t_guess_size v_t_guess_question v_t_guess_left v_t_sights_size g_t_sights_sets g_t_sights_counts g_t_guess_fitting g_t_guess_leftBy p1).2.2.1, .int (f_X9_ask v_t_guess_size v_t_guess_question v_t_guess_left v_t_sights_size g_t_sights_sets g_t_sights_counts g_t_guess_fitting g_t_guess_leftBy p1).2.2.2.1])), (a_t_sights, .inr (7, [.ref a_t_sights_sets, .ref a_t_sights_counts, .int v_t_sights_size])), (a_t_sights_sets, .inl (cI, 8, .inl g_t_sights_sets)), (a_t_sights_counts, .inl (cI, 8, .inl g_t_sights_counts)), (a_t_guess_fitting, .inl (cI, 256, .inl (f_X9_ask v_t_guess_size v_t_guess_question v_t_guess_left v_t_sights_size g_t_sights_sets g_t_sights_counts g_t_guess_fitting g_t_guess_leftBy p1).2.2.2.2.1)), (a_t_guess_leftBy, .inl (cI, 9, .inl (f_X9_ask v_t_guess_size v_t_guess_question v_t_guess_left v_t_sights_size g_t_sights_sets g_t_sights_counts g_t_guess_fitting g_t_guess_leftBy p1).2.2.2.2.2))] := by
  refine CT.intro RX9 (by decide) rfl (Nat.le_of_ble_eq_true rfl) rfl ?_
  intro p e s m below meth c C hr hw ls hl
  have hx := C.hx
  have hb := C.hb
  replace hl : lv_has ls 2 [(0, .ref a_t), (1, .int p1)] := hl
  refine lv_iload_n hx hb dX9_ask_0 rfl (lv_at hl 1 rfl) ?_
  refine lv_iconst (v := 0) hx hb dX9_ask_1 (by decide) ?_
  refine lv_iconst (v := 1) hx hb dX9_ask_2 (by decide) ?_
  refine k_callS (As := [.int p1, .int 0, .int 1]) (rest := []) (n := 3) C hw (T_X9_within l D cI cZ p1 (0 : Int32) (1 : Int32)) gX9_ask_X9_within rfl ⟨rfl, rfl⟩ (by decide +kernel) ⟨Nat.le_of_ble_eq_true rfl, Nat.le_of_ble_eq_true rfl⟩ [] rfl rfl [] rfl rfl rfl hl.1 rfl (Nat.le_of_ble_eq_true rfl) ⟨Nat.zero_le _, Nat.zero_le _⟩ dX9_ask_3 (fun H locs hw => ?_)
  refine W.eq (g2 := F0 m 6 ls [.int (f_X9_within p1 (0 : Int32) (1 : Int32))]) rfl ?_
  replace hw : kW D _ s H locs [(a_t, .inr (9, [.ref a_t_parish, .ref a_t_kinship, .ref a_t_sights, .ref a_t_pad, .ref a_t_trial, .ref a_t_evening, .ref a_t_rows, .ref a_t_guess, .ref a_t_imageZero, .ref a_t_imageOne])), (a_t_guess, .inr (1, [.ref a_t_guess_fitting, .ref a_t_guess_leftBy, .int v_t_guess_size, .int v_t_guess_question, .int v_t_guess_left])), (a_t_sights, .inr (7, [.ref a_t_sights_sets, .ref a_t_sights_counts, .int v_t_sights_size])), (a_t_sights_sets, .inl (cI, 8, .inl g_t_sights_sets)), (a_t_sights_counts, .inl (cI, 8, .inl g_t_sights_counts)), (a_t_guess_fitting, .inl (cI, 256, .inl g_t_guess_fitting)), (a_t_guess_leftBy, .inl (cI, 9, .inl g_t_guess_leftBy))] := hw
  refine lv_if_ne (tgt := 12) hx hb dX9_ask_6 (by decide) (fun c1 => ?_) (fun c1 => ?_)
  · replace hok := Eq.mp (if_neg c1) hok
    refine lv_aload_n hx hb dX9_ask_12 rfl (lv_at hl 0 rfl) ?_
    refine k_get C hw (CC := RX9) (T := TX9) (N := 10) nX9_ask_X9 0 rfl rfl 7 (by decide) (List.mem_of_getElem? (i := 1) rfl) rfl rfl dX9_ask_13 ?_
    refine lv_aload_n hx hb dX9_ask_16 rfl (lv_at hl 0 rfl) ?_
    refine k_get C hw (CC := RX9) (T := TX9) (N := 10) nX9_ask_X9 0 rfl rfl 2 (by decide) (List.mem_of_getElem? (i := 2) rfl) rfl rfl dX9_ask_17 ?_
    obtain ⟨h2, hok⟩ := hok
    refine k_callVN (As := [.ref a_t_sights]) (rest := []) (n := 1) (CC := RX1) (T := TX1) (N := 5) (host := RX9) C hw (T_X1_findFitting l D cI cZ a_t_guess a_t_guess_fitting a_t_guess_leftBy a_t_sights a_t_sights_sets a_t_sights_counts v_t_guess_size v_t_guess_question v_t_guess_left v_t_sights_size g_t_sights_sets g_t_sights_counts g_t_guess_fitting h2) gX9_ask_X1_findFitting_n210 rfl ⟨rfl, rfl⟩ 40 rfl (List.mem_of_getElem? (i := 8) rfl) (List.mem_of_getElem? (i := 7) rfl) (List.mem_of_getElem? (i := 9) rfl) (by decide +kernel) ⟨Nat.le_of_ble_eq_true rfl, Nat.le_of_ble_eq_true rfl⟩ 1 rfl rfl [1, 2, 3, 4, 5] rfl rfl [a_t_guess, a_t_sights, a_t_sights_sets, a_t_sights_counts, a_t_guess_fitting] rfl rfl rfl hl.1 rfl (Nat.le_of_ble_eq_true rfl) ⟨Nat.zero_le _, Nat.zero_le _⟩ dX9_ask_20 (fun H locs hw => ?_)
    obtain ⟨z3, h4⟩ : ∃ z, (f_X1_findFitting v_t_sights_size g_t_sights_sets g_t_sights_counts g_t_guess_fitting) = z := ⟨_, rfl⟩
    refine W.eq (g2 := F0 m 23 ls []) (by subst h4; rfl) ?_
    replace hw := kW_cast (ws' := [(a_t, .inr (9, [.ref a_t_parish, .ref a_t_kinship, .ref a_t_sights, .ref a_t_pad, .ref a_t_trial, .ref a_t_evening, .ref a_t_rows, .ref a_t_guess, .ref a_t_imageZero, .ref a_t_imageOne])), (a_t_guess, .inr (1, [.ref a_t_guess_fitting, .ref a_t_guess_leftBy, .int z3.1, .int v_t_guess_question, .int v_t_guess_left])), (a_t_sights, .inr (7, [.ref a_t_sights_sets, .ref a_t_sights_counts, .int v_t_sights_size])), (a_t_sights_sets, .inl (cI, 8, .inl g_t_sights_sets)), (a_t_sights_counts, .inl (cI, 8, .inl g_t_sights_counts)), (a_t_guess_fitting, .inl (cI, 256, .inl z3.2)), (a_t_guess_leftBy, .inl (cI, 9, .inl g_t_guess_leftBy))]) (by subst h4; rfl) hw
    replace hok := Eq.mp (lt_c h4) hok
    refine lv_aload_n hx hb dX9_ask_23 rfl (lv_at hl 0 rfl) ?_
    refine k_get C hw (CC := RX9) (T := TX9) (N := 10) nX9_ask_X9 0 rfl rfl 7 (by decide) (List.mem_of_getElem? (i := 1) rfl) rfl rfl dX9_ask_24 ?_
    obtain ⟨h5, hok⟩ := hok
    refine k_callVN (As := []) (rest := []) (n := 0) (CC := RX1) (T := TX1) (N := 5) (host := RX9) C hw (T_X1_findQuestion l D cI cZ a_t_guess a_t_guess_fitting a_t_guess_leftBy z3.1 v_t_guess_question v_t_guess_left z3.2 g_t_guess_leftBy h5) gX9_ask_X1_findQuestion_n218 rfl ⟨rfl, rfl⟩ 42 rfl (List.mem_of_getElem? (i := 8) rfl) (List.mem_of_getElem? (i := 27) rfl) (List.mem_of_getElem? (i := 28) rfl) (by decide +kernel) ⟨Nat.le_of_ble_eq_true rfl, Nat.le_of_ble_eq_true rfl⟩ 1 rfl rfl [1, 5, 6] rfl rfl [a_t_guess, a_t_guess_fitting, a_t_guess_leftBy] rfl rfl rfl hl.1 rfl (Nat.le_of_ble_eq_true rfl) ⟨Nat.zero_le _, Nat.zero_le _⟩ dX9_ask_27 (fun H locs hw => ?_)
    obtain ⟨z6, h7⟩ : ∃ z, (f_X1_findQuestion z3.1 z3.2 g_t_guess_leftBy) = z := ⟨_, rfl⟩
    refine W.eq (g2 := F0 m 30 ls []) (by subst h7; rfl) ?_
    replace hw := kW_cast (ws' := [(a_t, .inr (9, [.ref a_t_parish, .ref a_t_kinship, .ref a_t_sights, .ref a_t_pad, .ref a_t_trial, .ref a_t_evening, .ref a_t_rows, .ref a_t_guess, .ref a_t_imageZero, .ref a_t_imageOne])), (a_t_guess, .inr (1, [.ref a_t_guess_fitting, .ref a_t_guess_leftBy, .int z3.1, .int z6.1, .int z6.2.1])), (a_t_sights, .inr (7, [.ref a_t_sights_sets, .ref a_t_sights_counts, .int v_t_sights_size])), (a_t_sights_sets, .inl (cI, 8, .inl g_t_sights_sets)), (a_t_sights_counts, .inl (cI, 8, .inl g_t_sights_counts)), (a_t_guess_fitting, .inl (cI, 256, .inl z3.2)), (a_t_guess_leftBy, .inl (cI, 9, .inl z6.2.2))]) (by subst h7; rfl) hw
    refine lv_iload_n hx hb dX9_ask_30 rfl (lv_at hl 1 rfl) ?_
    refine lv_if_ne (tgt := 44) hx hb dX9_ask_31 (by decide) (fun c8 => ?_) (fun c8 => ?_)
    · refine lv_aload_n hx hb dX9_ask_44 rfl (lv_at hl 0 rfl) ?_
      refine k_get C hw (CC := RX9) (T := TX9) (N := 10) nX9_ask_X9 0 rfl rfl 7 (by decide) (List.mem_of_getElem? (i := 1) rfl) rfl rfl dX9_ask_45 ?_
      refine k_getN C hw (CC := RX1) (T := TX1) (N := 5) nX9_ask_X1 1 rfl rfl 4 (by decide) 24 rfl rfl rfl dX9_ask_48 ?_
      rw [show f_X9_ask v_t_guess_size v_t_guess_question v_t_guess_left v_t_sights_size g_t_sights_sets g_t_sights_counts g_t_guess_fitting g_t_guess_leftBy p1 = (z6.2.1, z3.1, z6.1, z6.2.1, z3.2, z6.2.2) from by
          unfold f_X9_ask
          exact (if_neg c1).trans ((lt_c h4).trans ((lt_c h7).trans ((if_neg c8).trans (rfl))))]
      exact k_iret C hr hw dX9_ask_51
    · refine lv_aload_n hx hb dX9_ask_34 rfl (lv_at hl 0 rfl) ?_
      refine k_get C hw (CC := RX9) (T := TX9) (N := 10) nX9_ask_X9 0 rfl rfl 7 (by decide) (List.mem_of_getElem? (i := 1) rfl) rfl rfl dX9_ask_35 ?_
      refine k_getN C hw (CC := RX1) (T := TX1) (N := 5) nX9_ask_X1 1 rfl rfl 3 (by decide) 23 rfl rfl rfl dX9_ask_38 ?_
      refine lv_goto (tgt := 51) hx hb dX9_ask_41 (by decide) ?_
      rw [show f_X9_ask v_t_guess_size v_t_guess_question v_t_guess_left v_t_sights_size g_t_sights_sets g_t_sights_counts g_t_guess_fitting g_t_guess_leftBy p1 = (z6.1, z3.1, z6.1, z6.2.1, z3.2, z6.2.2) from by
          unfold f_X9_ask
          exact (if_neg c1).trans ((lt_c h4).trans ((lt_c h7).trans ((if_pos c8).trans (rfl))))]
      exact k_iret C hr hw dX9_ask_51
  · refine lv_bipush (v := (-2)) hx hb dX9_ask_9 (by decide) ?_
    rw [show f_X9_ask v_t_guess_size v_t_guess_question v_t_guess_left v_t_sights_size g_t_sights_sets g_t_sights_counts g_t_guess_fitting g_t_guess_leftBy p1 = ((-2), v_t_guess_size, v_t_guess_question, v_t_guess_left, g_t_guess_fitting, g_t_guess_leftBy) from by
        unfold f_X9_ask
        exact (if_pos c1).trans (rfl)]
    exact k_iret C hr hw dX9_ask_11

def B_X9_canWin_18 (j : Nat) (v : Int32 × Int32 × Int32) : (Int32 × Int32 × Int32) ⊕ ((Int32 × Int32 × Int32) ⊕ (Int32)) := (if v.2.1 ≤ 0 then Sum.inr (Sum.inl (v.1, v.2.1, v.2.2)) else (if (v.1 / v.2.1) < 2 then (if v.2.2 = 0 then Sum.inl (v.2.1, (v.1 - v.2.1), 1) else Sum.inl (v.2.1, (v.1 - v.2.1), 0)) else Sum.inr (Sum.inr v.2.2)))
def oB_X9_canWin_18 (j : Nat) (v : Int32 × Int32 × Int32) : Prop := (if v.2.1 ≤ 0 then True else ((¬ v.2.1 = 0) ∧ (if (v.1 / v.2.1) < 2 then True else ((narrow .boolean (.int v.2.2) = .int v.2.2) ∧ True))))
set_option maxHeartbeats 4000000 in
set_option maxRecDepth 100000 in
theorem l_X9_canWin_18 {p : Program} {l : Launch} {e : Env} {s : State} {m : MethodId} {args : Array Value} {below : List Frame} {meth : Method} {c : Code} {D : va_G} {cI cZ : ClassId} (W0 : va_W) (RES : Int32) (C : kC p s m args meth c cX9_canWin 7 wsX9_canWin RX9 D cI cZ (va_A W0 s.heap.size)) (hr : meth.sig.returnType = some .boolean) : ∀ (n j : Nat) (x2 : Int32) (x3 : Int32) (x4 : Int32), n = 1000 - j → j < 2147483648 → lpA oB_X9_canWin_18 B_X9_canWin_18 j n (x2, x3, x4) → (∀ r, (lp B_X9_canWin_18 j n (x2, x3, x4)) = Sum.inr r → RES = r) → ∀ (H : Heap) (locs : List Loc), kW D (va_A W0 s.heap.size) s H locs [] → ∀ (ls : Array Slot), lv_has ls 7 [(2, .int x2), (3, .int x3), (4, .int x4), (5, .int (nI j))] → (∀ (y0 : Int32) (y1 : Int32) (y2 : Int32), lp B_X9_canWin_18 j n (x2, x3, x4) = Sum.inl (y0, y1, y2) → ∀ (H : Heap) (locs : List Loc) (ls : Array Slot), kW D (va_A W0 s.heap.size) s H locs [] → lv_has ls 7 [(4, .int y2)] → W p l e ({ frames := 1, cells := 0, slots := 0, locals := 21 }) s m args below meth c H locs 0 0 (MQ below (kQ D W0 s.heap.size (some (.int RES)) []) args s 0 0 (va_A W0 s.heap.size)) (F0 m 68 ls [])) → W p l e ({ frames := 1, cells := 0, slots := 0, locals := 21 }) s m args below meth c H locs 0 0 (MQ below (kQ D W0 s.heap.size (some (.int RES)) []) args s 0 0 (va_A W0 s.heap.size)) (F0 m 18 ls []) := by
  have hx := C.hx
  have hb := C.hb
  intro n
  induction n with
  | zero =>
    intro j x2 x3 x4 hn hj hok0 hres H locs hw ls hl kk
    refine lv_iload hx hb dX9_canWin_18 (lv_at hl 3 rfl) ?_
    refine lv_sipush (v := 999) hx hb dX9_canWin_20 (by decide) ?_
    refine lv_icmp_gt (tgt := 68) hx hb dX9_canWin_23 (by decide) (fun c7 => ?_) (fun c7 => by exact absurd (nI_lt (a := 999) (b := j) (by omega) (by omega)) c7)
    exact kk x2 x3 x4 rfl _ _ _ hw (lv_sub hl [2] rfl)
  | succ n ih =>
    intro j x2 x3 x4 hn hj hok0 hres H locs hw ls hl kk
    have hok := hok0.1
    refine lv_iload hx hb dX9_canWin_18 (lv_at hl 3 rfl) ?_
    refine lv_sipush (v := 999) hx hb dX9_canWin_20 (by decide) ?_
    refine lv_icmp_gt (tgt := 68) hx hb dX9_canWin_23 (by decide) (fun c1 => by exact absurd c1 (nI_nlt (a := 999) (b := j) (by omega) (by omega))) (fun c1 => ?_)
    refine lv_iload_n hx hb dX9_canWin_26 rfl (lv_at hl 1 rfl) ?_
    refine lv_if_le (tgt := 68) hx hb dX9_canWin_27 (by decide) (fun c2 => ?_) (fun c2 => ?_)
    · have hB : B_X9_canWin_18 j (x2, x3, x4) = Sum.inr (Sum.inl (x2, x3, x4)) := by
        unfold B_X9_canWin_18
        exact (if_pos c2).trans (rfl)
      exact kk x2 x3 x4 (lp_b hB) _ _ _ hw (lv_sub hl [2] rfl)
    · replace hok := Eq.mp (if_neg c2) hok
      refine lv_iload_n hx hb dX9_canWin_30 rfl (lv_at hl 0 rfl) ?_
      refine lv_iload_n hx hb dX9_canWin_31 rfl (lv_at hl 1 rfl) ?_
      obtain ⟨h3, hok⟩ := hok
      refine lv_idiv hx hb dX9_canWin_32 h3 ?_
      refine lv_iconst (v := 2) hx hb dX9_canWin_33 (by decide) ?_
      refine lv_icmp_lt (tgt := 40) hx hb dX9_canWin_34 (by decide) (fun c4 => ?_) (fun c4 => ?_)
      · refine lv_iload_n hx hb dX9_canWin_40 rfl (lv_at hl 0 rfl) ?_
        refine lv_iload_n hx hb dX9_canWin_41 rfl (lv_at hl 1 rfl) ?_
        refine lv_isub hx hb dX9_canWin_42 ?_
        refine lv_istore (lv' := [(6, .int (x2 - x3)), (2, .int x2), (3, .int x3), (4, .int x4), (5, .int (nI j))]) hx hb dX9_canWin_43 hl (by decide) rfl (fun ls hl => ?_)
        refine lv_iload_n hx hb dX9_canWin_45 rfl (lv_at hl 2 rfl) ?_
        refine lv_istore_n (lv' := [(2, .int x3), (6, .int (x2 - x3)), (3, .int x3), (4, .int x4), (5, .int (nI j))]) hx hb dX9_canWin_46 rfl hl (by decide) rfl (fun ls hl => ?_)
        refine lv_iload hx hb dX9_canWin_47 (lv_at hl 1 rfl) ?_
        refine lv_istore_n (lv' := [(3, .int (x2 - x3)), (2, .int x3), (6, .int (x2 - x3)), (4, .int x4), (5, .int (nI j))]) hx hb dX9_canWin_49 rfl hl (by decide) rfl (fun ls hl => ?_)
        refine lv_iload hx hb dX9_canWin_50 (lv_at hl 3 rfl) ?_
        refine lv_if_ne (tgt := 59) hx hb dX9_canWin_52 (by decide) (fun c5 => ?_) (fun c5 => ?_)
        · refine lv_iconst (v := 0) hx hb dX9_canWin_59 (by decide) ?_
          refine lv_istore (lv' := [(4, .int 0), (3, .int (x2 - x3)), (2, .int x3), (6, .int (x2 - x3)), (5, .int (nI j))]) hx hb dX9_canWin_60 hl (by decide) rfl (fun ls hl => ?_)
          refine lv_iinc (v := (nI (j + 1))) (lv' := [(5, .int (nI (j + 1))), (4, .int 0), (3, .int (x2 - x3)), (2, .int x3), (6, .int (x2 - x3))]) hx hb dX9_canWin_62 hl (k := 4) rfl (nI_1 _) (by decide) rfl (fun ls hl => ?_)
          refine lv_goto (tgt := 18) hx hb dX9_canWin_65 (by decide) ?_
          have hB : B_X9_canWin_18 j (x2, x3, x4) = Sum.inl (x3, (x2 - x3), 0) := by
            unfold B_X9_canWin_18
            exact (if_neg c2).trans ((if_pos c4).trans ((if_neg c5).trans (rfl)))
          rw [lp_c hB] at kk hres
          have hok2 := lpA_c hB hok0
          exact ih (j + 1) x3 (x2 - x3) 0 (by omega) (by omega) hok2 hres _ _ hw _ (lv_sub hl [3, 2, 1, 0] rfl) kk
        · refine lv_iconst (v := 1) hx hb dX9_canWin_55 (by decide) ?_
          refine lv_goto (tgt := 60) hx hb dX9_canWin_56 (by decide) ?_
          refine lv_istore (lv' := [(4, .int 1), (3, .int (x2 - x3)), (2, .int x3), (6, .int (x2 - x3)), (5, .int (nI j))]) hx hb dX9_canWin_60 hl (by decide) rfl (fun ls hl => ?_)
          refine lv_iinc (v := (nI (j + 1))) (lv' := [(5, .int (nI (j + 1))), (4, .int 1), (3, .int (x2 - x3)), (2, .int x3), (6, .int (x2 - x3))]) hx hb dX9_canWin_62 hl (k := 4) rfl (nI_1 _) (by decide) rfl (fun ls hl => ?_)
          refine lv_goto (tgt := 18) hx hb dX9_canWin_65 (by decide) ?_
          have hB : B_X9_canWin_18 j (x2, x3, x4) = Sum.inl (x3, (x2 - x3), 1) := by
            unfold B_X9_canWin_18
            exact (if_neg c2).trans ((if_pos c4).trans ((if_pos c5).trans (rfl)))
          rw [lp_c hB] at kk hres
          have hok2 := lpA_c hB hok0
          exact ih (j + 1) x3 (x2 - x3) 1 (by omega) (by omega) hok2 hres _ _ hw _ (lv_sub hl [3, 2, 1, 0] rfl) kk
      · replace hok := Eq.mp (if_neg c4) hok
        refine lv_iload hx hb dX9_canWin_37 (lv_at hl 2 rfl) ?_
        obtain ⟨h6, hok⟩ := hok
        have hB : B_X9_canWin_18 j (x2, x3, x4) = Sum.inr (Sum.inr x4) := by
          unfold B_X9_canWin_18
          exact (if_neg c2).trans ((if_neg c4).trans (rfl))
        have hf := hres _ (lp_b hB)
        rw [hf]
        exact k_zret (v := x4) C hr hw h6 dX9_canWin_39
def f_X9_canWin (p1 : Int32) (p2 : Int32) : Int32 := (Sum.elim (fun y => (if y.2.2 = 0 then 1 else 0)) id (lp B_X9_canWin_18 0 1000 ((if p1 < p2 then p2 else p1), (if p2 < p1 then p2 else p1), (1 : Int32))))
def o_X9_canWin (p1 : Int32) (p2 : Int32) : Prop := ((lpA oB_X9_canWin_18 B_X9_canWin_18 0 1000 ((if p1 < p2 then p2 else p1), (if p2 < p1 then p2 else p1), (1 : Int32))) ∧ True)
set_option maxHeartbeats 4000000 in
set_option maxRecDepth 100000 in
theorem T_X9_canWin (l : Launch) (D : va_G) (cI cZ : ClassId) (p1 : Int32) (p2 : Int32) (hok : o_X9_canWin p1 p2) : CT l D cI cZ yX9_canWin wsX9_canWin ({ frames := 1, cells := 0, slots := 0, locals := 21 }) [.int p1, .int p2] [] (some (.int (f_X9_canWin p1 p2))) [] := by
  refine CT.intro RX9 (by decide) rfl (Nat.le_of_ble_eq_true rfl) rfl ?_
  intro p e s m below meth c C hr hw ls hl
  have hx := C.hx
  have hb := C.hb
  replace hl : lv_has ls 7 [(0, .int p1), (1, .int p2)] := hl
  refine lv_iload_n hx hb dX9_canWin_0 rfl (lv_at hl 0 rfl) ?_
  refine lv_iload_n hx hb dX9_canWin_1 rfl (lv_at hl 1 rfl) ?_
  refine k_max C (List.mem_of_getElem? (i := 1) rfl) (List.mem_of_getElem? (i := 2) rfl) (List.mem_of_getElem? (i := 3) rfl) (List.mem_of_getElem? (i := 4) rfl) hl.1 (Nat.le_of_ble_eq_true rfl) (Nat.le_of_ble_eq_true rfl) (Nat.zero_le _) (Nat.zero_le _) dX9_canWin_2 ?_
  refine lv_istore_n (lv' := [(2, .int (if p1 < p2 then p2 else p1)), (0, .int p1), (1, .int p2)]) hx hb dX9_canWin_5 rfl hl (by decide) rfl (fun ls hl => ?_)
  refine lv_iload_n hx hb dX9_canWin_6 rfl (lv_at hl 1 rfl) ?_
  refine lv_iload_n hx hb dX9_canWin_7 rfl (lv_at hl 2 rfl) ?_
  refine k_min C (List.mem_of_getElem? (i := 5) rfl) (List.mem_of_getElem? (i := 6) rfl) (List.mem_of_getElem? (i := 3) rfl) (List.mem_of_getElem? (i := 7) rfl) hl.1 (Nat.le_of_ble_eq_true rfl) (Nat.le_of_ble_eq_true rfl) (Nat.zero_le _) (Nat.zero_le _) dX9_canWin_8 ?_
  refine lv_istore_n (lv' := [(3, .int (if p2 < p1 then p2 else p1)), (2, .int (if p1 < p2 then p2 else p1)), (0, .int p1), (1, .int p2)]) hx hb dX9_canWin_11 rfl hl (by decide) rfl (fun ls hl => ?_)
  refine lv_iconst (v := 1) hx hb dX9_canWin_12 (by decide) ?_
  refine lv_istore (lv' := [(4, .int 1), (3, .int (if p2 < p1 then p2 else p1)), (2, .int (if p1 < p2 then p2 else p1)), (0, .int p1), (1, .int p2)]) hx hb dX9_canWin_13 hl (by decide) rfl (fun ls hl => ?_)
  refine lv_iconst (v := 0) hx hb dX9_canWin_15 (by decide) ?_
  refine lv_istore (lv' := [(5, .int 0), (4, .int 1), (3, .int (if p2 < p1 then p2 else p1)), (2, .int (if p1 < p2 then p2 else p1)), (0, .int p1), (1, .int p2)]) hx hb dX9_canWin_16 hl (by decide) rfl (fun ls hl => ?_)
  obtain ⟨h8, hok⟩ := hok
  refine l_X9_canWin_18  _  (f_X9_canWin p1 p2) C hr 1000 0 (if p1 < p2 then p2 else p1) (if p2 < p1 then p2 else p1) (1 : Int32) (by decide) (by decide) h8 (fun r h => by unfold f_X9_canWin; exact congrArg (Sum.elim _ id) h) _ _ hw _ (lv_sub hl [3, 2, 1, 0] rfl) (fun y9 y10 y11 h12 H locs ls hw hl => ?_)
  replace hw : kW D _ s H locs [] := hw
  replace hl : lv_has ls 7 [(4, .int y11)] := hl
  refine lv_iload hx hb dX9_canWin_68 (lv_at hl 0 rfl) ?_
  refine lv_if_ne (tgt := 77) hx hb dX9_canWin_70 (by decide) (fun c13 => ?_) (fun c13 => ?_)
  · refine lv_iconst (v := 0) hx hb dX9_canWin_77 (by decide) ?_
    rw [show f_X9_canWin p1 p2 = 0 from by
        unfold f_X9_canWin
        exact (congrArg (Sum.elim _ id) h12).trans ((if_neg c13).trans (rfl))]
    exact k_zret (v := 0) C hr hw nz0 dX9_canWin_78
  · refine lv_iconst (v := 1) hx hb dX9_canWin_73 (by decide) ?_
    refine lv_goto (tgt := 78) hx hb dX9_canWin_74 (by decide) ?_
    rw [show f_X9_canWin p1 p2 = 1 from by
        unfold f_X9_canWin
        exact (congrArg (Sum.elim _ id) h12).trans ((if_pos c13).trans (rfl))]
    exact k_zret (v := 1) C hr hw nz1 dX9_canWin_78

def B_X9_winningTimes_9 (x0 : Int32) (x1 : Int32) (j : Nat) (v : Unit) : (Unit) ⊕ ((Unit) ⊕ (Int32)) := (if (f_X9_canWin (x0 - ((nI j) * x1)) x1) = 0 then Sum.inr (Sum.inr (nI j)) else Sum.inl ())
def oB_X9_winningTimes_9 (x0 : Int32) (x1 : Int32) (j : Nat) (v : Unit) : Prop := ((o_X9_canWin (x0 - ((nI j) * x1)) x1) ∧ True)
set_option maxHeartbeats 4000000 in
set_option maxRecDepth 100000 in
theorem l_X9_winningTimes_9 {p : Program} {l : Launch} {e : Env} {s : State} {m : MethodId} {args : Array Value} {below : List Frame} {meth : Method} {c : Code} {D : va_G} {cI cZ : ClassId} (W0 : va_W) (x0 : Int32) (x1 : Int32) (RES : Int32) (C : kC p s m args meth c cX9_winningTimes 3 wsX9_winningTimes RX9 D cI cZ (va_A W0 s.heap.size)) (hr : meth.sig.returnType = some .int) (hq : (¬ x1 = 0)) (b : Nat) (hB : (x0 / x1) = nI b) (hb31 : b < 2147483647) : ∀ (n j : Nat), n = b + 1 - j → j < 2147483648 → lpA (oB_X9_winningTimes_9 x0 x1) (B_X9_winningTimes_9 x0 x1) j n () → (∀ r, (lp (B_X9_winningTimes_9 x0 x1) j n ()) = Sum.inr r → RES = r) → ∀ (H : Heap) (locs : List Loc), kW D (va_A W0 s.heap.size) s H locs [] → ∀ (ls : Array Slot), lv_has ls 3 [(0, .int x0), (1, .int x1), (2, .int (nI j))] → (lp (B_X9_winningTimes_9 x0 x1) j n () = Sum.inl () → ∀ (H : Heap) (locs : List Loc) (ls : Array Slot), kW D (va_A W0 s.heap.size) s H locs [] → lv_has ls 3 [] → W p l e ({ frames := 2, cells := 0, slots := 0, locals := 47 }) s m args below meth c H locs 0 0 (MQ below (kQ D W0 s.heap.size (some (.int RES)) []) args s 0 0 (va_A W0 s.heap.size)) (F0 m 36 ls [])) → W p l e ({ frames := 2, cells := 0, slots := 0, locals := 47 }) s m args below meth c H locs 0 0 (MQ below (kQ D W0 s.heap.size (some (.int RES)) []) args s 0 0 (va_A W0 s.heap.size)) (F0 m 9 ls []) := by
  have hx := C.hx
  have hb := C.hb
  intro n
  induction n with
  | zero =>
    intro j hn hj hok0 hres H locs hw ls hl kk
    refine lv_iload_n hx hb dX9_winningTimes_9 rfl (lv_at hl 2 rfl) ?_
    refine lv_iload_n hx hb dX9_winningTimes_10 rfl (lv_at hl 0 rfl) ?_
    refine lv_iload_n hx hb dX9_winningTimes_11 rfl (lv_at hl 1 rfl) ?_
    refine lv_idiv hx hb dX9_winningTimes_12 hq ?_
    refine lv_icmp_gt (tgt := 36) hx hb dX9_winningTimes_13 (by decide) (fun c5 => ?_) (fun c5 => by rw [hB] at c5; exact absurd (nI_lt (a := b) (b := j) (by omega) (by omega)) c5)
    exact kk  rfl _ _ _ hw (lv_sub hl [] rfl)
  | succ n ih =>
    intro j hn hj hok0 hres H locs hw ls hl kk
    have hok := hok0.1
    refine lv_iload_n hx hb dX9_winningTimes_9 rfl (lv_at hl 2 rfl) ?_
    refine lv_iload_n hx hb dX9_winningTimes_10 rfl (lv_at hl 0 rfl) ?_
    refine lv_iload_n hx hb dX9_winningTimes_11 rfl (lv_at hl 1 rfl) ?_
    refine lv_idiv hx hb dX9_winningTimes_12 hq ?_
    refine lv_icmp_gt (tgt := 36) hx hb dX9_winningTimes_13 (by decide) (fun c2 => by rw [hB] at c2; exact absurd c2 (nI_nlt (a := b) (b := j) (by omega) (by omega))) (fun c2 => ?_)
    refine lv_iload_n hx hb dX9_winningTimes_16 rfl (lv_at hl 0 rfl) ?_
    refine lv_iload_n hx hb dX9_winningTimes_17 rfl (lv_at hl 2 rfl) ?_
    refine lv_iload_n hx hb dX9_winningTimes_18 rfl (lv_at hl 1 rfl) ?_
    refine lv_imul hx hb dX9_winningTimes_19 ?_
    refine lv_isub hx hb dX9_winningTimes_20 ?_
    refine lv_iload_n hx hb dX9_winningTimes_21 rfl (lv_at hl 1 rfl) ?_
    obtain ⟨h3, hok⟩ := hok
    refine k_callS (As := [.int (x0 - ((nI j) * x1)), .int x1]) (rest := []) (n := 2) C hw (T_X9_canWin l D cI cZ (x0 - ((nI j) * x1)) x1 h3) gX9_winningTimes_X9_canWin rfl ⟨rfl, rfl⟩ (by decide +kernel) ⟨Nat.le_of_ble_eq_true rfl, Nat.le_of_ble_eq_true rfl⟩ [] rfl rfl [] rfl rfl rfl hl.1 rfl (Nat.le_of_ble_eq_true rfl) ⟨Nat.zero_le _, Nat.zero_le _⟩ dX9_winningTimes_22 (fun H locs hw => ?_)
    refine W.eq (g2 := F0 m 25 ls [.int (f_X9_canWin (x0 - ((nI j) * x1)) x1)]) rfl ?_
    replace hw : kW D _ s H locs [] := hw
    refine lv_if_ne (tgt := 30) hx hb dX9_winningTimes_25 (by decide) (fun c4 => ?_) (fun c4 => ?_)
    · refine lv_iinc (v := (nI (j + 1))) (lv' := [(2, .int (nI (j + 1))), (0, .int x0), (1, .int x1)]) hx hb dX9_winningTimes_30 hl (k := 2) rfl (nI_1 _) (by decide) rfl (fun ls hl => ?_)
      refine lv_goto (tgt := 9) hx hb dX9_winningTimes_33 (by decide) ?_
      have hB : B_X9_winningTimes_9 x0 x1 j () = Sum.inl () := by
        unfold B_X9_winningTimes_9
        exact (if_neg c4).trans (rfl)
      rw [lp_c hB] at kk hres
      have hok2 := lpA_c hB hok0
      exact ih (j + 1)  (by omega) (by omega) hok2 hres _ _ hw _ (lv_sub hl [1, 2, 0] rfl) kk
    · refine lv_iload_n hx hb dX9_winningTimes_28 rfl (lv_at hl 2 rfl) ?_
      have hB : B_X9_winningTimes_9 x0 x1 j () = Sum.inr (Sum.inr (nI j)) := by
        unfold B_X9_winningTimes_9
        exact (if_pos c4).trans (rfl)
      have hf := hres _ (lp_b hB)
      rw [hf]
      exact k_iret C hr hw dX9_winningTimes_29
def f_X9_winningTimes (p1 : Int32) (p2 : Int32) : Int32 := (if 0 < p2 then (Sum.elim (fun y => (-6)) id (lp (B_X9_winningTimes_9 p1 p2) 1 (((p1 / p2).toNatClampNeg + 1) - 1) ())) else (-6))
def o_X9_winningTimes (p1 : Int32) (p2 : Int32) : Prop := (if 0 < p2 then ((¬ p2 = 0) ∧ ((0 ≤ (p1 / p2)) ∧ (((p1 / p2).toNatClampNeg < 2147483647) ∧ ((lpA (oB_X9_winningTimes_9 p1 p2) (B_X9_winningTimes_9 p1 p2) 1 (((p1 / p2).toNatClampNeg + 1) - 1) ()) ∧ True)))) else True)
set_option maxHeartbeats 4000000 in
set_option maxRecDepth 100000 in
theorem T_X9_winningTimes (l : Launch) (D : va_G) (cI cZ : ClassId) (p1 : Int32) (p2 : Int32) (hok : o_X9_winningTimes p1 p2) : CT l D cI cZ yX9_winningTimes wsX9_winningTimes ({ frames := 2, cells := 0, slots := 0, locals := 47 }) [.int p1, .int p2] [] (some (.int (f_X9_winningTimes p1 p2))) [] := by
  refine CT.intro RX9 (by decide) rfl (Nat.le_of_ble_eq_true rfl) rfl ?_
  intro p e s m below meth c C hr hw ls hl
  have hx := C.hx
  have hb := C.hb
  replace hl : lv_has ls 3 [(0, .int p1), (1, .int p2)] := hl
  refine lv_iload_n hx hb dX9_winningTimes_0 rfl (lv_at hl 1 rfl) ?_
  refine lv_if_gt (tgt := 7) hx hb dX9_winningTimes_1 (by decide) (fun c1 => ?_) (fun c1 => ?_)
  · replace hok := Eq.mp (if_pos c1) hok
    refine lv_iconst (v := 1) hx hb dX9_winningTimes_7 (by decide) ?_
    refine lv_istore_n (lv' := [(2, .int 1), (0, .int p1), (1, .int p2)]) hx hb dX9_winningTimes_8 rfl hl (by decide) rfl (fun ls hl => ?_)
    obtain ⟨h6, hok⟩ := hok
    obtain ⟨h7, hok⟩ := hok
    obtain ⟨h8, hok⟩ := hok
    obtain ⟨h9, hok⟩ := hok
    refine l_X9_winningTimes_9  _ p1 p2 (f_X9_winningTimes p1 p2) C hr h6 (p1 / p2).toNatClampNeg (nI_self h7) h8 (((p1 / p2).toNatClampNeg + 1) - 1) 1  rfl (by decide) h9 (fun r h => by unfold f_X9_winningTimes; exact (if_pos c1).trans (congrArg (Sum.elim _ id) h)) _ _ hw _ (lv_sub hl [1, 2, 0] rfl) (fun h10 H locs ls hw hl => ?_)
    replace hw : kW D _ s H locs [] := hw
    replace hl : lv_has ls 3 [] := hl
    refine lv_bipush (v := (-6)) hx hb dX9_winningTimes_36 (by decide) ?_
    rw [show f_X9_winningTimes p1 p2 = (-6) from by
        unfold f_X9_winningTimes
        exact (if_pos c1).trans ((congrArg (Sum.elim _ id) h10).trans (rfl))]
    exact k_iret C hr hw dX9_winningTimes_38
  · refine lv_bipush (v := (-6)) hx hb dX9_winningTimes_4 (by decide) ?_
    rw [show f_X9_winningTimes p1 p2 = (-6) from by
        unfold f_X9_winningTimes
        exact (if_neg c1).trans (rfl)]
    exact k_iret C hr hw dX9_winningTimes_6

def f_X9_crumbs (p1 : Int32) (p2 : Int32) (p3 : Int32) : Int32 := (if (f_X9_within p1 (0 : Int32) (999 : Int32)) = 0 then (-2) else (if (f_X9_within p2 (0 : Int32) (999 : Int32)) = 0 then (-2) else (if (f_X9_within p3 (0 : Int32) (1 : Int32)) = 0 then (-2) else (if p3 = 0 then (if (f_X9_canWin p1 p2) = 0 then 0 else 1) else (lt (f_X9_winningTimes (if p1 < p2 then p2 else p1) (if p2 < p1 then p2 else p1)) (fun z6 => z6))))))
def o_X9_crumbs (p1 : Int32) (p2 : Int32) (p3 : Int32) : Prop := (if (f_X9_within p1 (0 : Int32) (999 : Int32)) = 0 then True else (if (f_X9_within p2 (0 : Int32) (999 : Int32)) = 0 then True else (if (f_X9_within p3 (0 : Int32) (1 : Int32)) = 0 then True else (if p3 = 0 then ((o_X9_canWin p1 p2) ∧ True) else ((o_X9_winningTimes (if p1 < p2 then p2 else p1) (if p2 < p1 then p2 else p1)) ∧ True)))))
set_option maxHeartbeats 4000000 in
set_option maxRecDepth 100000 in
theorem T_X9_crumbs (l : Launch) (D : va_G) (cI cZ : ClassId) (a_t : Nat) (p1 : Int32) (p2 : Int32) (p3 : Int32) (hok : o_X9_crumbs p1 p2 p3) : CT l D cI cZ yX9_crumbs wsX9_crumbs ({ frames := 3, cells := 0, slots := 0, locals := 69 }) [.ref a_t, .int p1, .int p2, .int p3] [] (some (.int (f_X9_crumbs p1 p2 p3))) [] := by
  refine CT.intro RX9 (by decide) rfl (Nat.le_of_ble_eq_true rfl) rfl ?_
  intro p e s m below meth c C hr hw ls hl
  have hx := C.hx
  have hb := C.hb
  replace hl : lv_has ls 4 [(0, .ref a_t), (1, .int p1), (2, .int p2), (3, .int p3)] := hl
  refine lv_iload_n hx hb dX9_crumbs_0 rfl (lv_at hl 1 rfl) ?_
  refine lv_iconst (v := 0) hx hb dX9_crumbs_1 (by decide) ?_
  refine lv_sipush (v := 999) hx hb dX9_crumbs_2 (by decide) ?_
  refine k_callS (As := [.int p1, .int 0, .int 999]) (rest := []) (n := 3) C hw (T_X9_within l D cI cZ p1 (0 : Int32) (999 : Int32)) gX9_crumbs_X9_within rfl ⟨rfl, rfl⟩ (by decide +kernel) ⟨Nat.le_of_ble_eq_true rfl, Nat.le_of_ble_eq_true rfl⟩ [] rfl rfl [] rfl rfl rfl hl.1 rfl (Nat.le_of_ble_eq_true rfl) ⟨Nat.zero_le _, Nat.zero_le _⟩ dX9_crumbs_5 (fun H locs hw => ?_)
  refine W.eq (g2 := F0 m 8 ls [.int (f_X9_within p1 (0 : Int32) (999 : Int32))]) rfl ?_
  replace hw : kW D _ s H locs [] := hw
  refine lv_if_eq (tgt := 31) hx hb dX9_crumbs_8 (by decide) (fun c1 => ?_) (fun c1 => ?_)
  · refine lv_bipush (v := (-2)) hx hb dX9_crumbs_31 (by decide) ?_
    rw [show f_X9_crumbs p1 p2 p3 = (-2) from by
        unfold f_X9_crumbs
        exact (if_pos c1).trans (rfl)]
    exact k_iret C hr hw dX9_crumbs_33
  · replace hok := Eq.mp (if_neg c1) hok
    refine lv_iload_n hx hb dX9_crumbs_11 rfl (lv_at hl 2 rfl) ?_
    refine lv_iconst (v := 0) hx hb dX9_crumbs_12 (by decide) ?_
    refine lv_sipush (v := 999) hx hb dX9_crumbs_13 (by decide) ?_
    refine k_callS (As := [.int p2, .int 0, .int 999]) (rest := []) (n := 3) C hw (T_X9_within l D cI cZ p2 (0 : Int32) (999 : Int32)) gX9_crumbs_X9_within rfl ⟨rfl, rfl⟩ (by decide +kernel) ⟨Nat.le_of_ble_eq_true rfl, Nat.le_of_ble_eq_true rfl⟩ [] rfl rfl [] rfl rfl rfl hl.1 rfl (Nat.le_of_ble_eq_true rfl) ⟨Nat.zero_le _, Nat.zero_le _⟩ dX9_crumbs_16 (fun H locs hw => ?_)
    refine W.eq (g2 := F0 m 19 ls [.int (f_X9_within p2 (0 : Int32) (999 : Int32))]) rfl ?_
    replace hw : kW D _ s H locs [] := hw
    refine lv_if_eq (tgt := 31) hx hb dX9_crumbs_19 (by decide) (fun c2 => ?_) (fun c2 => ?_)
    · refine lv_bipush (v := (-2)) hx hb dX9_crumbs_31 (by decide) ?_
      rw [show f_X9_crumbs p1 p2 p3 = (-2) from by
          unfold f_X9_crumbs
          exact (if_neg c1).trans ((if_pos c2).trans (rfl))]
      exact k_iret C hr hw dX9_crumbs_33
    · replace hok := Eq.mp (if_neg c2) hok
      refine lv_iload_n hx hb dX9_crumbs_22 rfl (lv_at hl 3 rfl) ?_
      refine lv_iconst (v := 0) hx hb dX9_crumbs_23 (by decide) ?_
      refine lv_iconst (v := 1) hx hb dX9_crumbs_24 (by decide) ?_
      refine k_callS (As := [.int p3, .int 0, .int 1]) (rest := []) (n := 3) C hw (T_X9_within l D cI cZ p3 (0 : Int32) (1 : Int32)) gX9_crumbs_X9_within rfl ⟨rfl, rfl⟩ (by decide +kernel) ⟨Nat.le_of_ble_eq_true rfl, Nat.le_of_ble_eq_true rfl⟩ [] rfl rfl [] rfl rfl rfl hl.1 rfl (Nat.le_of_ble_eq_true rfl) ⟨Nat.zero_le _, Nat.zero_le _⟩ dX9_crumbs_25 (fun H locs hw => ?_)
      refine W.eq (g2 := F0 m 28 ls [.int (f_X9_within p3 (0 : Int32) (1 : Int32))]) rfl ?_
      replace hw : kW D _ s H locs [] := hw
      refine lv_if_ne (tgt := 34) hx hb dX9_crumbs_28 (by decide) (fun c3 => ?_) (fun c3 => ?_)
      · replace hok := Eq.mp (if_neg c3) hok
        refine lv_iload_n hx hb dX9_crumbs_34 rfl (lv_at hl 3 rfl) ?_
        refine lv_if_ne (tgt := 52) hx hb dX9_crumbs_35 (by decide) (fun c4 => ?_) (fun c4 => ?_)
        · replace hok := Eq.mp (if_neg c4) hok
          refine lv_iload_n hx hb dX9_crumbs_52 rfl (lv_at hl 1 rfl) ?_
          refine lv_iload_n hx hb dX9_crumbs_53 rfl (lv_at hl 2 rfl) ?_
          refine k_max C (List.mem_of_getElem? (i := 1) rfl) (List.mem_of_getElem? (i := 2) rfl) (List.mem_of_getElem? (i := 3) rfl) (List.mem_of_getElem? (i := 4) rfl) hl.1 (Nat.le_of_ble_eq_true rfl) (Nat.le_of_ble_eq_true rfl) (Nat.zero_le _) (Nat.zero_le _) dX9_crumbs_54 ?_
          refine lv_iload_n hx hb dX9_crumbs_57 rfl (lv_at hl 1 rfl) ?_
          refine lv_iload_n hx hb dX9_crumbs_58 rfl (lv_at hl 2 rfl) ?_
          refine k_min C (List.mem_of_getElem? (i := 5) rfl) (List.mem_of_getElem? (i := 6) rfl) (List.mem_of_getElem? (i := 3) rfl) (List.mem_of_getElem? (i := 7) rfl) hl.1 (Nat.le_of_ble_eq_true rfl) (Nat.le_of_ble_eq_true rfl) (Nat.zero_le _) (Nat.zero_le _) dX9_crumbs_59 ?_
          obtain ⟨h5, hok⟩ := hok
          refine k_callS (As := [.int (if p1 < p2 then p2 else p1), .int (if p2 < p1 then p2 else p1)]) (rest := []) (n := 2) C hw (T_X9_winningTimes l D cI cZ (if p1 < p2 then p2 else p1) (if p2 < p1 then p2 else p1) h5) gX9_crumbs_X9_winningTimes rfl ⟨rfl, rfl⟩ (by decide +kernel) ⟨Nat.le_of_ble_eq_true rfl, Nat.le_of_ble_eq_true rfl⟩ [] rfl rfl [] rfl rfl rfl hl.1 rfl (Nat.le_of_ble_eq_true rfl) ⟨Nat.zero_le _, Nat.zero_le _⟩ dX9_crumbs_62 (fun H locs hw => ?_)
          obtain ⟨z6, h7⟩ : ∃ z, (f_X9_winningTimes (if p1 < p2 then p2 else p1) (if p2 < p1 then p2 else p1)) = z := ⟨_, rfl⟩
          refine W.eq (g2 := F0 m 65 ls [.int z6]) (by subst h7; rfl) ?_
          replace hw := kW_cast (ws' := []) (by subst h7; rfl) hw
          rw [show f_X9_crumbs p1 p2 p3 = z6 from by
              unfold f_X9_crumbs
              exact (if_neg c1).trans ((if_neg c2).trans ((if_neg c3).trans ((if_neg c4).trans ((lt_c h7).trans (rfl)))))]
          exact k_iret C hr hw dX9_crumbs_65
        · replace hok := Eq.mp (if_pos c4) hok
          refine lv_iload_n hx hb dX9_crumbs_38 rfl (lv_at hl 1 rfl) ?_
          refine lv_iload_n hx hb dX9_crumbs_39 rfl (lv_at hl 2 rfl) ?_
          obtain ⟨h8, hok⟩ := hok
          refine k_callS (As := [.int p1, .int p2]) (rest := []) (n := 2) C hw (T_X9_canWin l D cI cZ p1 p2 h8) gX9_crumbs_X9_canWin rfl ⟨rfl, rfl⟩ (by decide +kernel) ⟨Nat.le_of_ble_eq_true rfl, Nat.le_of_ble_eq_true rfl⟩ [] rfl rfl [] rfl rfl rfl hl.1 rfl (Nat.le_of_ble_eq_true rfl) ⟨Nat.zero_le _, Nat.zero_le _⟩ dX9_crumbs_40 (fun H locs hw => ?_)
          refine W.eq (g2 := F0 m 43 ls [.int (f_X9_canWin p1 p2)]) rfl ?_
          replace hw : kW D _ s H locs [] := hw
          refine lv_if_eq (tgt := 50) hx hb dX9_crumbs_43 (by decide) (fun c9 => ?_) (fun c9 => ?_)
          · refine lv_iconst (v := 0) hx hb dX9_crumbs_50 (by decide) ?_
            rw [show f_X9_crumbs p1 p2 p3 = 0 from by
                unfold f_X9_crumbs
                exact (if_neg c1).trans ((if_neg c2).trans ((if_neg c3).trans ((if_pos c4).trans ((if_pos c9).trans (rfl)))))]
            exact k_iret C hr hw dX9_crumbs_51
          · refine lv_iconst (v := 1) hx hb dX9_crumbs_46 (by decide) ?_
            refine lv_goto (tgt := 51) hx hb dX9_crumbs_47 (by decide) ?_
            rw [show f_X9_crumbs p1 p2 p3 = 1 from by
                unfold f_X9_crumbs
                exact (if_neg c1).trans ((if_neg c2).trans ((if_neg c3).trans ((if_pos c4).trans ((if_neg c9).trans (rfl)))))]
            exact k_iret C hr hw dX9_crumbs_51
      · refine lv_bipush (v := (-2)) hx hb dX9_crumbs_31 (by decide) ?_
        rw [show f_X9_crumbs p1 p2 p3 = (-2) from by
            unfold f_X9_crumbs
            exact (if_neg c1).trans ((if_neg c2).trans ((if_pos c3).trans (rfl)))]
        exact k_iret C hr hw dX9_crumbs_33

def B_X9_commonDivisor_9 (j : Nat) (v : Int64 × Int64) : (Int64 × Int64) ⊕ (Int64 × Int64) := (if (lg_cmp v.2 0) = 0 then Sum.inr (v.1, v.2) else Sum.inl (v.2, (v.1 - v.1 / v.2 * v.2)))
def oB_X9_commonDivisor_9 (j : Nat) (v : Int64 × Int64) : Prop := (if (lg_cmp v.2 0) = 0 then True else ((¬ v.2 = 0) ∧ True))
set_option maxHeartbeats 4000000 in
set_option maxRecDepth 100000 in
theorem l_X9_commonDivisor_9 {p : Program} {l : Launch} {e : Env} {s : State} {m : MethodId} {args : Array Value} {below : List Frame} {meth : Method} {c : Code} {D : va_G} {cI cZ : ClassId} {Q : State → Prop} {A : Nat → Prop} (C : kC p s m args meth c cX9_commonDivisor 11 wsX9_commonDivisor RX9 D cI cZ A) : ∀ (n j : Nat) (x4 : Int64) (x6 : Int64), n = 1000 - j → j < 2147483648 → lbA oB_X9_commonDivisor_9 B_X9_commonDivisor_9 j n (x4, x6) → ∀ (H : Heap) (locs : List Loc), kW D A s H locs [] → ∀ (ls : Array Slot), lv_has ls 11 [(4, .long x4), (6, .long x6), (8, .int (nI j))] → (∀ (H : Heap) (locs : List Loc) (ls : Array Slot), kW D A s H locs [] → lv_has ls 11 [(4, .long (lb B_X9_commonDivisor_9 j n (x4, x6)).1)] → W p l e ({ frames := 0, cells := 0, slots := 0, locals := 0 }) s m args below meth c H locs 0 0 Q (F0 m 45 ls [])) → W p l e ({ frames := 0, cells := 0, slots := 0, locals := 0 }) s m args below meth c H locs 0 0 Q (F0 m 9 ls []) := by
  have hx := C.hx
  have hb := C.hb
  intro n
  induction n with
  | zero =>
    intro j x4 x6 hn hj hok0 H locs hw ls hl kk
    refine lv_iload hx hb dX9_commonDivisor_9 (lv_at hl 2 rfl) ?_
    refine lv_sipush (v := 1000) hx hb dX9_commonDivisor_11 (by decide) ?_
    refine lv_icmp_ge (tgt := 45) hx hb dX9_commonDivisor_14 (by decide) (fun c4 => ?_) (fun c4 => by exact absurd (nI_le (a := 1000) (b := j) (by omega) (by omega)) c4)
    exact kk _ _ _ hw (lv_sub hl [0] rfl)
  | succ n ih =>
    intro j x4 x6 hn hj hok0 H locs hw ls hl kk
    have hok := hok0.1
    refine lv_iload hx hb dX9_commonDivisor_9 (lv_at hl 2 rfl) ?_
    refine lv_sipush (v := 1000) hx hb dX9_commonDivisor_11 (by decide) ?_
    refine lv_icmp_ge (tgt := 45) hx hb dX9_commonDivisor_14 (by decide) (fun c1 => by exact absurd c1 (nI_ge (a := j) (b := 1000) (by omega) (by omega))) (fun c1 => ?_)
    refine lv_lload hx hb dX9_commonDivisor_17 (lv_at hl 1 rfl) ?_
    refine lv_lconst (v := 0) hx hb dX9_commonDivisor_19 (by decide) ?_
    refine W.lcmp hx hb dX9_commonDivisor_20 ?_
    refine lv_if_eq (tgt := 45) hx hb dX9_commonDivisor_21 (by decide) (fun c2 => ?_) (fun c2 => ?_)
    · have hB : B_X9_commonDivisor_9 j (x4, x6) = Sum.inr (x4, x6) := by
        unfold B_X9_commonDivisor_9
        exact (if_pos c2).trans (rfl)
      rw [lb_b hB] at kk
      exact kk _ _ _ hw (lv_sub hl [0] rfl)
    · replace hok := Eq.mp (if_neg c2) hok
      refine lv_lload hx hb dX9_commonDivisor_24 (lv_at hl 0 rfl) ?_
      refine lv_lload hx hb dX9_commonDivisor_26 (lv_at hl 1 rfl) ?_
      obtain ⟨h3, hok⟩ := hok
      refine lv_lrem hx hb dX9_commonDivisor_28 h3 ?_
      refine lv_lstore (lv' := [(9, .long (x4 - x4 / x6 * x6)), (4, .long x4), (6, .long x6), (8, .int (nI j))]) hx hb dX9_commonDivisor_29 hl (by decide) rfl (fun ls hl => ?_)
      refine lv_lload hx hb dX9_commonDivisor_31 (lv_at hl 2 rfl) ?_
      refine lv_lstore (lv' := [(4, .long x6), (9, .long (x4 - x4 / x6 * x6)), (6, .long x6), (8, .int (nI j))]) hx hb dX9_commonDivisor_33 hl (by decide) rfl (fun ls hl => ?_)
      refine lv_lload hx hb dX9_commonDivisor_35 (lv_at hl 1 rfl) ?_
      refine lv_lstore (lv' := [(6, .long (x4 - x4 / x6 * x6)), (4, .long x6), (9, .long (x4 - x4 / x6 * x6)), (8, .int (nI j))]) hx hb dX9_commonDivisor_37 hl (by decide) rfl (fun ls hl => ?_)
      refine lv_iinc (v := (nI (j + 1))) (lv' := [(8, .int (nI (j + 1))), (6, .long (x4 - x4 / x6 * x6)), (4, .long x6), (9, .long (x4 - x4 / x6 * x6))]) hx hb dX9_commonDivisor_39 hl (k := 3) rfl (nI_1 _) (by decide) rfl (fun ls hl => ?_)
      refine lv_goto (tgt := 9) hx hb dX9_commonDivisor_42 (by decide) ?_
      have hB : B_X9_commonDivisor_9 j (x4, x6) = Sum.inl (x6, (x4 - x4 / x6 * x6)) := by
        unfold B_X9_commonDivisor_9
        exact (if_neg c2).trans (rfl)
      rw [lb_c hB] at kk
      have hok2 := lbA_c hB hok0
      exact ih (j + 1) x6 (x4 - x4 / x6 * x6) (by omega) (by omega) hok2 _ _ hw _ (lv_sub hl [2, 1, 0] rfl) kk
def f_X9_commonDivisor (p1 : Int64) (p2 : Int64) : Int64 := (lb B_X9_commonDivisor_9 0 1000 (p1, p2)).1
def o_X9_commonDivisor (p1 : Int64) (p2 : Int64) : Prop := ((lbA oB_X9_commonDivisor_9 B_X9_commonDivisor_9 0 1000 (p1, p2)) ∧ True)
set_option maxHeartbeats 4000000 in
set_option maxRecDepth 100000 in
theorem T_X9_commonDivisor (l : Launch) (D : va_G) (cI cZ : ClassId) (p1 : Int64) (p2 : Int64) (hok : o_X9_commonDivisor p1 p2) : CT l D cI cZ yX9_commonDivisor wsX9_commonDivisor ({ frames := 0, cells := 0, slots := 0, locals := 0 }) [.long p1, .long p2] [] (some (.long (f_X9_commonDivisor p1 p2))) [] := by
  refine CT.intro RX9 (by decide) rfl (Nat.le_of_ble_eq_true rfl) rfl ?_
  intro p e s m below meth c C hr hw ls hl
  have hx := C.hx
  have hb := C.hb
  replace hl : lv_has ls 11 [(0, .long p1), (2, .long p2)] := hl
  refine lv_lload_n hx hb dX9_commonDivisor_0 rfl (lv_at hl 0 rfl) ?_
  refine lv_lstore (lv' := [(4, .long p1), (0, .long p1), (2, .long p2)]) hx hb dX9_commonDivisor_1 hl (by decide) rfl (fun ls hl => ?_)
  refine lv_lload_n hx hb dX9_commonDivisor_3 rfl (lv_at hl 2 rfl) ?_
  refine lv_lstore (lv' := [(6, .long p2), (4, .long p1), (0, .long p1), (2, .long p2)]) hx hb dX9_commonDivisor_4 hl (by decide) rfl (fun ls hl => ?_)
  refine lv_iconst (v := 0) hx hb dX9_commonDivisor_6 (by decide) ?_
  refine lv_istore (lv' := [(8, .int 0), (6, .long p2), (4, .long p1), (0, .long p1), (2, .long p2)]) hx hb dX9_commonDivisor_7 hl (by decide) rfl (fun ls hl => ?_)
  obtain ⟨h5, hok⟩ := hok
  refine l_X9_commonDivisor_9   C 1000 0 p1 p2 (by decide) (by decide) h5 _ _ hw _ (lv_sub hl [2, 1, 0] rfl) (fun H locs ls hw hl => ?_)
  replace hw : kW D _ s H locs [] := hw
  replace hl : lv_has ls 11 [(4, .long (lb B_X9_commonDivisor_9 0 1000 (p1, p2)).1)] := hl
  refine lv_lload hx hb dX9_commonDivisor_45 (lv_at hl 0 rfl) ?_
  rw [show f_X9_commonDivisor p1 p2 = (lb B_X9_commonDivisor_9 0 1000 (p1, p2)).1 from by
      unfold f_X9_commonDivisor
      exact rfl]
  exact k_lret C hr hw dX9_commonDivisor_47

def f_X9_waysToDraw (p1 : Int32) (p2 : Int32) : Int64 := (if (f_X9_within p1 (0 : Int32) (12 : Int32)) = 0 then 0 else (if (f_X9_within p2 (0 : Int32) p1) = 0 then 0 else (if 0 ≤ (lg_cmp ((factV p2.toNatClampNeg) * (factV (p1 - p2).toNatClampNeg)) 1) then (((factV p1.toNatClampNeg) / ((factV p2.toNatClampNeg) * (factV (p1 - p2).toNatClampNeg))) * (strV (p1 - p2).toNatClampNeg)) else 0)))
def o_X9_waysToDraw (p1 : Int32) (p2 : Int32) : Prop := (if (f_X9_within p1 (0 : Int32) (12 : Int32)) = 0 then True else (if (f_X9_within p2 (0 : Int32) p1) = 0 then True else ((vp_in p2 13) ∧ ((vp_in (p1 - p2) 13) ∧ (if 0 ≤ (lg_cmp ((factV p2.toNatClampNeg) * (factV (p1 - p2).toNatClampNeg)) 1) then ((vp_in p1 13) ∧ ((¬ ((factV p2.toNatClampNeg) * (factV (p1 - p2).toNatClampNeg)) = 0) ∧ ((vp_in (p1 - p2) 13) ∧ True))) else True)))))
set_option maxHeartbeats 4000000 in
set_option maxRecDepth 100000 in
theorem T_X9_waysToDraw (l : Launch) (D : va_G) (cI cZ : ClassId) (tF tS : Nat) (p1 : Int32) (p2 : Int32) (hok : o_X9_waysToDraw p1 p2) : CTz l D cI cZ tF tS yX9_waysToDraw wsX9_waysToDraw ({ frames := 1, cells := 0, slots := 0, locals := 22 }) [.int p1, .int p2] (some (.long (f_X9_waysToDraw p1 p2))) := by
  refine CTz.intro RX9 (by decide) rfl (Nat.le_of_ble_eq_true rfl) rfl ?_
  intro p e s m below meth c C hr hz hw ls hl
  have hx := C.hx
  have hb := C.hb
  replace hl : lv_has ls 4 [(0, .int p1), (1, .int p2)] := hl
  refine lv_iload_n hx hb dX9_waysToDraw_0 rfl (lv_at hl 0 rfl) ?_
  refine lv_iconst (v := 0) hx hb dX9_waysToDraw_1 (by decide) ?_
  refine lv_bipush (v := 12) hx hb dX9_waysToDraw_2 (by decide) ?_
  refine k_callS (As := [.int p1, .int 0, .int 12]) (rest := []) (n := 3) C hw (T_X9_within l D cI cZ p1 (0 : Int32) (12 : Int32)) gX9_waysToDraw_X9_within rfl ⟨rfl, rfl⟩ (by decide +kernel) ⟨Nat.le_of_ble_eq_true rfl, Nat.le_of_ble_eq_true rfl⟩ [] rfl rfl [] rfl rfl rfl hl.1 rfl (Nat.le_of_ble_eq_true rfl) ⟨Nat.zero_le _, Nat.zero_le _⟩ dX9_waysToDraw_4 (fun H locs hw => ?_)
  refine W.eq (g2 := F0 m 7 ls [.int (f_X9_within p1 (0 : Int32) (12 : Int32))]) rfl ?_
  replace hw : kW D _ s H locs [] := hw
  refine lv_if_eq (tgt := 19) hx hb dX9_waysToDraw_7 (by decide) (fun c1 => ?_) (fun c1 => ?_)
  · refine lv_lconst (v := 0) hx hb dX9_waysToDraw_19 (by decide) ?_
    rw [show f_X9_waysToDraw p1 p2 = 0 from by
        unfold f_X9_waysToDraw
        exact (if_pos c1).trans (rfl)]
    exact k_lret C hr hw dX9_waysToDraw_20
  · replace hok := Eq.mp (if_neg c1) hok
    refine lv_iload_n hx hb dX9_waysToDraw_10 rfl (lv_at hl 1 rfl) ?_
    refine lv_iconst (v := 0) hx hb dX9_waysToDraw_11 (by decide) ?_
    refine lv_iload_n hx hb dX9_waysToDraw_12 rfl (lv_at hl 0 rfl) ?_
    refine k_callS (As := [.int p2, .int 0, .int p1]) (rest := []) (n := 3) C hw (T_X9_within l D cI cZ p2 (0 : Int32) p1) gX9_waysToDraw_X9_within rfl ⟨rfl, rfl⟩ (by decide +kernel) ⟨Nat.le_of_ble_eq_true rfl, Nat.le_of_ble_eq_true rfl⟩ [] rfl rfl [] rfl rfl rfl hl.1 rfl (Nat.le_of_ble_eq_true rfl) ⟨Nat.zero_le _, Nat.zero_le _⟩ dX9_waysToDraw_13 (fun H locs hw => ?_)
    refine W.eq (g2 := F0 m 16 ls [.int (f_X9_within p2 (0 : Int32) p1)]) rfl ?_
    replace hw : kW D _ s H locs [] := hw
    refine lv_if_ne (tgt := 21) hx hb dX9_waysToDraw_16 (by decide) (fun c2 => ?_) (fun c2 => ?_)
    · replace hok := Eq.mp (if_neg c2) hok
      refine k_getF C hw hz (List.mem_of_getElem? (i := 1) rfl) dX9_waysToDraw_21 ?_
      refine lv_iload_n hx hb dX9_waysToDraw_24 rfl (lv_at hl 1 rfl) ?_
      obtain ⟨h3, hok⟩ := hok
      refine k_laldF C hw hz h3 dX9_waysToDraw_25 ?_
      refine k_getF C hw hz (List.mem_of_getElem? (i := 1) rfl) dX9_waysToDraw_26 ?_
      refine lv_iload_n hx hb dX9_waysToDraw_29 rfl (lv_at hl 0 rfl) ?_
      refine lv_iload_n hx hb dX9_waysToDraw_30 rfl (lv_at hl 1 rfl) ?_
      refine lv_isub hx hb dX9_waysToDraw_31 ?_
      obtain ⟨h4, hok⟩ := hok
      refine k_laldF C hw hz h4 dX9_waysToDraw_32 ?_
      refine lv_lmul hx hb dX9_waysToDraw_33 ?_
      refine lv_lstore_n (lv' := [(2, .long ((factV p2.toNatClampNeg) * (factV (p1 - p2).toNatClampNeg))), (0, .int p1), (1, .int p2)]) hx hb dX9_waysToDraw_34 rfl hl (by decide) rfl (fun ls hl => ?_)
      refine lv_lload_n hx hb dX9_waysToDraw_35 rfl (lv_at hl 0 rfl) ?_
      refine lv_lconst (v := 1) hx hb dX9_waysToDraw_36 (by decide) ?_
      refine W.lcmp hx hb dX9_waysToDraw_37 ?_
      refine lv_if_ge (tgt := 45) hx hb dX9_waysToDraw_38 (by decide) (fun c5 => ?_) (fun c5 => ?_)
      · replace hok := Eq.mp (if_pos c5) hok
        refine k_getF C hw hz (List.mem_of_getElem? (i := 1) rfl) dX9_waysToDraw_45 ?_
        refine lv_iload_n hx hb dX9_waysToDraw_48 rfl (lv_at hl 1 rfl) ?_
        obtain ⟨h6, hok⟩ := hok
        refine k_laldF C hw hz h6 dX9_waysToDraw_49 ?_
        refine lv_lload_n hx hb dX9_waysToDraw_50 rfl (lv_at hl 0 rfl) ?_
        obtain ⟨h7, hok⟩ := hok
        refine lv_ldiv hx hb dX9_waysToDraw_51 h7 ?_
        refine k_getS C hw hz (List.mem_of_getElem? (i := 2) rfl) dX9_waysToDraw_52 ?_
        refine lv_iload_n hx hb dX9_waysToDraw_55 rfl (lv_at hl 1 rfl) ?_
        refine lv_iload_n hx hb dX9_waysToDraw_56 rfl (lv_at hl 2 rfl) ?_
        refine lv_isub hx hb dX9_waysToDraw_57 ?_
        obtain ⟨h8, hok⟩ := hok
        refine k_laldS C hw hz h8 dX9_waysToDraw_58 ?_
        refine lv_lmul hx hb dX9_waysToDraw_59 ?_
        rw [show f_X9_waysToDraw p1 p2 = (((factV p1.toNatClampNeg) / ((factV p2.toNatClampNeg) * (factV (p1 - p2).toNatClampNeg))) * (strV (p1 - p2).toNatClampNeg)) from by
            unfold f_X9_waysToDraw
            exact (if_neg c1).trans ((if_neg c2).trans ((if_pos c5).trans (rfl)))]
        exact k_lret C hr hw dX9_waysToDraw_60
      · refine lv_lconst (v := 0) hx hb dX9_waysToDraw_41 (by decide) ?_
        refine lv_goto (tgt := 60) hx hb dX9_waysToDraw_42 (by decide) ?_
        rw [show f_X9_waysToDraw p1 p2 = 0 from by
            unfold f_X9_waysToDraw
            exact (if_neg c1).trans ((if_neg c2).trans ((if_neg c5).trans (rfl)))]
        exact k_lret C hr hw dX9_waysToDraw_60
    · refine lv_lconst (v := 0) hx hb dX9_waysToDraw_19 (by decide) ?_
      rw [show f_X9_waysToDraw p1 p2 = 0 from by
          unfold f_X9_waysToDraw
          exact (if_neg c1).trans ((if_pos c2).trans (rfl))]
      exact k_lret C hr hw dX9_waysToDraw_20

def B_X9_lots_59 (x1 : Int32) (j : Nat) (v : Int64) : Int64 := (v + (f_X9_waysToDraw x1 (nI j)))
def oB_X9_lots_59 (x1 : Int32) (j : Nat) (v : Int64) : Prop := ((o_X9_waysToDraw x1 (nI j)) ∧ True)
set_option maxHeartbeats 4000000 in
set_option maxRecDepth 100000 in
theorem l_X9_lots_59 {p : Program} {l : Launch} {e : Env} {s : State} {m : MethodId} {args : Array Value} {below : List Frame} {meth : Method} {c : Code} {D : va_G} {cI cZ : ClassId} {Q : State → Prop} {A : Nat → Prop} (tF tS : Nat) (x1 : Int32) (x4 : Int32) (x7 : Int32) (C : kC p s m args meth c cX9_lots 12 wsX9_lots RX9 D cI cZ A) (hz : kZ tF tS A s s.heap) (b : Nat) (hB : x7 = nI b) (hb31 : b < 2147483647) : ∀ (n j : Nat) (x5 : Int64), n = b + 1 - j → j < 2147483648 → itA (oB_X9_lots_59 x1) (B_X9_lots_59 x1) j n x5 → ∀ (H : Heap) (locs : List Loc), kW D A s H locs [] → ∀ (ls : Array Slot), lv_has ls 12 [(1, .int x1), (4, .int x4), (5, .long x5), (7, .int x7), (8, .int (nI j))] → (∀ (H : Heap) (locs : List Loc) (ls : Array Slot), kW D A s H locs [] → lv_has ls 12 [(1, .int x1), (4, .int x4), (5, .long (it (B_X9_lots_59 x1) j n x5))] → W p l e ({ frames := 2, cells := 0, slots := 0, locals := 45 }) s m args below meth c H locs 0 0 Q (F0 m 83 ls [])) → W p l e ({ frames := 2, cells := 0, slots := 0, locals := 45 }) s m args below meth c H locs 0 0 Q (F0 m 59 ls []) := by
  have hx := C.hx
  have hb := C.hb
  intro n
  induction n with
  | zero =>
    intro j x5 hn hj hok0 H locs hw ls hl kk
    refine lv_iload hx hb dX9_lots_59 (lv_at hl 4 rfl) ?_
    refine lv_iload hx hb dX9_lots_61 (lv_at hl 3 rfl) ?_
    refine lv_icmp_gt (tgt := 83) hx hb dX9_lots_63 (by decide) (fun c8 => ?_) (fun c8 => by rw [hB] at c8; exact absurd (nI_lt (a := b) (b := j) (by omega) (by omega)) c8)
    exact kk _ _ _ hw (lv_sub hl [0, 1, 2] rfl)
  | succ n ih =>
    intro j x5 hn hj hok0 H locs hw ls hl kk
    have hok := hok0.1
    refine lv_iload hx hb dX9_lots_59 (lv_at hl 4 rfl) ?_
    refine lv_iload hx hb dX9_lots_61 (lv_at hl 3 rfl) ?_
    refine lv_icmp_gt (tgt := 83) hx hb dX9_lots_63 (by decide) (fun c6 => by rw [hB] at c6; exact absurd c6 (nI_nlt (a := b) (b := j) (by omega) (by omega))) (fun c6 => ?_)
    refine lv_lload hx hb dX9_lots_66 (lv_at hl 2 rfl) ?_
    refine lv_iload_n hx hb dX9_lots_68 rfl (lv_at hl 0 rfl) ?_
    refine lv_iload hx hb dX9_lots_69 (lv_at hl 4 rfl) ?_
    obtain ⟨h7, hok⟩ := hok
    refine k_callSz (As := [.int x1, .int (nI j)]) (rest := [.long x5]) (n := 2) C hw hz (T_X9_waysToDraw l D cI cZ tF tS x1 (nI j) h7) gX9_lots_X9_waysToDraw rfl ⟨rfl, rfl⟩ (by decide +kernel) ⟨Nat.le_of_ble_eq_true rfl, Nat.le_of_ble_eq_true rfl⟩ rfl hl.1 rfl (Nat.le_of_ble_eq_true rfl) ⟨Nat.zero_le _, Nat.zero_le _⟩ dX9_lots_71 (fun H locs hw => ?_)
    refine W.eq (g2 := F0 m 74 ls [.long (f_X9_waysToDraw x1 (nI j)), .long x5]) rfl ?_
    replace hw : kW D _ s H locs [] := hw
    refine lv_ladd hx hb dX9_lots_74 ?_
    refine lv_lstore (lv' := [(5, .long (x5 + (f_X9_waysToDraw x1 (nI j)))), (1, .int x1), (4, .int x4), (7, .int x7), (8, .int (nI j))]) hx hb dX9_lots_75 hl (by decide) rfl (fun ls hl => ?_)
    refine lv_iinc (v := (nI (j + 1))) (lv' := [(8, .int (nI (j + 1))), (5, .long (x5 + (f_X9_waysToDraw x1 (nI j)))), (1, .int x1), (4, .int x4), (7, .int x7)]) hx hb dX9_lots_77 hl (k := 4) rfl (nI_1 _) (by decide) rfl (fun ls hl => ?_)
    refine lv_goto (tgt := 59) hx hb dX9_lots_80 (by decide) ?_
    have hB : B_X9_lots_59 x1 j x5 = (x5 + (f_X9_waysToDraw x1 (nI j))) := by
      unfold B_X9_lots_59
      exact rfl
    rw [it_c hB] at kk
    have hok2 := itA_c hB hok0
    exact ih (j + 1) (x5 + (f_X9_waysToDraw x1 (nI j))) (by omega) (by omega) hok2 _ _ hw _ (lv_sub hl [2, 3, 1, 4, 0] rfl) kk
def f_X9_lots (p1 : Int32) (p2 : Int32) (p3 : Int32) (p4 : Int32) : Int64 := (if (f_X9_within p1 (0 : Int32) (12 : Int32)) = 0 then (-1000000000000000002) else (if (f_X9_within p2 (0 : Int32) p1) = 0 then (-1000000000000000002) else (if (f_X9_within p3 (0 : Int32) (1 : Int32)) = 0 then (-1000000000000000002) else (if (f_X9_within p4 (0 : Int32) (1 : Int32)) = 0 then (-1000000000000000002) else (if p3 = 0 then (lt (it (B_X9_lots_59 p1) p2.toNatClampNeg ((p2.toNatClampNeg + 1) - p2.toNatClampNeg) (0 : Int64)) (fun z26 => (if 0 < (lg_cmp (f_X9_commonDivisor (factV p1.toNatClampNeg) z26) 0) then (if p4 = 0 then (z26 / (f_X9_commonDivisor (factV p1.toNatClampNeg) z26)) else ((factV p1.toNatClampNeg) / (f_X9_commonDivisor (factV p1.toNatClampNeg) z26))) else (if p4 = 0 then (z26 / 1) else ((factV p1.toNatClampNeg) / 1))))) else (lt (it (B_X9_lots_59 p1) p2.toNatClampNeg ((p1.toNatClampNeg + 1) - p2.toNatClampNeg) (0 : Int64)) (fun z13 => (if 0 < (lg_cmp (f_X9_commonDivisor (factV p1.toNatClampNeg) z13) 0) then (if p4 = 0 then (z13 / (f_X9_commonDivisor (factV p1.toNatClampNeg) z13)) else ((factV p1.toNatClampNeg) / (f_X9_commonDivisor (factV p1.toNatClampNeg) z13))) else (if p4 = 0 then (z13 / 1) else ((factV p1.toNatClampNeg) / 1))))))))))
def o_X9_lots (p1 : Int32) (p2 : Int32) (p3 : Int32) (p4 : Int32) : Prop := (if (f_X9_within p1 (0 : Int32) (12 : Int32)) = 0 then True else (if (f_X9_within p2 (0 : Int32) p1) = 0 then True else (if (f_X9_within p3 (0 : Int32) (1 : Int32)) = 0 then True else (if (f_X9_within p4 (0 : Int32) (1 : Int32)) = 0 then True else (if p3 = 0 then ((0 ≤ p2) ∧ ((0 ≤ p2) ∧ ((p2.toNatClampNeg < 2147483647) ∧ ((itA (oB_X9_lots_59 p1) (B_X9_lots_59 p1) p2.toNatClampNeg ((p2.toNatClampNeg + 1) - p2.toNatClampNeg) (0 : Int64)) ∧ (lt (it (B_X9_lots_59 p1) p2.toNatClampNeg ((p2.toNatClampNeg + 1) - p2.toNatClampNeg) (0 : Int64)) (fun z26 => ((vp_in p1 13) ∧ ((o_X9_commonDivisor (factV p1.toNatClampNeg) z26) ∧ (if 0 < (lg_cmp (f_X9_commonDivisor (factV p1.toNatClampNeg) z26) 0) then (if p4 = 0 then ((¬ (f_X9_commonDivisor (factV p1.toNatClampNeg) z26) = 0) ∧ True) else ((¬ (f_X9_commonDivisor (factV p1.toNatClampNeg) z26) = 0) ∧ True)) else True))))))))) else ((0 ≤ p2) ∧ ((0 ≤ p1) ∧ ((p1.toNatClampNeg < 2147483647) ∧ ((itA (oB_X9_lots_59 p1) (B_X9_lots_59 p1) p2.toNatClampNeg ((p1.toNatClampNeg + 1) - p2.toNatClampNeg) (0 : Int64)) ∧ (lt (it (B_X9_lots_59 p1) p2.toNatClampNeg ((p1.toNatClampNeg + 1) - p2.toNatClampNeg) (0 : Int64)) (fun z13 => ((vp_in p1 13) ∧ ((o_X9_commonDivisor (factV p1.toNatClampNeg) z13) ∧ (if 0 < (lg_cmp (f_X9_commonDivisor (factV p1.toNatClampNeg) z13) 0) then (if p4 = 0 then ((¬ (f_X9_commonDivisor (factV p1.toNatClampNeg) z13) = 0) ∧ True) else ((¬ (f_X9_commonDivisor (factV p1.toNatClampNeg) z13) = 0) ∧ True)) else True))))))))))))))
set_option maxHeartbeats 4000000 in
set_option maxRecDepth 100000 in
theorem T_X9_lots (l : Launch) (D : va_G) (cI cZ : ClassId) (tF tS : Nat) (a_t : Nat) (p1 : Int32) (p2 : Int32) (p3 : Int32) (p4 : Int32) (hok : o_X9_lots p1 p2 p3 p4) : CTz l D cI cZ tF tS yX9_lots wsX9_lots ({ frames := 2, cells := 0, slots := 0, locals := 45 }) [.ref a_t, .int p1, .int p2, .int p3, .int p4] (some (.long (f_X9_lots p1 p2 p3 p4))) := by
  refine CTz.intro RX9 (by decide) rfl (Nat.le_of_ble_eq_true rfl) rfl ?_
  intro p e s m below meth c C hr hz hw ls hl
  have hx := C.hx
  have hb := C.hb
  replace hl : lv_has ls 12 [(0, .ref a_t), (1, .int p1), (2, .int p2), (3, .int p3), (4, .int p4)] := hl
  refine lv_iload_n hx hb dX9_lots_0 rfl (lv_at hl 1 rfl) ?_
  refine lv_iconst (v := 0) hx hb dX9_lots_1 (by decide) ?_
  refine lv_bipush (v := 12) hx hb dX9_lots_2 (by decide) ?_
  refine k_callS (As := [.int p1, .int 0, .int 12]) (rest := []) (n := 3) C hw (T_X9_within l D cI cZ p1 (0 : Int32) (12 : Int32)) gX9_lots_X9_within rfl ⟨rfl, rfl⟩ (by decide +kernel) ⟨Nat.le_of_ble_eq_true rfl, Nat.le_of_ble_eq_true rfl⟩ [] rfl rfl [] rfl rfl rfl hl.1 rfl (Nat.le_of_ble_eq_true rfl) ⟨Nat.zero_le _, Nat.zero_le _⟩ dX9_lots_4 (fun H locs hw => ?_)
  refine W.eq (g2 := F0 m 7 ls [.int (f_X9_within p1 (0 : Int32) (12 : Int32))]) rfl ?_
  replace hw : kW D _ s H locs [] := hw
  refine lv_if_eq (tgt := 38) hx hb dX9_lots_7 (by decide) (fun c1 => ?_) (fun c1 => ?_)
  · refine lv_ldc2 (v := (-1000000000000000002)) hx hb C.hown (C.hts _ (List.mem_of_getElem? (i := 1) rfl)) dX9_lots_38 ?_
    rw [show f_X9_lots p1 p2 p3 p4 = (-1000000000000000002) from by
        unfold f_X9_lots
        exact (if_pos c1).trans (rfl)]
    exact k_lret C hr hw dX9_lots_41
  · replace hok := Eq.mp (if_neg c1) hok
    refine lv_iload_n hx hb dX9_lots_10 rfl (lv_at hl 2 rfl) ?_
    refine lv_iconst (v := 0) hx hb dX9_lots_11 (by decide) ?_
    refine lv_iload_n hx hb dX9_lots_12 rfl (lv_at hl 1 rfl) ?_
    refine k_callS (As := [.int p2, .int 0, .int p1]) (rest := []) (n := 3) C hw (T_X9_within l D cI cZ p2 (0 : Int32) p1) gX9_lots_X9_within rfl ⟨rfl, rfl⟩ (by decide +kernel) ⟨Nat.le_of_ble_eq_true rfl, Nat.le_of_ble_eq_true rfl⟩ [] rfl rfl [] rfl rfl rfl hl.1 rfl (Nat.le_of_ble_eq_true rfl) ⟨Nat.zero_le _, Nat.zero_le _⟩ dX9_lots_13 (fun H locs hw => ?_)
    refine W.eq (g2 := F0 m 16 ls [.int (f_X9_within p2 (0 : Int32) p1)]) rfl ?_
    replace hw : kW D _ s H locs [] := hw
    refine lv_if_eq (tgt := 38) hx hb dX9_lots_16 (by decide) (fun c2 => ?_) (fun c2 => ?_)
    · refine lv_ldc2 (v := (-1000000000000000002)) hx hb C.hown (C.hts _ (List.mem_of_getElem? (i := 1) rfl)) dX9_lots_38 ?_
      rw [show f_X9_lots p1 p2 p3 p4 = (-1000000000000000002) from by
          unfold f_X9_lots
          exact (if_neg c1).trans ((if_pos c2).trans (rfl))]
      exact k_lret C hr hw dX9_lots_41
    · replace hok := Eq.mp (if_neg c2) hok
      refine lv_iload_n hx hb dX9_lots_19 rfl (lv_at hl 3 rfl) ?_
      refine lv_iconst (v := 0) hx hb dX9_lots_20 (by decide) ?_
      refine lv_iconst (v := 1) hx hb dX9_lots_21 (by decide) ?_
      refine k_callS (As := [.int p3, .int 0, .int 1]) (rest := []) (n := 3) C hw (T_X9_within l D cI cZ p3 (0 : Int32) (1 : Int32)) gX9_lots_X9_within rfl ⟨rfl, rfl⟩ (by decide +kernel) ⟨Nat.le_of_ble_eq_true rfl, Nat.le_of_ble_eq_true rfl⟩ [] rfl rfl [] rfl rfl rfl hl.1 rfl (Nat.le_of_ble_eq_true rfl) ⟨Nat.zero_le _, Nat.zero_le _⟩ dX9_lots_22 (fun H locs hw => ?_)
      refine W.eq (g2 := F0 m 25 ls [.int (f_X9_within p3 (0 : Int32) (1 : Int32))]) rfl ?_
      replace hw : kW D _ s H locs [] := hw
      refine lv_if_eq (tgt := 38) hx hb dX9_lots_25 (by decide) (fun c3 => ?_) (fun c3 => ?_)
      · refine lv_ldc2 (v := (-1000000000000000002)) hx hb C.hown (C.hts _ (List.mem_of_getElem? (i := 1) rfl)) dX9_lots_38 ?_
        rw [show f_X9_lots p1 p2 p3 p4 = (-1000000000000000002) from by
            unfold f_X9_lots
            exact (if_neg c1).trans ((if_neg c2).trans ((if_pos c3).trans (rfl)))]
        exact k_lret C hr hw dX9_lots_41
      · replace hok := Eq.mp (if_neg c3) hok
        refine lv_iload hx hb dX9_lots_28 (lv_at hl 4 rfl) ?_
        refine lv_iconst (v := 0) hx hb dX9_lots_30 (by decide) ?_
        refine lv_iconst (v := 1) hx hb dX9_lots_31 (by decide) ?_
        refine k_callS (As := [.int p4, .int 0, .int 1]) (rest := []) (n := 3) C hw (T_X9_within l D cI cZ p4 (0 : Int32) (1 : Int32)) gX9_lots_X9_within rfl ⟨rfl, rfl⟩ (by decide +kernel) ⟨Nat.le_of_ble_eq_true rfl, Nat.le_of_ble_eq_true rfl⟩ [] rfl rfl [] rfl rfl rfl hl.1 rfl (Nat.le_of_ble_eq_true rfl) ⟨Nat.zero_le _, Nat.zero_le _⟩ dX9_lots_32 (fun H locs hw => ?_)
        refine W.eq (g2 := F0 m 35 ls [.int (f_X9_within p4 (0 : Int32) (1 : Int32))]) rfl ?_
        replace hw : kW D _ s H locs [] := hw
        refine lv_if_ne (tgt := 42) hx hb dX9_lots_35 (by decide) (fun c4 => ?_) (fun c4 => ?_)
        · replace hok := Eq.mp (if_neg c4) hok
          refine lv_lconst (v := 0) hx hb dX9_lots_42 (by decide) ?_
          refine lv_lstore (lv' := [(5, .long 0), (0, .ref a_t), (1, .int p1), (2, .int p2), (3, .int p3), (4, .int p4)]) hx hb dX9_lots_43 hl (by decide) rfl (fun ls hl => ?_)
          refine lv_iload_n hx hb dX9_lots_45 rfl (lv_at hl 4 rfl) ?_
          refine lv_if_ne (tgt := 53) hx hb dX9_lots_46 (by decide) (fun c5 => ?_) (fun c5 => ?_)
          · replace hok := Eq.mp (if_neg c5) hok
            refine lv_iload_n hx hb dX9_lots_53 rfl (lv_at hl 2 rfl) ?_
            refine lv_istore (lv' := [(7, .int p1), (5, .long 0), (0, .ref a_t), (1, .int p1), (2, .int p2), (3, .int p3), (4, .int p4)]) hx hb dX9_lots_54 hl (by decide) rfl (fun ls hl => ?_)
            refine lv_iload_n hx hb dX9_lots_56 rfl (lv_at hl 4 rfl) ?_
            refine lv_istore (lv' := [(8, .int p2), (7, .int p1), (5, .long 0), (0, .ref a_t), (1, .int p1), (2, .int p2), (3, .int p3), (4, .int p4)]) hx hb dX9_lots_57 hl (by decide) rfl (fun ls hl => ?_)
            obtain ⟨h9, hok⟩ := hok
            obtain ⟨h10, hok⟩ := hok
            obtain ⟨h11, hok⟩ := hok
            obtain ⟨h12, hok⟩ := hok
            have hl2 : lv_has ls 12 [(1, .int p1), (4, .int p4), (5, .long 0), (7, .int p1), (8, .int (nI p2.toNatClampNeg))] := by
              rw [← nI_self h9]
              exact (lv_sub hl [4, 7, 2, 1, 0] rfl)
            refine l_X9_lots_59 tF tS  p1 p4 p1 C hz p1.toNatClampNeg (nI_self h10) h11 ((p1.toNatClampNeg + 1) - p2.toNatClampNeg) p2.toNatClampNeg (0 : Int64) rfl (by exact clamp_lt _) h12 _ _ hw _ hl2 (fun H locs ls hw hl => ?_)
            obtain ⟨z13, h14⟩ : ∃ z, (it (B_X9_lots_59 p1) p2.toNatClampNeg ((p1.toNatClampNeg + 1) - p2.toNatClampNeg) (0 : Int64)) = z := ⟨_, rfl⟩
            replace hw := kW_cast (ws' := []) (by subst h14; rfl) hw
            replace hl : lv_has ls 12 [(1, .int p1), (4, .int p4), (5, .long z13)] := by subst h14; exact hl
            replace hok := Eq.mp (lt_c h14) hok
            refine k_getF C hw hz (List.mem_of_getElem? (i := 2) rfl) dX9_lots_83 ?_
            refine lv_iload_n hx hb dX9_lots_86 rfl (lv_at hl 0 rfl) ?_
            obtain ⟨h15, hok⟩ := hok
            refine k_laldF C hw hz h15 dX9_lots_87 ?_
            refine lv_lstore (lv' := [(8, .long (factV p1.toNatClampNeg)), (1, .int p1), (4, .int p4), (5, .long z13)]) hx hb dX9_lots_88 hl (by decide) rfl (fun ls hl => ?_)
            refine lv_lload hx hb dX9_lots_90 (lv_at hl 0 rfl) ?_
            refine lv_lload hx hb dX9_lots_92 (lv_at hl 3 rfl) ?_
            obtain ⟨h16, hok⟩ := hok
            refine k_callS (As := [.long (factV p1.toNatClampNeg), .long z13]) (rest := []) (n := 2) C hw (T_X9_commonDivisor l D cI cZ (factV p1.toNatClampNeg) z13 h16) gX9_lots_X9_commonDivisor rfl ⟨rfl, rfl⟩ (by decide +kernel) ⟨Nat.le_of_ble_eq_true rfl, Nat.le_of_ble_eq_true rfl⟩ [] rfl rfl [] rfl rfl rfl hl.1 rfl (Nat.le_of_ble_eq_true rfl) ⟨Nat.zero_le _, Nat.zero_le _⟩ dX9_lots_94 (fun H locs hw => ?_)
            refine W.eq (g2 := F0 m 97 ls [.long (f_X9_commonDivisor (factV p1.toNatClampNeg) z13)]) rfl ?_
            replace hw : kW D _ s H locs [] := hw
            refine lv_lstore (lv' := [(10, .long (f_X9_commonDivisor (factV p1.toNatClampNeg) z13)), (8, .long (factV p1.toNatClampNeg)), (1, .int p1), (4, .int p4), (5, .long z13)]) hx hb dX9_lots_97 hl (by decide) rfl (fun ls hl => ?_)
            refine lv_lload hx hb dX9_lots_99 (lv_at hl 0 rfl) ?_
            refine lv_lconst (v := 0) hx hb dX9_lots_101 (by decide) ?_
            refine W.lcmp hx hb dX9_lots_102 ?_
            refine lv_if_gt (tgt := 109) hx hb dX9_lots_103 (by decide) (fun c17 => ?_) (fun c17 => ?_)
            · replace hok := Eq.mp (if_pos c17) hok
              refine lv_iload hx hb dX9_lots_109 (lv_at hl 3 rfl) ?_
              refine lv_if_ne (tgt := 122) hx hb dX9_lots_111 (by decide) (fun c18 => ?_) (fun c18 => ?_)
              · replace hok := Eq.mp (if_neg c18) hok
                refine lv_lload hx hb dX9_lots_122 (lv_at hl 1 rfl) ?_
                refine lv_lload hx hb dX9_lots_124 (lv_at hl 0 rfl) ?_
                obtain ⟨h19, hok⟩ := hok
                refine lv_ldiv hx hb dX9_lots_126 h19 ?_
                rw [show f_X9_lots p1 p2 p3 p4 = ((factV p1.toNatClampNeg) / (f_X9_commonDivisor (factV p1.toNatClampNeg) z13)) from by
                    unfold f_X9_lots
                    exact (if_neg c1).trans ((if_neg c2).trans ((if_neg c3).trans ((if_neg c4).trans ((if_neg c5).trans ((lt_c h14).trans ((if_pos c17).trans ((if_neg c18).trans (rfl))))))))]
                exact k_lret C hr hw dX9_lots_127
              · replace hok := Eq.mp (if_pos c18) hok
                refine lv_lload hx hb dX9_lots_114 (lv_at hl 4 rfl) ?_
                refine lv_lload hx hb dX9_lots_116 (lv_at hl 0 rfl) ?_
                obtain ⟨h20, hok⟩ := hok
                refine lv_ldiv hx hb dX9_lots_118 h20 ?_
                refine lv_goto (tgt := 127) hx hb dX9_lots_119 (by decide) ?_
                rw [show f_X9_lots p1 p2 p3 p4 = (z13 / (f_X9_commonDivisor (factV p1.toNatClampNeg) z13)) from by
                    unfold f_X9_lots
                    exact (if_neg c1).trans ((if_neg c2).trans ((if_neg c3).trans ((if_neg c4).trans ((if_neg c5).trans ((lt_c h14).trans ((if_pos c17).trans ((if_pos c18).trans (rfl))))))))]
                exact k_lret C hr hw dX9_lots_127
            · refine lv_lconst (v := 1) hx hb dX9_lots_106 (by decide) ?_
              refine lv_lstore (lv' := [(10, .long 1), (8, .long (factV p1.toNatClampNeg)), (1, .int p1), (4, .int p4), (5, .long z13)]) hx hb dX9_lots_107 hl (by decide) rfl (fun ls hl => ?_)
              refine lv_iload hx hb dX9_lots_109 (lv_at hl 3 rfl) ?_
              refine lv_if_ne (tgt := 122) hx hb dX9_lots_111 (by decide) (fun c21 => ?_) (fun c21 => ?_)
              · refine lv_lload hx hb dX9_lots_122 (lv_at hl 1 rfl) ?_
                refine lv_lload hx hb dX9_lots_124 (lv_at hl 0 rfl) ?_
                refine lv_ldiv hx hb dX9_lots_126 (by decide) ?_
                rw [show f_X9_lots p1 p2 p3 p4 = ((factV p1.toNatClampNeg) / 1) from by
                    unfold f_X9_lots
                    exact (if_neg c1).trans ((if_neg c2).trans ((if_neg c3).trans ((if_neg c4).trans ((if_neg c5).trans ((lt_c h14).trans ((if_neg c17).trans ((if_neg c21).trans (rfl))))))))]
                exact k_lret C hr hw dX9_lots_127
              · refine lv_lload hx hb dX9_lots_114 (lv_at hl 4 rfl) ?_
                refine lv_lload hx hb dX9_lots_116 (lv_at hl 0 rfl) ?_
                refine lv_ldiv hx hb dX9_lots_118 (by decide) ?_
                refine lv_goto (tgt := 127) hx hb dX9_lots_119 (by decide) ?_
                rw [show f_X9_lots p1 p2 p3 p4 = (z13 / 1) from by
                    unfold f_X9_lots
                    exact (if_neg c1).trans ((if_neg c2).trans ((if_neg c3).trans ((if_neg c4).trans ((if_neg c5).trans ((lt_c h14).trans ((if_neg c17).trans ((if_pos c21).trans (rfl))))))))]
                exact k_lret C hr hw dX9_lots_127
          · replace hok := Eq.mp (if_pos c5) hok
            refine lv_iload_n hx hb dX9_lots_49 rfl (lv_at hl 3 rfl) ?_
            refine lv_goto (tgt := 54) hx hb dX9_lots_50 (by decide) ?_
            refine lv_istore (lv' := [(7, .int p2), (5, .long 0), (0, .ref a_t), (1, .int p1), (2, .int p2), (3, .int p3), (4, .int p4)]) hx hb dX9_lots_54 hl (by decide) rfl (fun ls hl => ?_)
            refine lv_iload_n hx hb dX9_lots_56 rfl (lv_at hl 4 rfl) ?_
            refine lv_istore (lv' := [(8, .int p2), (7, .int p2), (5, .long 0), (0, .ref a_t), (1, .int p1), (2, .int p2), (3, .int p3), (4, .int p4)]) hx hb dX9_lots_57 hl (by decide) rfl (fun ls hl => ?_)
            obtain ⟨h22, hok⟩ := hok
            obtain ⟨h23, hok⟩ := hok
            obtain ⟨h24, hok⟩ := hok
            obtain ⟨h25, hok⟩ := hok
            have hl2 : lv_has ls 12 [(1, .int p1), (4, .int p4), (5, .long 0), (7, .int p2), (8, .int (nI p2.toNatClampNeg))] := by
              rw [← nI_self h22]
              exact (lv_sub hl [4, 7, 2, 1, 0] rfl)
            refine l_X9_lots_59 tF tS  p1 p4 p2 C hz p2.toNatClampNeg (nI_self h23) h24 ((p2.toNatClampNeg + 1) - p2.toNatClampNeg) p2.toNatClampNeg (0 : Int64) rfl (by exact clamp_lt _) h25 _ _ hw _ hl2 (fun H locs ls hw hl => ?_)
            obtain ⟨z26, h27⟩ : ∃ z, (it (B_X9_lots_59 p1) p2.toNatClampNeg ((p2.toNatClampNeg + 1) - p2.toNatClampNeg) (0 : Int64)) = z := ⟨_, rfl⟩
            replace hw := kW_cast (ws' := []) (by subst h27; rfl) hw
            replace hl : lv_has ls 12 [(1, .int p1), (4, .int p4), (5, .long z26)] := by subst h27; exact hl
            replace hok := Eq.mp (lt_c h27) hok
            refine k_getF C hw hz (List.mem_of_getElem? (i := 2) rfl) dX9_lots_83 ?_
            refine lv_iload_n hx hb dX9_lots_86 rfl (lv_at hl 0 rfl) ?_
            obtain ⟨h28, hok⟩ := hok
            refine k_laldF C hw hz h28 dX9_lots_87 ?_
            refine lv_lstore (lv' := [(8, .long (factV p1.toNatClampNeg)), (1, .int p1), (4, .int p4), (5, .long z26)]) hx hb dX9_lots_88 hl (by decide) rfl (fun ls hl => ?_)
            refine lv_lload hx hb dX9_lots_90 (lv_at hl 0 rfl) ?_
            refine lv_lload hx hb dX9_lots_92 (lv_at hl 3 rfl) ?_
            obtain ⟨h29, hok⟩ := hok
            refine k_callS (As := [.long (factV p1.toNatClampNeg), .long z26]) (rest := []) (n := 2) C hw (T_X9_commonDivisor l D cI cZ (factV p1.toNatClampNeg) z26 h29) gX9_lots_X9_commonDivisor rfl ⟨rfl, rfl⟩ (by decide +kernel) ⟨Nat.le_of_ble_eq_true rfl, Nat.le_of_ble_eq_true rfl⟩ [] rfl rfl [] rfl rfl rfl hl.1 rfl (Nat.le_of_ble_eq_true rfl) ⟨Nat.zero_le _, Nat.zero_le _⟩ dX9_lots_94 (fun H locs hw => ?_)
            refine W.eq (g2 := F0 m 97 ls [.long (f_X9_commonDivisor (factV p1.toNatClampNeg) z26)]) rfl ?_
            replace hw : kW D _ s H locs [] := hw
            refine lv_lstore (lv' := [(10, .long (f_X9_commonDivisor (factV p1.toNatClampNeg) z26)), (8, .long (factV p1.toNatClampNeg)), (1, .int p1), (4, .int p4), (5, .long z26)]) hx hb dX9_lots_97 hl (by decide) rfl (fun ls hl => ?_)
            refine lv_lload hx hb dX9_lots_99 (lv_at hl 0 rfl) ?_
            refine lv_lconst (v := 0) hx hb dX9_lots_101 (by decide) ?_
            refine W.lcmp hx hb dX9_lots_102 ?_
            refine lv_if_gt (tgt := 109) hx hb dX9_lots_103 (by decide) (fun c30 => ?_) (fun c30 => ?_)
            · replace hok := Eq.mp (if_pos c30) hok
              refine lv_iload hx hb dX9_lots_109 (lv_at hl 3 rfl) ?_
              refine lv_if_ne (tgt := 122) hx hb dX9_lots_111 (by decide) (fun c31 => ?_) (fun c31 => ?_)
              · replace hok := Eq.mp (if_neg c31) hok
                refine lv_lload hx hb dX9_lots_122 (lv_at hl 1 rfl) ?_
                refine lv_lload hx hb dX9_lots_124 (lv_at hl 0 rfl) ?_
                obtain ⟨h32, hok⟩ := hok
                refine lv_ldiv hx hb dX9_lots_126 h32 ?_
                rw [show f_X9_lots p1 p2 p3 p4 = ((factV p1.toNatClampNeg) / (f_X9_commonDivisor (factV p1.toNatClampNeg) z26)) from by
                    unfold f_X9_lots
                    exact (if_neg c1).trans ((if_neg c2).trans ((if_neg c3).trans ((if_neg c4).trans ((if_pos c5).trans ((lt_c h27).trans ((if_pos c30).trans ((if_neg c31).trans (rfl))))))))]
                exact k_lret C hr hw dX9_lots_127
              · replace hok := Eq.mp (if_pos c31) hok
                refine lv_lload hx hb dX9_lots_114 (lv_at hl 4 rfl) ?_
                refine lv_lload hx hb dX9_lots_116 (lv_at hl 0 rfl) ?_
                obtain ⟨h33, hok⟩ := hok
                refine lv_ldiv hx hb dX9_lots_118 h33 ?_
                refine lv_goto (tgt := 127) hx hb dX9_lots_119 (by decide) ?_
                rw [show f_X9_lots p1 p2 p3 p4 = (z26 / (f_X9_commonDivisor (factV p1.toNatClampNeg) z26)) from by
                    unfold f_X9_lots
                    exact (if_neg c1).trans ((if_neg c2).trans ((if_neg c3).trans ((if_neg c4).trans ((if_pos c5).trans ((lt_c h27).trans ((if_pos c30).trans ((if_pos c31).trans (rfl))))))))]
                exact k_lret C hr hw dX9_lots_127
            · refine lv_lconst (v := 1) hx hb dX9_lots_106 (by decide) ?_
              refine lv_lstore (lv' := [(10, .long 1), (8, .long (factV p1.toNatClampNeg)), (1, .int p1), (4, .int p4), (5, .long z26)]) hx hb dX9_lots_107 hl (by decide) rfl (fun ls hl => ?_)
              refine lv_iload hx hb dX9_lots_109 (lv_at hl 3 rfl) ?_
              refine lv_if_ne (tgt := 122) hx hb dX9_lots_111 (by decide) (fun c34 => ?_) (fun c34 => ?_)
              · refine lv_lload hx hb dX9_lots_122 (lv_at hl 1 rfl) ?_
                refine lv_lload hx hb dX9_lots_124 (lv_at hl 0 rfl) ?_
                refine lv_ldiv hx hb dX9_lots_126 (by decide) ?_
                rw [show f_X9_lots p1 p2 p3 p4 = ((factV p1.toNatClampNeg) / 1) from by
                    unfold f_X9_lots
                    exact (if_neg c1).trans ((if_neg c2).trans ((if_neg c3).trans ((if_neg c4).trans ((if_pos c5).trans ((lt_c h27).trans ((if_neg c30).trans ((if_neg c34).trans (rfl))))))))]
                exact k_lret C hr hw dX9_lots_127
              · refine lv_lload hx hb dX9_lots_114 (lv_at hl 4 rfl) ?_
                refine lv_lload hx hb dX9_lots_116 (lv_at hl 0 rfl) ?_
                refine lv_ldiv hx hb dX9_lots_118 (by decide) ?_
                refine lv_goto (tgt := 127) hx hb dX9_lots_119 (by decide) ?_
                rw [show f_X9_lots p1 p2 p3 p4 = (z26 / 1) from by
                    unfold f_X9_lots
                    exact (if_neg c1).trans ((if_neg c2).trans ((if_neg c3).trans ((if_neg c4).trans ((if_pos c5).trans ((lt_c h27).trans ((if_neg c30).trans ((if_pos c34).trans (rfl))))))))]
                exact k_lret C hr hw dX9_lots_127
        · refine lv_ldc2 (v := (-1000000000000000002)) hx hb C.hown (C.hts _ (List.mem_of_getElem? (i := 1) rfl)) dX9_lots_38 ?_
          rw [show f_X9_lots p1 p2 p3 p4 = (-1000000000000000002) from by
              unfold f_X9_lots
              exact (if_neg c1).trans ((if_neg c2).trans ((if_neg c3).trans ((if_pos c4).trans (rfl))))]
          exact k_lret C hr hw dX9_lots_41

theorem nX9_drawAct_X9 : ∀ w ∈ wsX90, w ∈ wsX9_drawAct := fun _ h => List.mem_cons_of_mem _ (List.mem_append_left _ (List.mem_append_left _ (List.mem_append_right _ h)))
def f_X9_drawAct (v_t_trial_gifts : Int32) (v_t_trial_parish_inside : Int32) (v_t_trial_parish_next : Int32) (v_t_trial_parish_year : Int32) (g_t_trial_parish_wealth : (Nat → Int32)) (g_t_trial_parish_row : (Nat → Int32)) (g_t_trial_parish_given : (Nat → Int32)) (p1 : Int32) : Int32 × Int32 × Int32 × Int32 × (Nat → Int32) × (Nat → Int32) × (Nat → Int32) := (if ((p1 / 8) - (p1 / 8) / 8 * 8) = 0 then (lt (f_X8_attempt v_t_trial_gifts v_t_trial_parish_inside v_t_trial_parish_next v_t_trial_parish_year g_t_trial_parish_wealth g_t_trial_parish_row g_t_trial_parish_given (0 : Int32) (p1 - p1 / 8 * 8) (p1 - p1 / 8 * 8) (0 : Int32)) (fun z18 => (z18.2.1, z18.2.2.1, z18.2.2.2.1, z18.2.2.2.2.1, z18.2.2.2.2.2.1, z18.2.2.2.2.2.2.1, z18.2.2.2.2.2.2.2))) else (if ((p1 / 8) - (p1 / 8) / 8 * 8) = 1 then (lt (f_X8_attempt v_t_trial_gifts v_t_trial_parish_inside v_t_trial_parish_next v_t_trial_parish_year g_t_trial_parish_wealth g_t_trial_parish_row g_t_trial_parish_given (1 : Int32) (p1 - p1 / 8 * 8) (p1 - p1 / 8 * 8) (0 : Int32)) (fun z15 => (z15.2.1, z15.2.2.1, z15.2.2.2.1, z15.2.2.2.2.1, z15.2.2.2.2.2.1, z15.2.2.2.2.2.2.1, z15.2.2.2.2.2.2.2))) else (if 4 < ((p1 / 8) - (p1 / 8) / 8 * 8) then (if ((p1 / 8) - (p1 / 8) / 8 * 8) = 5 then (lt (f_X8_attempt v_t_trial_gifts v_t_trial_parish_inside v_t_trial_parish_next v_t_trial_parish_year g_t_trial_parish_wealth g_t_trial_parish_row g_t_trial_parish_given (3 : Int32) (p1 - p1 / 8 * 8) ((p1 / 64) - (p1 / 64) / 8 * 8) (0 : Int32)) (fun z9 => (z9.2.1, z9.2.2.1, z9.2.2.2.1, z9.2.2.2.2.1, z9.2.2.2.2.2.1, z9.2.2.2.2.2.2.1, z9.2.2.2.2.2.2.2))) else (lt (f_X8_attempt v_t_trial_gifts v_t_trial_parish_inside v_t_trial_parish_next v_t_trial_parish_year g_t_trial_parish_wealth g_t_trial_parish_row g_t_trial_parish_given (4 : Int32) (p1 - p1 / 8 * 8) (p1 - p1 / 8 * 8) (0 : Int32)) (fun z6 => (z6.2.1, z6.2.2.1, z6.2.2.2.1, z6.2.2.2.2.1, z6.2.2.2.2.2.1, z6.2.2.2.2.2.2.1, z6.2.2.2.2.2.2.2)))) else (lt (f_X8_attempt v_t_trial_gifts v_t_trial_parish_inside v_t_trial_parish_next v_t_trial_parish_year g_t_trial_parish_wealth g_t_trial_parish_row g_t_trial_parish_given (2 : Int32) (p1 - p1 / 8 * 8) ((p1 / 64) - (p1 / 64) / 8 * 8) ((((p1 / 64) / 8) - ((p1 / 64) / 8) / 9 * 9) + 1)) (fun z12 => (z12.2.1, z12.2.2.1, z12.2.2.2.1, z12.2.2.2.2.1, z12.2.2.2.2.2.1, z12.2.2.2.2.2.2.1, z12.2.2.2.2.2.2.2))))))
def o_X9_drawAct (v_t_trial_parish_inside : Int32) (v_t_trial_parish_next : Int32) (v_t_trial_parish_year : Int32) (g_t_trial_parish_wealth : (Nat → Int32)) (p1 : Int32) : Prop := (if ((p1 / 8) - (p1 / 8) / 8 * 8) = 0 then ((o_X8_attempt v_t_trial_parish_inside v_t_trial_parish_next v_t_trial_parish_year g_t_trial_parish_wealth (0 : Int32) (p1 - p1 / 8 * 8) (p1 - p1 / 8 * 8) (0 : Int32)) ∧ True) else (if ((p1 / 8) - (p1 / 8) / 8 * 8) = 1 then ((o_X8_attempt v_t_trial_parish_inside v_t_trial_parish_next v_t_trial_parish_year g_t_trial_parish_wealth (1 : Int32) (p1 - p1 / 8 * 8) (p1 - p1 / 8 * 8) (0 : Int32)) ∧ True) else (if 4 < ((p1 / 8) - (p1 / 8) / 8 * 8) then (if ((p1 / 8) - (p1 / 8) / 8 * 8) = 5 then ((o_X8_attempt v_t_trial_parish_inside v_t_trial_parish_next v_t_trial_parish_year g_t_trial_parish_wealth (3 : Int32) (p1 - p1 / 8 * 8) ((p1 / 64) - (p1 / 64) / 8 * 8) (0 : Int32)) ∧ True) else ((o_X8_attempt v_t_trial_parish_inside v_t_trial_parish_next v_t_trial_parish_year g_t_trial_parish_wealth (4 : Int32) (p1 - p1 / 8 * 8) (p1 - p1 / 8 * 8) (0 : Int32)) ∧ True)) else ((o_X8_attempt v_t_trial_parish_inside v_t_trial_parish_next v_t_trial_parish_year g_t_trial_parish_wealth (2 : Int32) (p1 - p1 / 8 * 8) ((p1 / 64) - (p1 / 64) / 8 * 8) ((((p1 / 64) / 8) - ((p1 / 64) / 8) / 9 * 9) + 1)) ∧ True))))
set_option maxHeartbeats 4000000 in
set_option maxRecDepth 100000 in
theorem T_X9_drawAct (l : Launch) (D : va_G) (cI cZ : ClassId) (a_t a_t_parish a_t_kinship a_t_sights a_t_pad a_t_trial a_t_evening a_t_rows a_t_guess a_t_imageZero a_t_imageOne a_t_trial_parish a_t_trial_parish_wealth a_t_trial_parish_given a_t_trial_parish_row : Nat) (v_t_trial_wrongAct : Int32) (v_t_trial_reason : Int32) (v_t_trial_gifts : Int32) (v_t_trial_firstAct : Int32) (v_t_trial_firstHouse : Int32) (v_t_trial_parish_inside : Int32) (v_t_trial_parish_next : Int32) (v_t_trial_parish_year : Int32) (g_t_trial_parish_wealth : (Nat → Int32)) (g_t_trial_parish_row : (Nat → Int32)) (g_t_trial_parish_given : (Nat → Int32)) (p1 : Int32) (hok : o_X9_drawAct v_t_trial_parish_inside v_t_trial_parish_next v_t_trial_parish_year g_t_trial_parish_wealth p1) : CT l D cI cZ yX9_drawAct wsX9_drawAct ({ frames := 4, cells := 0, slots := 0, locals := 94 }) [.ref a_t, .int p1] [(a_t, .inr (9, [.ref a_t_parish, .ref a_t_kinship, .ref a_t_sights, .ref a_t_pad, .ref a_t_trial, .ref a_t_evening, .ref a_t_rows, .ref a_t_guess, .ref a_t_imageZero, .ref a_t_imageOne])), (a_t_trial, .inr (8, [.ref a_t_trial_parish, .int v_t_trial_wrongAct, .int v_t_trial_reason, .int v_t_trial_gifts, .int v_t_trial_firstAct, .int v_t_trial_firstHouse])), (a_t_trial_parish, .inr (5, [.ref a_t_trial_parish_wealth, .ref a_t_trial_parish_given, .ref a_t_trial_parish_row, .int v_t_trial_parish_inside, .int v_t_trial_parish_next, .int v_t_trial_parish_year])), (a_t_trial_parish_wealth, .inl (cI, 8, .inl g_t_trial_parish_wealth)), (a_t_trial_parish_row, .inl (cI, 8, .inl g_t_trial_parish_row)), (a_t_trial_parish_given, .inl (cI, 64, .inl g_t_trial_parish_given))] none [(a_t, .inr (9, [.ref a_t_parish, .ref a_t_kinship, .ref a_t_sights, .ref a_t_pad, .ref a_t_trial, .ref a_t_evening, .ref a_t_rows, .ref a_t_guess, .ref a_t_imageZero, .ref a_t_imageOne])), (a_t_trial, .inr (8, [.ref a_t_trial_parish, .int v_t_trial_wrongAct, .int v_t_trial_reason, .int (f_X9_drawAct v_t_trial_gifts v_t_trial_parish_inside v_t_trial_parish_next v_t_trial_parish_year g_t_trial_parish_wealth g_t_trial_parish_row g_t_trial_parish_given p1).1, .int v_t_trial_firstAct, .int v_t_trial_firstHouse])), (a_t_trial_parish, .inr (5, [.ref a_t_trial_parish_wealth, .ref a_t_trial_parish_given, .ref a_t_trial_parish_row, .int (f_X9_drawAct v_t_trial_gifts v_t_trial_parish_inside v_t_trial_parish_next v_t_trial_parish_year g_t_trial_parish_wealth g_t_trial_parish_row g_t_trial_parish_given p1).2.1, .int (f_X9_drawAct v_t_trial_gifts v_t_trial_parish_inside v_t_trial_parish_next v_t_trial_parish_year g_t_trial_parish_wealth g_t_trial_parish_row g_t_trial_parish_given p1).2.2.1, .int (f_X9_drawAct v_t_trial_gifts v_t_trial_parish_inside v_t_trial_parish_next v_t_trial_parish_year g_t_trial_parish_wealth g_t_trial_parish_row g_t_trial_parish_given p1).2.2.2.1])), (a_t_trial_parish_wealth, .inl (cI, 8, .inl (f_X9_drawAct v_t_trial_gifts v_t_trial_parish_inside v_t_trial_parish_next v_t_trial_parish_year g_t_trial_parish_wealth g_t_trial_parish_row g_t_trial_parish_given p1).2.2.2.2.1)), (a_t_trial_parish_row, .inl (cI, 8, .inl (f_X9_drawAct v_t_trial_gifts v_t_trial_parish_inside v_t_trial_parish_next v_t_trial_parish_year g_t_trial_parish_wealth g_t_trial_parish_row g_t_trial_parish_given p1).2.2.2.2.2.1)), (a_t_trial_parish_given, .inl (cI, 64, .inl (f_X9_drawAct v_t_trial_gifts v_t_trial_parish_inside v_t_trial_parish_next v_t_trial_parish_year g_t_trial_parish_wealth g_t_trial_parish_row g_t_trial_parish_given p1).2.2.2.2.2.2))] := by
  refine CT.intro RX9 (by decide) rfl (Nat.le_of_ble_eq_true rfl) rfl ?_
  intro p e s m below meth c C hr hw ls hl
  have hx := C.hx
  have hb := C.hb
  replace hl : lv_has ls 5 [(0, .ref a_t), (1, .int p1)] := hl
  refine lv_iload_n hx hb dX9_drawAct_0 rfl (lv_at hl 1 rfl) ?_
  refine lv_bipush (v := 8) hx hb dX9_drawAct_1 (by decide) ?_
  refine lv_irem hx hb dX9_drawAct_3 (by decide) ?_
  refine lv_istore_n (lv' := [(2, .int (p1 - p1 / 8 * 8)), (0, .ref a_t), (1, .int p1)]) hx hb dX9_drawAct_4 rfl hl (by decide) rfl (fun ls hl => ?_)
  refine lv_iload_n hx hb dX9_drawAct_5 rfl (lv_at hl 2 rfl) ?_
  refine lv_bipush (v := 8) hx hb dX9_drawAct_6 (by decide) ?_
  refine lv_idiv hx hb dX9_drawAct_8 (by decide) ?_
  refine lv_bipush (v := 8) hx hb dX9_drawAct_9 (by decide) ?_
  refine lv_irem hx hb dX9_drawAct_11 (by decide) ?_
  refine lv_istore_n (lv' := [(3, .int ((p1 / 8) - (p1 / 8) / 8 * 8)), (2, .int (p1 - p1 / 8 * 8)), (0, .ref a_t), (1, .int p1)]) hx hb dX9_drawAct_12 rfl hl (by decide) rfl (fun ls hl => ?_)
  refine lv_iload_n hx hb dX9_drawAct_13 rfl (lv_at hl 3 rfl) ?_
  refine lv_bipush (v := 64) hx hb dX9_drawAct_14 (by decide) ?_
  refine lv_idiv hx hb dX9_drawAct_16 (by decide) ?_
  refine lv_istore (lv' := [(4, .int (p1 / 64)), (3, .int ((p1 / 8) - (p1 / 8) / 8 * 8)), (2, .int (p1 - p1 / 8 * 8)), (0, .ref a_t), (1, .int p1)]) hx hb dX9_drawAct_17 hl (by decide) rfl (fun ls hl => ?_)
  refine lv_iload_n hx hb dX9_drawAct_19 rfl (lv_at hl 1 rfl) ?_
  refine lv_if_ne (tgt := 38) hx hb dX9_drawAct_20 (by decide) (fun c1 => ?_) (fun c1 => ?_)
  · replace hok := Eq.mp (if_neg c1) hok
    refine lv_iload_n hx hb dX9_drawAct_38 rfl (lv_at hl 1 rfl) ?_
    refine lv_iconst (v := 1) hx hb dX9_drawAct_39 (by decide) ?_
    refine lv_icmp_ne (tgt := 58) hx hb dX9_drawAct_40 (by decide) (fun c2 => ?_) (fun c2 => ?_)
    · replace hok := Eq.mp (if_neg c2) hok
      refine lv_iload_n hx hb dX9_drawAct_58 rfl (lv_at hl 1 rfl) ?_
      refine lv_iconst (v := 4) hx hb dX9_drawAct_59 (by decide) ?_
      refine lv_icmp_gt (tgt := 91) hx hb dX9_drawAct_60 (by decide) (fun c3 => ?_) (fun c3 => ?_)
      · replace hok := Eq.mp (if_pos c3) hok
        refine lv_iload_n hx hb dX9_drawAct_91 rfl (lv_at hl 1 rfl) ?_
        refine lv_iconst (v := 5) hx hb dX9_drawAct_92 (by decide) ?_
        refine lv_icmp_ne (tgt := 115) hx hb dX9_drawAct_93 (by decide) (fun c4 => ?_) (fun c4 => ?_)
        · replace hok := Eq.mp (if_neg c4) hok
          refine lv_aload_n hx hb dX9_drawAct_115 rfl (lv_at hl 3 rfl) ?_
          refine k_get C hw (CC := RX9) (T := TX9) (N := 10) nX9_drawAct_X9 0 rfl rfl 4 (by decide) (List.mem_of_getElem? (i := 1) rfl) rfl rfl dX9_drawAct_116 ?_
          refine lv_iconst (v := 4) hx hb dX9_drawAct_119 (by decide) ?_
          refine lv_iload_n hx hb dX9_drawAct_120 rfl (lv_at hl 2 rfl) ?_
          refine lv_iload_n hx hb dX9_drawAct_121 rfl (lv_at hl 2 rfl) ?_
          refine lv_iconst (v := 0) hx hb dX9_drawAct_122 (by decide) ?_
          obtain ⟨h5, hok⟩ := hok
          refine k_callVN (As := [.int 4, .int (p1 - p1 / 8 * 8), .int (p1 - p1 / 8 * 8), .int 0]) (rest := []) (n := 4) (CC := RX8) (T := TX8) (N := 6) (host := RX9) C hw (T_X8_attempt l D cI cZ a_t_trial a_t_trial_parish a_t_trial_parish_wealth a_t_trial_parish_given a_t_trial_parish_row v_t_trial_wrongAct v_t_trial_reason v_t_trial_gifts v_t_trial_firstAct v_t_trial_firstHouse v_t_trial_parish_inside v_t_trial_parish_next v_t_trial_parish_year g_t_trial_parish_wealth g_t_trial_parish_row g_t_trial_parish_given (4 : Int32) (p1 - p1 / 8 * 8) (p1 - p1 / 8 * 8) (0 : Int32) h5) gX9_drawAct_X8_attempt_n284 rfl ⟨rfl, rfl⟩ 44 rfl (List.mem_of_getElem? (i := 3) rfl) (List.mem_of_getElem? (i := 2) rfl) (List.mem_of_getElem? (i := 4) rfl) (by decide +kernel) ⟨Nat.le_of_ble_eq_true rfl, Nat.le_of_ble_eq_true rfl⟩ 1 rfl rfl [1, 2, 3, 4, 5] rfl rfl [a_t_trial, a_t_trial_parish, a_t_trial_parish_wealth, a_t_trial_parish_row, a_t_trial_parish_given] rfl rfl rfl hl.1 rfl (Nat.le_of_ble_eq_true rfl) ⟨Nat.zero_le _, Nat.zero_le _⟩ dX9_drawAct_123 (fun H locs hw => ?_)
          obtain ⟨z6, h7⟩ : ∃ z, (f_X8_attempt v_t_trial_gifts v_t_trial_parish_inside v_t_trial_parish_next v_t_trial_parish_year g_t_trial_parish_wealth g_t_trial_parish_row g_t_trial_parish_given (4 : Int32) (p1 - p1 / 8 * 8) (p1 - p1 / 8 * 8) (0 : Int32)) = z := ⟨_, rfl⟩
          refine W.eq (g2 := F0 m 126 ls [.int z6.1]) (by subst h7; rfl) ?_
          replace hw := kW_cast (ws' := [(a_t, .inr (9, [.ref a_t_parish, .ref a_t_kinship, .ref a_t_sights, .ref a_t_pad, .ref a_t_trial, .ref a_t_evening, .ref a_t_rows, .ref a_t_guess, .ref a_t_imageZero, .ref a_t_imageOne])), (a_t_trial, .inr (8, [.ref a_t_trial_parish, .int v_t_trial_wrongAct, .int v_t_trial_reason, .int z6.2.1, .int v_t_trial_firstAct, .int v_t_trial_firstHouse])), (a_t_trial_parish, .inr (5, [.ref a_t_trial_parish_wealth, .ref a_t_trial_parish_given, .ref a_t_trial_parish_row, .int z6.2.2.1, .int z6.2.2.2.1, .int z6.2.2.2.2.1])), (a_t_trial_parish_wealth, .inl (cI, 8, .inl z6.2.2.2.2.2.1)), (a_t_trial_parish_row, .inl (cI, 8, .inl z6.2.2.2.2.2.2.1)), (a_t_trial_parish_given, .inl (cI, 64, .inl z6.2.2.2.2.2.2.2))]) (by subst h7; rfl) hw
          refine lv_pop hx hb dX9_drawAct_126 rfl ?_
          rw [show f_X9_drawAct v_t_trial_gifts v_t_trial_parish_inside v_t_trial_parish_next v_t_trial_parish_year g_t_trial_parish_wealth g_t_trial_parish_row g_t_trial_parish_given p1 = (z6.2.1, z6.2.2.1, z6.2.2.2.1, z6.2.2.2.2.1, z6.2.2.2.2.2.1, z6.2.2.2.2.2.2.1, z6.2.2.2.2.2.2.2) from by
              unfold f_X9_drawAct
              exact (if_neg c1).trans ((if_neg c2).trans ((if_pos c3).trans ((if_neg c4).trans ((lt_c h7).trans (rfl)))))]
          exact k_vret C hr hw dX9_drawAct_127
        · replace hok := Eq.mp (if_pos c4) hok
          refine lv_aload_n hx hb dX9_drawAct_96 rfl (lv_at hl 3 rfl) ?_
          refine k_get C hw (CC := RX9) (T := TX9) (N := 10) nX9_drawAct_X9 0 rfl rfl 4 (by decide) (List.mem_of_getElem? (i := 1) rfl) rfl rfl dX9_drawAct_97 ?_
          refine lv_iconst (v := 3) hx hb dX9_drawAct_100 (by decide) ?_
          refine lv_iload_n hx hb dX9_drawAct_101 rfl (lv_at hl 2 rfl) ?_
          refine lv_iload hx hb dX9_drawAct_102 (lv_at hl 0 rfl) ?_
          refine lv_bipush (v := 8) hx hb dX9_drawAct_104 (by decide) ?_
          refine lv_irem hx hb dX9_drawAct_106 (by decide) ?_
          refine lv_iconst (v := 0) hx hb dX9_drawAct_107 (by decide) ?_
          obtain ⟨h8, hok⟩ := hok
          refine k_callVN (As := [.int 3, .int (p1 - p1 / 8 * 8), .int ((p1 / 64) - (p1 / 64) / 8 * 8), .int 0]) (rest := []) (n := 4) (CC := RX8) (T := TX8) (N := 6) (host := RX9) C hw (T_X8_attempt l D cI cZ a_t_trial a_t_trial_parish a_t_trial_parish_wealth a_t_trial_parish_given a_t_trial_parish_row v_t_trial_wrongAct v_t_trial_reason v_t_trial_gifts v_t_trial_firstAct v_t_trial_firstHouse v_t_trial_parish_inside v_t_trial_parish_next v_t_trial_parish_year g_t_trial_parish_wealth g_t_trial_parish_row g_t_trial_parish_given (3 : Int32) (p1 - p1 / 8 * 8) ((p1 / 64) - (p1 / 64) / 8 * 8) (0 : Int32) h8) gX9_drawAct_X8_attempt_n284 rfl ⟨rfl, rfl⟩ 44 rfl (List.mem_of_getElem? (i := 3) rfl) (List.mem_of_getElem? (i := 2) rfl) (List.mem_of_getElem? (i := 4) rfl) (by decide +kernel) ⟨Nat.le_of_ble_eq_true rfl, Nat.le_of_ble_eq_true rfl⟩ 1 rfl rfl [1, 2, 3, 4, 5] rfl rfl [a_t_trial, a_t_trial_parish, a_t_trial_parish_wealth, a_t_trial_parish_row, a_t_trial_parish_given] rfl rfl rfl hl.1 rfl (Nat.le_of_ble_eq_true rfl) ⟨Nat.zero_le _, Nat.zero_le _⟩ dX9_drawAct_108 (fun H locs hw => ?_)
          obtain ⟨z9, h10⟩ : ∃ z, (f_X8_attempt v_t_trial_gifts v_t_trial_parish_inside v_t_trial_parish_next v_t_trial_parish_year g_t_trial_parish_wealth g_t_trial_parish_row g_t_trial_parish_given (3 : Int32) (p1 - p1 / 8 * 8) ((p1 / 64) - (p1 / 64) / 8 * 8) (0 : Int32)) = z := ⟨_, rfl⟩
          refine W.eq (g2 := F0 m 111 ls [.int z9.1]) (by subst h10; rfl) ?_
          replace hw := kW_cast (ws' := [(a_t, .inr (9, [.ref a_t_parish, .ref a_t_kinship, .ref a_t_sights, .ref a_t_pad, .ref a_t_trial, .ref a_t_evening, .ref a_t_rows, .ref a_t_guess, .ref a_t_imageZero, .ref a_t_imageOne])), (a_t_trial, .inr (8, [.ref a_t_trial_parish, .int v_t_trial_wrongAct, .int v_t_trial_reason, .int z9.2.1, .int v_t_trial_firstAct, .int v_t_trial_firstHouse])), (a_t_trial_parish, .inr (5, [.ref a_t_trial_parish_wealth, .ref a_t_trial_parish_given, .ref a_t_trial_parish_row, .int z9.2.2.1, .int z9.2.2.2.1, .int z9.2.2.2.2.1])), (a_t_trial_parish_wealth, .inl (cI, 8, .inl z9.2.2.2.2.2.1)), (a_t_trial_parish_row, .inl (cI, 8, .inl z9.2.2.2.2.2.2.1)), (a_t_trial_parish_given, .inl (cI, 64, .inl z9.2.2.2.2.2.2.2))]) (by subst h10; rfl) hw
          refine lv_pop hx hb dX9_drawAct_111 rfl ?_
          refine lv_goto (tgt := 127) hx hb dX9_drawAct_112 (by decide) ?_
          rw [show f_X9_drawAct v_t_trial_gifts v_t_trial_parish_inside v_t_trial_parish_next v_t_trial_parish_year g_t_trial_parish_wealth g_t_trial_parish_row g_t_trial_parish_given p1 = (z9.2.1, z9.2.2.1, z9.2.2.2.1, z9.2.2.2.2.1, z9.2.2.2.2.2.1, z9.2.2.2.2.2.2.1, z9.2.2.2.2.2.2.2) from by
              unfold f_X9_drawAct
              exact (if_neg c1).trans ((if_neg c2).trans ((if_pos c3).trans ((if_pos c4).trans ((lt_c h10).trans (rfl)))))]
          exact k_vret C hr hw dX9_drawAct_127
      · replace hok := Eq.mp (if_neg c3) hok
        refine lv_aload_n hx hb dX9_drawAct_63 rfl (lv_at hl 3 rfl) ?_
        refine k_get C hw (CC := RX9) (T := TX9) (N := 10) nX9_drawAct_X9 0 rfl rfl 4 (by decide) (List.mem_of_getElem? (i := 1) rfl) rfl rfl dX9_drawAct_64 ?_
        refine lv_iconst (v := 2) hx hb dX9_drawAct_67 (by decide) ?_
        refine lv_iload_n hx hb dX9_drawAct_68 rfl (lv_at hl 2 rfl) ?_
        refine lv_iload hx hb dX9_drawAct_69 (lv_at hl 0 rfl) ?_
        refine lv_bipush (v := 8) hx hb dX9_drawAct_71 (by decide) ?_
        refine lv_irem hx hb dX9_drawAct_73 (by decide) ?_
        refine lv_iload hx hb dX9_drawAct_74 (lv_at hl 0 rfl) ?_
        refine lv_bipush (v := 8) hx hb dX9_drawAct_76 (by decide) ?_
        refine lv_idiv hx hb dX9_drawAct_78 (by decide) ?_
        refine lv_bipush (v := 9) hx hb dX9_drawAct_79 (by decide) ?_
        refine lv_irem hx hb dX9_drawAct_81 (by decide) ?_
        refine lv_iconst (v := 1) hx hb dX9_drawAct_82 (by decide) ?_
        refine lv_iadd hx hb dX9_drawAct_83 ?_
        obtain ⟨h11, hok⟩ := hok
        refine k_callVN (As := [.int 2, .int (p1 - p1 / 8 * 8), .int ((p1 / 64) - (p1 / 64) / 8 * 8), .int ((((p1 / 64) / 8) - ((p1 / 64) / 8) / 9 * 9) + 1)]) (rest := []) (n := 4) (CC := RX8) (T := TX8) (N := 6) (host := RX9) C hw (T_X8_attempt l D cI cZ a_t_trial a_t_trial_parish a_t_trial_parish_wealth a_t_trial_parish_given a_t_trial_parish_row v_t_trial_wrongAct v_t_trial_reason v_t_trial_gifts v_t_trial_firstAct v_t_trial_firstHouse v_t_trial_parish_inside v_t_trial_parish_next v_t_trial_parish_year g_t_trial_parish_wealth g_t_trial_parish_row g_t_trial_parish_given (2 : Int32) (p1 - p1 / 8 * 8) ((p1 / 64) - (p1 / 64) / 8 * 8) ((((p1 / 64) / 8) - ((p1 / 64) / 8) / 9 * 9) + 1) h11) gX9_drawAct_X8_attempt_n284 rfl ⟨rfl, rfl⟩ 44 rfl (List.mem_of_getElem? (i := 3) rfl) (List.mem_of_getElem? (i := 2) rfl) (List.mem_of_getElem? (i := 4) rfl) (by decide +kernel) ⟨Nat.le_of_ble_eq_true rfl, Nat.le_of_ble_eq_true rfl⟩ 1 rfl rfl [1, 2, 3, 4, 5] rfl rfl [a_t_trial, a_t_trial_parish, a_t_trial_parish_wealth, a_t_trial_parish_row, a_t_trial_parish_given] rfl rfl rfl hl.1 rfl (Nat.le_of_ble_eq_true rfl) ⟨Nat.zero_le _, Nat.zero_le _⟩ dX9_drawAct_84 (fun H locs hw => ?_)
        obtain ⟨z12, h13⟩ : ∃ z, (f_X8_attempt v_t_trial_gifts v_t_trial_parish_inside v_t_trial_parish_next v_t_trial_parish_year g_t_trial_parish_wealth g_t_trial_parish_row g_t_trial_parish_given (2 : Int32) (p1 - p1 / 8 * 8) ((p1 / 64) - (p1 / 64) / 8 * 8) ((((p1 / 64) / 8) - ((p1 / 64) / 8) / 9 * 9) + 1)) = z := ⟨_, rfl⟩
        refine W.eq (g2 := F0 m 87 ls [.int z12.1]) (by subst h13; rfl) ?_
        replace hw := kW_cast (ws' := [(a_t, .inr (9, [.ref a_t_parish, .ref a_t_kinship, .ref a_t_sights, .ref a_t_pad, .ref a_t_trial, .ref a_t_evening, .ref a_t_rows, .ref a_t_guess, .ref a_t_imageZero, .ref a_t_imageOne])), (a_t_trial, .inr (8, [.ref a_t_trial_parish, .int v_t_trial_wrongAct, .int v_t_trial_reason, .int z12.2.1, .int v_t_trial_firstAct, .int v_t_trial_firstHouse])), (a_t_trial_parish, .inr (5, [.ref a_t_trial_parish_wealth, .ref a_t_trial_parish_given, .ref a_t_trial_parish_row, .int z12.2.2.1, .int z12.2.2.2.1, .int z12.2.2.2.2.1])), (a_t_trial_parish_wealth, .inl (cI, 8, .inl z12.2.2.2.2.2.1)), (a_t_trial_parish_row, .inl (cI, 8, .inl z12.2.2.2.2.2.2.1)), (a_t_trial_parish_given, .inl (cI, 64, .inl z12.2.2.2.2.2.2.2))]) (by subst h13; rfl) hw
        refine lv_pop hx hb dX9_drawAct_87 rfl ?_
        refine lv_goto (tgt := 127) hx hb dX9_drawAct_88 (by decide) ?_
        rw [show f_X9_drawAct v_t_trial_gifts v_t_trial_parish_inside v_t_trial_parish_next v_t_trial_parish_year g_t_trial_parish_wealth g_t_trial_parish_row g_t_trial_parish_given p1 = (z12.2.1, z12.2.2.1, z12.2.2.2.1, z12.2.2.2.2.1, z12.2.2.2.2.2.1, z12.2.2.2.2.2.2.1, z12.2.2.2.2.2.2.2) from by
            unfold f_X9_drawAct
            exact (if_neg c1).trans ((if_neg c2).trans ((if_neg c3).trans ((lt_c h13).trans (rfl))))]
        exact k_vret C hr hw dX9_drawAct_127
    · replace hok := Eq.mp (if_pos c2) hok
      refine lv_aload_n hx hb dX9_drawAct_43 rfl (lv_at hl 3 rfl) ?_
      refine k_get C hw (CC := RX9) (T := TX9) (N := 10) nX9_drawAct_X9 0 rfl rfl 4 (by decide) (List.mem_of_getElem? (i := 1) rfl) rfl rfl dX9_drawAct_44 ?_
      refine lv_iconst (v := 1) hx hb dX9_drawAct_47 (by decide) ?_
      refine lv_iload_n hx hb dX9_drawAct_48 rfl (lv_at hl 2 rfl) ?_
      refine lv_iload_n hx hb dX9_drawAct_49 rfl (lv_at hl 2 rfl) ?_
      refine lv_iconst (v := 0) hx hb dX9_drawAct_50 (by decide) ?_
      obtain ⟨h14, hok⟩ := hok
      refine k_callVN (As := [.int 1, .int (p1 - p1 / 8 * 8), .int (p1 - p1 / 8 * 8), .int 0]) (rest := []) (n := 4) (CC := RX8) (T := TX8) (N := 6) (host := RX9) C hw (T_X8_attempt l D cI cZ a_t_trial a_t_trial_parish a_t_trial_parish_wealth a_t_trial_parish_given a_t_trial_parish_row v_t_trial_wrongAct v_t_trial_reason v_t_trial_gifts v_t_trial_firstAct v_t_trial_firstHouse v_t_trial_parish_inside v_t_trial_parish_next v_t_trial_parish_year g_t_trial_parish_wealth g_t_trial_parish_row g_t_trial_parish_given (1 : Int32) (p1 - p1 / 8 * 8) (p1 - p1 / 8 * 8) (0 : Int32) h14) gX9_drawAct_X8_attempt_n284 rfl ⟨rfl, rfl⟩ 44 rfl (List.mem_of_getElem? (i := 3) rfl) (List.mem_of_getElem? (i := 2) rfl) (List.mem_of_getElem? (i := 4) rfl) (by decide +kernel) ⟨Nat.le_of_ble_eq_true rfl, Nat.le_of_ble_eq_true rfl⟩ 1 rfl rfl [1, 2, 3, 4, 5] rfl rfl [a_t_trial, a_t_trial_parish, a_t_trial_parish_wealth, a_t_trial_parish_row, a_t_trial_parish_given] rfl rfl rfl hl.1 rfl (Nat.le_of_ble_eq_true rfl) ⟨Nat.zero_le _, Nat.zero_le _⟩ dX9_drawAct_51 (fun H locs hw => ?_)
      obtain ⟨z15, h16⟩ : ∃ z, (f_X8_attempt v_t_trial_gifts v_t_trial_parish_inside v_t_trial_parish_next v_t_trial_parish_year g_t_trial_parish_wealth g_t_trial_parish_row g_t_trial_parish_given (1 : Int32) (p1 - p1 / 8 * 8) (p1 - p1 / 8 * 8) (0 : Int32)) = z := ⟨_, rfl⟩
      refine W.eq (g2 := F0 m 54 ls [.int z15.1]) (by subst h16; rfl) ?_
      replace hw := kW_cast (ws' := [(a_t, .inr (9, [.ref a_t_parish, .ref a_t_kinship, .ref a_t_sights, .ref a_t_pad, .ref a_t_trial, .ref a_t_evening, .ref a_t_rows, .ref a_t_guess, .ref a_t_imageZero, .ref a_t_imageOne])), (a_t_trial, .inr (8, [.ref a_t_trial_parish, .int v_t_trial_wrongAct, .int v_t_trial_reason, .int z15.2.1, .int v_t_trial_firstAct, .int v_t_trial_firstHouse])), (a_t_trial_parish, .inr (5, [.ref a_t_trial_parish_wealth, .ref a_t_trial_parish_given, .ref a_t_trial_parish_row, .int z15.2.2.1, .int z15.2.2.2.1, .int z15.2.2.2.2.1])), (a_t_trial_parish_wealth, .inl (cI, 8, .inl z15.2.2.2.2.2.1)), (a_t_trial_parish_row, .inl (cI, 8, .inl z15.2.2.2.2.2.2.1)), (a_t_trial_parish_given, .inl (cI, 64, .inl z15.2.2.2.2.2.2.2))]) (by subst h16; rfl) hw
      refine lv_pop hx hb dX9_drawAct_54 rfl ?_
      refine lv_goto (tgt := 127) hx hb dX9_drawAct_55 (by decide) ?_
      rw [show f_X9_drawAct v_t_trial_gifts v_t_trial_parish_inside v_t_trial_parish_next v_t_trial_parish_year g_t_trial_parish_wealth g_t_trial_parish_row g_t_trial_parish_given p1 = (z15.2.1, z15.2.2.1, z15.2.2.2.1, z15.2.2.2.2.1, z15.2.2.2.2.2.1, z15.2.2.2.2.2.2.1, z15.2.2.2.2.2.2.2) from by
          unfold f_X9_drawAct
          exact (if_neg c1).trans ((if_pos c2).trans ((lt_c h16).trans (rfl)))]
      exact k_vret C hr hw dX9_drawAct_127
  · replace hok := Eq.mp (if_pos c1) hok
    refine lv_aload_n hx hb dX9_drawAct_23 rfl (lv_at hl 3 rfl) ?_
    refine k_get C hw (CC := RX9) (T := TX9) (N := 10) nX9_drawAct_X9 0 rfl rfl 4 (by decide) (List.mem_of_getElem? (i := 1) rfl) rfl rfl dX9_drawAct_24 ?_
    refine lv_iconst (v := 0) hx hb dX9_drawAct_27 (by decide) ?_
    refine lv_iload_n hx hb dX9_drawAct_28 rfl (lv_at hl 2 rfl) ?_
    refine lv_iload_n hx hb dX9_drawAct_29 rfl (lv_at hl 2 rfl) ?_
    refine lv_iconst (v := 0) hx hb dX9_drawAct_30 (by decide) ?_
    obtain ⟨h17, hok⟩ := hok
    refine k_callVN (As := [.int 0, .int (p1 - p1 / 8 * 8), .int (p1 - p1 / 8 * 8), .int 0]) (rest := []) (n := 4) (CC := RX8) (T := TX8) (N := 6) (host := RX9) C hw (T_X8_attempt l D cI cZ a_t_trial a_t_trial_parish a_t_trial_parish_wealth a_t_trial_parish_given a_t_trial_parish_row v_t_trial_wrongAct v_t_trial_reason v_t_trial_gifts v_t_trial_firstAct v_t_trial_firstHouse v_t_trial_parish_inside v_t_trial_parish_next v_t_trial_parish_year g_t_trial_parish_wealth g_t_trial_parish_row g_t_trial_parish_given (0 : Int32) (p1 - p1 / 8 * 8) (p1 - p1 / 8 * 8) (0 : Int32) h17) gX9_drawAct_X8_attempt_n284 rfl ⟨rfl, rfl⟩ 44 rfl (List.mem_of_getElem? (i := 3) rfl) (List.mem_of_getElem? (i := 2) rfl) (List.mem_of_getElem? (i := 4) rfl) (by decide +kernel) ⟨Nat.le_of_ble_eq_true rfl, Nat.le_of_ble_eq_true rfl⟩ 1 rfl rfl [1, 2, 3, 4, 5] rfl rfl [a_t_trial, a_t_trial_parish, a_t_trial_parish_wealth, a_t_trial_parish_row, a_t_trial_parish_given] rfl rfl rfl hl.1 rfl (Nat.le_of_ble_eq_true rfl) ⟨Nat.zero_le _, Nat.zero_le _⟩ dX9_drawAct_31 (fun H locs hw => ?_)
    obtain ⟨z18, h19⟩ : ∃ z, (f_X8_attempt v_t_trial_gifts v_t_trial_parish_inside v_t_trial_parish_next v_t_trial_parish_year g_t_trial_parish_wealth g_t_trial_parish_row g_t_trial_parish_given (0 : Int32) (p1 - p1 / 8 * 8) (p1 - p1 / 8 * 8) (0 : Int32)) = z := ⟨_, rfl⟩
    refine W.eq (g2 := F0 m 34 ls [.int z18.1]) (by subst h19; rfl) ?_
    replace hw := kW_cast (ws' := [(a_t, .inr (9, [.ref a_t_parish, .ref a_t_kinship, .ref a_t_sights, .ref a_t_pad, .ref a_t_trial, .ref a_t_evening, .ref a_t_rows, .ref a_t_guess, .ref a_t_imageZero, .ref a_t_imageOne])), (a_t_trial, .inr (8, [.ref a_t_trial_parish, .int v_t_trial_wrongAct, .int v_t_trial_reason, .int z18.2.1, .int v_t_trial_firstAct, .int v_t_trial_firstHouse])), (a_t_trial_parish, .inr (5, [.ref a_t_trial_parish_wealth, .ref a_t_trial_parish_given, .ref a_t_trial_parish_row, .int z18.2.2.1, .int z18.2.2.2.1, .int z18.2.2.2.2.1])), (a_t_trial_parish_wealth, .inl (cI, 8, .inl z18.2.2.2.2.2.1)), (a_t_trial_parish_row, .inl (cI, 8, .inl z18.2.2.2.2.2.2.1)), (a_t_trial_parish_given, .inl (cI, 64, .inl z18.2.2.2.2.2.2.2))]) (by subst h19; rfl) hw
    refine lv_pop hx hb dX9_drawAct_34 rfl ?_
    refine lv_goto (tgt := 127) hx hb dX9_drawAct_35 (by decide) ?_
    rw [show f_X9_drawAct v_t_trial_gifts v_t_trial_parish_inside v_t_trial_parish_next v_t_trial_parish_year g_t_trial_parish_wealth g_t_trial_parish_row g_t_trial_parish_given p1 = (z18.2.1, z18.2.2.1, z18.2.2.2.1, z18.2.2.2.2.1, z18.2.2.2.2.2.1, z18.2.2.2.2.2.2.1, z18.2.2.2.2.2.2.2) from by
        unfold f_X9_drawAct
        exact (if_pos c1).trans ((lt_c h19).trans (rfl))]
    exact k_vret C hr hw dX9_drawAct_127

theorem nX9_century_X5 : ∀ w ∈ wsX50, w ∈ wsX9_century := fun _ h => List.mem_cons_of_mem _ (List.mem_append_right _ h)
theorem nX9_century_X8 : ∀ w ∈ wsX80, w ∈ wsX9_century := fun _ h => List.mem_cons_of_mem _ (List.mem_append_left _ (List.mem_append_right _ h))
theorem nX9_century_X9 : ∀ w ∈ wsX90, w ∈ wsX9_century := fun _ h => List.mem_cons_of_mem _ (List.mem_append_left _ (List.mem_append_left _ (List.mem_append_right _ h)))
def B_X9_century_50 (j : Nat) (v : Int32 × Int32 × Int32 × Int32 × Int32 × (Nat → Int32) × (Nat → Int32) × (Nat → Int32)) : Int32 × Int32 × Int32 × Int32 × Int32 × (Nat → Int32) × (Nat → Int32) × (Nat → Int32) := (lt (f_X9_drawAct v.2.1 v.2.2.1 v.2.2.2.1 v.2.2.2.2.1 v.2.2.2.2.2.1 v.2.2.2.2.2.2.2 v.2.2.2.2.2.2.1 (((75 * v.1) + 74) - ((75 * v.1) + 74) / 65537 * 65537)) (fun z8 => ((((75 * v.1) + 74) - ((75 * v.1) + 74) / 65537 * 65537), z8.1, z8.2.1, z8.2.2.1, z8.2.2.2.1, z8.2.2.2.2.1, z8.2.2.2.2.2.2, z8.2.2.2.2.2.1)))
def oB_X9_century_50 (j : Nat) (v : Int32 × Int32 × Int32 × Int32 × Int32 × (Nat → Int32) × (Nat → Int32) × (Nat → Int32)) : Prop := ((o_X9_drawAct v.2.2.1 v.2.2.2.1 v.2.2.2.2.1 v.2.2.2.2.2.1 (((75 * v.1) + 74) - ((75 * v.1) + 74) / 65537 * 65537)) ∧ True)
set_option maxHeartbeats 4000000 in
set_option maxRecDepth 100000 in
theorem l_X9_century_50 {p : Program} {l : Launch} {e : Env} {s : State} {m : MethodId} {args : Array Value} {below : List Frame} {meth : Method} {c : Code} {D : va_G} {cI cZ : ClassId} {Q : State → Prop} {A : Nat → Prop} (a_t a_t_parish a_t_kinship a_t_sights a_t_pad a_t_trial a_t_evening a_t_rows a_t_guess a_t_imageZero a_t_imageOne a_t_trial_parish a_t_trial_parish_wealth a_t_trial_parish_given a_t_trial_parish_row a_t_parish_wealth a_t_parish_given a_t_parish_row : Nat) (x2 : Int32) (x3 : Int32) (v_t_trial_wrongAct : Int32) (v_t_trial_reason : Int32) (v_t_trial_firstAct : Int32) (v_t_trial_firstHouse : Int32) (v_t_parish_inside : Int32) (v_t_parish_next : Int32) (v_t_parish_year : Int32) (g_t_parish_wealth : (Nat → Int32)) (g_t_parish_given : (Nat → Int32)) (g_t_parish_row : (Nat → Int32)) (C : kC p s m args meth c cX9_century 6 wsX9_century RX9 D cI cZ A) (b : Nat) (hB : x2 = nI b) (hb31 : b < 2147483648) : ∀ (n j : Nat) (x4 : Int32) (v_t_trial_gifts : Int32) (v_t_trial_parish_inside : Int32) (v_t_trial_parish_next : Int32) (v_t_trial_parish_year : Int32) (g_t_trial_parish_wealth : (Nat → Int32)) (g_t_trial_parish_given : (Nat → Int32)) (g_t_trial_parish_row : (Nat → Int32)), n = b - j → j < 2147483648 → itA oB_X9_century_50 B_X9_century_50 j n (x4, v_t_trial_gifts, v_t_trial_parish_inside, v_t_trial_parish_next, v_t_trial_parish_year, g_t_trial_parish_wealth, g_t_trial_parish_given, g_t_trial_parish_row) → ∀ (H : Heap) (locs : List Loc), kW D A s H locs [(a_t, .inr (9, [.ref a_t_parish, .ref a_t_kinship, .ref a_t_sights, .ref a_t_pad, .ref a_t_trial, .ref a_t_evening, .ref a_t_rows, .ref a_t_guess, .ref a_t_imageZero, .ref a_t_imageOne])), (a_t_trial, .inr (8, [.ref a_t_trial_parish, .int v_t_trial_wrongAct, .int v_t_trial_reason, .int v_t_trial_gifts, .int v_t_trial_firstAct, .int v_t_trial_firstHouse])), (a_t_trial_parish, .inr (5, [.ref a_t_trial_parish_wealth, .ref a_t_trial_parish_given, .ref a_t_trial_parish_row, .int v_t_trial_parish_inside, .int v_t_trial_parish_next, .int v_t_trial_parish_year])), (a_t_parish, .inr (5, [.ref a_t_parish_wealth, .ref a_t_parish_given, .ref a_t_parish_row, .int v_t_parish_inside, .int v_t_parish_next, .int v_t_parish_year])), (a_t_parish_wealth, .inl (cI, 8, .inl g_t_parish_wealth)), (a_t_trial_parish_wealth, .inl (cI, 8, .inl g_t_trial_parish_wealth)), (a_t_parish_given, .inl (cI, 64, .inl g_t_parish_given)), (a_t_trial_parish_given, .inl (cI, 64, .inl g_t_trial_parish_given)), (a_t_parish_row, .inl (cI, 8, .inl g_t_parish_row)), (a_t_trial_parish_row, .inl (cI, 8, .inl g_t_trial_parish_row))] → ∀ (ls : Array Slot), lv_has ls 6 [(0, .ref a_t), (2, .int x2), (3, .int x3), (4, .int x4), (5, .int (nI j))] → (∀ (H : Heap) (locs : List Loc) (ls : Array Slot), kW D A s H locs [(a_t, .inr (9, [.ref a_t_parish, .ref a_t_kinship, .ref a_t_sights, .ref a_t_pad, .ref a_t_trial, .ref a_t_evening, .ref a_t_rows, .ref a_t_guess, .ref a_t_imageZero, .ref a_t_imageOne])), (a_t_trial, .inr (8, [.ref a_t_trial_parish, .int v_t_trial_wrongAct, .int v_t_trial_reason, .int (it B_X9_century_50 j n (x4, v_t_trial_gifts, v_t_trial_parish_inside, v_t_trial_parish_next, v_t_trial_parish_year, g_t_trial_parish_wealth, g_t_trial_parish_given, g_t_trial_parish_row)).2.1, .int v_t_trial_firstAct, .int v_t_trial_firstHouse])), (a_t_trial_parish, .inr (5, [.ref a_t_trial_parish_wealth, .ref a_t_trial_parish_given, .ref a_t_trial_parish_row, .int (it B_X9_century_50 j n (x4, v_t_trial_gifts, v_t_trial_parish_inside, v_t_trial_parish_next, v_t_trial_parish_year, g_t_trial_parish_wealth, g_t_trial_parish_given, g_t_trial_parish_row)).2.2.1, .int (it B_X9_century_50 j n (x4, v_t_trial_gifts, v_t_trial_parish_inside, v_t_trial_parish_next, v_t_trial_parish_year, g_t_trial_parish_wealth, g_t_trial_parish_given, g_t_trial_parish_row)).2.2.2.1, .int (it B_X9_century_50 j n (x4, v_t_trial_gifts, v_t_trial_parish_inside, v_t_trial_parish_next, v_t_trial_parish_year, g_t_trial_parish_wealth, g_t_trial_parish_given, g_t_trial_parish_row)).2.2.2.2.1])), (a_t_parish, .inr (5, [.ref a_t_parish_wealth, .ref a_t_parish_given, .ref a_t_parish_row, .int v_t_parish_inside, .int v_t_parish_next, .int v_t_parish_year])), (a_t_parish_wealth, .inl (cI, 8, .inl g_t_parish_wealth)), (a_t_trial_parish_wealth, .inl (cI, 8, .inl (it B_X9_century_50 j n (x4, v_t_trial_gifts, v_t_trial_parish_inside, v_t_trial_parish_next, v_t_trial_parish_year, g_t_trial_parish_wealth, g_t_trial_parish_given, g_t_trial_parish_row)).2.2.2.2.2.1)), (a_t_parish_given, .inl (cI, 64, .inl g_t_parish_given)), (a_t_trial_parish_given, .inl (cI, 64, .inl (it B_X9_century_50 j n (x4, v_t_trial_gifts, v_t_trial_parish_inside, v_t_trial_parish_next, v_t_trial_parish_year, g_t_trial_parish_wealth, g_t_trial_parish_given, g_t_trial_parish_row)).2.2.2.2.2.2.1)), (a_t_parish_row, .inl (cI, 8, .inl g_t_parish_row)), (a_t_trial_parish_row, .inl (cI, 8, .inl (it B_X9_century_50 j n (x4, v_t_trial_gifts, v_t_trial_parish_inside, v_t_trial_parish_next, v_t_trial_parish_year, g_t_trial_parish_wealth, g_t_trial_parish_given, g_t_trial_parish_row)).2.2.2.2.2.2.2))] → lv_has ls 6 [(0, .ref a_t), (3, .int x3)] → W p l e ({ frames := 5, cells := 0, slots := 0, locals := 122 }) s m args below meth c H locs 0 0 Q (F0 m 82 ls [])) → W p l e ({ frames := 5, cells := 0, slots := 0, locals := 122 }) s m args below meth c H locs 0 0 Q (F0 m 50 ls []) := by
  have hx := C.hx
  have hb := C.hb
  intro n
  induction n with
  | zero =>
    intro j x4 v_t_trial_gifts v_t_trial_parish_inside v_t_trial_parish_next v_t_trial_parish_year g_t_trial_parish_wealth g_t_trial_parish_given g_t_trial_parish_row hn hj hok0 H locs hw ls hl kk
    refine lv_iload hx hb dX9_century_50 (lv_at hl 4 rfl) ?_
    refine lv_iload_n hx hb dX9_century_52 rfl (lv_at hl 1 rfl) ?_
    refine lv_icmp_ge (tgt := 82) hx hb dX9_century_53 (by decide) (fun c10 => ?_) (fun c10 => by rw [hB] at c10; exact absurd (nI_le (a := b) (b := j) (by omega) (by omega)) c10)
    exact kk _ _ _ hw (lv_sub hl [0, 2] rfl)
  | succ n ih =>
    intro j x4 v_t_trial_gifts v_t_trial_parish_inside v_t_trial_parish_next v_t_trial_parish_year g_t_trial_parish_wealth g_t_trial_parish_given g_t_trial_parish_row hn hj hok0 H locs hw ls hl kk
    have hok := hok0.1
    refine lv_iload hx hb dX9_century_50 (lv_at hl 4 rfl) ?_
    refine lv_iload_n hx hb dX9_century_52 rfl (lv_at hl 1 rfl) ?_
    refine lv_icmp_ge (tgt := 82) hx hb dX9_century_53 (by decide) (fun c6 => by rw [hB] at c6; exact absurd c6 (nI_ge (a := j) (b := b) (by omega) (by omega))) (fun c6 => ?_)
    refine lv_bipush (v := 75) hx hb dX9_century_56 (by decide) ?_
    refine lv_iload hx hb dX9_century_58 (lv_at hl 3 rfl) ?_
    refine lv_imul hx hb dX9_century_60 ?_
    refine lv_bipush (v := 74) hx hb dX9_century_61 (by decide) ?_
    refine lv_iadd hx hb dX9_century_63 ?_
    refine lv_ldcw (v := 65537) hx hb C.hown (C.hts _ (List.mem_of_getElem? (i := 3) rfl)) dX9_century_64 ?_
    refine lv_irem hx hb dX9_century_67 (by decide) ?_
    refine lv_istore (lv' := [(4, .int (((75 * x4) + 74) - ((75 * x4) + 74) / 65537 * 65537)), (0, .ref a_t), (2, .int x2), (3, .int x3), (5, .int (nI j))]) hx hb dX9_century_68 hl (by decide) rfl (fun ls hl => ?_)
    refine lv_aload_n hx hb dX9_century_70 rfl (lv_at hl 1 rfl) ?_
    refine lv_iload hx hb dX9_century_71 (lv_at hl 0 rfl) ?_
    obtain ⟨h7, hok⟩ := hok
    refine k_callV (As := [.int (((75 * x4) + 74) - ((75 * x4) + 74) / 65537 * 65537)]) (rest := []) (n := 1) (CC := RX9) (T := TX9) (N := 10) C hw (T_X9_drawAct l D cI cZ a_t a_t_parish a_t_kinship a_t_sights a_t_pad a_t_trial a_t_evening a_t_rows a_t_guess a_t_imageZero a_t_imageOne a_t_trial_parish a_t_trial_parish_wealth a_t_trial_parish_given a_t_trial_parish_row v_t_trial_wrongAct v_t_trial_reason v_t_trial_gifts v_t_trial_firstAct v_t_trial_firstHouse v_t_trial_parish_inside v_t_trial_parish_next v_t_trial_parish_year g_t_trial_parish_wealth g_t_trial_parish_row g_t_trial_parish_given (((75 * x4) + 74) - ((75 * x4) + 74) / 65537 * 65537) h7) gX9_century_X9_drawAct rfl ⟨rfl, rfl⟩ (by decide +kernel) ⟨Nat.le_of_ble_eq_true rfl, Nat.le_of_ble_eq_true rfl⟩ 0 rfl rfl [0, 1, 2, 5, 9, 7] rfl rfl [a_t, a_t_trial, a_t_trial_parish, a_t_trial_parish_wealth, a_t_trial_parish_row, a_t_trial_parish_given] rfl rfl rfl hl.1 rfl (Nat.le_of_ble_eq_true rfl) ⟨Nat.zero_le _, Nat.zero_le _⟩ dX9_century_73 (fun H locs hw => ?_)
    obtain ⟨z8, h9⟩ : ∃ z, (f_X9_drawAct v_t_trial_gifts v_t_trial_parish_inside v_t_trial_parish_next v_t_trial_parish_year g_t_trial_parish_wealth g_t_trial_parish_row g_t_trial_parish_given (((75 * x4) + 74) - ((75 * x4) + 74) / 65537 * 65537)) = z := ⟨_, rfl⟩
    refine W.eq (g2 := F0 m 76 ls []) (by subst h9; rfl) ?_
    replace hw := kW_cast (ws' := [(a_t, .inr (9, [.ref a_t_parish, .ref a_t_kinship, .ref a_t_sights, .ref a_t_pad, .ref a_t_trial, .ref a_t_evening, .ref a_t_rows, .ref a_t_guess, .ref a_t_imageZero, .ref a_t_imageOne])), (a_t_trial, .inr (8, [.ref a_t_trial_parish, .int v_t_trial_wrongAct, .int v_t_trial_reason, .int z8.1, .int v_t_trial_firstAct, .int v_t_trial_firstHouse])), (a_t_trial_parish, .inr (5, [.ref a_t_trial_parish_wealth, .ref a_t_trial_parish_given, .ref a_t_trial_parish_row, .int z8.2.1, .int z8.2.2.1, .int z8.2.2.2.1])), (a_t_parish, .inr (5, [.ref a_t_parish_wealth, .ref a_t_parish_given, .ref a_t_parish_row, .int v_t_parish_inside, .int v_t_parish_next, .int v_t_parish_year])), (a_t_parish_wealth, .inl (cI, 8, .inl g_t_parish_wealth)), (a_t_trial_parish_wealth, .inl (cI, 8, .inl z8.2.2.2.2.1)), (a_t_parish_given, .inl (cI, 64, .inl g_t_parish_given)), (a_t_trial_parish_given, .inl (cI, 64, .inl z8.2.2.2.2.2.2)), (a_t_parish_row, .inl (cI, 8, .inl g_t_parish_row)), (a_t_trial_parish_row, .inl (cI, 8, .inl z8.2.2.2.2.2.1))]) (by subst h9; rfl) hw
    refine lv_iinc (v := (nI (j + 1))) (lv' := [(5, .int (nI (j + 1))), (4, .int (((75 * x4) + 74) - ((75 * x4) + 74) / 65537 * 65537)), (0, .ref a_t), (2, .int x2), (3, .int x3)]) hx hb dX9_century_76 hl (k := 4) rfl (nI_1 _) (by decide) rfl (fun ls hl => ?_)
    refine lv_goto (tgt := 50) hx hb dX9_century_79 (by decide) ?_
    have hB : B_X9_century_50 j (x4, v_t_trial_gifts, v_t_trial_parish_inside, v_t_trial_parish_next, v_t_trial_parish_year, g_t_trial_parish_wealth, g_t_trial_parish_given, g_t_trial_parish_row) = ((((75 * x4) + 74) - ((75 * x4) + 74) / 65537 * 65537), z8.1, z8.2.1, z8.2.2.1, z8.2.2.2.1, z8.2.2.2.2.1, z8.2.2.2.2.2.2, z8.2.2.2.2.2.1) := by
      unfold B_X9_century_50
      exact (lt_c h9).trans (rfl)
    rw [it_c hB] at kk
    have hok2 := itA_c hB hok0
    exact ih (j + 1) (((75 * x4) + 74) - ((75 * x4) + 74) / 65537 * 65537) z8.1 z8.2.1 z8.2.2.1 z8.2.2.2.1 z8.2.2.2.2.1 z8.2.2.2.2.2.2 z8.2.2.2.2.2.1 (by omega) (by omega) hok2 _ _ hw _ (lv_sub hl [2, 3, 4, 1, 0] rfl) kk
def f_X9_century (v_t_trial_wrongAct : Int32) (v_t_trial_reason : Int32) (v_t_trial_gifts : Int32) (v_t_trial_firstAct : Int32) (v_t_trial_firstHouse : Int32) (v_t_trial_parish_inside : Int32) (v_t_trial_parish_next : Int32) (v_t_trial_parish_year : Int32) (v_t_parish_inside : Int32) (v_t_parish_next : Int32) (v_t_parish_year : Int32) (g_t_parish_wealth : (Nat → Int32)) (g_t_trial_parish_wealth : (Nat → Int32)) (g_t_parish_given : (Nat → Int32)) (g_t_trial_parish_given : (Nat → Int32)) (g_t_parish_row : (Nat → Int32)) (g_t_trial_parish_row : (Nat → Int32)) (p1 : Int32) (p2 : Int32) (p3 : Int32) : Int32 × Int32 × Int32 × Int32 × Int32 × Int32 × Int32 × Int32 × Int32 × (Nat → Int32) × (Nat → Int32) × (Nat → Int32) := (if (f_X9_within p1 (0 : Int32) (9999 : Int32)) = 0 then ((-2), v_t_trial_wrongAct, v_t_trial_reason, v_t_trial_gifts, v_t_trial_firstAct, v_t_trial_firstHouse, v_t_trial_parish_inside, v_t_trial_parish_next, v_t_trial_parish_year, g_t_trial_parish_wealth, g_t_trial_parish_given, g_t_trial_parish_row) else (if (f_X9_within p2 (1 : Int32) (99 : Int32)) = 0 then ((-2), v_t_trial_wrongAct, v_t_trial_reason, v_t_trial_gifts, v_t_trial_firstAct, v_t_trial_firstHouse, v_t_trial_parish_inside, v_t_trial_parish_next, v_t_trial_parish_year, g_t_trial_parish_wealth, g_t_trial_parish_given, g_t_trial_parish_row) else (if (f_X9_within p3 (0 : Int32) (2 : Int32)) = 0 then ((-2), v_t_trial_wrongAct, v_t_trial_reason, v_t_trial_gifts, v_t_trial_firstAct, v_t_trial_firstHouse, v_t_trial_parish_inside, v_t_trial_parish_next, v_t_trial_parish_year, g_t_trial_parish_wealth, g_t_trial_parish_given, g_t_trial_parish_row) else (lt (f_X8_begin v_t_parish_inside v_t_parish_next v_t_parish_year g_t_parish_wealth g_t_trial_parish_wealth g_t_parish_given g_t_trial_parish_given g_t_parish_row g_t_trial_parish_row) (fun z4 => (lt (it B_X9_century_50 0 ((p2.toNatClampNeg) - 0) (p1, z4.2.2.1, z4.2.2.2.2.2.1, z4.2.2.2.2.2.2.1, z4.2.2.2.2.2.2.2.1, z4.2.2.2.2.2.2.2.2.1, z4.2.2.2.2.2.2.2.2.2.1, z4.2.2.2.2.2.2.2.2.2.2)) (fun z13 => (if p3 = 0 then ((z13.2.2.2.2.2.1 0), z4.1, z4.2.1, z13.2.1, z4.2.2.2.1, z4.2.2.2.2.1, z13.2.2.1, z13.2.2.2.1, z13.2.2.2.2.1, z13.2.2.2.2.2.1, z13.2.2.2.2.2.2.1, z13.2.2.2.2.2.2.2) else (if p3 = 1 then (z13.2.2.1, z4.1, z4.2.1, z13.2.1, z4.2.2.2.1, z4.2.2.2.2.1, z13.2.2.1, z13.2.2.2.1, z13.2.2.2.2.1, z13.2.2.2.2.2.1, z13.2.2.2.2.2.2.1, z13.2.2.2.2.2.2.2) else (z13.2.1, z4.1, z4.2.1, z13.2.1, z4.2.2.2.1, z4.2.2.2.2.1, z13.2.2.1, z13.2.2.2.1, z13.2.2.2.2.1, z13.2.2.2.2.2.1, z13.2.2.2.2.2.2.1, z13.2.2.2.2.2.2.2))))))))))
def o_X9_century (v_t_parish_inside : Int32) (v_t_parish_next : Int32) (v_t_parish_year : Int32) (g_t_parish_wealth : (Nat → Int32)) (g_t_trial_parish_wealth : (Nat → Int32)) (g_t_parish_given : (Nat → Int32)) (g_t_trial_parish_given : (Nat → Int32)) (g_t_parish_row : (Nat → Int32)) (g_t_trial_parish_row : (Nat → Int32)) (p1 : Int32) (p2 : Int32) (p3 : Int32) : Prop := (if (f_X9_within p1 (0 : Int32) (9999 : Int32)) = 0 then True else (if (f_X9_within p2 (1 : Int32) (99 : Int32)) = 0 then True else (if (f_X9_within p3 (0 : Int32) (2 : Int32)) = 0 then True else (lt (f_X8_begin v_t_parish_inside v_t_parish_next v_t_parish_year g_t_parish_wealth g_t_trial_parish_wealth g_t_parish_given g_t_trial_parish_given g_t_parish_row g_t_trial_parish_row) (fun z4 => ((0 ≤ p2) ∧ ((itA oB_X9_century_50 B_X9_century_50 0 ((p2.toNatClampNeg) - 0) (p1, z4.2.2.1, z4.2.2.2.2.2.1, z4.2.2.2.2.2.2.1, z4.2.2.2.2.2.2.2.1, z4.2.2.2.2.2.2.2.2.1, z4.2.2.2.2.2.2.2.2.2.1, z4.2.2.2.2.2.2.2.2.2.2)) ∧ True)))))))
set_option maxHeartbeats 4000000 in
set_option maxRecDepth 100000 in
theorem T_X9_century (l : Launch) (D : va_G) (cI cZ : ClassId) (a_t a_t_parish a_t_kinship a_t_sights a_t_pad a_t_trial a_t_evening a_t_rows a_t_guess a_t_imageZero a_t_imageOne a_t_trial_parish a_t_trial_parish_wealth a_t_trial_parish_given a_t_trial_parish_row a_t_parish_wealth a_t_parish_given a_t_parish_row : Nat) (v_t_trial_wrongAct : Int32) (v_t_trial_reason : Int32) (v_t_trial_gifts : Int32) (v_t_trial_firstAct : Int32) (v_t_trial_firstHouse : Int32) (v_t_trial_parish_inside : Int32) (v_t_trial_parish_next : Int32) (v_t_trial_parish_year : Int32) (v_t_parish_inside : Int32) (v_t_parish_next : Int32) (v_t_parish_year : Int32) (g_t_parish_wealth : (Nat → Int32)) (g_t_trial_parish_wealth : (Nat → Int32)) (g_t_parish_given : (Nat → Int32)) (g_t_trial_parish_given : (Nat → Int32)) (g_t_parish_row : (Nat → Int32)) (g_t_trial_parish_row : (Nat → Int32)) (p1 : Int32) (p2 : Int32) (p3 : Int32) (hok : o_X9_century v_t_parish_inside v_t_parish_next v_t_parish_year g_t_parish_wealth g_t_trial_parish_wealth g_t_parish_given g_t_trial_parish_given g_t_parish_row g_t_trial_parish_row p1 p2 p3) : CT l D cI cZ yX9_century wsX9_century ({ frames := 5, cells := 0, slots := 0, locals := 122 }) [.ref a_t, .int p1, .int p2, .int p3] [(a_t, .inr (9, [.ref a_t_parish, .ref a_t_kinship, .ref a_t_sights, .ref a_t_pad, .ref a_t_trial, .ref a_t_evening, .ref a_t_rows, .ref a_t_guess, .ref a_t_imageZero, .ref a_t_imageOne])), (a_t_trial, .inr (8, [.ref a_t_trial_parish, .int v_t_trial_wrongAct, .int v_t_trial_reason, .int v_t_trial_gifts, .int v_t_trial_firstAct, .int v_t_trial_firstHouse])), (a_t_trial_parish, .inr (5, [.ref a_t_trial_parish_wealth, .ref a_t_trial_parish_given, .ref a_t_trial_parish_row, .int v_t_trial_parish_inside, .int v_t_trial_parish_next, .int v_t_trial_parish_year])), (a_t_parish, .inr (5, [.ref a_t_parish_wealth, .ref a_t_parish_given, .ref a_t_parish_row, .int v_t_parish_inside, .int v_t_parish_next, .int v_t_parish_year])), (a_t_parish_wealth, .inl (cI, 8, .inl g_t_parish_wealth)), (a_t_trial_parish_wealth, .inl (cI, 8, .inl g_t_trial_parish_wealth)), (a_t_parish_given, .inl (cI, 64, .inl g_t_parish_given)), (a_t_trial_parish_given, .inl (cI, 64, .inl g_t_trial_parish_given)), (a_t_parish_row, .inl (cI, 8, .inl g_t_parish_row)), (a_t_trial_parish_row, .inl (cI, 8, .inl g_t_trial_parish_row))] (some (.int (f_X9_century v_t_trial_wrongAct v_t_trial_reason v_t_trial_gifts v_t_trial_firstAct v_t_trial_firstHouse v_t_trial_parish_inside v_t_trial_parish_next v_t_trial_parish_year v_t_parish_inside v_t_parish_next v_t_parish_year g_t_parish_wealth g_t_trial_parish_wealth g_t_parish_given g_t_trial_parish_given g_t_parish_row g_t_trial_parish_row p1 p2 p3).1)) [(a_t, .inr (9, [.ref a_t_parish, .ref a_t_kinship, .ref a_t_sights, .ref a_t_pad, .ref a_t_trial, .ref a_t_evening, .ref a_t_rows, .ref a_t_guess, .ref a_t_imageZero, .ref a_t_imageOne])), (a_t_trial, .inr (8, [.ref a_t_trial_parish, .int (f_X9_century v_t_trial_wrongAct v_t_trial_reason v_t_trial_gifts v_t_trial_firstAct v_t_trial_firstHouse v_t_trial_parish_inside v_t_trial_parish_next v_t_trial_parish_year v_t_parish_inside v_t_parish_next v_t_parish_year g_t_parish_wealth g_t_trial_parish_wealth g_t_parish_given g_t_trial_parish_given g_t_parish_row g_t_trial_parish_row p1 p2 p3).2.1, .int (f_X9_century v_t_trial_wrongAct v_t_trial_reason v_t_trial_gifts v_t_trial_firstAct v_t_trial_firstHouse v_t_trial_parish_inside v_t_trial_parish_next v_t_trial_parish_year v_t_parish_inside v_t_parish_next v_t_parish_year g_t_parish_wealth g_t_trial_parish_wealth g_t_parish_given g_t_trial_parish_given g_t_parish_row g_t_trial_parish_row p1 p2 p3).2.2.1, .int (f_X9_century v_t_trial_wrongAct v_t_trial_reason v_t_trial_gifts v_t_trial_firstAct v_t_trial_firstHouse v_t_trial_parish_inside v_t_trial_parish_next v_t_trial_parish_year v_t_parish_inside v_t_parish_next v_t_parish_year g_t_parish_wealth g_t_trial_parish_wealth g_t_parish_given g_t_trial_parish_given g_t_parish_row g_t_trial_parish_row p1 p2 p3).2.2.2.1, .int (f_X9_century v_t_trial_wrongAct v_t_trial_reason v_t_trial_gifts v_t_trial_firstAct v_t_trial_firstHouse v_t_trial_parish_inside v_t_trial_parish_next v_t_trial_parish_year v_t_parish_inside v_t_parish_next v_t_parish_year g_t_parish_wealth g_t_trial_parish_wealth g_t_parish_given g_t_trial_parish_given g_t_parish_row g_t_trial_parish_row p1 p2 p3).2.2.2.2.1, .int (f_X9_century v_t_trial_wrongAct v_t_trial_reason v_t_trial_gifts v_t_trial_firstAct v_t_trial_firstHouse v_t_trial_parish_inside v_t_trial_parish_next v_t_trial_parish_year v_t_parish_inside v_t_parish_next v_t_parish_year g_t_parish_wealth g_t_trial_parish_wealth g_t_parish_given g_t_trial_parish_given g_t_parish_row g_t_trial_parish_row p1 p2 p3).2.2.2.2.2.1])), (a_t_trial_parish, .inr (5, [.ref a_t_trial_parish_wealth, .ref a_t_trial_parish_given, .ref a_t_trial_parish_row, .int (f_X9_century v_t_trial_wrongAct v_t_trial_reason v_t_trial_gifts v_t_trial_firstAct v_t_trial_firstHouse v_t_trial_parish_inside v_t_trial_parish_next v_t_trial_parish_year v_t_parish_inside v_t_parish_next v_t_parish_year g_t_parish_wealth g_t_trial_parish_wealth g_t_parish_given g_t_trial_parish_given g_t_parish_row g_t_trial_parish_row p1 p2 p3).2.2.2.2.2.2.1, .int (f_X9_century v_t_trial_wrongAct v_t_trial_reason v_t_trial_gifts v_t_trial_firstAct v_t_trial_firstHouse v_t_trial_parish_inside v_t_trial_parish_next v_t_trial_parish_year v_t_parish_inside v_t_parish_next v_t_parish_year g_t_parish_wealth g_t_trial_parish_wealth g_t_parish_given g_t_trial_parish_given g_t_parish_row g_t_trial_parish_row p1 p2 p3).2.2.2.2.2.2.2.1, .int (f_X9_century v_t_trial_wrongAct v_t_trial_reason v_t_trial_gifts v_t_trial_firstAct v_t_trial_firstHouse v_t_trial_parish_inside v_t_trial_parish_next v_t_trial_parish_year v_t_parish_inside v_t_parish_next v_t_parish_year g_t_parish_wealth g_t_trial_parish_wealth g_t_parish_given g_t_trial_parish_given g_t_parish_row g_t_trial_parish_row p1 p2 p3).2.2.2.2.2.2.2.2.1])), (a_t_parish, .inr (5, [.ref a_t_parish_wealth, .ref a_t_parish_given, .ref a_t_parish_row, .int v_t_parish_inside, .int v_t_parish_next, .int v_t_parish_year])), (a_t_parish_wealth, .inl (cI, 8, .inl g_t_parish_wealth)), (a_t_trial_parish_wealth, .inl (cI, 8, .inl (f_X9_century v_t_trial_wrongAct v_t_trial_reason v_t_trial_gifts v_t_trial_firstAct v_t_trial_firstHouse v_t_trial_parish_inside v_t_trial_parish_next v_t_trial_parish_year v_t_parish_inside v_t_parish_next v_t_parish_year g_t_parish_wealth g_t_trial_parish_wealth g_t_parish_given g_t_trial_parish_given g_t_parish_row g_t_trial_parish_row p1 p2 p3).2.2.2.2.2.2.2.2.2.1)), (a_t_parish_given, .inl (cI, 64, .inl g_t_parish_given)), (a_t_trial_parish_given, .inl (cI, 64, .inl (f_X9_century v_t_trial_wrongAct v_t_trial_reason v_t_trial_gifts v_t_trial_firstAct v_t_trial_firstHouse v_t_trial_parish_inside v_t_trial_parish_next v_t_trial_parish_year v_t_parish_inside v_t_parish_next v_t_parish_year g_t_parish_wealth g_t_trial_parish_wealth g_t_parish_given g_t_trial_parish_given g_t_parish_row g_t_trial_parish_row p1 p2 p3).2.2.2.2.2.2.2.2.2.2.1)), (a_t_parish_row, .inl (cI, 8, .inl g_t_parish_row)), (a_t_trial_parish_row, .inl (cI, 8, .inl (f_X9_century v_t_trial_wrongAct v_t_trial_reason v_t_trial_gifts v_t_trial_firstAct v_t_trial_firstHouse v_t_trial_parish_inside v_t_trial_parish_next v_t_trial_parish_year v_t_parish_inside v_t_parish_next v_t_parish_year g_t_parish_wealth g_t_trial_parish_wealth g_t_parish_given g_t_trial_parish_given g_t_parish_row g_t_trial_parish_row p1 p2 p3).2.2.2.2.2.2.2.2.2.2.2))] := by
  refine CT.intro RX9 (by decide) rfl (Nat.le_of_ble_eq_true rfl) rfl ?_
  intro p e s m below meth c C hr hw ls hl
  have hx := C.hx
  have hb := C.hb
  replace hl : lv_has ls 6 [(0, .ref a_t), (1, .int p1), (2, .int p2), (3, .int p3)] := hl
  refine lv_iload_n hx hb dX9_century_0 rfl (lv_at hl 1 rfl) ?_
  refine lv_iconst (v := 0) hx hb dX9_century_1 (by decide) ?_
  refine lv_sipush (v := 9999) hx hb dX9_century_2 (by decide) ?_
  refine k_callS (As := [.int p1, .int 0, .int 9999]) (rest := []) (n := 3) C hw (T_X9_within l D cI cZ p1 (0 : Int32) (9999 : Int32)) gX9_century_X9_within rfl ⟨rfl, rfl⟩ (by decide +kernel) ⟨Nat.le_of_ble_eq_true rfl, Nat.le_of_ble_eq_true rfl⟩ [] rfl rfl [] rfl rfl rfl hl.1 rfl (Nat.le_of_ble_eq_true rfl) ⟨Nat.zero_le _, Nat.zero_le _⟩ dX9_century_5 (fun H locs hw => ?_)
  refine W.eq (g2 := F0 m 8 ls [.int (f_X9_within p1 (0 : Int32) (9999 : Int32))]) rfl ?_
  replace hw : kW D _ s H locs [(a_t, .inr (9, [.ref a_t_parish, .ref a_t_kinship, .ref a_t_sights, .ref a_t_pad, .ref a_t_trial, .ref a_t_evening, .ref a_t_rows, .ref a_t_guess, .ref a_t_imageZero, .ref a_t_imageOne])), (a_t_trial, .inr (8, [.ref a_t_trial_parish, .int v_t_trial_wrongAct, .int v_t_trial_reason, .int v_t_trial_gifts, .int v_t_trial_firstAct, .int v_t_trial_firstHouse])), (a_t_trial_parish, .inr (5, [.ref a_t_trial_parish_wealth, .ref a_t_trial_parish_given, .ref a_t_trial_parish_row, .int v_t_trial_parish_inside, .int v_t_trial_parish_next, .int v_t_trial_parish_year])), (a_t_parish, .inr (5, [.ref a_t_parish_wealth, .ref a_t_parish_given, .ref a_t_parish_row, .int v_t_parish_inside, .int v_t_parish_next, .int v_t_parish_year])), (a_t_parish_wealth, .inl (cI, 8, .inl g_t_parish_wealth)), (a_t_trial_parish_wealth, .inl (cI, 8, .inl g_t_trial_parish_wealth)), (a_t_parish_given, .inl (cI, 64, .inl g_t_parish_given)), (a_t_trial_parish_given, .inl (cI, 64, .inl g_t_trial_parish_given)), (a_t_parish_row, .inl (cI, 8, .inl g_t_parish_row)), (a_t_trial_parish_row, .inl (cI, 8, .inl g_t_trial_parish_row))] := hw
  refine lv_if_eq (tgt := 30) hx hb dX9_century_8 (by decide) (fun c1 => ?_) (fun c1 => ?_)
  · refine lv_bipush (v := (-2)) hx hb dX9_century_30 (by decide) ?_
    rw [show f_X9_century v_t_trial_wrongAct v_t_trial_reason v_t_trial_gifts v_t_trial_firstAct v_t_trial_firstHouse v_t_trial_parish_inside v_t_trial_parish_next v_t_trial_parish_year v_t_parish_inside v_t_parish_next v_t_parish_year g_t_parish_wealth g_t_trial_parish_wealth g_t_parish_given g_t_trial_parish_given g_t_parish_row g_t_trial_parish_row p1 p2 p3 = ((-2), v_t_trial_wrongAct, v_t_trial_reason, v_t_trial_gifts, v_t_trial_firstAct, v_t_trial_firstHouse, v_t_trial_parish_inside, v_t_trial_parish_next, v_t_trial_parish_year, g_t_trial_parish_wealth, g_t_trial_parish_given, g_t_trial_parish_row) from by
        unfold f_X9_century
        exact (if_pos c1).trans (rfl)]
    exact k_iret C hr hw dX9_century_32
  · replace hok := Eq.mp (if_neg c1) hok
    refine lv_iload_n hx hb dX9_century_11 rfl (lv_at hl 2 rfl) ?_
    refine lv_iconst (v := 1) hx hb dX9_century_12 (by decide) ?_
    refine lv_bipush (v := 99) hx hb dX9_century_13 (by decide) ?_
    refine k_callS (As := [.int p2, .int 1, .int 99]) (rest := []) (n := 3) C hw (T_X9_within l D cI cZ p2 (1 : Int32) (99 : Int32)) gX9_century_X9_within rfl ⟨rfl, rfl⟩ (by decide +kernel) ⟨Nat.le_of_ble_eq_true rfl, Nat.le_of_ble_eq_true rfl⟩ [] rfl rfl [] rfl rfl rfl hl.1 rfl (Nat.le_of_ble_eq_true rfl) ⟨Nat.zero_le _, Nat.zero_le _⟩ dX9_century_15 (fun H locs hw => ?_)
    refine W.eq (g2 := F0 m 18 ls [.int (f_X9_within p2 (1 : Int32) (99 : Int32))]) rfl ?_
    replace hw : kW D _ s H locs [(a_t, .inr (9, [.ref a_t_parish, .ref a_t_kinship, .ref a_t_sights, .ref a_t_pad, .ref a_t_trial, .ref a_t_evening, .ref a_t_rows, .ref a_t_guess, .ref a_t_imageZero, .ref a_t_imageOne])), (a_t_trial, .inr (8, [.ref a_t_trial_parish, .int v_t_trial_wrongAct, .int v_t_trial_reason, .int v_t_trial_gifts, .int v_t_trial_firstAct, .int v_t_trial_firstHouse])), (a_t_trial_parish, .inr (5, [.ref a_t_trial_parish_wealth, .ref a_t_trial_parish_given, .ref a_t_trial_parish_row, .int v_t_trial_parish_inside, .int v_t_trial_parish_next, .int v_t_trial_parish_year])), (a_t_parish, .inr (5, [.ref a_t_parish_wealth, .ref a_t_parish_given, .ref a_t_parish_row, .int v_t_parish_inside, .int v_t_parish_next, .int v_t_parish_year])), (a_t_parish_wealth, .inl (cI, 8, .inl g_t_parish_wealth)), (a_t_trial_parish_wealth, .inl (cI, 8, .inl g_t_trial_parish_wealth)), (a_t_parish_given, .inl (cI, 64, .inl g_t_parish_given)), (a_t_trial_parish_given, .inl (cI, 64, .inl g_t_trial_parish_given)), (a_t_parish_row, .inl (cI, 8, .inl g_t_parish_row)), (a_t_trial_parish_row, .inl (cI, 8, .inl g_t_trial_parish_row))] := hw
    refine lv_if_eq (tgt := 30) hx hb dX9_century_18 (by decide) (fun c2 => ?_) (fun c2 => ?_)
    · refine lv_bipush (v := (-2)) hx hb dX9_century_30 (by decide) ?_
      rw [show f_X9_century v_t_trial_wrongAct v_t_trial_reason v_t_trial_gifts v_t_trial_firstAct v_t_trial_firstHouse v_t_trial_parish_inside v_t_trial_parish_next v_t_trial_parish_year v_t_parish_inside v_t_parish_next v_t_parish_year g_t_parish_wealth g_t_trial_parish_wealth g_t_parish_given g_t_trial_parish_given g_t_parish_row g_t_trial_parish_row p1 p2 p3 = ((-2), v_t_trial_wrongAct, v_t_trial_reason, v_t_trial_gifts, v_t_trial_firstAct, v_t_trial_firstHouse, v_t_trial_parish_inside, v_t_trial_parish_next, v_t_trial_parish_year, g_t_trial_parish_wealth, g_t_trial_parish_given, g_t_trial_parish_row) from by
          unfold f_X9_century
          exact (if_neg c1).trans ((if_pos c2).trans (rfl))]
      exact k_iret C hr hw dX9_century_32
    · replace hok := Eq.mp (if_neg c2) hok
      refine lv_iload_n hx hb dX9_century_21 rfl (lv_at hl 3 rfl) ?_
      refine lv_iconst (v := 0) hx hb dX9_century_22 (by decide) ?_
      refine lv_iconst (v := 2) hx hb dX9_century_23 (by decide) ?_
      refine k_callS (As := [.int p3, .int 0, .int 2]) (rest := []) (n := 3) C hw (T_X9_within l D cI cZ p3 (0 : Int32) (2 : Int32)) gX9_century_X9_within rfl ⟨rfl, rfl⟩ (by decide +kernel) ⟨Nat.le_of_ble_eq_true rfl, Nat.le_of_ble_eq_true rfl⟩ [] rfl rfl [] rfl rfl rfl hl.1 rfl (Nat.le_of_ble_eq_true rfl) ⟨Nat.zero_le _, Nat.zero_le _⟩ dX9_century_24 (fun H locs hw => ?_)
      refine W.eq (g2 := F0 m 27 ls [.int (f_X9_within p3 (0 : Int32) (2 : Int32))]) rfl ?_
      replace hw : kW D _ s H locs [(a_t, .inr (9, [.ref a_t_parish, .ref a_t_kinship, .ref a_t_sights, .ref a_t_pad, .ref a_t_trial, .ref a_t_evening, .ref a_t_rows, .ref a_t_guess, .ref a_t_imageZero, .ref a_t_imageOne])), (a_t_trial, .inr (8, [.ref a_t_trial_parish, .int v_t_trial_wrongAct, .int v_t_trial_reason, .int v_t_trial_gifts, .int v_t_trial_firstAct, .int v_t_trial_firstHouse])), (a_t_trial_parish, .inr (5, [.ref a_t_trial_parish_wealth, .ref a_t_trial_parish_given, .ref a_t_trial_parish_row, .int v_t_trial_parish_inside, .int v_t_trial_parish_next, .int v_t_trial_parish_year])), (a_t_parish, .inr (5, [.ref a_t_parish_wealth, .ref a_t_parish_given, .ref a_t_parish_row, .int v_t_parish_inside, .int v_t_parish_next, .int v_t_parish_year])), (a_t_parish_wealth, .inl (cI, 8, .inl g_t_parish_wealth)), (a_t_trial_parish_wealth, .inl (cI, 8, .inl g_t_trial_parish_wealth)), (a_t_parish_given, .inl (cI, 64, .inl g_t_parish_given)), (a_t_trial_parish_given, .inl (cI, 64, .inl g_t_trial_parish_given)), (a_t_parish_row, .inl (cI, 8, .inl g_t_parish_row)), (a_t_trial_parish_row, .inl (cI, 8, .inl g_t_trial_parish_row))] := hw
      refine lv_if_ne (tgt := 33) hx hb dX9_century_27 (by decide) (fun c3 => ?_) (fun c3 => ?_)
      · replace hok := Eq.mp (if_neg c3) hok
        refine lv_aload_n hx hb dX9_century_33 rfl (lv_at hl 0 rfl) ?_
        refine k_get C hw (CC := RX9) (T := TX9) (N := 10) nX9_century_X9 0 rfl rfl 4 (by decide) (List.mem_of_getElem? (i := 1) rfl) rfl rfl dX9_century_34 ?_
        refine lv_aload_n hx hb dX9_century_37 rfl (lv_at hl 0 rfl) ?_
        refine k_get C hw (CC := RX9) (T := TX9) (N := 10) nX9_century_X9 0 rfl rfl 0 (by decide) (List.mem_of_getElem? (i := 2) rfl) rfl rfl dX9_century_38 ?_
        refine k_callVN (As := [.ref a_t_parish]) (rest := []) (n := 1) (CC := RX8) (T := TX8) (N := 6) (host := RX9) C hw (T_X8_begin l D cI cZ a_t_trial a_t_trial_parish a_t_trial_parish_wealth a_t_trial_parish_given a_t_trial_parish_row a_t_parish a_t_parish_wealth a_t_parish_given a_t_parish_row v_t_trial_wrongAct v_t_trial_reason v_t_trial_gifts v_t_trial_firstAct v_t_trial_firstHouse v_t_trial_parish_inside v_t_trial_parish_next v_t_trial_parish_year v_t_parish_inside v_t_parish_next v_t_parish_year g_t_parish_wealth g_t_trial_parish_wealth g_t_parish_given g_t_trial_parish_given g_t_parish_row g_t_trial_parish_row) gX9_century_X8_begin_n256 rfl ⟨rfl, rfl⟩ 43 rfl (List.mem_of_getElem? (i := 9) rfl) (List.mem_of_getElem? (i := 8) rfl) (List.mem_of_getElem? (i := 10) rfl) (by decide +kernel) ⟨Nat.le_of_ble_eq_true rfl, Nat.le_of_ble_eq_true rfl⟩ 1 rfl rfl [1, 2, 3, 4, 5, 6, 7, 8, 9] rfl rfl [a_t_trial, a_t_trial_parish, a_t_parish, a_t_parish_wealth, a_t_trial_parish_wealth, a_t_parish_given, a_t_trial_parish_given, a_t_parish_row, a_t_trial_parish_row] rfl rfl rfl hl.1 rfl (Nat.le_of_ble_eq_true rfl) ⟨Nat.zero_le _, Nat.zero_le _⟩ dX9_century_41 (fun H locs hw => ?_)
        obtain ⟨z4, h5⟩ : ∃ z, (f_X8_begin v_t_parish_inside v_t_parish_next v_t_parish_year g_t_parish_wealth g_t_trial_parish_wealth g_t_parish_given g_t_trial_parish_given g_t_parish_row g_t_trial_parish_row) = z := ⟨_, rfl⟩
        refine W.eq (g2 := F0 m 44 ls []) (by subst h5; rfl) ?_
        replace hw := kW_cast (ws' := [(a_t, .inr (9, [.ref a_t_parish, .ref a_t_kinship, .ref a_t_sights, .ref a_t_pad, .ref a_t_trial, .ref a_t_evening, .ref a_t_rows, .ref a_t_guess, .ref a_t_imageZero, .ref a_t_imageOne])), (a_t_trial, .inr (8, [.ref a_t_trial_parish, .int z4.1, .int z4.2.1, .int z4.2.2.1, .int z4.2.2.2.1, .int z4.2.2.2.2.1])), (a_t_trial_parish, .inr (5, [.ref a_t_trial_parish_wealth, .ref a_t_trial_parish_given, .ref a_t_trial_parish_row, .int z4.2.2.2.2.2.1, .int z4.2.2.2.2.2.2.1, .int z4.2.2.2.2.2.2.2.1])), (a_t_parish, .inr (5, [.ref a_t_parish_wealth, .ref a_t_parish_given, .ref a_t_parish_row, .int v_t_parish_inside, .int v_t_parish_next, .int v_t_parish_year])), (a_t_parish_wealth, .inl (cI, 8, .inl g_t_parish_wealth)), (a_t_trial_parish_wealth, .inl (cI, 8, .inl z4.2.2.2.2.2.2.2.2.1)), (a_t_parish_given, .inl (cI, 64, .inl g_t_parish_given)), (a_t_trial_parish_given, .inl (cI, 64, .inl z4.2.2.2.2.2.2.2.2.2.1)), (a_t_parish_row, .inl (cI, 8, .inl g_t_parish_row)), (a_t_trial_parish_row, .inl (cI, 8, .inl z4.2.2.2.2.2.2.2.2.2.2))]) (by subst h5; rfl) hw
        replace hok := Eq.mp (lt_c h5) hok
        refine lv_iload_n hx hb dX9_century_44 rfl (lv_at hl 1 rfl) ?_
        refine lv_istore (lv' := [(4, .int p1), (0, .ref a_t), (1, .int p1), (2, .int p2), (3, .int p3)]) hx hb dX9_century_45 hl (by decide) rfl (fun ls hl => ?_)
        refine lv_iconst (v := 0) hx hb dX9_century_47 (by decide) ?_
        refine lv_istore (lv' := [(5, .int 0), (4, .int p1), (0, .ref a_t), (1, .int p1), (2, .int p2), (3, .int p3)]) hx hb dX9_century_48 hl (by decide) rfl (fun ls hl => ?_)
        obtain ⟨h11, hok⟩ := hok
        obtain ⟨h12, hok⟩ := hok
        refine l_X9_century_50 a_t a_t_parish a_t_kinship a_t_sights a_t_pad a_t_trial a_t_evening a_t_rows a_t_guess a_t_imageZero a_t_imageOne a_t_trial_parish a_t_trial_parish_wealth a_t_trial_parish_given a_t_trial_parish_row a_t_parish_wealth a_t_parish_given a_t_parish_row p2 p3 z4.1 z4.2.1 z4.2.2.2.1 z4.2.2.2.2.1 v_t_parish_inside v_t_parish_next v_t_parish_year g_t_parish_wealth g_t_parish_given g_t_parish_row C p2.toNatClampNeg (nI_self h11) (clamp_lt _) ((p2.toNatClampNeg) - 0) 0 p1 z4.2.2.1 z4.2.2.2.2.2.1 z4.2.2.2.2.2.2.1 z4.2.2.2.2.2.2.2.1 z4.2.2.2.2.2.2.2.2.1 z4.2.2.2.2.2.2.2.2.2.1 z4.2.2.2.2.2.2.2.2.2.2 rfl (by decide) h12 _ _ hw _ (lv_sub hl [2, 4, 5, 1, 0] rfl) (fun H locs ls hw hl => ?_)
        obtain ⟨z13, h14⟩ : ∃ z, (it B_X9_century_50 0 ((p2.toNatClampNeg) - 0) (p1, z4.2.2.1, z4.2.2.2.2.2.1, z4.2.2.2.2.2.2.1, z4.2.2.2.2.2.2.2.1, z4.2.2.2.2.2.2.2.2.1, z4.2.2.2.2.2.2.2.2.2.1, z4.2.2.2.2.2.2.2.2.2.2)) = z := ⟨_, rfl⟩
        replace hw := kW_cast (ws' := [(a_t, .inr (9, [.ref a_t_parish, .ref a_t_kinship, .ref a_t_sights, .ref a_t_pad, .ref a_t_trial, .ref a_t_evening, .ref a_t_rows, .ref a_t_guess, .ref a_t_imageZero, .ref a_t_imageOne])), (a_t_trial, .inr (8, [.ref a_t_trial_parish, .int z4.1, .int z4.2.1, .int z13.2.1, .int z4.2.2.2.1, .int z4.2.2.2.2.1])), (a_t_trial_parish, .inr (5, [.ref a_t_trial_parish_wealth, .ref a_t_trial_parish_given, .ref a_t_trial_parish_row, .int z13.2.2.1, .int z13.2.2.2.1, .int z13.2.2.2.2.1])), (a_t_parish, .inr (5, [.ref a_t_parish_wealth, .ref a_t_parish_given, .ref a_t_parish_row, .int v_t_parish_inside, .int v_t_parish_next, .int v_t_parish_year])), (a_t_parish_wealth, .inl (cI, 8, .inl g_t_parish_wealth)), (a_t_trial_parish_wealth, .inl (cI, 8, .inl z13.2.2.2.2.2.1)), (a_t_parish_given, .inl (cI, 64, .inl g_t_parish_given)), (a_t_trial_parish_given, .inl (cI, 64, .inl z13.2.2.2.2.2.2.1)), (a_t_parish_row, .inl (cI, 8, .inl g_t_parish_row)), (a_t_trial_parish_row, .inl (cI, 8, .inl z13.2.2.2.2.2.2.2))]) (by subst h14; rfl) hw
        replace hl : lv_has ls 6 [(0, .ref a_t), (3, .int p3)] := by subst h14; exact hl
        refine lv_iload_n hx hb dX9_century_82 rfl (lv_at hl 1 rfl) ?_
        by_cases c15 : p3 = 0
        · refine lv_lookup (off := 25) (tgt := 108) hx hb dX9_century_83 rfl (by first | (rw [c15]; done) | (rw [c15]; rfl)) (by decide) ?_
          refine lv_aload_n hx hb dX9_century_108 rfl (lv_at hl 0 rfl) ?_
          refine k_get C hw (CC := RX9) (T := TX9) (N := 10) nX9_century_X9 0 rfl rfl 4 (by decide) (List.mem_of_getElem? (i := 1) rfl) rfl rfl dX9_century_109 ?_
          refine k_getN C hw (CC := RX8) (T := TX8) (N := 6) nX9_century_X8 1 rfl rfl 0 (by decide) 15 rfl rfl rfl dX9_century_112 ?_
          refine k_getN C hw (CC := RX5) (T := TX5) (N := 6) nX9_century_X5 2 rfl rfl 0 (by decide) 0 rfl rfl rfl dX9_century_115 ?_
          refine lv_iconst (v := 0) hx hb dX9_century_118 (by decide) ?_
          refine k_ialdN C hw 5 rfl 0 rfl (by decide) (by decide) dX9_century_119 ?_
          rw [show f_X9_century v_t_trial_wrongAct v_t_trial_reason v_t_trial_gifts v_t_trial_firstAct v_t_trial_firstHouse v_t_trial_parish_inside v_t_trial_parish_next v_t_trial_parish_year v_t_parish_inside v_t_parish_next v_t_parish_year g_t_parish_wealth g_t_trial_parish_wealth g_t_parish_given g_t_trial_parish_given g_t_parish_row g_t_trial_parish_row p1 p2 p3 = ((z13.2.2.2.2.2.1 0), z4.1, z4.2.1, z13.2.1, z4.2.2.2.1, z4.2.2.2.2.1, z13.2.2.1, z13.2.2.2.1, z13.2.2.2.2.1, z13.2.2.2.2.2.1, z13.2.2.2.2.2.2.1, z13.2.2.2.2.2.2.2) from by
              unfold f_X9_century
              exact (if_neg c1).trans ((if_neg c2).trans ((if_neg c3).trans ((lt_c h5).trans ((lt_c h14).trans ((if_pos c15).trans (rfl))))))]
          exact k_iret C hr hw dX9_century_120
        · by_cases c16 : p3 = 1
          · refine lv_lookup (off := 38) (tgt := 121) hx hb dX9_century_83 rfl (by first | (rw [c16]; done) | (rw [c16]; rfl)) (by decide) ?_
            refine lv_aload_n hx hb dX9_century_121 rfl (lv_at hl 0 rfl) ?_
            refine k_get C hw (CC := RX9) (T := TX9) (N := 10) nX9_century_X9 0 rfl rfl 4 (by decide) (List.mem_of_getElem? (i := 1) rfl) rfl rfl dX9_century_122 ?_
            refine k_getN C hw (CC := RX8) (T := TX8) (N := 6) nX9_century_X8 1 rfl rfl 0 (by decide) 15 rfl rfl rfl dX9_century_125 ?_
            refine k_getN C hw (CC := RX5) (T := TX5) (N := 6) nX9_century_X5 2 rfl rfl 3 (by decide) 2 rfl rfl rfl dX9_century_128 ?_
            rw [show f_X9_century v_t_trial_wrongAct v_t_trial_reason v_t_trial_gifts v_t_trial_firstAct v_t_trial_firstHouse v_t_trial_parish_inside v_t_trial_parish_next v_t_trial_parish_year v_t_parish_inside v_t_parish_next v_t_parish_year g_t_parish_wealth g_t_trial_parish_wealth g_t_parish_given g_t_trial_parish_given g_t_parish_row g_t_trial_parish_row p1 p2 p3 = (z13.2.2.1, z4.1, z4.2.1, z13.2.1, z4.2.2.2.1, z4.2.2.2.2.1, z13.2.2.1, z13.2.2.2.1, z13.2.2.2.2.1, z13.2.2.2.2.2.1, z13.2.2.2.2.2.2.1, z13.2.2.2.2.2.2.2) from by
                unfold f_X9_century
                exact (if_neg c1).trans ((if_neg c2).trans ((if_neg c3).trans ((lt_c h5).trans ((lt_c h14).trans ((if_neg c15).trans ((if_pos c16).trans (rfl)))))))]
            exact k_iret C hr hw dX9_century_131
          · refine lv_lookup (off := 49) (tgt := 132) hx hb dX9_century_83 rfl ((lv_osw c15 (by decide)).trans ((lv_osw c16 (by decide)).trans (rfl))) (by decide) ?_
            refine lv_aload_n hx hb dX9_century_132 rfl (lv_at hl 0 rfl) ?_
            refine k_get C hw (CC := RX9) (T := TX9) (N := 10) nX9_century_X9 0 rfl rfl 4 (by decide) (List.mem_of_getElem? (i := 1) rfl) rfl rfl dX9_century_133 ?_
            refine k_getN C hw (CC := RX8) (T := TX8) (N := 6) nX9_century_X8 1 rfl rfl 3 (by decide) 18 rfl rfl rfl dX9_century_136 ?_
            rw [show f_X9_century v_t_trial_wrongAct v_t_trial_reason v_t_trial_gifts v_t_trial_firstAct v_t_trial_firstHouse v_t_trial_parish_inside v_t_trial_parish_next v_t_trial_parish_year v_t_parish_inside v_t_parish_next v_t_parish_year g_t_parish_wealth g_t_trial_parish_wealth g_t_parish_given g_t_trial_parish_given g_t_parish_row g_t_trial_parish_row p1 p2 p3 = (z13.2.1, z4.1, z4.2.1, z13.2.1, z4.2.2.2.1, z4.2.2.2.2.1, z13.2.2.1, z13.2.2.2.1, z13.2.2.2.2.1, z13.2.2.2.2.2.1, z13.2.2.2.2.2.2.1, z13.2.2.2.2.2.2.2) from by
                unfold f_X9_century
                exact (if_neg c1).trans ((if_neg c2).trans ((if_neg c3).trans ((lt_c h5).trans ((lt_c h14).trans ((if_neg c15).trans ((if_neg c16).trans (rfl)))))))]
            exact k_iret C hr hw dX9_century_139
      · refine lv_bipush (v := (-2)) hx hb dX9_century_30 (by decide) ?_
        rw [show f_X9_century v_t_trial_wrongAct v_t_trial_reason v_t_trial_gifts v_t_trial_firstAct v_t_trial_firstHouse v_t_trial_parish_inside v_t_trial_parish_next v_t_trial_parish_year v_t_parish_inside v_t_parish_next v_t_parish_year g_t_parish_wealth g_t_trial_parish_wealth g_t_parish_given g_t_trial_parish_given g_t_parish_row g_t_trial_parish_row p1 p2 p3 = ((-2), v_t_trial_wrongAct, v_t_trial_reason, v_t_trial_gifts, v_t_trial_firstAct, v_t_trial_firstHouse, v_t_trial_parish_inside, v_t_trial_parish_next, v_t_trial_parish_year, g_t_trial_parish_wealth, g_t_trial_parish_given, g_t_trial_parish_row) from by
            unfold f_X9_century
            exact (if_neg c1).trans ((if_neg c2).trans ((if_pos c3).trans (rfl)))]
        exact k_iret C hr hw dX9_century_32

theorem nX9_image_X2 : ∀ w ∈ wsX20, w ∈ wsX9_image := fun _ h => List.mem_cons_of_mem _ (List.mem_append_left _ (List.mem_append_left _ (List.mem_append_left _ (List.mem_append_right _ h))))
theorem nX9_image_X9 : ∀ w ∈ wsX90, w ∈ wsX9_image := fun _ h => List.mem_cons_of_mem _ (List.mem_append_left _ (List.mem_append_left _ (List.mem_append_left _ (List.mem_append_left _ (List.mem_append_right _ h)))))
def f_X9_image (v_t_imageOne_kept : Int32) (v_t_imageOne_parish_inside : Int32) (v_t_imageOne_parish_next : Int32) (v_t_imageOne_parish_year : Int32) (v_t_parish_inside : Int32) (v_t_parish_next : Int32) (v_t_parish_year : Int32) (g_t_parish_wealth : (Nat → Int32)) (g_t_imageOne_parish_wealth : (Nat → Int32)) (g_t_parish_given : (Nat → Int32)) (g_t_imageOne_parish_given : (Nat → Int32)) (g_t_parish_row : (Nat → Int32)) (g_t_imageOne_parish_row : (Nat → Int32)) (g_t_kinship_of : (Nat → Int32)) (g_t_imageOne_kinship_of : (Nat → Int32)) (v_t_imageOne_sights_size : Int32) (v_t_sights_size : Int32) (g_t_sights_sets : (Nat → Int32)) (g_t_imageOne_sights_sets : (Nat → Int32)) (g_t_sights_counts : (Nat → Int32)) (g_t_imageOne_sights_counts : (Nat → Int32)) (v_t_imageZero_kept : Int32) (v_t_imageZero_parish_inside : Int32) (v_t_imageZero_parish_next : Int32) (v_t_imageZero_parish_year : Int32) (g_t_imageZero_parish_wealth : (Nat → Int32)) (g_t_imageZero_parish_given : (Nat → Int32)) (g_t_imageZero_parish_row : (Nat → Int32)) (g_t_imageZero_kinship_of : (Nat → Int32)) (v_t_imageZero_sights_size : Int32) (g_t_imageZero_sights_sets : (Nat → Int32)) (g_t_imageZero_sights_counts : (Nat → Int32)) (p1 : Int32) : Int32 × Int32 × Int32 × Int32 × Int32 × (Nat → Int32) × (Nat → Int32) × (Nat → Int32) × (Nat → Int32) × Int32 × (Nat → Int32) × (Nat → Int32) × Int32 × Int32 × Int32 × Int32 × (Nat → Int32) × (Nat → Int32) × (Nat → Int32) × (Nat → Int32) × Int32 × (Nat → Int32) × (Nat → Int32) := (if (f_X9_within p1 (0 : Int32) (1 : Int32)) = 0 then ((-2), v_t_imageOne_kept, v_t_imageOne_parish_inside, v_t_imageOne_parish_next, v_t_imageOne_parish_year, g_t_imageOne_parish_wealth, g_t_imageOne_parish_given, g_t_imageOne_parish_row, g_t_imageOne_kinship_of, v_t_imageOne_sights_size, g_t_imageOne_sights_sets, g_t_imageOne_sights_counts, v_t_imageZero_kept, v_t_imageZero_parish_inside, v_t_imageZero_parish_next, v_t_imageZero_parish_year, g_t_imageZero_parish_wealth, g_t_imageZero_parish_given, g_t_imageZero_parish_row, g_t_imageZero_kinship_of, v_t_imageZero_sights_size, g_t_imageZero_sights_sets, g_t_imageZero_sights_counts) else (if p1 = 0 then (lt (f_X5_copyFrom v_t_parish_inside v_t_parish_next v_t_parish_year g_t_parish_wealth g_t_imageZero_parish_wealth g_t_parish_given g_t_imageZero_parish_given g_t_parish_row g_t_imageZero_parish_row) (fun z9 => (lt (f_X3_copyFrom g_t_kinship_of g_t_imageZero_kinship_of) (fun z11 => (lt (f_X7_copyFrom v_t_sights_size g_t_sights_sets g_t_imageZero_sights_sets g_t_sights_counts g_t_imageZero_sights_counts) (fun z13 => (1, v_t_imageOne_kept, v_t_imageOne_parish_inside, v_t_imageOne_parish_next, v_t_imageOne_parish_year, g_t_imageOne_parish_wealth, g_t_imageOne_parish_given, g_t_imageOne_parish_row, g_t_imageOne_kinship_of, v_t_imageOne_sights_size, g_t_imageOne_sights_sets, g_t_imageOne_sights_counts, 1, z9.1, z9.2.1, z9.2.2.1, z9.2.2.2.1, z9.2.2.2.2.1, z9.2.2.2.2.2, z11, z13.1, z13.2.1, z13.2.2))))))) else (lt (f_X5_copyFrom v_t_parish_inside v_t_parish_next v_t_parish_year g_t_parish_wealth g_t_imageOne_parish_wealth g_t_parish_given g_t_imageOne_parish_given g_t_parish_row g_t_imageOne_parish_row) (fun z3 => (lt (f_X3_copyFrom g_t_kinship_of g_t_imageOne_kinship_of) (fun z5 => (lt (f_X7_copyFrom v_t_sights_size g_t_sights_sets g_t_imageOne_sights_sets g_t_sights_counts g_t_imageOne_sights_counts) (fun z7 => (1, 1, z3.1, z3.2.1, z3.2.2.1, z3.2.2.2.1, z3.2.2.2.2.1, z3.2.2.2.2.2, z5, z7.1, z7.2.1, z7.2.2, v_t_imageZero_kept, v_t_imageZero_parish_inside, v_t_imageZero_parish_next, v_t_imageZero_parish_year, g_t_imageZero_parish_wealth, g_t_imageZero_parish_given, g_t_imageZero_parish_row, g_t_imageZero_kinship_of, v_t_imageZero_sights_size, g_t_imageZero_sights_sets, g_t_imageZero_sights_counts)))))))))
set_option maxHeartbeats 4000000 in
set_option maxRecDepth 100000 in
theorem T_X9_image (l : Launch) (D : va_G) (cI cZ : ClassId) (a_t a_t_parish a_t_kinship a_t_sights a_t_pad a_t_trial a_t_evening a_t_rows a_t_guess a_t_imageZero a_t_imageOne a_t_imageOne_parish a_t_imageOne_kinship a_t_imageOne_sights a_t_imageOne_parish_wealth a_t_imageOne_parish_given a_t_imageOne_parish_row a_t_parish_wealth a_t_parish_given a_t_parish_row a_t_imageOne_kinship_of a_t_kinship_of a_t_imageOne_sights_sets a_t_imageOne_sights_counts a_t_sights_sets a_t_sights_counts a_t_imageZero_parish a_t_imageZero_kinship a_t_imageZero_sights a_t_imageZero_parish_wealth a_t_imageZero_parish_given a_t_imageZero_parish_row a_t_imageZero_kinship_of a_t_imageZero_sights_sets a_t_imageZero_sights_counts : Nat) (v_t_imageOne_kept : Int32) (v_t_imageOne_parish_inside : Int32) (v_t_imageOne_parish_next : Int32) (v_t_imageOne_parish_year : Int32) (v_t_parish_inside : Int32) (v_t_parish_next : Int32) (v_t_parish_year : Int32) (g_t_parish_wealth : (Nat → Int32)) (g_t_imageOne_parish_wealth : (Nat → Int32)) (g_t_parish_given : (Nat → Int32)) (g_t_imageOne_parish_given : (Nat → Int32)) (g_t_parish_row : (Nat → Int32)) (g_t_imageOne_parish_row : (Nat → Int32)) (g_t_kinship_of : (Nat → Int32)) (g_t_imageOne_kinship_of : (Nat → Int32)) (v_t_imageOne_sights_size : Int32) (v_t_sights_size : Int32) (g_t_sights_sets : (Nat → Int32)) (g_t_imageOne_sights_sets : (Nat → Int32)) (g_t_sights_counts : (Nat → Int32)) (g_t_imageOne_sights_counts : (Nat → Int32)) (v_t_imageZero_kept : Int32) (v_t_imageZero_parish_inside : Int32) (v_t_imageZero_parish_next : Int32) (v_t_imageZero_parish_year : Int32) (g_t_imageZero_parish_wealth : (Nat → Int32)) (g_t_imageZero_parish_given : (Nat → Int32)) (g_t_imageZero_parish_row : (Nat → Int32)) (g_t_imageZero_kinship_of : (Nat → Int32)) (v_t_imageZero_sights_size : Int32) (g_t_imageZero_sights_sets : (Nat → Int32)) (g_t_imageZero_sights_counts : (Nat → Int32)) (p1 : Int32) : CT l D cI cZ yX9_image wsX9_image ({ frames := 2, cells := 0, slots := 0, locals := 101 }) [.ref a_t, .int p1] [(a_t, .inr (9, [.ref a_t_parish, .ref a_t_kinship, .ref a_t_sights, .ref a_t_pad, .ref a_t_trial, .ref a_t_evening, .ref a_t_rows, .ref a_t_guess, .ref a_t_imageZero, .ref a_t_imageOne])), (a_t_imageOne, .inr (2, [.ref a_t_imageOne_parish, .ref a_t_imageOne_kinship, .ref a_t_imageOne_sights, .int v_t_imageOne_kept])), (a_t_imageOne_parish, .inr (5, [.ref a_t_imageOne_parish_wealth, .ref a_t_imageOne_parish_given, .ref a_t_imageOne_parish_row, .int v_t_imageOne_parish_inside, .int v_t_imageOne_parish_next, .int v_t_imageOne_parish_year])), (a_t_parish, .inr (5, [.ref a_t_parish_wealth, .ref a_t_parish_given, .ref a_t_parish_row, .int v_t_parish_inside, .int v_t_parish_next, .int v_t_parish_year])), (a_t_parish_wealth, .inl (cI, 8, .inl g_t_parish_wealth)), (a_t_imageOne_parish_wealth, .inl (cI, 8, .inl g_t_imageOne_parish_wealth)), (a_t_parish_given, .inl (cI, 64, .inl g_t_parish_given)), (a_t_imageOne_parish_given, .inl (cI, 64, .inl g_t_imageOne_parish_given)), (a_t_parish_row, .inl (cI, 8, .inl g_t_parish_row)), (a_t_imageOne_parish_row, .inl (cI, 8, .inl g_t_imageOne_parish_row)), (a_t_imageOne_kinship, .inr (3, [.ref a_t_imageOne_kinship_of])), (a_t_kinship, .inr (3, [.ref a_t_kinship_of])), (a_t_kinship_of, .inl (cI, 8, .inl g_t_kinship_of)), (a_t_imageOne_kinship_of, .inl (cI, 8, .inl g_t_imageOne_kinship_of)), (a_t_imageOne_sights, .inr (7, [.ref a_t_imageOne_sights_sets, .ref a_t_imageOne_sights_counts, .int v_t_imageOne_sights_size])), (a_t_sights, .inr (7, [.ref a_t_sights_sets, .ref a_t_sights_counts, .int v_t_sights_size])), (a_t_sights_sets, .inl (cI, 8, .inl g_t_sights_sets)), (a_t_imageOne_sights_sets, .inl (cI, 8, .inl g_t_imageOne_sights_sets)), (a_t_sights_counts, .inl (cI, 8, .inl g_t_sights_counts)), (a_t_imageOne_sights_counts, .inl (cI, 8, .inl g_t_imageOne_sights_counts)), (a_t_imageZero, .inr (2, [.ref a_t_imageZero_parish, .ref a_t_imageZero_kinship, .ref a_t_imageZero_sights, .int v_t_imageZero_kept])), (a_t_imageZero_parish, .inr (5, [.ref a_t_imageZero_parish_wealth, .ref a_t_imageZero_parish_given, .ref a_t_imageZero_parish_row, .int v_t_imageZero_parish_inside, .int v_t_imageZero_parish_next, .int v_t_imageZero_parish_year])), (a_t_imageZero_parish_wealth, .inl (cI, 8, .inl g_t_imageZero_parish_wealth)), (a_t_imageZero_parish_given, .inl (cI, 64, .inl g_t_imageZero_parish_given)), (a_t_imageZero_parish_row, .inl (cI, 8, .inl g_t_imageZero_parish_row)), (a_t_imageZero_kinship, .inr (3, [.ref a_t_imageZero_kinship_of])), (a_t_imageZero_kinship_of, .inl (cI, 8, .inl g_t_imageZero_kinship_of)), (a_t_imageZero_sights, .inr (7, [.ref a_t_imageZero_sights_sets, .ref a_t_imageZero_sights_counts, .int v_t_imageZero_sights_size])), (a_t_imageZero_sights_sets, .inl (cI, 8, .inl g_t_imageZero_sights_sets)), (a_t_imageZero_sights_counts, .inl (cI, 8, .inl g_t_imageZero_sights_counts))] (some (.int (f_X9_image v_t_imageOne_kept v_t_imageOne_parish_inside v_t_imageOne_parish_next v_t_imageOne_parish_year v_t_parish_inside v_t_parish_next v_t_parish_year g_t_parish_wealth g_t_imageOne_parish_wealth g_t_parish_given g_t_imageOne_parish_given g_t_parish_row g_t_imageOne_parish_row g_t_kinship_of g_t_imageOne_kinship_of v_t_imageOne_sights_size v_t_sights_size g_t_sights_sets g_t_imageOne_sights_sets g_t_sights_counts g_t_imageOne_sights_counts v_t_imageZero_kept v_t_imageZero_parish_inside v_t_imageZero_parish_next v_t_imageZero_parish_year g_t_imageZero_parish_wealth g_t_imageZero_parish_given g_t_imageZero_parish_row g_t_imageZero_kinship_of v_t_imageZero_sights_size g_t_imageZero_sights_sets g_t_imageZero_sights_counts p1).1)) [(a_t, .inr (9, [.ref a_t_parish, .ref a_t_kinship, .ref a_t_sights, .ref a_t_pad, .ref a_t_trial, .ref a_t_evening, .ref a_t_rows, .ref a_t_guess, .ref a_t_imageZero, .ref a_t_imageOne])), (a_t_imageOne, .inr (2, [.ref a_t_imageOne_parish, .ref a_t_imageOne_kinship, .ref a_t_imageOne_sights, .int (f_X9_image v_t_imageOne_kept v_t_imageOne_parish_inside v_t_imageOne_parish_next v_t_imageOne_parish_year v_t_parish_inside v_t_parish_next v_t_parish_year g_t_parish_wealth g_t_imageOne_parish_wealth g_t_parish_given g_t_imageOne_parish_given g_t_parish_row g_t_imageOne_parish_row g_t_kinship_of g_t_imageOne_kinship_of v_t_imageOne_sights_size v_t_sights_size g_t_sights_sets g_t_imageOne_sights_sets g_t_sights_counts g_t_imageOne_sights_counts v_t_imageZero_kept v_t_imageZero_parish_inside v_t_imageZero_parish_next v_t_imageZero_parish_year g_t_imageZero_parish_wealth g_t_imageZero_parish_given g_t_imageZero_parish_row g_t_imageZero_kinship_of v_t_imageZero_sights_size g_t_imageZero_sights_sets g_t_imageZero_sights_counts p1).2.1])), (a_t_imageOne_parish, .inr (5, [.ref a_t_imageOne_parish_wealth, .ref a_t_imageOne_parish_given, .ref a_t_imageOne_parish_row, .int (f_X9_image v_t_imageOne_kept v_t_imageOne_parish_inside v_t_imageOne_parish_next v_t_imageOne_parish_year v_t_parish_inside v_t_parish_next v_t_parish_year g_t_parish_wealth g_t_imageOne_parish_wealth g_t_parish_given g_t_imageOne_parish_given g_t_parish_row g_t_imageOne_parish_row g_t_kinship_of g_t_imageOne_kinship_of v_t_imageOne_sights_size v_t_sights_size g_t_sights_sets g_t_imageOne_sights_sets g_t_sights_counts g_t_imageOne_sights_counts v_t_imageZero_kept v_t_imageZero_parish_inside v_t_imageZero_parish_next v_t_imageZero_parish_year g_t_imageZero_parish_wealth g_t_imageZero_parish_given g_t_imageZero_parish_row g_t_imageZero_kinship_of v_t_imageZero_sights_size g_t_imageZero_sights_sets g_t_imageZero_sights_counts p1).2.2.1, .int (f_X9_image v_t_imageOne_kept v_t_imageOne_parish_inside v_t_imageOne_parish_next v_t_imageOne_parish_year v_t_parish_inside v_t_parish_next v_t_parish_year g_t_parish_wealth g_t_imageOne_parish_wealth g_t_parish_given g_t_imageOne_parish_given g_t_parish_row g_t_imageOne_parish_row g_t_kinship_of g_t_imageOne_kinship_of v_t_imageOne_sights_size v_t_sights_size g_t_sights_sets g_t_imageOne_sights_sets g_t_sights_counts g_t_imageOne_sights_counts v_t_imageZero_kept v_t_imageZero_parish_inside v_t_imageZero_parish_next v_t_imageZero_parish_year g_t_imageZero_parish_wealth g_t_imageZero_parish_given g_t_imageZero_parish_row g_t_imageZero_kinship_of v_t_imageZero_sights_size g_t_imageZero_sights_sets g_t_imageZero_sights_counts p1).2.2.2.1, .int (f_X9_image v_t_imageOne_kept v_t_imageOne_parish_inside v_t_imageOne_parish_next v_t_imageOne_parish_year v_t_parish_inside v_t_parish_next v_t_parish_year g_t_parish_wealth g_t_imageOne_parish_wealth g_t_parish_given g_t_imageOne_parish_given g_t_parish_row g_t_imageOne_parish_row g_t_kinship_of g_t_imageOne_kinship_of v_t_imageOne_sights_size v_t_sights_size g_t_sights_sets g_t_imageOne_sights_sets g_t_sights_counts g_t_imageOne_sights_counts v_t_imageZero_kept v_t_imageZero_parish_inside v_t_imageZero_parish_next v_t_imageZero_parish_year g_t_imageZero_parish_wealth g_t_imageZero_parish_given g_t_imageZero_parish_row g_t_imageZero_kinship_of v_t_imageZero_sights_size g_t_imageZero_sights_sets g_t_imageZero_sights_counts p1).2.2.2.2.1])), (a_t_parish, .inr (5, [.ref a_t_parish_wealth, .ref a_t_parish_given, .ref a_t_parish_row, .int v_t_parish_inside, .int v_t_parish_next, .int v_t_parish_year])), (a_t_parish_wealth, .inl (cI, 8, .inl g_t_parish_wealth)), (a_t_imageOne_parish_wealth, .inl (cI, 8, .inl (f_X9_image v_t_imageOne_kept v_t_imageOne_parish_inside v_t_imageOne_parish_next v_t_imageOne_parish_year v_t_parish_inside v_t_parish_next v_t_parish_year g_t_parish_wealth g_t_imageOne_parish_wealth g_t_parish_given g_t_imageOne_parish_given g_t_parish_row g_t_imageOne_parish_row g_t_kinship_of g_t_imageOne_kinship_of v_t_imageOne_sights_size v_t_sights_size g_t_sights_sets g_t_imageOne_sights_sets g_t_sights_counts g_t_imageOne_sights_counts v_t_imageZero_kept v_t_imageZero_parish_inside v_t_imageZero_parish_next v_t_imageZero_parish_year g_t_imageZero_parish_wealth g_t_imageZero_parish_given g_t_imageZero_parish_row g_t_imageZero_kinship_of v_t_imageZero_sights_size g_t_imageZero_sights_sets g_t_imageZero_sights_counts p1).2.2.2.2.2.1)), (a_t_parish_given, .inl (cI, 64, .inl g_t_parish_given)), (a_t_imageOne_parish_given, .inl (cI, 64, .inl (f_X9_image v_t_imageOne_kept v_t_imageOne_parish_inside v_t_imageOne_parish_next v_t_imageOne_parish_year v_t_parish_inside v_t_parish_next v_t_parish_year g_t_parish_wealth g_t_imageOne_parish_wealth g_t_parish_given g_t_imageOne_parish_given g_t_parish_row g_t_imageOne_parish_row g_t_kinship_of g_t_imageOne_kinship_of v_t_imageOne_sights_size v_t_sights_size g_t_sights_sets g_t_imageOne_sights_sets g_t_sights_counts g_t_imageOne_sights_counts v_t_imageZero_kept v_t_imageZero_parish_inside v_t_imageZero_parish_next v_t_imageZero_parish_year g_t_imageZero_parish_wealth g_t_imageZero_parish_given g_t_imageZero_parish_row g_t_imageZero_kinship_of v_t_imageZero_sights_size g_t_imageZero_sights_sets g_t_imageZero_sights_counts p1).2.2.2.2.2.2.1)), (a_t_parish_row, .inl (cI, 8, .inl g_t_parish_row)), (a_t_imageOne_parish_row, .inl (cI, 8, .inl (f_X9_image v_t_imageOne_kept v_t_imageOne_parish_inside v_t_imageOne_parish_next v_t_imageOne_parish_year v_t_parish_inside v_t_parish_next v_t_parish_year g_t_parish_wealth g_t_imageOne_parish_wealth g_t_parish_given g_t_imageOne_parish_given g_t_parish_row g_t_imageOne_parish_row g_t_kinship_of g_t_imageOne_kinship_of v_t_imageOne_sights_size v_t_sights_size g_t_sights_sets g_t_imageOne_sights_sets g_t_sights_counts g_t_imageOne_sights_counts v_t_imageZero_kept v_t_imageZero_parish_inside v_t_imageZero_parish_next v_t_imageZero_parish_year g_t_imageZero_parish_wealth g_t_imageZero_parish_given g_t_imageZero_parish_row g_t_imageZero_kinship_of v_t_imageZero_sights_size g_t_imageZero_sights_sets g_t_imageZero_sights_counts p1).2.2.2.2.2.2.2.1)), (a_t_imageOne_kinship, .inr (3, [.ref a_t_imageOne_kinship_of])), (a_t_kinship, .inr (3, [.ref a_t_kinship_of])), (a_t_kinship_of, .inl (cI, 8, .inl g_t_kinship_of)), (a_t_imageOne_kinship_of, .inl (cI, 8, .inl (f_X9_image v_t_imageOne_kept v_t_imageOne_parish_inside v_t_imageOne_parish_next v_t_imageOne_parish_year v_t_parish_inside v_t_parish_next v_t_parish_year g_t_parish_wealth g_t_imageOne_parish_wealth g_t_parish_given g_t_imageOne_parish_given g_t_parish_row g_t_imageOne_parish_row g_t_kinship_of g_t_imageOne_kinship_of v_t_imageOne_sights_size v_t_sights_size g_t_sights_sets g_t_imageOne_sights_sets g_t_sights_counts g_t_imageOne_sights_counts v_t_imageZero_kept v_t_imageZero_parish_inside v_t_imageZero_parish_next v_t_imageZero_parish_year g_t_imageZero_parish_wealth g_t_imageZero_parish_given g_t_imageZero_parish_row g_t_imageZero_kinship_of v_t_imageZero_sights_size g_t_imageZero_sights_sets g_t_imageZero_sights_counts p1).2.2.2.2.2.2.2.2.1)), (a_t_imageOne_sights, .inr (7, [.ref a_t_imageOne_sights_sets, .ref a_t_imageOne_sights_counts, .int (f_X9_image v_t_imageOne_kept v_t_imageOne_parish_inside v_t_imageOne_parish_next v_t_imageOne_parish_year v_t_parish_inside v_t_parish_next v_t_parish_year g_t_parish_wealth g_t_imageOne_parish_wealth g_t_parish_given g_t_imageOne_parish_given g_t_parish_row g_t_imageOne_parish_row g_t_kinship_of g_t_imageOne_kinship_of v_t_imageOne_sights_size v_t_sights_size g_t_sights_sets g_t_imageOne_sights_sets g_t_sights_counts g_t_imageOne_sights_counts v_t_imageZero_kept v_t_imageZero_parish_inside v_t_imageZero_parish_next v_t_imageZero_parish_year g_t_imageZero_parish_wealth g_t_imageZero_parish_given g_t_imageZero_parish_row g_t_imageZero_kinship_of v_t_imageZero_sights_size g_t_imageZero_sights_sets g_t_imageZero_sights_counts p1).2.2.2.2.2.2.2.2.2.1])), (a_t_sights, .inr (7, [.ref a_t_sights_sets, .ref a_t_sights_counts, .int v_t_sights_size])), (a_t_sights_sets, .inl (cI, 8, .inl g_t_sights_sets)), (a_t_imageOne_sights_sets, .inl (cI, 8, .inl (f_X9_image v_t_imageOne_kept v_t_imageOne_parish_inside v_t_imageOne_parish_next v_t_imageOne_parish_year v_t_parish_inside v_t_parish_next v_t_parish_year g_t_parish_wealth g_t_imageOne_parish_wealth g_t_parish_given g_t_imageOne_parish_given g_t_parish_row g_t_imageOne_parish_row g_t_kinship_of g_t_imageOne_kinship_of v_t_imageOne_sights_size v_t_sights_size g_t_sights_sets g_t_imageOne_sights_sets g_t_sights_counts g_t_imageOne_sights_counts v_t_imageZero_kept v_t_imageZero_parish_inside v_t_imageZero_parish_next v_t_imageZero_parish_year g_t_imageZero_parish_wealth g_t_imageZero_parish_given g_t_imageZero_parish_row g_t_imageZero_kinship_of v_t_imageZero_sights_size g_t_imageZero_sights_sets g_t_imageZero_sights_counts p1).2.2.2.2.2.2.2.2.2.2.1)), (a_t_sights_counts, .inl (cI, 8, .inl g_t_sights_counts)), (a_t_imageOne_sights_counts, .inl (cI, 8, .inl (f_X9_image v_t_imageOne_kept v_t_imageOne_parish_inside v_t_imageOne_parish_next v_t_imageOne_parish_year v_t_parish_inside v_t_parish_next v_t_parish_year g_t_parish_wealth g_t_imageOne_parish_wealth g_t_parish_given g_t_imageOne_parish_given g_t_parish_row g_t_imageOne_parish_row g_t_kinship_of g_t_imageOne_kinship_of v_t_imageOne_sights_size v_t_sights_size g_t_sights_sets g_t_imageOne_sights_sets g_t_sights_counts g_t_imageOne_sights_counts v_t_imageZero_kept v_t_imageZero_parish_inside v_t_imageZero_parish_next v_t_imageZero_parish_year g_t_imageZero_parish_wealth g_t_imageZero_parish_given g_t_imageZero_parish_row g_t_imageZero_kinship_of v_t_imageZero_sights_size g_t_imageZero_sights_sets g_t_imageZero_sights_counts p1).2.2.2.2.2.2.2.2.2.2.2.1)), (a_t_imageZero, .inr (2, [.ref a_t_imageZero_parish, .ref a_t_imageZero_kinship, .ref a_t_imageZero_sights, .int (f_X9_image v_t_imageOne_kept v_t_imageOne_parish_inside v_t_imageOne_parish_next v_t_imageOne_parish_year v_t_parish_inside v_t_parish_next v_t_parish_year g_t_parish_wealth g_t_imageOne_parish_wealth g_t_parish_given g_t_imageOne_parish_given g_t_parish_row g_t_imageOne_parish_row g_t_kinship_of g_t_imageOne_kinship_of v_t_imageOne_sights_size v_t_sights_size g_t_sights_sets g_t_imageOne_sights_sets g_t_sights_counts g_t_imageOne_sights_counts v_t_imageZero_kept v_t_imageZero_parish_inside v_t_imageZero_parish_next v_t_imageZero_parish_year g_t_imageZero_parish_wealth g_t_imageZero_parish_given g_t_imageZero_parish_row g_t_imageZero_kinship_of v_t_imageZero_sights_size g_t_imageZero_sights_sets g_t_imageZero_sights_counts p1).2.2.2.2.2.2.2.2.2.2.2.2.1])), (a_t_imageZero_parish, .inr (5, [.ref a_t_imageZero_parish_wealth, .ref a_t_imageZero_parish_given, .ref a_t_imageZero_parish_row, .int (f_X9_image v_t_imageOne_kept v_t_imageOne_parish_inside v_t_imageOne_parish_next v_t_imageOne_parish_year v_t_parish_inside v_t_parish_next v_t_parish_year g_t_parish_wealth g_t_imageOne_parish_wealth g_t_parish_given g_t_imageOne_parish_given g_t_parish_row g_t_imageOne_parish_row g_t_kinship_of g_t_imageOne_kinship_of v_t_imageOne_sights_size v_t_sights_size g_t_sights_sets g_t_imageOne_sights_sets g_t_sights_counts g_t_imageOne_sights_counts v_t_imageZero_kept v_t_imageZero_parish_inside v_t_imageZero_parish_next v_t_imageZero_parish_year g_t_imageZero_parish_wealth g_t_imageZero_parish_given g_t_imageZero_parish_row g_t_imageZero_kinship_of v_t_imageZero_sights_size g_t_imageZero_sights_sets g_t_imageZero_sights_counts p1).2.2.2.2.2.2.2.2.2.2.2.2.2.1, .int (f_X9_image v_t_imageOne_kept v_t_imageOne_parish_inside v_t_imageOne_parish_next v_t_imageOne_parish_year v_t_parish_inside v_t_parish_next v_t_parish_year g_t_parish_wealth g_t_imageOne_parish_wealth g_t_parish_given g_t_imageOne_parish_given g_t_parish_row g_t_imageOne_parish_row g_t_kinship_of g_t_imageOne_kinship_of v_t_imageOne_sights_size v_t_sights_size g_t_sights_sets g_t_imageOne_sights_sets g_t_sights_counts g_t_imageOne_sights_counts v_t_imageZero_kept v_t_imageZero_parish_inside v_t_imageZero_parish_next v_t_imageZero_parish_year g_t_imageZero_parish_wealth g_t_imageZero_parish_given g_t_imageZero_parish_row g_t_imageZero_kinship_of v_t_imageZero_sights_size g_t_imageZero_sights_sets g_t_imageZero_sights_counts p1).2.2.2.2.2.2.2.2.2.2.2.2.2.2.1, .int (f_X9_image v_t_imageOne_kept v_t_imageOne_parish_inside v_t_imageOne_parish_next v_t_imageOne_parish_year v_t_parish_inside v_t_parish_next v_t_parish_year g_t_parish_wealth g_t_imageOne_parish_wealth g_t_parish_given g_t_imageOne_parish_given g_t_parish_row g_t_imageOne_parish_row g_t_kinship_of g_t_imageOne_kinship_of v_t_imageOne_sights_size v_t_sights_size g_t_sights_sets g_t_imageOne_sights_sets g_t_sights_counts g_t_imageOne_sights_counts v_t_imageZero_kept v_t_imageZero_parish_inside v_t_imageZero_parish_next v_t_imageZero_parish_year g_t_imageZero_parish_wealth g_t_imageZero_parish_given g_t_imageZero_parish_row g_t_imageZero_kinship_of v_t_imageZero_sights_size g_t_imageZero_sights_sets g_t_imageZero_sights_counts p1).2.2.2.2.2.2.2.2.2.2.2.2.2.2.2.1])), (a_t_imageZero_parish_wealth, .inl (cI, 8, .inl (f_X9_image v_t_imageOne_kept v_t_imageOne_parish_inside v_t_imageOne_parish_next v_t_imageOne_parish_year v_t_parish_inside v_t_parish_next v_t_parish_year g_t_parish_wealth g_t_imageOne_parish_wealth g_t_parish_given g_t_imageOne_parish_given g_t_parish_row g_t_imageOne_parish_row g_t_kinship_of g_t_imageOne_kinship_of v_t_imageOne_sights_size v_t_sights_size g_t_sights_sets g_t_imageOne_sights_sets g_t_sights_counts g_t_imageOne_sights_counts v_t_imageZero_kept v_t_imageZero_parish_inside v_t_imageZero_parish_next v_t_imageZero_parish_year g_t_imageZero_parish_wealth g_t_imageZero_parish_given g_t_imageZero_parish_row g_t_imageZero_kinship_of v_t_imageZero_sights_size g_t_imageZero_sights_sets g_t_imageZero_sights_counts p1).2.2.2.2.2.2.2.2.2.2.2.2.2.2.2.2.1)), (a_t_imageZero_parish_given, .inl (cI, 64, .inl (f_X9_image v_t_imageOne_kept v_t_imageOne_parish_inside v_t_imageOne_parish_next v_t_imageOne_parish_year v_t_parish_inside v_t_parish_next v_t_parish_year g_t_parish_wealth g_t_imageOne_parish_wealth g_t_parish_given g_t_imageOne_parish_given g_t_parish_row g_t_imageOne_parish_row g_t_kinship_of g_t_imageOne_kinship_of v_t_imageOne_sights_size v_t_sights_size g_t_sights_sets g_t_imageOne_sights_sets g_t_sights_counts g_t_imageOne_sights_counts v_t_imageZero_kept v_t_imageZero_parish_inside v_t_imageZero_parish_next v_t_imageZero_parish_year g_t_imageZero_parish_wealth g_t_imageZero_parish_given g_t_imageZero_parish_row g_t_imageZero_kinship_of v_t_imageZero_sights_size g_t_imageZero_sights_sets g_t_imageZero_sights_counts p1).2.2.2.2.2.2.2.2.2.2.2.2.2.2.2.2.2.1)), (a_t_imageZero_parish_row, .inl (cI, 8, .inl (f_X9_image v_t_imageOne_kept v_t_imageOne_parish_inside v_t_imageOne_parish_next v_t_imageOne_parish_year v_t_parish_inside v_t_parish_next v_t_parish_year g_t_parish_wealth g_t_imageOne_parish_wealth g_t_parish_given g_t_imageOne_parish_given g_t_parish_row g_t_imageOne_parish_row g_t_kinship_of g_t_imageOne_kinship_of v_t_imageOne_sights_size v_t_sights_size g_t_sights_sets g_t_imageOne_sights_sets g_t_sights_counts g_t_imageOne_sights_counts v_t_imageZero_kept v_t_imageZero_parish_inside v_t_imageZero_parish_next v_t_imageZero_parish_year g_t_imageZero_parish_wealth g_t_imageZero_parish_given g_t_imageZero_parish_row g_t_imageZero_kinship_of v_t_imageZero_sights_size g_t_imageZero_sights_sets g_t_imageZero_sights_counts p1).2.2.2.2.2.2.2.2.2.2.2.2.2.2.2.2.2.2.1)), (a_t_imageZero_kinship, .inr (3, [.ref a_t_imageZero_kinship_of])), (a_t_imageZero_kinship_of, .inl (cI, 8, .inl (f_X9_image v_t_imageOne_kept v_t_imageOne_parish_inside v_t_imageOne_parish_next v_t_imageOne_parish_year v_t_parish_inside v_t_parish_next v_t_parish_year g_t_parish_wealth g_t_imageOne_parish_wealth g_t_parish_given g_t_imageOne_parish_given g_t_parish_row g_t_imageOne_parish_row g_t_kinship_of g_t_imageOne_kinship_of v_t_imageOne_sights_size v_t_sights_size g_t_sights_sets g_t_imageOne_sights_sets g_t_sights_counts g_t_imageOne_sights_counts v_t_imageZero_kept v_t_imageZero_parish_inside v_t_imageZero_parish_next v_t_imageZero_parish_year g_t_imageZero_parish_wealth g_t_imageZero_parish_given g_t_imageZero_parish_row g_t_imageZero_kinship_of v_t_imageZero_sights_size g_t_imageZero_sights_sets g_t_imageZero_sights_counts p1).2.2.2.2.2.2.2.2.2.2.2.2.2.2.2.2.2.2.2.1)), (a_t_imageZero_sights, .inr (7, [.ref a_t_imageZero_sights_sets, .ref a_t_imageZero_sights_counts, .int (f_X9_image v_t_imageOne_kept v_t_imageOne_parish_inside v_t_imageOne_parish_next v_t_imageOne_parish_year v_t_parish_inside v_t_parish_next v_t_parish_year g_t_parish_wealth g_t_imageOne_parish_wealth g_t_parish_given g_t_imageOne_parish_given g_t_parish_row g_t_imageOne_parish_row g_t_kinship_of g_t_imageOne_kinship_of v_t_imageOne_sights_size v_t_sights_size g_t_sights_sets g_t_imageOne_sights_sets g_t_sights_counts g_t_imageOne_sights_counts v_t_imageZero_kept v_t_imageZero_parish_inside v_t_imageZero_parish_next v_t_imageZero_parish_year g_t_imageZero_parish_wealth g_t_imageZero_parish_given g_t_imageZero_parish_row g_t_imageZero_kinship_of v_t_imageZero_sights_size g_t_imageZero_sights_sets g_t_imageZero_sights_counts p1).2.2.2.2.2.2.2.2.2.2.2.2.2.2.2.2.2.2.2.2.1])), (a_t_imageZero_sights_sets, .inl (cI, 8, .inl (f_X9_image v_t_imageOne_kept v_t_imageOne_parish_inside v_t_imageOne_parish_next v_t_imageOne_parish_year v_t_parish_inside v_t_parish_next v_t_parish_year g_t_parish_wealth g_t_imageOne_parish_wealth g_t_parish_given g_t_imageOne_parish_given g_t_parish_row g_t_imageOne_parish_row g_t_kinship_of g_t_imageOne_kinship_of v_t_imageOne_sights_size v_t_sights_size g_t_sights_sets g_t_imageOne_sights_sets g_t_sights_counts g_t_imageOne_sights_counts v_t_imageZero_kept v_t_imageZero_parish_inside v_t_imageZero_parish_next v_t_imageZero_parish_year g_t_imageZero_parish_wealth g_t_imageZero_parish_given g_t_imageZero_parish_row g_t_imageZero_kinship_of v_t_imageZero_sights_size g_t_imageZero_sights_sets g_t_imageZero_sights_counts p1).2.2.2.2.2.2.2.2.2.2.2.2.2.2.2.2.2.2.2.2.2.1)), (a_t_imageZero_sights_counts, .inl (cI, 8, .inl (f_X9_image v_t_imageOne_kept v_t_imageOne_parish_inside v_t_imageOne_parish_next v_t_imageOne_parish_year v_t_parish_inside v_t_parish_next v_t_parish_year g_t_parish_wealth g_t_imageOne_parish_wealth g_t_parish_given g_t_imageOne_parish_given g_t_parish_row g_t_imageOne_parish_row g_t_kinship_of g_t_imageOne_kinship_of v_t_imageOne_sights_size v_t_sights_size g_t_sights_sets g_t_imageOne_sights_sets g_t_sights_counts g_t_imageOne_sights_counts v_t_imageZero_kept v_t_imageZero_parish_inside v_t_imageZero_parish_next v_t_imageZero_parish_year g_t_imageZero_parish_wealth g_t_imageZero_parish_given g_t_imageZero_parish_row g_t_imageZero_kinship_of v_t_imageZero_sights_size g_t_imageZero_sights_sets g_t_imageZero_sights_counts p1).2.2.2.2.2.2.2.2.2.2.2.2.2.2.2.2.2.2.2.2.2.2))] := by
  refine CT.intro RX9 (by decide) rfl (Nat.le_of_ble_eq_true rfl) rfl ?_
  intro p e s m below meth c C hr hw ls hl
  have hx := C.hx
  have hb := C.hb
  replace hl : lv_has ls 3 [(0, .ref a_t), (1, .int p1)] := hl
  refine lv_iload_n hx hb dX9_image_0 rfl (lv_at hl 1 rfl) ?_
  refine lv_iconst (v := 0) hx hb dX9_image_1 (by decide) ?_
  refine lv_iconst (v := 1) hx hb dX9_image_2 (by decide) ?_
  refine k_callS (As := [.int p1, .int 0, .int 1]) (rest := []) (n := 3) C hw (T_X9_within l D cI cZ p1 (0 : Int32) (1 : Int32)) gX9_image_X9_within rfl ⟨rfl, rfl⟩ (by decide +kernel) ⟨Nat.le_of_ble_eq_true rfl, Nat.le_of_ble_eq_true rfl⟩ [] rfl rfl [] rfl rfl rfl hl.1 rfl (Nat.le_of_ble_eq_true rfl) ⟨Nat.zero_le _, Nat.zero_le _⟩ dX9_image_3 (fun H locs hw => ?_)
  refine W.eq (g2 := F0 m 6 ls [.int (f_X9_within p1 (0 : Int32) (1 : Int32))]) rfl ?_
  replace hw : kW D _ s H locs [(a_t, .inr (9, [.ref a_t_parish, .ref a_t_kinship, .ref a_t_sights, .ref a_t_pad, .ref a_t_trial, .ref a_t_evening, .ref a_t_rows, .ref a_t_guess, .ref a_t_imageZero, .ref a_t_imageOne])), (a_t_imageOne, .inr (2, [.ref a_t_imageOne_parish, .ref a_t_imageOne_kinship, .ref a_t_imageOne_sights, .int v_t_imageOne_kept])), (a_t_imageOne_parish, .inr (5, [.ref a_t_imageOne_parish_wealth, .ref a_t_imageOne_parish_given, .ref a_t_imageOne_parish_row, .int v_t_imageOne_parish_inside, .int v_t_imageOne_parish_next, .int v_t_imageOne_parish_year])), (a_t_parish, .inr (5, [.ref a_t_parish_wealth, .ref a_t_parish_given, .ref a_t_parish_row, .int v_t_parish_inside, .int v_t_parish_next, .int v_t_parish_year])), (a_t_parish_wealth, .inl (cI, 8, .inl g_t_parish_wealth)), (a_t_imageOne_parish_wealth, .inl (cI, 8, .inl g_t_imageOne_parish_wealth)), (a_t_parish_given, .inl (cI, 64, .inl g_t_parish_given)), (a_t_imageOne_parish_given, .inl (cI, 64, .inl g_t_imageOne_parish_given)), (a_t_parish_row, .inl (cI, 8, .inl g_t_parish_row)), (a_t_imageOne_parish_row, .inl (cI, 8, .inl g_t_imageOne_parish_row)), (a_t_imageOne_kinship, .inr (3, [.ref a_t_imageOne_kinship_of])), (a_t_kinship, .inr (3, [.ref a_t_kinship_of])), (a_t_kinship_of, .inl (cI, 8, .inl g_t_kinship_of)), (a_t_imageOne_kinship_of, .inl (cI, 8, .inl g_t_imageOne_kinship_of)), (a_t_imageOne_sights, .inr (7, [.ref a_t_imageOne_sights_sets, .ref a_t_imageOne_sights_counts, .int v_t_imageOne_sights_size])), (a_t_sights, .inr (7, [.ref a_t_sights_sets, .ref a_t_sights_counts, .int v_t_sights_size])), (a_t_sights_sets, .inl (cI, 8, .inl g_t_sights_sets)), (a_t_imageOne_sights_sets, .inl (cI, 8, .inl g_t_imageOne_sights_sets)), (a_t_sights_counts, .inl (cI, 8, .inl g_t_sights_counts)), (a_t_imageOne_sights_counts, .inl (cI, 8, .inl g_t_imageOne_sights_counts)), (a_t_imageZero, .inr (2, [.ref a_t_imageZero_parish, .ref a_t_imageZero_kinship, .ref a_t_imageZero_sights, .int v_t_imageZero_kept])), (a_t_imageZero_parish, .inr (5, [.ref a_t_imageZero_parish_wealth, .ref a_t_imageZero_parish_given, .ref a_t_imageZero_parish_row, .int v_t_imageZero_parish_inside, .int v_t_imageZero_parish_next, .int v_t_imageZero_parish_year])), (a_t_imageZero_parish_wealth, .inl (cI, 8, .inl g_t_imageZero_parish_wealth)), (a_t_imageZero_parish_given, .inl (cI, 64, .inl g_t_imageZero_parish_given)), (a_t_imageZero_parish_row, .inl (cI, 8, .inl g_t_imageZero_parish_row)), (a_t_imageZero_kinship, .inr (3, [.ref a_t_imageZero_kinship_of])), (a_t_imageZero_kinship_of, .inl (cI, 8, .inl g_t_imageZero_kinship_of)), (a_t_imageZero_sights, .inr (7, [.ref a_t_imageZero_sights_sets, .ref a_t_imageZero_sights_counts, .int v_t_imageZero_sights_size])), (a_t_imageZero_sights_sets, .inl (cI, 8, .inl g_t_imageZero_sights_sets)), (a_t_imageZero_sights_counts, .inl (cI, 8, .inl g_t_imageZero_sights_counts))] := hw
  refine lv_if_ne (tgt := 12) hx hb dX9_image_6 (by decide) (fun c1 => ?_) (fun c1 => ?_)
  · refine lv_iload_n hx hb dX9_image_12 rfl (lv_at hl 1 rfl) ?_
    refine lv_if_ne (tgt := 23) hx hb dX9_image_13 (by decide) (fun c2 => ?_) (fun c2 => ?_)
    · refine lv_aload_n hx hb dX9_image_23 rfl (lv_at hl 0 rfl) ?_
      refine k_get C hw (CC := RX9) (T := TX9) (N := 10) nX9_image_X9 0 rfl rfl 9 (by decide) (List.mem_of_getElem? (i := 2) rfl) rfl rfl dX9_image_24 ?_
      refine lv_astore_n (lv' := [(2, .ref a_t_imageOne), (0, .ref a_t), (1, .int p1)]) hx hb dX9_image_27 rfl hl (by decide) rfl (fun ls hl => ?_)
      refine lv_aload_n hx hb dX9_image_28 rfl (lv_at hl 0 rfl) ?_
      refine k_getN C hw (CC := RX2) (T := TX2) (N := 4) nX9_image_X2 1 rfl rfl 0 (by decide) 25 rfl rfl rfl dX9_image_29 ?_
      refine lv_aload_n hx hb dX9_image_32 rfl (lv_at hl 1 rfl) ?_
      refine k_get C hw (CC := RX9) (T := TX9) (N := 10) nX9_image_X9 0 rfl rfl 0 (by decide) (List.mem_of_getElem? (i := 3) rfl) rfl rfl dX9_image_33 ?_
      refine k_callVN (As := [.ref a_t_parish]) (rest := []) (n := 1) (CC := RX5) (T := TX5) (N := 6) (host := RX9) C hw (T_X5_copyFrom l D cI cZ a_t_parish a_t_parish_wealth a_t_parish_given a_t_parish_row a_t_imageOne_parish a_t_imageOne_parish_wealth a_t_imageOne_parish_given a_t_imageOne_parish_row v_t_parish_inside v_t_parish_next v_t_parish_year v_t_imageOne_parish_inside v_t_imageOne_parish_next v_t_imageOne_parish_year g_t_parish_wealth g_t_imageOne_parish_wealth g_t_parish_given g_t_imageOne_parish_given g_t_parish_row g_t_imageOne_parish_row) gX9_image_X5_copyFrom_n173 rfl ⟨rfl, rfl⟩ 30 rfl (List.mem_of_getElem? (i := 11) rfl) (List.mem_of_getElem? (i := 10) rfl) (List.mem_of_getElem? (i := 12) rfl) (by decide +kernel) ⟨Nat.le_of_ble_eq_true rfl, Nat.le_of_ble_eq_true rfl⟩ 2 rfl rfl [3, 2, 4, 5, 6, 7, 8, 9] rfl rfl [a_t_parish, a_t_imageOne_parish, a_t_parish_wealth, a_t_imageOne_parish_wealth, a_t_parish_given, a_t_imageOne_parish_given, a_t_parish_row, a_t_imageOne_parish_row] rfl rfl rfl hl.1 rfl (Nat.le_of_ble_eq_true rfl) ⟨Nat.zero_le _, Nat.zero_le _⟩ dX9_image_36 (fun H locs hw => ?_)
      obtain ⟨z3, h4⟩ : ∃ z, (f_X5_copyFrom v_t_parish_inside v_t_parish_next v_t_parish_year g_t_parish_wealth g_t_imageOne_parish_wealth g_t_parish_given g_t_imageOne_parish_given g_t_parish_row g_t_imageOne_parish_row) = z := ⟨_, rfl⟩
      refine W.eq (g2 := F0 m 39 ls []) (by subst h4; rfl) ?_
      replace hw := kW_cast (ws' := [(a_t, .inr (9, [.ref a_t_parish, .ref a_t_kinship, .ref a_t_sights, .ref a_t_pad, .ref a_t_trial, .ref a_t_evening, .ref a_t_rows, .ref a_t_guess, .ref a_t_imageZero, .ref a_t_imageOne])), (a_t_imageOne, .inr (2, [.ref a_t_imageOne_parish, .ref a_t_imageOne_kinship, .ref a_t_imageOne_sights, .int v_t_imageOne_kept])), (a_t_imageOne_parish, .inr (5, [.ref a_t_imageOne_parish_wealth, .ref a_t_imageOne_parish_given, .ref a_t_imageOne_parish_row, .int z3.1, .int z3.2.1, .int z3.2.2.1])), (a_t_parish, .inr (5, [.ref a_t_parish_wealth, .ref a_t_parish_given, .ref a_t_parish_row, .int v_t_parish_inside, .int v_t_parish_next, .int v_t_parish_year])), (a_t_parish_wealth, .inl (cI, 8, .inl g_t_parish_wealth)), (a_t_imageOne_parish_wealth, .inl (cI, 8, .inl z3.2.2.2.1)), (a_t_parish_given, .inl (cI, 64, .inl g_t_parish_given)), (a_t_imageOne_parish_given, .inl (cI, 64, .inl z3.2.2.2.2.1)), (a_t_parish_row, .inl (cI, 8, .inl g_t_parish_row)), (a_t_imageOne_parish_row, .inl (cI, 8, .inl z3.2.2.2.2.2)), (a_t_imageOne_kinship, .inr (3, [.ref a_t_imageOne_kinship_of])), (a_t_kinship, .inr (3, [.ref a_t_kinship_of])), (a_t_kinship_of, .inl (cI, 8, .inl g_t_kinship_of)), (a_t_imageOne_kinship_of, .inl (cI, 8, .inl g_t_imageOne_kinship_of)), (a_t_imageOne_sights, .inr (7, [.ref a_t_imageOne_sights_sets, .ref a_t_imageOne_sights_counts, .int v_t_imageOne_sights_size])), (a_t_sights, .inr (7, [.ref a_t_sights_sets, .ref a_t_sights_counts, .int v_t_sights_size])), (a_t_sights_sets, .inl (cI, 8, .inl g_t_sights_sets)), (a_t_imageOne_sights_sets, .inl (cI, 8, .inl g_t_imageOne_sights_sets)), (a_t_sights_counts, .inl (cI, 8, .inl g_t_sights_counts)), (a_t_imageOne_sights_counts, .inl (cI, 8, .inl g_t_imageOne_sights_counts)), (a_t_imageZero, .inr (2, [.ref a_t_imageZero_parish, .ref a_t_imageZero_kinship, .ref a_t_imageZero_sights, .int v_t_imageZero_kept])), (a_t_imageZero_parish, .inr (5, [.ref a_t_imageZero_parish_wealth, .ref a_t_imageZero_parish_given, .ref a_t_imageZero_parish_row, .int v_t_imageZero_parish_inside, .int v_t_imageZero_parish_next, .int v_t_imageZero_parish_year])), (a_t_imageZero_parish_wealth, .inl (cI, 8, .inl g_t_imageZero_parish_wealth)), (a_t_imageZero_parish_given, .inl (cI, 64, .inl g_t_imageZero_parish_given)), (a_t_imageZero_parish_row, .inl (cI, 8, .inl g_t_imageZero_parish_row)), (a_t_imageZero_kinship, .inr (3, [.ref a_t_imageZero_kinship_of])), (a_t_imageZero_kinship_of, .inl (cI, 8, .inl g_t_imageZero_kinship_of)), (a_t_imageZero_sights, .inr (7, [.ref a_t_imageZero_sights_sets, .ref a_t_imageZero_sights_counts, .int v_t_imageZero_sights_size])), (a_t_imageZero_sights_sets, .inl (cI, 8, .inl g_t_imageZero_sights_sets)), (a_t_imageZero_sights_counts, .inl (cI, 8, .inl g_t_imageZero_sights_counts))]) (by subst h4; rfl) hw
      refine lv_aload_n hx hb dX9_image_39 rfl (lv_at hl 0 rfl) ?_
      refine k_getN C hw (CC := RX2) (T := TX2) (N := 4) nX9_image_X2 1 rfl rfl 1 (by decide) 26 rfl rfl rfl dX9_image_40 ?_
      refine lv_aload_n hx hb dX9_image_43 rfl (lv_at hl 1 rfl) ?_
      refine k_get C hw (CC := RX9) (T := TX9) (N := 10) nX9_image_X9 0 rfl rfl 1 (by decide) (List.mem_of_getElem? (i := 4) rfl) rfl rfl dX9_image_44 ?_
      refine k_callVN (As := [.ref a_t_kinship]) (rest := []) (n := 1) (CC := RX3) (T := TX3) (N := 1) (host := RX9) C hw (T_X3_copyFrom l D cI cZ a_t_kinship a_t_kinship_of a_t_imageOne_kinship a_t_imageOne_kinship_of g_t_kinship_of g_t_imageOne_kinship_of) gX9_image_X3_copyFrom_n265 rfl ⟨rfl, rfl⟩ 45 rfl (List.mem_of_getElem? (i := 25) rfl) (List.mem_of_getElem? (i := 24) rfl) (List.mem_of_getElem? (i := 26) rfl) (by decide +kernel) ⟨Nat.le_of_ble_eq_true rfl, Nat.le_of_ble_eq_true rfl⟩ 10 rfl rfl [11, 10, 12, 13] rfl rfl [a_t_kinship, a_t_imageOne_kinship, a_t_kinship_of, a_t_imageOne_kinship_of] rfl rfl rfl hl.1 rfl (Nat.le_of_ble_eq_true rfl) ⟨Nat.zero_le _, Nat.zero_le _⟩ dX9_image_47 (fun H locs hw => ?_)
      obtain ⟨z5, h6⟩ : ∃ z, (f_X3_copyFrom g_t_kinship_of g_t_imageOne_kinship_of) = z := ⟨_, rfl⟩
      refine W.eq (g2 := F0 m 50 ls []) (by subst h6; rfl) ?_
      replace hw := kW_cast (ws' := [(a_t, .inr (9, [.ref a_t_parish, .ref a_t_kinship, .ref a_t_sights, .ref a_t_pad, .ref a_t_trial, .ref a_t_evening, .ref a_t_rows, .ref a_t_guess, .ref a_t_imageZero, .ref a_t_imageOne])), (a_t_imageOne, .inr (2, [.ref a_t_imageOne_parish, .ref a_t_imageOne_kinship, .ref a_t_imageOne_sights, .int v_t_imageOne_kept])), (a_t_imageOne_parish, .inr (5, [.ref a_t_imageOne_parish_wealth, .ref a_t_imageOne_parish_given, .ref a_t_imageOne_parish_row, .int z3.1, .int z3.2.1, .int z3.2.2.1])), (a_t_parish, .inr (5, [.ref a_t_parish_wealth, .ref a_t_parish_given, .ref a_t_parish_row, .int v_t_parish_inside, .int v_t_parish_next, .int v_t_parish_year])), (a_t_parish_wealth, .inl (cI, 8, .inl g_t_parish_wealth)), (a_t_imageOne_parish_wealth, .inl (cI, 8, .inl z3.2.2.2.1)), (a_t_parish_given, .inl (cI, 64, .inl g_t_parish_given)), (a_t_imageOne_parish_given, .inl (cI, 64, .inl z3.2.2.2.2.1)), (a_t_parish_row, .inl (cI, 8, .inl g_t_parish_row)), (a_t_imageOne_parish_row, .inl (cI, 8, .inl z3.2.2.2.2.2)), (a_t_imageOne_kinship, .inr (3, [.ref a_t_imageOne_kinship_of])), (a_t_kinship, .inr (3, [.ref a_t_kinship_of])), (a_t_kinship_of, .inl (cI, 8, .inl g_t_kinship_of)), (a_t_imageOne_kinship_of, .inl (cI, 8, .inl z5)), (a_t_imageOne_sights, .inr (7, [.ref a_t_imageOne_sights_sets, .ref a_t_imageOne_sights_counts, .int v_t_imageOne_sights_size])), (a_t_sights, .inr (7, [.ref a_t_sights_sets, .ref a_t_sights_counts, .int v_t_sights_size])), (a_t_sights_sets, .inl (cI, 8, .inl g_t_sights_sets)), (a_t_imageOne_sights_sets, .inl (cI, 8, .inl g_t_imageOne_sights_sets)), (a_t_sights_counts, .inl (cI, 8, .inl g_t_sights_counts)), (a_t_imageOne_sights_counts, .inl (cI, 8, .inl g_t_imageOne_sights_counts)), (a_t_imageZero, .inr (2, [.ref a_t_imageZero_parish, .ref a_t_imageZero_kinship, .ref a_t_imageZero_sights, .int v_t_imageZero_kept])), (a_t_imageZero_parish, .inr (5, [.ref a_t_imageZero_parish_wealth, .ref a_t_imageZero_parish_given, .ref a_t_imageZero_parish_row, .int v_t_imageZero_parish_inside, .int v_t_imageZero_parish_next, .int v_t_imageZero_parish_year])), (a_t_imageZero_parish_wealth, .inl (cI, 8, .inl g_t_imageZero_parish_wealth)), (a_t_imageZero_parish_given, .inl (cI, 64, .inl g_t_imageZero_parish_given)), (a_t_imageZero_parish_row, .inl (cI, 8, .inl g_t_imageZero_parish_row)), (a_t_imageZero_kinship, .inr (3, [.ref a_t_imageZero_kinship_of])), (a_t_imageZero_kinship_of, .inl (cI, 8, .inl g_t_imageZero_kinship_of)), (a_t_imageZero_sights, .inr (7, [.ref a_t_imageZero_sights_sets, .ref a_t_imageZero_sights_counts, .int v_t_imageZero_sights_size])), (a_t_imageZero_sights_sets, .inl (cI, 8, .inl g_t_imageZero_sights_sets)), (a_t_imageZero_sights_counts, .inl (cI, 8, .inl g_t_imageZero_sights_counts))]) (by subst h6; rfl) hw
      refine lv_aload_n hx hb dX9_image_50 rfl (lv_at hl 0 rfl) ?_
      refine k_getN C hw (CC := RX2) (T := TX2) (N := 4) nX9_image_X2 1 rfl rfl 2 (by decide) 27 rfl rfl rfl dX9_image_51 ?_
      refine lv_aload_n hx hb dX9_image_54 rfl (lv_at hl 1 rfl) ?_
      refine k_get C hw (CC := RX9) (T := TX9) (N := 10) nX9_image_X9 0 rfl rfl 2 (by decide) (List.mem_of_getElem? (i := 5) rfl) rfl rfl dX9_image_55 ?_
      refine k_callVN (As := [.ref a_t_sights]) (rest := []) (n := 1) (CC := RX7) (T := TX7) (N := 3) (host := RX9) C hw (T_X7_copyFrom l D cI cZ a_t_sights a_t_sights_sets a_t_sights_counts a_t_imageOne_sights a_t_imageOne_sights_sets a_t_imageOne_sights_counts v_t_sights_size v_t_imageOne_sights_size g_t_sights_sets g_t_imageOne_sights_sets g_t_sights_counts g_t_imageOne_sights_counts) gX9_image_X7_copyFrom_n268 rfl ⟨rfl, rfl⟩ 46 rfl (List.mem_of_getElem? (i := 31) rfl) (List.mem_of_getElem? (i := 30) rfl) (List.mem_of_getElem? (i := 32) rfl) (by decide +kernel) ⟨Nat.le_of_ble_eq_true rfl, Nat.le_of_ble_eq_true rfl⟩ 14 rfl rfl [15, 14, 16, 17, 18, 19] rfl rfl [a_t_sights, a_t_imageOne_sights, a_t_sights_sets, a_t_imageOne_sights_sets, a_t_sights_counts, a_t_imageOne_sights_counts] rfl rfl rfl hl.1 rfl (Nat.le_of_ble_eq_true rfl) ⟨Nat.zero_le _, Nat.zero_le _⟩ dX9_image_58 (fun H locs hw => ?_)
      obtain ⟨z7, h8⟩ : ∃ z, (f_X7_copyFrom v_t_sights_size g_t_sights_sets g_t_imageOne_sights_sets g_t_sights_counts g_t_imageOne_sights_counts) = z := ⟨_, rfl⟩
      refine W.eq (g2 := F0 m 61 ls []) (by subst h8; rfl) ?_
      replace hw := kW_cast (ws' := [(a_t, .inr (9, [.ref a_t_parish, .ref a_t_kinship, .ref a_t_sights, .ref a_t_pad, .ref a_t_trial, .ref a_t_evening, .ref a_t_rows, .ref a_t_guess, .ref a_t_imageZero, .ref a_t_imageOne])), (a_t_imageOne, .inr (2, [.ref a_t_imageOne_parish, .ref a_t_imageOne_kinship, .ref a_t_imageOne_sights, .int v_t_imageOne_kept])), (a_t_imageOne_parish, .inr (5, [.ref a_t_imageOne_parish_wealth, .ref a_t_imageOne_parish_given, .ref a_t_imageOne_parish_row, .int z3.1, .int z3.2.1, .int z3.2.2.1])), (a_t_parish, .inr (5, [.ref a_t_parish_wealth, .ref a_t_parish_given, .ref a_t_parish_row, .int v_t_parish_inside, .int v_t_parish_next, .int v_t_parish_year])), (a_t_parish_wealth, .inl (cI, 8, .inl g_t_parish_wealth)), (a_t_imageOne_parish_wealth, .inl (cI, 8, .inl z3.2.2.2.1)), (a_t_parish_given, .inl (cI, 64, .inl g_t_parish_given)), (a_t_imageOne_parish_given, .inl (cI, 64, .inl z3.2.2.2.2.1)), (a_t_parish_row, .inl (cI, 8, .inl g_t_parish_row)), (a_t_imageOne_parish_row, .inl (cI, 8, .inl z3.2.2.2.2.2)), (a_t_imageOne_kinship, .inr (3, [.ref a_t_imageOne_kinship_of])), (a_t_kinship, .inr (3, [.ref a_t_kinship_of])), (a_t_kinship_of, .inl (cI, 8, .inl g_t_kinship_of)), (a_t_imageOne_kinship_of, .inl (cI, 8, .inl z5)), (a_t_imageOne_sights, .inr (7, [.ref a_t_imageOne_sights_sets, .ref a_t_imageOne_sights_counts, .int z7.1])), (a_t_sights, .inr (7, [.ref a_t_sights_sets, .ref a_t_sights_counts, .int v_t_sights_size])), (a_t_sights_sets, .inl (cI, 8, .inl g_t_sights_sets)), (a_t_imageOne_sights_sets, .inl (cI, 8, .inl z7.2.1)), (a_t_sights_counts, .inl (cI, 8, .inl g_t_sights_counts)), (a_t_imageOne_sights_counts, .inl (cI, 8, .inl z7.2.2)), (a_t_imageZero, .inr (2, [.ref a_t_imageZero_parish, .ref a_t_imageZero_kinship, .ref a_t_imageZero_sights, .int v_t_imageZero_kept])), (a_t_imageZero_parish, .inr (5, [.ref a_t_imageZero_parish_wealth, .ref a_t_imageZero_parish_given, .ref a_t_imageZero_parish_row, .int v_t_imageZero_parish_inside, .int v_t_imageZero_parish_next, .int v_t_imageZero_parish_year])), (a_t_imageZero_parish_wealth, .inl (cI, 8, .inl g_t_imageZero_parish_wealth)), (a_t_imageZero_parish_given, .inl (cI, 64, .inl g_t_imageZero_parish_given)), (a_t_imageZero_parish_row, .inl (cI, 8, .inl g_t_imageZero_parish_row)), (a_t_imageZero_kinship, .inr (3, [.ref a_t_imageZero_kinship_of])), (a_t_imageZero_kinship_of, .inl (cI, 8, .inl g_t_imageZero_kinship_of)), (a_t_imageZero_sights, .inr (7, [.ref a_t_imageZero_sights_sets, .ref a_t_imageZero_sights_counts, .int v_t_imageZero_sights_size])), (a_t_imageZero_sights_sets, .inl (cI, 8, .inl g_t_imageZero_sights_sets)), (a_t_imageZero_sights_counts, .inl (cI, 8, .inl g_t_imageZero_sights_counts))]) (by subst h8; rfl) hw
      refine lv_aload_n hx hb dX9_image_61 rfl (lv_at hl 0 rfl) ?_
      refine lv_iconst (v := 1) hx hb dX9_image_62 (by decide) ?_
      refine k_putN C hw (CC := RX2) (T := TX2) (N := 4) (v := .int 1) nX9_image_X2 tyX2_ok nmX2 1 rfl rfl 3 (by decide) 28 rfl rfl rfl rfl rfl (Nat.le_of_ble_eq_true rfl) dX9_image_63 (fun H locs hw => ?_)
      replace hw : kW D _ s H locs [(a_t, .inr (9, [.ref a_t_parish, .ref a_t_kinship, .ref a_t_sights, .ref a_t_pad, .ref a_t_trial, .ref a_t_evening, .ref a_t_rows, .ref a_t_guess, .ref a_t_imageZero, .ref a_t_imageOne])), (a_t_imageOne, .inr (2, [.ref a_t_imageOne_parish, .ref a_t_imageOne_kinship, .ref a_t_imageOne_sights, .int 1])), (a_t_imageOne_parish, .inr (5, [.ref a_t_imageOne_parish_wealth, .ref a_t_imageOne_parish_given, .ref a_t_imageOne_parish_row, .int z3.1, .int z3.2.1, .int z3.2.2.1])), (a_t_parish, .inr (5, [.ref a_t_parish_wealth, .ref a_t_parish_given, .ref a_t_parish_row, .int v_t_parish_inside, .int v_t_parish_next, .int v_t_parish_year])), (a_t_parish_wealth, .inl (cI, 8, .inl g_t_parish_wealth)), (a_t_imageOne_parish_wealth, .inl (cI, 8, .inl z3.2.2.2.1)), (a_t_parish_given, .inl (cI, 64, .inl g_t_parish_given)), (a_t_imageOne_parish_given, .inl (cI, 64, .inl z3.2.2.2.2.1)), (a_t_parish_row, .inl (cI, 8, .inl g_t_parish_row)), (a_t_imageOne_parish_row, .inl (cI, 8, .inl z3.2.2.2.2.2)), (a_t_imageOne_kinship, .inr (3, [.ref a_t_imageOne_kinship_of])), (a_t_kinship, .inr (3, [.ref a_t_kinship_of])), (a_t_kinship_of, .inl (cI, 8, .inl g_t_kinship_of)), (a_t_imageOne_kinship_of, .inl (cI, 8, .inl z5)), (a_t_imageOne_sights, .inr (7, [.ref a_t_imageOne_sights_sets, .ref a_t_imageOne_sights_counts, .int z7.1])), (a_t_sights, .inr (7, [.ref a_t_sights_sets, .ref a_t_sights_counts, .int v_t_sights_size])), (a_t_sights_sets, .inl (cI, 8, .inl g_t_sights_sets)), (a_t_imageOne_sights_sets, .inl (cI, 8, .inl z7.2.1)), (a_t_sights_counts, .inl (cI, 8, .inl g_t_sights_counts)), (a_t_imageOne_sights_counts, .inl (cI, 8, .inl z7.2.2)), (a_t_imageZero, .inr (2, [.ref a_t_imageZero_parish, .ref a_t_imageZero_kinship, .ref a_t_imageZero_sights, .int v_t_imageZero_kept])), (a_t_imageZero_parish, .inr (5, [.ref a_t_imageZero_parish_wealth, .ref a_t_imageZero_parish_given, .ref a_t_imageZero_parish_row, .int v_t_imageZero_parish_inside, .int v_t_imageZero_parish_next, .int v_t_imageZero_parish_year])), (a_t_imageZero_parish_wealth, .inl (cI, 8, .inl g_t_imageZero_parish_wealth)), (a_t_imageZero_parish_given, .inl (cI, 64, .inl g_t_imageZero_parish_given)), (a_t_imageZero_parish_row, .inl (cI, 8, .inl g_t_imageZero_parish_row)), (a_t_imageZero_kinship, .inr (3, [.ref a_t_imageZero_kinship_of])), (a_t_imageZero_kinship_of, .inl (cI, 8, .inl g_t_imageZero_kinship_of)), (a_t_imageZero_sights, .inr (7, [.ref a_t_imageZero_sights_sets, .ref a_t_imageZero_sights_counts, .int v_t_imageZero_sights_size])), (a_t_imageZero_sights_sets, .inl (cI, 8, .inl g_t_imageZero_sights_sets)), (a_t_imageZero_sights_counts, .inl (cI, 8, .inl g_t_imageZero_sights_counts))] := hw
      refine lv_iconst (v := 1) hx hb dX9_image_66 (by decide) ?_
      rw [show f_X9_image v_t_imageOne_kept v_t_imageOne_parish_inside v_t_imageOne_parish_next v_t_imageOne_parish_year v_t_parish_inside v_t_parish_next v_t_parish_year g_t_parish_wealth g_t_imageOne_parish_wealth g_t_parish_given g_t_imageOne_parish_given g_t_parish_row g_t_imageOne_parish_row g_t_kinship_of g_t_imageOne_kinship_of v_t_imageOne_sights_size v_t_sights_size g_t_sights_sets g_t_imageOne_sights_sets g_t_sights_counts g_t_imageOne_sights_counts v_t_imageZero_kept v_t_imageZero_parish_inside v_t_imageZero_parish_next v_t_imageZero_parish_year g_t_imageZero_parish_wealth g_t_imageZero_parish_given g_t_imageZero_parish_row g_t_imageZero_kinship_of v_t_imageZero_sights_size g_t_imageZero_sights_sets g_t_imageZero_sights_counts p1 = (1, 1, z3.1, z3.2.1, z3.2.2.1, z3.2.2.2.1, z3.2.2.2.2.1, z3.2.2.2.2.2, z5, z7.1, z7.2.1, z7.2.2, v_t_imageZero_kept, v_t_imageZero_parish_inside, v_t_imageZero_parish_next, v_t_imageZero_parish_year, g_t_imageZero_parish_wealth, g_t_imageZero_parish_given, g_t_imageZero_parish_row, g_t_imageZero_kinship_of, v_t_imageZero_sights_size, g_t_imageZero_sights_sets, g_t_imageZero_sights_counts) from by
          unfold f_X9_image
          exact (if_neg c1).trans ((if_neg c2).trans ((lt_c h4).trans ((lt_c h6).trans ((lt_c h8).trans (rfl)))))]
      exact k_iret C hr hw dX9_image_67
    · refine lv_aload_n hx hb dX9_image_16 rfl (lv_at hl 0 rfl) ?_
      refine k_get C hw (CC := RX9) (T := TX9) (N := 10) nX9_image_X9 0 rfl rfl 8 (by decide) (List.mem_of_getElem? (i := 1) rfl) rfl rfl dX9_image_17 ?_
      refine lv_goto (tgt := 27) hx hb dX9_image_20 (by decide) ?_
      refine lv_astore_n (lv' := [(2, .ref a_t_imageZero), (0, .ref a_t), (1, .int p1)]) hx hb dX9_image_27 rfl hl (by decide) rfl (fun ls hl => ?_)
      refine lv_aload_n hx hb dX9_image_28 rfl (lv_at hl 0 rfl) ?_
      refine k_getN C hw (CC := RX2) (T := TX2) (N := 4) nX9_image_X2 20 rfl rfl 0 (by decide) 25 rfl rfl rfl dX9_image_29 ?_
      refine lv_aload_n hx hb dX9_image_32 rfl (lv_at hl 1 rfl) ?_
      refine k_get C hw (CC := RX9) (T := TX9) (N := 10) nX9_image_X9 0 rfl rfl 0 (by decide) (List.mem_of_getElem? (i := 3) rfl) rfl rfl dX9_image_33 ?_
      refine k_callVN (As := [.ref a_t_parish]) (rest := []) (n := 1) (CC := RX5) (T := TX5) (N := 6) (host := RX9) C hw (T_X5_copyFrom l D cI cZ a_t_parish a_t_parish_wealth a_t_parish_given a_t_parish_row a_t_imageZero_parish a_t_imageZero_parish_wealth a_t_imageZero_parish_given a_t_imageZero_parish_row v_t_parish_inside v_t_parish_next v_t_parish_year v_t_imageZero_parish_inside v_t_imageZero_parish_next v_t_imageZero_parish_year g_t_parish_wealth g_t_imageZero_parish_wealth g_t_parish_given g_t_imageZero_parish_given g_t_parish_row g_t_imageZero_parish_row) gX9_image_X5_copyFrom_n173 rfl ⟨rfl, rfl⟩ 30 rfl (List.mem_of_getElem? (i := 11) rfl) (List.mem_of_getElem? (i := 10) rfl) (List.mem_of_getElem? (i := 12) rfl) (by decide +kernel) ⟨Nat.le_of_ble_eq_true rfl, Nat.le_of_ble_eq_true rfl⟩ 21 rfl rfl [3, 21, 4, 22, 6, 23, 8, 24] rfl rfl [a_t_parish, a_t_imageZero_parish, a_t_parish_wealth, a_t_imageZero_parish_wealth, a_t_parish_given, a_t_imageZero_parish_given, a_t_parish_row, a_t_imageZero_parish_row] rfl rfl rfl hl.1 rfl (Nat.le_of_ble_eq_true rfl) ⟨Nat.zero_le _, Nat.zero_le _⟩ dX9_image_36 (fun H locs hw => ?_)
      obtain ⟨z9, h10⟩ : ∃ z, (f_X5_copyFrom v_t_parish_inside v_t_parish_next v_t_parish_year g_t_parish_wealth g_t_imageZero_parish_wealth g_t_parish_given g_t_imageZero_parish_given g_t_parish_row g_t_imageZero_parish_row) = z := ⟨_, rfl⟩
      refine W.eq (g2 := F0 m 39 ls []) (by subst h10; rfl) ?_
      replace hw := kW_cast (ws' := [(a_t, .inr (9, [.ref a_t_parish, .ref a_t_kinship, .ref a_t_sights, .ref a_t_pad, .ref a_t_trial, .ref a_t_evening, .ref a_t_rows, .ref a_t_guess, .ref a_t_imageZero, .ref a_t_imageOne])), (a_t_imageOne, .inr (2, [.ref a_t_imageOne_parish, .ref a_t_imageOne_kinship, .ref a_t_imageOne_sights, .int v_t_imageOne_kept])), (a_t_imageOne_parish, .inr (5, [.ref a_t_imageOne_parish_wealth, .ref a_t_imageOne_parish_given, .ref a_t_imageOne_parish_row, .int v_t_imageOne_parish_inside, .int v_t_imageOne_parish_next, .int v_t_imageOne_parish_year])), (a_t_parish, .inr (5, [.ref a_t_parish_wealth, .ref a_t_parish_given, .ref a_t_parish_row, .int v_t_parish_inside, .int v_t_parish_next, .int v_t_parish_year])), (a_t_parish_wealth, .inl (cI, 8, .inl g_t_parish_wealth)), (a_t_imageOne_parish_wealth, .inl (cI, 8, .inl g_t_imageOne_parish_wealth)), (a_t_parish_given, .inl (cI, 64, .inl g_t_parish_given)), (a_t_imageOne_parish_given, .inl (cI, 64, .inl g_t_imageOne_parish_given)), (a_t_parish_row, .inl (cI, 8, .inl g_t_parish_row)), (a_t_imageOne_parish_row, .inl (cI, 8, .inl g_t_imageOne_parish_row)), (a_t_imageOne_kinship, .inr (3, [.ref a_t_imageOne_kinship_of])), (a_t_kinship, .inr (3, [.ref a_t_kinship_of])), (a_t_kinship_of, .inl (cI, 8, .inl g_t_kinship_of)), (a_t_imageOne_kinship_of, .inl (cI, 8, .inl g_t_imageOne_kinship_of)), (a_t_imageOne_sights, .inr (7, [.ref a_t_imageOne_sights_sets, .ref a_t_imageOne_sights_counts, .int v_t_imageOne_sights_size])), (a_t_sights, .inr (7, [.ref a_t_sights_sets, .ref a_t_sights_counts, .int v_t_sights_size])), (a_t_sights_sets, .inl (cI, 8, .inl g_t_sights_sets)), (a_t_imageOne_sights_sets, .inl (cI, 8, .inl g_t_imageOne_sights_sets)), (a_t_sights_counts, .inl (cI, 8, .inl g_t_sights_counts)), (a_t_imageOne_sights_counts, .inl (cI, 8, .inl g_t_imageOne_sights_counts)), (a_t_imageZero, .inr (2, [.ref a_t_imageZero_parish, .ref a_t_imageZero_kinship, .ref a_t_imageZero_sights, .int v_t_imageZero_kept])), (a_t_imageZero_parish, .inr (5, [.ref a_t_imageZero_parish_wealth, .ref a_t_imageZero_parish_given, .ref a_t_imageZero_parish_row, .int z9.1, .int z9.2.1, .int z9.2.2.1])), (a_t_imageZero_parish_wealth, .inl (cI, 8, .inl z9.2.2.2.1)), (a_t_imageZero_parish_given, .inl (cI, 64, .inl z9.2.2.2.2.1)), (a_t_imageZero_parish_row, .inl (cI, 8, .inl z9.2.2.2.2.2)), (a_t_imageZero_kinship, .inr (3, [.ref a_t_imageZero_kinship_of])), (a_t_imageZero_kinship_of, .inl (cI, 8, .inl g_t_imageZero_kinship_of)), (a_t_imageZero_sights, .inr (7, [.ref a_t_imageZero_sights_sets, .ref a_t_imageZero_sights_counts, .int v_t_imageZero_sights_size])), (a_t_imageZero_sights_sets, .inl (cI, 8, .inl g_t_imageZero_sights_sets)), (a_t_imageZero_sights_counts, .inl (cI, 8, .inl g_t_imageZero_sights_counts))]) (by subst h10; rfl) hw
      refine lv_aload_n hx hb dX9_image_39 rfl (lv_at hl 0 rfl) ?_
      refine k_getN C hw (CC := RX2) (T := TX2) (N := 4) nX9_image_X2 20 rfl rfl 1 (by decide) 26 rfl rfl rfl dX9_image_40 ?_
      refine lv_aload_n hx hb dX9_image_43 rfl (lv_at hl 1 rfl) ?_
      refine k_get C hw (CC := RX9) (T := TX9) (N := 10) nX9_image_X9 0 rfl rfl 1 (by decide) (List.mem_of_getElem? (i := 4) rfl) rfl rfl dX9_image_44 ?_
      refine k_callVN (As := [.ref a_t_kinship]) (rest := []) (n := 1) (CC := RX3) (T := TX3) (N := 1) (host := RX9) C hw (T_X3_copyFrom l D cI cZ a_t_kinship a_t_kinship_of a_t_imageZero_kinship a_t_imageZero_kinship_of g_t_kinship_of g_t_imageZero_kinship_of) gX9_image_X3_copyFrom_n265 rfl ⟨rfl, rfl⟩ 45 rfl (List.mem_of_getElem? (i := 25) rfl) (List.mem_of_getElem? (i := 24) rfl) (List.mem_of_getElem? (i := 26) rfl) (by decide +kernel) ⟨Nat.le_of_ble_eq_true rfl, Nat.le_of_ble_eq_true rfl⟩ 25 rfl rfl [11, 25, 12, 26] rfl rfl [a_t_kinship, a_t_imageZero_kinship, a_t_kinship_of, a_t_imageZero_kinship_of] rfl rfl rfl hl.1 rfl (Nat.le_of_ble_eq_true rfl) ⟨Nat.zero_le _, Nat.zero_le _⟩ dX9_image_47 (fun H locs hw => ?_)
      obtain ⟨z11, h12⟩ : ∃ z, (f_X3_copyFrom g_t_kinship_of g_t_imageZero_kinship_of) = z := ⟨_, rfl⟩
      refine W.eq (g2 := F0 m 50 ls []) (by subst h12; rfl) ?_
      replace hw := kW_cast (ws' := [(a_t, .inr (9, [.ref a_t_parish, .ref a_t_kinship, .ref a_t_sights, .ref a_t_pad, .ref a_t_trial, .ref a_t_evening, .ref a_t_rows, .ref a_t_guess, .ref a_t_imageZero, .ref a_t_imageOne])), (a_t_imageOne, .inr (2, [.ref a_t_imageOne_parish, .ref a_t_imageOne_kinship, .ref a_t_imageOne_sights, .int v_t_imageOne_kept])), (a_t_imageOne_parish, .inr (5, [.ref a_t_imageOne_parish_wealth, .ref a_t_imageOne_parish_given, .ref a_t_imageOne_parish_row, .int v_t_imageOne_parish_inside, .int v_t_imageOne_parish_next, .int v_t_imageOne_parish_year])), (a_t_parish, .inr (5, [.ref a_t_parish_wealth, .ref a_t_parish_given, .ref a_t_parish_row, .int v_t_parish_inside, .int v_t_parish_next, .int v_t_parish_year])), (a_t_parish_wealth, .inl (cI, 8, .inl g_t_parish_wealth)), (a_t_imageOne_parish_wealth, .inl (cI, 8, .inl g_t_imageOne_parish_wealth)), (a_t_parish_given, .inl (cI, 64, .inl g_t_parish_given)), (a_t_imageOne_parish_given, .inl (cI, 64, .inl g_t_imageOne_parish_given)), (a_t_parish_row, .inl (cI, 8, .inl g_t_parish_row)), (a_t_imageOne_parish_row, .inl (cI, 8, .inl g_t_imageOne_parish_row)), (a_t_imageOne_kinship, .inr (3, [.ref a_t_imageOne_kinship_of])), (a_t_kinship, .inr (3, [.ref a_t_kinship_of])), (a_t_kinship_of, .inl (cI, 8, .inl g_t_kinship_of)), (a_t_imageOne_kinship_of, .inl (cI, 8, .inl g_t_imageOne_kinship_of)), (a_t_imageOne_sights, .inr (7, [.ref a_t_imageOne_sights_sets, .ref a_t_imageOne_sights_counts, .int v_t_imageOne_sights_size])), (a_t_sights, .inr (7, [.ref a_t_sights_sets, .ref a_t_sights_counts, .int v_t_sights_size])), (a_t_sights_sets, .inl (cI, 8, .inl g_t_sights_sets)), (a_t_imageOne_sights_sets, .inl (cI, 8, .inl g_t_imageOne_sights_sets)), (a_t_sights_counts, .inl (cI, 8, .inl g_t_sights_counts)), (a_t_imageOne_sights_counts, .inl (cI, 8, .inl g_t_imageOne_sights_counts)), (a_t_imageZero, .inr (2, [.ref a_t_imageZero_parish, .ref a_t_imageZero_kinship, .ref a_t_imageZero_sights, .int v_t_imageZero_kept])), (a_t_imageZero_parish, .inr (5, [.ref a_t_imageZero_parish_wealth, .ref a_t_imageZero_parish_given, .ref a_t_imageZero_parish_row, .int z9.1, .int z9.2.1, .int z9.2.2.1])), (a_t_imageZero_parish_wealth, .inl (cI, 8, .inl z9.2.2.2.1)), (a_t_imageZero_parish_given, .inl (cI, 64, .inl z9.2.2.2.2.1)), (a_t_imageZero_parish_row, .inl (cI, 8, .inl z9.2.2.2.2.2)), (a_t_imageZero_kinship, .inr (3, [.ref a_t_imageZero_kinship_of])), (a_t_imageZero_kinship_of, .inl (cI, 8, .inl z11)), (a_t_imageZero_sights, .inr (7, [.ref a_t_imageZero_sights_sets, .ref a_t_imageZero_sights_counts, .int v_t_imageZero_sights_size])), (a_t_imageZero_sights_sets, .inl (cI, 8, .inl g_t_imageZero_sights_sets)), (a_t_imageZero_sights_counts, .inl (cI, 8, .inl g_t_imageZero_sights_counts))]) (by subst h12; rfl) hw
      refine lv_aload_n hx hb dX9_image_50 rfl (lv_at hl 0 rfl) ?_
      refine k_getN C hw (CC := RX2) (T := TX2) (N := 4) nX9_image_X2 20 rfl rfl 2 (by decide) 27 rfl rfl rfl dX9_image_51 ?_
      refine lv_aload_n hx hb dX9_image_54 rfl (lv_at hl 1 rfl) ?_
      refine k_get C hw (CC := RX9) (T := TX9) (N := 10) nX9_image_X9 0 rfl rfl 2 (by decide) (List.mem_of_getElem? (i := 5) rfl) rfl rfl dX9_image_55 ?_
      refine k_callVN (As := [.ref a_t_sights]) (rest := []) (n := 1) (CC := RX7) (T := TX7) (N := 3) (host := RX9) C hw (T_X7_copyFrom l D cI cZ a_t_sights a_t_sights_sets a_t_sights_counts a_t_imageZero_sights a_t_imageZero_sights_sets a_t_imageZero_sights_counts v_t_sights_size v_t_imageZero_sights_size g_t_sights_sets g_t_imageZero_sights_sets g_t_sights_counts g_t_imageZero_sights_counts) gX9_image_X7_copyFrom_n268 rfl ⟨rfl, rfl⟩ 46 rfl (List.mem_of_getElem? (i := 31) rfl) (List.mem_of_getElem? (i := 30) rfl) (List.mem_of_getElem? (i := 32) rfl) (by decide +kernel) ⟨Nat.le_of_ble_eq_true rfl, Nat.le_of_ble_eq_true rfl⟩ 27 rfl rfl [15, 27, 16, 28, 18, 29] rfl rfl [a_t_sights, a_t_imageZero_sights, a_t_sights_sets, a_t_imageZero_sights_sets, a_t_sights_counts, a_t_imageZero_sights_counts] rfl rfl rfl hl.1 rfl (Nat.le_of_ble_eq_true rfl) ⟨Nat.zero_le _, Nat.zero_le _⟩ dX9_image_58 (fun H locs hw => ?_)
      obtain ⟨z13, h14⟩ : ∃ z, (f_X7_copyFrom v_t_sights_size g_t_sights_sets g_t_imageZero_sights_sets g_t_sights_counts g_t_imageZero_sights_counts) = z := ⟨_, rfl⟩
      refine W.eq (g2 := F0 m 61 ls []) (by subst h14; rfl) ?_
      replace hw := kW_cast (ws' := [(a_t, .inr (9, [.ref a_t_parish, .ref a_t_kinship, .ref a_t_sights, .ref a_t_pad, .ref a_t_trial, .ref a_t_evening, .ref a_t_rows, .ref a_t_guess, .ref a_t_imageZero, .ref a_t_imageOne])), (a_t_imageOne, .inr (2, [.ref a_t_imageOne_parish, .ref a_t_imageOne_kinship, .ref a_t_imageOne_sights, .int v_t_imageOne_kept])), (a_t_imageOne_parish, .inr (5, [.ref a_t_imageOne_parish_wealth, .ref a_t_imageOne_parish_given, .ref a_t_imageOne_parish_row, .int v_t_imageOne_parish_inside, .int v_t_imageOne_parish_next, .int v_t_imageOne_parish_year])), (a_t_parish, .inr (5, [.ref a_t_parish_wealth, .ref a_t_parish_given, .ref a_t_parish_row, .int v_t_parish_inside, .int v_t_parish_next, .int v_t_parish_year])), (a_t_parish_wealth, .inl (cI, 8, .inl g_t_parish_wealth)), (a_t_imageOne_parish_wealth, .inl (cI, 8, .inl g_t_imageOne_parish_wealth)), (a_t_parish_given, .inl (cI, 64, .inl g_t_parish_given)), (a_t_imageOne_parish_given, .inl (cI, 64, .inl g_t_imageOne_parish_given)), (a_t_parish_row, .inl (cI, 8, .inl g_t_parish_row)), (a_t_imageOne_parish_row, .inl (cI, 8, .inl g_t_imageOne_parish_row)), (a_t_imageOne_kinship, .inr (3, [.ref a_t_imageOne_kinship_of])), (a_t_kinship, .inr (3, [.ref a_t_kinship_of])), (a_t_kinship_of, .inl (cI, 8, .inl g_t_kinship_of)), (a_t_imageOne_kinship_of, .inl (cI, 8, .inl g_t_imageOne_kinship_of)), (a_t_imageOne_sights, .inr (7, [.ref a_t_imageOne_sights_sets, .ref a_t_imageOne_sights_counts, .int v_t_imageOne_sights_size])), (a_t_sights, .inr (7, [.ref a_t_sights_sets, .ref a_t_sights_counts, .int v_t_sights_size])), (a_t_sights_sets, .inl (cI, 8, .inl g_t_sights_sets)), (a_t_imageOne_sights_sets, .inl (cI, 8, .inl g_t_imageOne_sights_sets)), (a_t_sights_counts, .inl (cI, 8, .inl g_t_sights_counts)), (a_t_imageOne_sights_counts, .inl (cI, 8, .inl g_t_imageOne_sights_counts)), (a_t_imageZero, .inr (2, [.ref a_t_imageZero_parish, .ref a_t_imageZero_kinship, .ref a_t_imageZero_sights, .int v_t_imageZero_kept])), (a_t_imageZero_parish, .inr (5, [.ref a_t_imageZero_parish_wealth, .ref a_t_imageZero_parish_given, .ref a_t_imageZero_parish_row, .int z9.1, .int z9.2.1, .int z9.2.2.1])), (a_t_imageZero_parish_wealth, .inl (cI, 8, .inl z9.2.2.2.1)), (a_t_imageZero_parish_given, .inl (cI, 64, .inl z9.2.2.2.2.1)), (a_t_imageZero_parish_row, .inl (cI, 8, .inl z9.2.2.2.2.2)), (a_t_imageZero_kinship, .inr (3, [.ref a_t_imageZero_kinship_of])), (a_t_imageZero_kinship_of, .inl (cI, 8, .inl z11)), (a_t_imageZero_sights, .inr (7, [.ref a_t_imageZero_sights_sets, .ref a_t_imageZero_sights_counts, .int z13.1])), (a_t_imageZero_sights_sets, .inl (cI, 8, .inl z13.2.1)), (a_t_imageZero_sights_counts, .inl (cI, 8, .inl z13.2.2))]) (by subst h14; rfl) hw
      refine lv_aload_n hx hb dX9_image_61 rfl (lv_at hl 0 rfl) ?_
      refine lv_iconst (v := 1) hx hb dX9_image_62 (by decide) ?_
      refine k_putN C hw (CC := RX2) (T := TX2) (N := 4) (v := .int 1) nX9_image_X2 tyX2_ok nmX2 20 rfl rfl 3 (by decide) 28 rfl rfl rfl rfl rfl (Nat.le_of_ble_eq_true rfl) dX9_image_63 (fun H locs hw => ?_)
      replace hw : kW D _ s H locs [(a_t, .inr (9, [.ref a_t_parish, .ref a_t_kinship, .ref a_t_sights, .ref a_t_pad, .ref a_t_trial, .ref a_t_evening, .ref a_t_rows, .ref a_t_guess, .ref a_t_imageZero, .ref a_t_imageOne])), (a_t_imageOne, .inr (2, [.ref a_t_imageOne_parish, .ref a_t_imageOne_kinship, .ref a_t_imageOne_sights, .int v_t_imageOne_kept])), (a_t_imageOne_parish, .inr (5, [.ref a_t_imageOne_parish_wealth, .ref a_t_imageOne_parish_given, .ref a_t_imageOne_parish_row, .int v_t_imageOne_parish_inside, .int v_t_imageOne_parish_next, .int v_t_imageOne_parish_year])), (a_t_parish, .inr (5, [.ref a_t_parish_wealth, .ref a_t_parish_given, .ref a_t_parish_row, .int v_t_parish_inside, .int v_t_parish_next, .int v_t_parish_year])), (a_t_parish_wealth, .inl (cI, 8, .inl g_t_parish_wealth)), (a_t_imageOne_parish_wealth, .inl (cI, 8, .inl g_t_imageOne_parish_wealth)), (a_t_parish_given, .inl (cI, 64, .inl g_t_parish_given)), (a_t_imageOne_parish_given, .inl (cI, 64, .inl g_t_imageOne_parish_given)), (a_t_parish_row, .inl (cI, 8, .inl g_t_parish_row)), (a_t_imageOne_parish_row, .inl (cI, 8, .inl g_t_imageOne_parish_row)), (a_t_imageOne_kinship, .inr (3, [.ref a_t_imageOne_kinship_of])), (a_t_kinship, .inr (3, [.ref a_t_kinship_of])), (a_t_kinship_of, .inl (cI, 8, .inl g_t_kinship_of)), (a_t_imageOne_kinship_of, .inl (cI, 8, .inl g_t_imageOne_kinship_of)), (a_t_imageOne_sights, .inr (7, [.ref a_t_imageOne_sights_sets, .ref a_t_imageOne_sights_counts, .int v_t_imageOne_sights_size])), (a_t_sights, .inr (7, [.ref a_t_sights_sets, .ref a_t_sights_counts, .int v_t_sights_size])), (a_t_sights_sets, .inl (cI, 8, .inl g_t_sights_sets)), (a_t_imageOne_sights_sets, .inl (cI, 8, .inl g_t_imageOne_sights_sets)), (a_t_sights_counts, .inl (cI, 8, .inl g_t_sights_counts)), (a_t_imageOne_sights_counts, .inl (cI, 8, .inl g_t_imageOne_sights_counts)), (a_t_imageZero, .inr (2, [.ref a_t_imageZero_parish, .ref a_t_imageZero_kinship, .ref a_t_imageZero_sights, .int 1])), (a_t_imageZero_parish, .inr (5, [.ref a_t_imageZero_parish_wealth, .ref a_t_imageZero_parish_given, .ref a_t_imageZero_parish_row, .int z9.1, .int z9.2.1, .int z9.2.2.1])), (a_t_imageZero_parish_wealth, .inl (cI, 8, .inl z9.2.2.2.1)), (a_t_imageZero_parish_given, .inl (cI, 64, .inl z9.2.2.2.2.1)), (a_t_imageZero_parish_row, .inl (cI, 8, .inl z9.2.2.2.2.2)), (a_t_imageZero_kinship, .inr (3, [.ref a_t_imageZero_kinship_of])), (a_t_imageZero_kinship_of, .inl (cI, 8, .inl z11)), (a_t_imageZero_sights, .inr (7, [.ref a_t_imageZero_sights_sets, .ref a_t_imageZero_sights_counts, .int z13.1])), (a_t_imageZero_sights_sets, .inl (cI, 8, .inl z13.2.1)), (a_t_imageZero_sights_counts, .inl (cI, 8, .inl z13.2.2))] := hw
      refine lv_iconst (v := 1) hx hb dX9_image_66 (by decide) ?_
      rw [show f_X9_image v_t_imageOne_kept v_t_imageOne_parish_inside v_t_imageOne_parish_next v_t_imageOne_parish_year v_t_parish_inside v_t_parish_next v_t_parish_year g_t_parish_wealth g_t_imageOne_parish_wealth g_t_parish_given g_t_imageOne_parish_given g_t_parish_row g_t_imageOne_parish_row g_t_kinship_of g_t_imageOne_kinship_of v_t_imageOne_sights_size v_t_sights_size g_t_sights_sets g_t_imageOne_sights_sets g_t_sights_counts g_t_imageOne_sights_counts v_t_imageZero_kept v_t_imageZero_parish_inside v_t_imageZero_parish_next v_t_imageZero_parish_year g_t_imageZero_parish_wealth g_t_imageZero_parish_given g_t_imageZero_parish_row g_t_imageZero_kinship_of v_t_imageZero_sights_size g_t_imageZero_sights_sets g_t_imageZero_sights_counts p1 = (1, v_t_imageOne_kept, v_t_imageOne_parish_inside, v_t_imageOne_parish_next, v_t_imageOne_parish_year, g_t_imageOne_parish_wealth, g_t_imageOne_parish_given, g_t_imageOne_parish_row, g_t_imageOne_kinship_of, v_t_imageOne_sights_size, g_t_imageOne_sights_sets, g_t_imageOne_sights_counts, 1, z9.1, z9.2.1, z9.2.2.1, z9.2.2.2.1, z9.2.2.2.2.1, z9.2.2.2.2.2, z11, z13.1, z13.2.1, z13.2.2) from by
          unfold f_X9_image
          exact (if_neg c1).trans ((if_pos c2).trans ((lt_c h10).trans ((lt_c h12).trans ((lt_c h14).trans (rfl)))))]
      exact k_iret C hr hw dX9_image_67
  · refine lv_bipush (v := (-2)) hx hb dX9_image_9 (by decide) ?_
    rw [show f_X9_image v_t_imageOne_kept v_t_imageOne_parish_inside v_t_imageOne_parish_next v_t_imageOne_parish_year v_t_parish_inside v_t_parish_next v_t_parish_year g_t_parish_wealth g_t_imageOne_parish_wealth g_t_parish_given g_t_imageOne_parish_given g_t_parish_row g_t_imageOne_parish_row g_t_kinship_of g_t_imageOne_kinship_of v_t_imageOne_sights_size v_t_sights_size g_t_sights_sets g_t_imageOne_sights_sets g_t_sights_counts g_t_imageOne_sights_counts v_t_imageZero_kept v_t_imageZero_parish_inside v_t_imageZero_parish_next v_t_imageZero_parish_year g_t_imageZero_parish_wealth g_t_imageZero_parish_given g_t_imageZero_parish_row g_t_imageZero_kinship_of v_t_imageZero_sights_size g_t_imageZero_sights_sets g_t_imageZero_sights_counts p1 = ((-2), v_t_imageOne_kept, v_t_imageOne_parish_inside, v_t_imageOne_parish_next, v_t_imageOne_parish_year, g_t_imageOne_parish_wealth, g_t_imageOne_parish_given, g_t_imageOne_parish_row, g_t_imageOne_kinship_of, v_t_imageOne_sights_size, g_t_imageOne_sights_sets, g_t_imageOne_sights_counts, v_t_imageZero_kept, v_t_imageZero_parish_inside, v_t_imageZero_parish_next, v_t_imageZero_parish_year, g_t_imageZero_parish_wealth, g_t_imageZero_parish_given, g_t_imageZero_parish_row, g_t_imageZero_kinship_of, v_t_imageZero_sights_size, g_t_imageZero_sights_sets, g_t_imageZero_sights_counts) from by
        unfold f_X9_image
        exact (if_pos c1).trans (rfl)]
    exact k_iret C hr hw dX9_image_11

theorem nX9_restore_X2 : ∀ w ∈ wsX20, w ∈ wsX9_restore := fun _ h => List.mem_cons_of_mem _ (List.mem_append_left _ (List.mem_append_left _ (List.mem_append_left _ (List.mem_append_right _ h))))
theorem nX9_restore_X9 : ∀ w ∈ wsX90, w ∈ wsX9_restore := fun _ h => List.mem_cons_of_mem _ (List.mem_append_left _ (List.mem_append_left _ (List.mem_append_left _ (List.mem_append_left _ (List.mem_append_right _ h)))))
def f_X9_restore (v_t_imageOne_kept : Int32) (v_t_parish_inside : Int32) (v_t_parish_next : Int32) (v_t_parish_year : Int32) (v_t_imageOne_parish_inside : Int32) (v_t_imageOne_parish_next : Int32) (v_t_imageOne_parish_year : Int32) (g_t_imageOne_parish_wealth : (Nat → Int32)) (g_t_parish_wealth : (Nat → Int32)) (g_t_imageOne_parish_given : (Nat → Int32)) (g_t_parish_given : (Nat → Int32)) (g_t_imageOne_parish_row : (Nat → Int32)) (g_t_parish_row : (Nat → Int32)) (g_t_imageOne_kinship_of : (Nat → Int32)) (g_t_kinship_of : (Nat → Int32)) (v_t_sights_size : Int32) (v_t_imageOne_sights_size : Int32) (g_t_imageOne_sights_sets : (Nat → Int32)) (g_t_sights_sets : (Nat → Int32)) (g_t_imageOne_sights_counts : (Nat → Int32)) (g_t_sights_counts : (Nat → Int32)) (v_t_imageZero_kept : Int32) (v_t_imageZero_parish_inside : Int32) (v_t_imageZero_parish_next : Int32) (v_t_imageZero_parish_year : Int32) (g_t_imageZero_parish_wealth : (Nat → Int32)) (g_t_imageZero_parish_given : (Nat → Int32)) (g_t_imageZero_parish_row : (Nat → Int32)) (g_t_imageZero_kinship_of : (Nat → Int32)) (v_t_imageZero_sights_size : Int32) (g_t_imageZero_sights_sets : (Nat → Int32)) (g_t_imageZero_sights_counts : (Nat → Int32)) (p1 : Int32) : Int32 × Int32 × Int32 × Int32 × (Nat → Int32) × (Nat → Int32) × (Nat → Int32) × (Nat → Int32) × Int32 × (Nat → Int32) × (Nat → Int32) := (if (f_X9_within p1 (0 : Int32) (1 : Int32)) = 0 then ((-2), v_t_parish_inside, v_t_parish_next, v_t_parish_year, g_t_parish_wealth, g_t_parish_given, g_t_parish_row, g_t_kinship_of, v_t_sights_size, g_t_sights_sets, g_t_sights_counts) else (if p1 = 0 then (if v_t_imageZero_kept = 0 then ((-3), v_t_parish_inside, v_t_parish_next, v_t_parish_year, g_t_parish_wealth, g_t_parish_given, g_t_parish_row, g_t_kinship_of, v_t_sights_size, g_t_sights_sets, g_t_sights_counts) else (lt (f_X5_copyFrom v_t_imageZero_parish_inside v_t_imageZero_parish_next v_t_imageZero_parish_year g_t_imageZero_parish_wealth g_t_parish_wealth g_t_imageZero_parish_given g_t_parish_given g_t_imageZero_parish_row g_t_parish_row) (fun z11 => (lt (f_X3_copyFrom g_t_imageZero_kinship_of g_t_kinship_of) (fun z13 => (lt (f_X7_copyFrom v_t_imageZero_sights_size g_t_imageZero_sights_sets g_t_sights_sets g_t_imageZero_sights_counts g_t_sights_counts) (fun z15 => (1, z11.1, z11.2.1, z11.2.2.1, z11.2.2.2.1, z11.2.2.2.2.1, z11.2.2.2.2.2, z13, z15.1, z15.2.1, z15.2.2)))))))) else (if v_t_imageOne_kept = 0 then ((-3), v_t_parish_inside, v_t_parish_next, v_t_parish_year, g_t_parish_wealth, g_t_parish_given, g_t_parish_row, g_t_kinship_of, v_t_sights_size, g_t_sights_sets, g_t_sights_counts) else (lt (f_X5_copyFrom v_t_imageOne_parish_inside v_t_imageOne_parish_next v_t_imageOne_parish_year g_t_imageOne_parish_wealth g_t_parish_wealth g_t_imageOne_parish_given g_t_parish_given g_t_imageOne_parish_row g_t_parish_row) (fun z4 => (lt (f_X3_copyFrom g_t_imageOne_kinship_of g_t_kinship_of) (fun z6 => (lt (f_X7_copyFrom v_t_imageOne_sights_size g_t_imageOne_sights_sets g_t_sights_sets g_t_imageOne_sights_counts g_t_sights_counts) (fun z8 => (1, z4.1, z4.2.1, z4.2.2.1, z4.2.2.2.1, z4.2.2.2.2.1, z4.2.2.2.2.2, z6, z8.1, z8.2.1, z8.2.2))))))))))
set_option maxHeartbeats 4000000 in
set_option maxRecDepth 100000 in
theorem T_X9_restore (l : Launch) (D : va_G) (cI cZ : ClassId) (a_t a_t_parish a_t_kinship a_t_sights a_t_pad a_t_trial a_t_evening a_t_rows a_t_guess a_t_imageZero a_t_imageOne a_t_imageOne_parish a_t_imageOne_kinship a_t_imageOne_sights a_t_parish_wealth a_t_parish_given a_t_parish_row a_t_imageOne_parish_wealth a_t_imageOne_parish_given a_t_imageOne_parish_row a_t_kinship_of a_t_imageOne_kinship_of a_t_sights_sets a_t_sights_counts a_t_imageOne_sights_sets a_t_imageOne_sights_counts a_t_imageZero_parish a_t_imageZero_kinship a_t_imageZero_sights a_t_imageZero_parish_wealth a_t_imageZero_parish_given a_t_imageZero_parish_row a_t_imageZero_kinship_of a_t_imageZero_sights_sets a_t_imageZero_sights_counts : Nat) (v_t_imageOne_kept : Int32) (v_t_parish_inside : Int32) (v_t_parish_next : Int32) (v_t_parish_year : Int32) (v_t_imageOne_parish_inside : Int32) (v_t_imageOne_parish_next : Int32) (v_t_imageOne_parish_year : Int32) (g_t_imageOne_parish_wealth : (Nat → Int32)) (g_t_parish_wealth : (Nat → Int32)) (g_t_imageOne_parish_given : (Nat → Int32)) (g_t_parish_given : (Nat → Int32)) (g_t_imageOne_parish_row : (Nat → Int32)) (g_t_parish_row : (Nat → Int32)) (g_t_imageOne_kinship_of : (Nat → Int32)) (g_t_kinship_of : (Nat → Int32)) (v_t_sights_size : Int32) (v_t_imageOne_sights_size : Int32) (g_t_imageOne_sights_sets : (Nat → Int32)) (g_t_sights_sets : (Nat → Int32)) (g_t_imageOne_sights_counts : (Nat → Int32)) (g_t_sights_counts : (Nat → Int32)) (v_t_imageZero_kept : Int32) (v_t_imageZero_parish_inside : Int32) (v_t_imageZero_parish_next : Int32) (v_t_imageZero_parish_year : Int32) (g_t_imageZero_parish_wealth : (Nat → Int32)) (g_t_imageZero_parish_given : (Nat → Int32)) (g_t_imageZero_parish_row : (Nat → Int32)) (g_t_imageZero_kinship_of : (Nat → Int32)) (v_t_imageZero_sights_size : Int32) (g_t_imageZero_sights_sets : (Nat → Int32)) (g_t_imageZero_sights_counts : (Nat → Int32)) (p1 : Int32) : CT l D cI cZ yX9_restore wsX9_restore ({ frames := 2, cells := 0, slots := 0, locals := 101 }) [.ref a_t, .int p1] [(a_t, .inr (9, [.ref a_t_parish, .ref a_t_kinship, .ref a_t_sights, .ref a_t_pad, .ref a_t_trial, .ref a_t_evening, .ref a_t_rows, .ref a_t_guess, .ref a_t_imageZero, .ref a_t_imageOne])), (a_t_imageOne, .inr (2, [.ref a_t_imageOne_parish, .ref a_t_imageOne_kinship, .ref a_t_imageOne_sights, .int v_t_imageOne_kept])), (a_t_parish, .inr (5, [.ref a_t_parish_wealth, .ref a_t_parish_given, .ref a_t_parish_row, .int v_t_parish_inside, .int v_t_parish_next, .int v_t_parish_year])), (a_t_imageOne_parish, .inr (5, [.ref a_t_imageOne_parish_wealth, .ref a_t_imageOne_parish_given, .ref a_t_imageOne_parish_row, .int v_t_imageOne_parish_inside, .int v_t_imageOne_parish_next, .int v_t_imageOne_parish_year])), (a_t_imageOne_parish_wealth, .inl (cI, 8, .inl g_t_imageOne_parish_wealth)), (a_t_parish_wealth, .inl (cI, 8, .inl g_t_parish_wealth)), (a_t_imageOne_parish_given, .inl (cI, 64, .inl g_t_imageOne_parish_given)), (a_t_parish_given, .inl (cI, 64, .inl g_t_parish_given)), (a_t_imageOne_parish_row, .inl (cI, 8, .inl g_t_imageOne_parish_row)), (a_t_parish_row, .inl (cI, 8, .inl g_t_parish_row)), (a_t_kinship, .inr (3, [.ref a_t_kinship_of])), (a_t_imageOne_kinship, .inr (3, [.ref a_t_imageOne_kinship_of])), (a_t_imageOne_kinship_of, .inl (cI, 8, .inl g_t_imageOne_kinship_of)), (a_t_kinship_of, .inl (cI, 8, .inl g_t_kinship_of)), (a_t_sights, .inr (7, [.ref a_t_sights_sets, .ref a_t_sights_counts, .int v_t_sights_size])), (a_t_imageOne_sights, .inr (7, [.ref a_t_imageOne_sights_sets, .ref a_t_imageOne_sights_counts, .int v_t_imageOne_sights_size])), (a_t_imageOne_sights_sets, .inl (cI, 8, .inl g_t_imageOne_sights_sets)), (a_t_sights_sets, .inl (cI, 8, .inl g_t_sights_sets)), (a_t_imageOne_sights_counts, .inl (cI, 8, .inl g_t_imageOne_sights_counts)), (a_t_sights_counts, .inl (cI, 8, .inl g_t_sights_counts)), (a_t_imageZero, .inr (2, [.ref a_t_imageZero_parish, .ref a_t_imageZero_kinship, .ref a_t_imageZero_sights, .int v_t_imageZero_kept])), (a_t_imageZero_parish, .inr (5, [.ref a_t_imageZero_parish_wealth, .ref a_t_imageZero_parish_given, .ref a_t_imageZero_parish_row, .int v_t_imageZero_parish_inside, .int v_t_imageZero_parish_next, .int v_t_imageZero_parish_year])), (a_t_imageZero_parish_wealth, .inl (cI, 8, .inl g_t_imageZero_parish_wealth)), (a_t_imageZero_parish_given, .inl (cI, 64, .inl g_t_imageZero_parish_given)), (a_t_imageZero_parish_row, .inl (cI, 8, .inl g_t_imageZero_parish_row)), (a_t_imageZero_kinship, .inr (3, [.ref a_t_imageZero_kinship_of])), (a_t_imageZero_kinship_of, .inl (cI, 8, .inl g_t_imageZero_kinship_of)), (a_t_imageZero_sights, .inr (7, [.ref a_t_imageZero_sights_sets, .ref a_t_imageZero_sights_counts, .int v_t_imageZero_sights_size])), (a_t_imageZero_sights_sets, .inl (cI, 8, .inl g_t_imageZero_sights_sets)), (a_t_imageZero_sights_counts, .inl (cI, 8, .inl g_t_imageZero_sights_counts))] (some (.int (f_X9_restore v_t_imageOne_kept v_t_parish_inside v_t_parish_next v_t_parish_year v_t_imageOne_parish_inside v_t_imageOne_parish_next v_t_imageOne_parish_year g_t_imageOne_parish_wealth g_t_parish_wealth g_t_imageOne_parish_given g_t_parish_given g_t_imageOne_parish_row g_t_parish_row g_t_imageOne_kinship_of g_t_kinship_of v_t_sights_size v_t_imageOne_sights_size g_t_imageOne_sights_sets g_t_sights_sets g_t_imageOne_sights_counts g_t_sights_counts v_t_imageZero_kept v_t_imageZero_parish_inside v_t_imageZero_parish_next v_t_imageZero_parish_year g_t_imageZero_parish_wealth g_t_imageZero_parish_given g_t_imageZero_parish_row g_t_imageZero_kinship_of v_t_imageZero_sights_size g_t_imageZero_sights_sets g_t_imageZero_sights_counts p1).1)) [(a_t, .inr (9, [.ref a_t_parish, .ref a_t_kinship, .ref a_t_sights, .ref a_t_pad, .ref a_t_trial, .ref a_t_evening, .ref a_t_rows, .ref a_t_guess, .ref a_t_imageZero, .ref a_t_imageOne])), (a_t_imageOne, .inr (2, [.ref a_t_imageOne_parish, .ref a_t_imageOne_kinship, .ref a_t_imageOne_sights, .int v_t_imageOne_kept])), (a_t_parish, .inr (5, [.ref a_t_parish_wealth, .ref a_t_parish_given, .ref a_t_parish_row, .int (f_X9_restore v_t_imageOne_kept v_t_parish_inside v_t_parish_next v_t_parish_year v_t_imageOne_parish_inside v_t_imageOne_parish_next v_t_imageOne_parish_year g_t_imageOne_parish_wealth g_t_parish_wealth g_t_imageOne_parish_given g_t_parish_given g_t_imageOne_parish_row g_t_parish_row g_t_imageOne_kinship_of g_t_kinship_of v_t_sights_size v_t_imageOne_sights_size g_t_imageOne_sights_sets g_t_sights_sets g_t_imageOne_sights_counts g_t_sights_counts v_t_imageZero_kept v_t_imageZero_parish_inside v_t_imageZero_parish_next v_t_imageZero_parish_year g_t_imageZero_parish_wealth g_t_imageZero_parish_given g_t_imageZero_parish_row g_t_imageZero_kinship_of v_t_imageZero_sights_size g_t_imageZero_sights_sets g_t_imageZero_sights_counts p1).2.1, .int (f_X9_restore v_t_imageOne_kept v_t_parish_inside v_t_parish_next v_t_parish_year v_t_imageOne_parish_inside v_t_imageOne_parish_next v_t_imageOne_parish_year g_t_imageOne_parish_wealth g_t_parish_wealth g_t_imageOne_parish_given g_t_parish_given g_t_imageOne_parish_row g_t_parish_row g_t_imageOne_kinship_of g_t_kinship_of v_t_sights_size v_t_imageOne_sights_size g_t_imageOne_sights_sets g_t_sights_sets g_t_imageOne_sights_counts g_t_sights_counts v_t_imageZero_kept v_t_imageZero_parish_inside v_t_imageZero_parish_next v_t_imageZero_parish_year g_t_imageZero_parish_wealth g_t_imageZero_parish_given g_t_imageZero_parish_row g_t_imageZero_kinship_of v_t_imageZero_sights_size g_t_imageZero_sights_sets g_t_imageZero_sights_counts p1).2.2.1, .int (f_X9_restore v_t_imageOne_kept v_t_parish_inside v_t_parish_next v_t_parish_year v_t_imageOne_parish_inside v_t_imageOne_parish_next v_t_imageOne_parish_year g_t_imageOne_parish_wealth g_t_parish_wealth g_t_imageOne_parish_given g_t_parish_given g_t_imageOne_parish_row g_t_parish_row g_t_imageOne_kinship_of g_t_kinship_of v_t_sights_size v_t_imageOne_sights_size g_t_imageOne_sights_sets g_t_sights_sets g_t_imageOne_sights_counts g_t_sights_counts v_t_imageZero_kept v_t_imageZero_parish_inside v_t_imageZero_parish_next v_t_imageZero_parish_year g_t_imageZero_parish_wealth g_t_imageZero_parish_given g_t_imageZero_parish_row g_t_imageZero_kinship_of v_t_imageZero_sights_size g_t_imageZero_sights_sets g_t_imageZero_sights_counts p1).2.2.2.1])), (a_t_imageOne_parish, .inr (5, [.ref a_t_imageOne_parish_wealth, .ref a_t_imageOne_parish_given, .ref a_t_imageOne_parish_row, .int v_t_imageOne_parish_inside, .int v_t_imageOne_parish_next, .int v_t_imageOne_parish_year])), (a_t_imageOne_parish_wealth, .inl (cI, 8, .inl g_t_imageOne_parish_wealth)), (a_t_parish_wealth, .inl (cI, 8, .inl (f_X9_restore v_t_imageOne_kept v_t_parish_inside v_t_parish_next v_t_parish_year v_t_imageOne_parish_inside v_t_imageOne_parish_next v_t_imageOne_parish_year g_t_imageOne_parish_wealth g_t_parish_wealth g_t_imageOne_parish_given g_t_parish_given g_t_imageOne_parish_row g_t_parish_row g_t_imageOne_kinship_of g_t_kinship_of v_t_sights_size v_t_imageOne_sights_size g_t_imageOne_sights_sets g_t_sights_sets g_t_imageOne_sights_counts g_t_sights_counts v_t_imageZero_kept v_t_imageZero_parish_inside v_t_imageZero_parish_next v_t_imageZero_parish_year g_t_imageZero_parish_wealth g_t_imageZero_parish_given g_t_imageZero_parish_row g_t_imageZero_kinship_of v_t_imageZero_sights_size g_t_imageZero_sights_sets g_t_imageZero_sights_counts p1).2.2.2.2.1)), (a_t_imageOne_parish_given, .inl (cI, 64, .inl g_t_imageOne_parish_given)), (a_t_parish_given, .inl (cI, 64, .inl (f_X9_restore v_t_imageOne_kept v_t_parish_inside v_t_parish_next v_t_parish_year v_t_imageOne_parish_inside v_t_imageOne_parish_next v_t_imageOne_parish_year g_t_imageOne_parish_wealth g_t_parish_wealth g_t_imageOne_parish_given g_t_parish_given g_t_imageOne_parish_row g_t_parish_row g_t_imageOne_kinship_of g_t_kinship_of v_t_sights_size v_t_imageOne_sights_size g_t_imageOne_sights_sets g_t_sights_sets g_t_imageOne_sights_counts g_t_sights_counts v_t_imageZero_kept v_t_imageZero_parish_inside v_t_imageZero_parish_next v_t_imageZero_parish_year g_t_imageZero_parish_wealth g_t_imageZero_parish_given g_t_imageZero_parish_row g_t_imageZero_kinship_of v_t_imageZero_sights_size g_t_imageZero_sights_sets g_t_imageZero_sights_counts p1).2.2.2.2.2.1)), (a_t_imageOne_parish_row, .inl (cI, 8, .inl g_t_imageOne_parish_row)), (a_t_parish_row, .inl (cI, 8, .inl (f_X9_restore v_t_imageOne_kept v_t_parish_inside v_t_parish_next v_t_parish_year v_t_imageOne_parish_inside v_t_imageOne_parish_next v_t_imageOne_parish_year g_t_imageOne_parish_wealth g_t_parish_wealth g_t_imageOne_parish_given g_t_parish_given g_t_imageOne_parish_row g_t_parish_row g_t_imageOne_kinship_of g_t_kinship_of v_t_sights_size v_t_imageOne_sights_size g_t_imageOne_sights_sets g_t_sights_sets g_t_imageOne_sights_counts g_t_sights_counts v_t_imageZero_kept v_t_imageZero_parish_inside v_t_imageZero_parish_next v_t_imageZero_parish_year g_t_imageZero_parish_wealth g_t_imageZero_parish_given g_t_imageZero_parish_row g_t_imageZero_kinship_of v_t_imageZero_sights_size g_t_imageZero_sights_sets g_t_imageZero_sights_counts p1).2.2.2.2.2.2.1)), (a_t_kinship, .inr (3, [.ref a_t_kinship_of])), (a_t_imageOne_kinship, .inr (3, [.ref a_t_imageOne_kinship_of])), (a_t_imageOne_kinship_of, .inl (cI, 8, .inl g_t_imageOne_kinship_of)), (a_t_kinship_of, .inl (cI, 8, .inl (f_X9_restore v_t_imageOne_kept v_t_parish_inside v_t_parish_next v_t_parish_year v_t_imageOne_parish_inside v_t_imageOne_parish_next v_t_imageOne_parish_year g_t_imageOne_parish_wealth g_t_parish_wealth g_t_imageOne_parish_given g_t_parish_given g_t_imageOne_parish_row g_t_parish_row g_t_imageOne_kinship_of g_t_kinship_of v_t_sights_size v_t_imageOne_sights_size g_t_imageOne_sights_sets g_t_sights_sets g_t_imageOne_sights_counts g_t_sights_counts v_t_imageZero_kept v_t_imageZero_parish_inside v_t_imageZero_parish_next v_t_imageZero_parish_year g_t_imageZero_parish_wealth g_t_imageZero_parish_given g_t_imageZero_parish_row g_t_imageZero_kinship_of v_t_imageZero_sights_size g_t_imageZero_sights_sets g_t_imageZero_sights_counts p1).2.2.2.2.2.2.2.1)), (a_t_sights, .inr (7, [.ref a_t_sights_sets, .ref a_t_sights_counts, .int (f_X9_restore v_t_imageOne_kept v_t_parish_inside v_t_parish_next v_t_parish_year v_t_imageOne_parish_inside v_t_imageOne_parish_next v_t_imageOne_parish_year g_t_imageOne_parish_wealth g_t_parish_wealth g_t_imageOne_parish_given g_t_parish_given g_t_imageOne_parish_row g_t_parish_row g_t_imageOne_kinship_of g_t_kinship_of v_t_sights_size v_t_imageOne_sights_size g_t_imageOne_sights_sets g_t_sights_sets g_t_imageOne_sights_counts g_t_sights_counts v_t_imageZero_kept v_t_imageZero_parish_inside v_t_imageZero_parish_next v_t_imageZero_parish_year g_t_imageZero_parish_wealth g_t_imageZero_parish_given g_t_imageZero_parish_row g_t_imageZero_kinship_of v_t_imageZero_sights_size g_t_imageZero_sights_sets g_t_imageZero_sights_counts p1).2.2.2.2.2.2.2.2.1])), (a_t_imageOne_sights, .inr (7, [.ref a_t_imageOne_sights_sets, .ref a_t_imageOne_sights_counts, .int v_t_imageOne_sights_size])), (a_t_imageOne_sights_sets, .inl (cI, 8, .inl g_t_imageOne_sights_sets)), (a_t_sights_sets, .inl (cI, 8, .inl (f_X9_restore v_t_imageOne_kept v_t_parish_inside v_t_parish_next v_t_parish_year v_t_imageOne_parish_inside v_t_imageOne_parish_next v_t_imageOne_parish_year g_t_imageOne_parish_wealth g_t_parish_wealth g_t_imageOne_parish_given g_t_parish_given g_t_imageOne_parish_row g_t_parish_row g_t_imageOne_kinship_of g_t_kinship_of v_t_sights_size v_t_imageOne_sights_size g_t_imageOne_sights_sets g_t_sights_sets g_t_imageOne_sights_counts g_t_sights_counts v_t_imageZero_kept v_t_imageZero_parish_inside v_t_imageZero_parish_next v_t_imageZero_parish_year g_t_imageZero_parish_wealth g_t_imageZero_parish_given g_t_imageZero_parish_row g_t_imageZero_kinship_of v_t_imageZero_sights_size g_t_imageZero_sights_sets g_t_imageZero_sights_counts p1).2.2.2.2.2.2.2.2.2.1)), (a_t_imageOne_sights_counts, .inl (cI, 8, .inl g_t_imageOne_sights_counts)), (a_t_sights_counts, .inl (cI, 8, .inl (f_X9_restore v_t_imageOne_kept v_t_parish_inside v_t_parish_next v_t_parish_year v_t_imageOne_parish_inside v_t_imageOne_parish_next v_t_imageOne_parish_year g_t_imageOne_parish_wealth g_t_parish_wealth g_t_imageOne_parish_given g_t_parish_given g_t_imageOne_parish_row g_t_parish_row g_t_imageOne_kinship_of g_t_kinship_of v_t_sights_size v_t_imageOne_sights_size g_t_imageOne_sights_sets g_t_sights_sets g_t_imageOne_sights_counts g_t_sights_counts v_t_imageZero_kept v_t_imageZero_parish_inside v_t_imageZero_parish_next v_t_imageZero_parish_year g_t_imageZero_parish_wealth g_t_imageZero_parish_given g_t_imageZero_parish_row g_t_imageZero_kinship_of v_t_imageZero_sights_size g_t_imageZero_sights_sets g_t_imageZero_sights_counts p1).2.2.2.2.2.2.2.2.2.2)), (a_t_imageZero, .inr (2, [.ref a_t_imageZero_parish, .ref a_t_imageZero_kinship, .ref a_t_imageZero_sights, .int v_t_imageZero_kept])), (a_t_imageZero_parish, .inr (5, [.ref a_t_imageZero_parish_wealth, .ref a_t_imageZero_parish_given, .ref a_t_imageZero_parish_row, .int v_t_imageZero_parish_inside, .int v_t_imageZero_parish_next, .int v_t_imageZero_parish_year])), (a_t_imageZero_parish_wealth, .inl (cI, 8, .inl g_t_imageZero_parish_wealth)), (a_t_imageZero_parish_given, .inl (cI, 64, .inl g_t_imageZero_parish_given)), (a_t_imageZero_parish_row, .inl (cI, 8, .inl g_t_imageZero_parish_row)), (a_t_imageZero_kinship, .inr (3, [.ref a_t_imageZero_kinship_of])), (a_t_imageZero_kinship_of, .inl (cI, 8, .inl g_t_imageZero_kinship_of)), (a_t_imageZero_sights, .inr (7, [.ref a_t_imageZero_sights_sets, .ref a_t_imageZero_sights_counts, .int v_t_imageZero_sights_size])), (a_t_imageZero_sights_sets, .inl (cI, 8, .inl g_t_imageZero_sights_sets)), (a_t_imageZero_sights_counts, .inl (cI, 8, .inl g_t_imageZero_sights_counts))] := by
  refine CT.intro RX9 (by decide) rfl (Nat.le_of_ble_eq_true rfl) rfl ?_
  intro p e s m below meth c C hr hw ls hl
  have hx := C.hx
  have hb := C.hb
  replace hl : lv_has ls 3 [(0, .ref a_t), (1, .int p1)] := hl
  refine lv_iload_n hx hb dX9_restore_0 rfl (lv_at hl 1 rfl) ?_
  refine lv_iconst (v := 0) hx hb dX9_restore_1 (by decide) ?_
  refine lv_iconst (v := 1) hx hb dX9_restore_2 (by decide) ?_
  refine k_callS (As := [.int p1, .int 0, .int 1]) (rest := []) (n := 3) C hw (T_X9_within l D cI cZ p1 (0 : Int32) (1 : Int32)) gX9_restore_X9_within rfl ⟨rfl, rfl⟩ (by decide +kernel) ⟨Nat.le_of_ble_eq_true rfl, Nat.le_of_ble_eq_true rfl⟩ [] rfl rfl [] rfl rfl rfl hl.1 rfl (Nat.le_of_ble_eq_true rfl) ⟨Nat.zero_le _, Nat.zero_le _⟩ dX9_restore_3 (fun H locs hw => ?_)
  refine W.eq (g2 := F0 m 6 ls [.int (f_X9_within p1 (0 : Int32) (1 : Int32))]) rfl ?_
  replace hw : kW D _ s H locs [(a_t, .inr (9, [.ref a_t_parish, .ref a_t_kinship, .ref a_t_sights, .ref a_t_pad, .ref a_t_trial, .ref a_t_evening, .ref a_t_rows, .ref a_t_guess, .ref a_t_imageZero, .ref a_t_imageOne])), (a_t_imageOne, .inr (2, [.ref a_t_imageOne_parish, .ref a_t_imageOne_kinship, .ref a_t_imageOne_sights, .int v_t_imageOne_kept])), (a_t_parish, .inr (5, [.ref a_t_parish_wealth, .ref a_t_parish_given, .ref a_t_parish_row, .int v_t_parish_inside, .int v_t_parish_next, .int v_t_parish_year])), (a_t_imageOne_parish, .inr (5, [.ref a_t_imageOne_parish_wealth, .ref a_t_imageOne_parish_given, .ref a_t_imageOne_parish_row, .int v_t_imageOne_parish_inside, .int v_t_imageOne_parish_next, .int v_t_imageOne_parish_year])), (a_t_imageOne_parish_wealth, .inl (cI, 8, .inl g_t_imageOne_parish_wealth)), (a_t_parish_wealth, .inl (cI, 8, .inl g_t_parish_wealth)), (a_t_imageOne_parish_given, .inl (cI, 64, .inl g_t_imageOne_parish_given)), (a_t_parish_given, .inl (cI, 64, .inl g_t_parish_given)), (a_t_imageOne_parish_row, .inl (cI, 8, .inl g_t_imageOne_parish_row)), (a_t_parish_row, .inl (cI, 8, .inl g_t_parish_row)), (a_t_kinship, .inr (3, [.ref a_t_kinship_of])), (a_t_imageOne_kinship, .inr (3, [.ref a_t_imageOne_kinship_of])), (a_t_imageOne_kinship_of, .inl (cI, 8, .inl g_t_imageOne_kinship_of)), (a_t_kinship_of, .inl (cI, 8, .inl g_t_kinship_of)), (a_t_sights, .inr (7, [.ref a_t_sights_sets, .ref a_t_sights_counts, .int v_t_sights_size])), (a_t_imageOne_sights, .inr (7, [.ref a_t_imageOne_sights_sets, .ref a_t_imageOne_sights_counts, .int v_t_imageOne_sights_size])), (a_t_imageOne_sights_sets, .inl (cI, 8, .inl g_t_imageOne_sights_sets)), (a_t_sights_sets, .inl (cI, 8, .inl g_t_sights_sets)), (a_t_imageOne_sights_counts, .inl (cI, 8, .inl g_t_imageOne_sights_counts)), (a_t_sights_counts, .inl (cI, 8, .inl g_t_sights_counts)), (a_t_imageZero, .inr (2, [.ref a_t_imageZero_parish, .ref a_t_imageZero_kinship, .ref a_t_imageZero_sights, .int v_t_imageZero_kept])), (a_t_imageZero_parish, .inr (5, [.ref a_t_imageZero_parish_wealth, .ref a_t_imageZero_parish_given, .ref a_t_imageZero_parish_row, .int v_t_imageZero_parish_inside, .int v_t_imageZero_parish_next, .int v_t_imageZero_parish_year])), (a_t_imageZero_parish_wealth, .inl (cI, 8, .inl g_t_imageZero_parish_wealth)), (a_t_imageZero_parish_given, .inl (cI, 64, .inl g_t_imageZero_parish_given)), (a_t_imageZero_parish_row, .inl (cI, 8, .inl g_t_imageZero_parish_row)), (a_t_imageZero_kinship, .inr (3, [.ref a_t_imageZero_kinship_of])), (a_t_imageZero_kinship_of, .inl (cI, 8, .inl g_t_imageZero_kinship_of)), (a_t_imageZero_sights, .inr (7, [.ref a_t_imageZero_sights_sets, .ref a_t_imageZero_sights_counts, .int v_t_imageZero_sights_size])), (a_t_imageZero_sights_sets, .inl (cI, 8, .inl g_t_imageZero_sights_sets)), (a_t_imageZero_sights_counts, .inl (cI, 8, .inl g_t_imageZero_sights_counts))] := hw
  refine lv_if_ne (tgt := 12) hx hb dX9_restore_6 (by decide) (fun c1 => ?_) (fun c1 => ?_)
  · refine lv_iload_n hx hb dX9_restore_12 rfl (lv_at hl 1 rfl) ?_
    refine lv_if_ne (tgt := 23) hx hb dX9_restore_13 (by decide) (fun c2 => ?_) (fun c2 => ?_)
    · refine lv_aload_n hx hb dX9_restore_23 rfl (lv_at hl 0 rfl) ?_
      refine k_get C hw (CC := RX9) (T := TX9) (N := 10) nX9_restore_X9 0 rfl rfl 9 (by decide) (List.mem_of_getElem? (i := 2) rfl) rfl rfl dX9_restore_24 ?_
      refine lv_astore_n (lv' := [(2, .ref a_t_imageOne), (0, .ref a_t), (1, .int p1)]) hx hb dX9_restore_27 rfl hl (by decide) rfl (fun ls hl => ?_)
      refine lv_aload_n hx hb dX9_restore_28 rfl (lv_at hl 0 rfl) ?_
      refine k_getN C hw (CC := RX2) (T := TX2) (N := 4) nX9_restore_X2 1 rfl rfl 3 (by decide) 28 rfl rfl rfl dX9_restore_29 ?_
      refine lv_if_ne (tgt := 38) hx hb dX9_restore_32 (by decide) (fun c3 => ?_) (fun c3 => ?_)
      · refine lv_aload_n hx hb dX9_restore_38 rfl (lv_at hl 1 rfl) ?_
        refine k_get C hw (CC := RX9) (T := TX9) (N := 10) nX9_restore_X9 0 rfl rfl 0 (by decide) (List.mem_of_getElem? (i := 3) rfl) rfl rfl dX9_restore_39 ?_
        refine lv_aload_n hx hb dX9_restore_42 rfl (lv_at hl 0 rfl) ?_
        refine k_getN C hw (CC := RX2) (T := TX2) (N := 4) nX9_restore_X2 1 rfl rfl 0 (by decide) 25 rfl rfl rfl dX9_restore_43 ?_
        refine k_callVN (As := [.ref a_t_imageOne_parish]) (rest := []) (n := 1) (CC := RX5) (T := TX5) (N := 6) (host := RX9) C hw (T_X5_copyFrom l D cI cZ a_t_imageOne_parish a_t_imageOne_parish_wealth a_t_imageOne_parish_given a_t_imageOne_parish_row a_t_parish a_t_parish_wealth a_t_parish_given a_t_parish_row v_t_imageOne_parish_inside v_t_imageOne_parish_next v_t_imageOne_parish_year v_t_parish_inside v_t_parish_next v_t_parish_year g_t_imageOne_parish_wealth g_t_parish_wealth g_t_imageOne_parish_given g_t_parish_given g_t_imageOne_parish_row g_t_parish_row) gX9_restore_X5_copyFrom_n173 rfl ⟨rfl, rfl⟩ 30 rfl (List.mem_of_getElem? (i := 11) rfl) (List.mem_of_getElem? (i := 10) rfl) (List.mem_of_getElem? (i := 12) rfl) (by decide +kernel) ⟨Nat.le_of_ble_eq_true rfl, Nat.le_of_ble_eq_true rfl⟩ 2 rfl rfl [3, 2, 4, 5, 6, 7, 8, 9] rfl rfl [a_t_imageOne_parish, a_t_parish, a_t_imageOne_parish_wealth, a_t_parish_wealth, a_t_imageOne_parish_given, a_t_parish_given, a_t_imageOne_parish_row, a_t_parish_row] rfl rfl rfl hl.1 rfl (Nat.le_of_ble_eq_true rfl) ⟨Nat.zero_le _, Nat.zero_le _⟩ dX9_restore_46 (fun H locs hw => ?_)
        obtain ⟨z4, h5⟩ : ∃ z, (f_X5_copyFrom v_t_imageOne_parish_inside v_t_imageOne_parish_next v_t_imageOne_parish_year g_t_imageOne_parish_wealth g_t_parish_wealth g_t_imageOne_parish_given g_t_parish_given g_t_imageOne_parish_row g_t_parish_row) = z := ⟨_, rfl⟩
        refine W.eq (g2 := F0 m 49 ls []) (by subst h5; rfl) ?_
        replace hw := kW_cast (ws' := [(a_t, .inr (9, [.ref a_t_parish, .ref a_t_kinship, .ref a_t_sights, .ref a_t_pad, .ref a_t_trial, .ref a_t_evening, .ref a_t_rows, .ref a_t_guess, .ref a_t_imageZero, .ref a_t_imageOne])), (a_t_imageOne, .inr (2, [.ref a_t_imageOne_parish, .ref a_t_imageOne_kinship, .ref a_t_imageOne_sights, .int v_t_imageOne_kept])), (a_t_parish, .inr (5, [.ref a_t_parish_wealth, .ref a_t_parish_given, .ref a_t_parish_row, .int z4.1, .int z4.2.1, .int z4.2.2.1])), (a_t_imageOne_parish, .inr (5, [.ref a_t_imageOne_parish_wealth, .ref a_t_imageOne_parish_given, .ref a_t_imageOne_parish_row, .int v_t_imageOne_parish_inside, .int v_t_imageOne_parish_next, .int v_t_imageOne_parish_year])), (a_t_imageOne_parish_wealth, .inl (cI, 8, .inl g_t_imageOne_parish_wealth)), (a_t_parish_wealth, .inl (cI, 8, .inl z4.2.2.2.1)), (a_t_imageOne_parish_given, .inl (cI, 64, .inl g_t_imageOne_parish_given)), (a_t_parish_given, .inl (cI, 64, .inl z4.2.2.2.2.1)), (a_t_imageOne_parish_row, .inl (cI, 8, .inl g_t_imageOne_parish_row)), (a_t_parish_row, .inl (cI, 8, .inl z4.2.2.2.2.2)), (a_t_kinship, .inr (3, [.ref a_t_kinship_of])), (a_t_imageOne_kinship, .inr (3, [.ref a_t_imageOne_kinship_of])), (a_t_imageOne_kinship_of, .inl (cI, 8, .inl g_t_imageOne_kinship_of)), (a_t_kinship_of, .inl (cI, 8, .inl g_t_kinship_of)), (a_t_sights, .inr (7, [.ref a_t_sights_sets, .ref a_t_sights_counts, .int v_t_sights_size])), (a_t_imageOne_sights, .inr (7, [.ref a_t_imageOne_sights_sets, .ref a_t_imageOne_sights_counts, .int v_t_imageOne_sights_size])), (a_t_imageOne_sights_sets, .inl (cI, 8, .inl g_t_imageOne_sights_sets)), (a_t_sights_sets, .inl (cI, 8, .inl g_t_sights_sets)), (a_t_imageOne_sights_counts, .inl (cI, 8, .inl g_t_imageOne_sights_counts)), (a_t_sights_counts, .inl (cI, 8, .inl g_t_sights_counts)), (a_t_imageZero, .inr (2, [.ref a_t_imageZero_parish, .ref a_t_imageZero_kinship, .ref a_t_imageZero_sights, .int v_t_imageZero_kept])), (a_t_imageZero_parish, .inr (5, [.ref a_t_imageZero_parish_wealth, .ref a_t_imageZero_parish_given, .ref a_t_imageZero_parish_row, .int v_t_imageZero_parish_inside, .int v_t_imageZero_parish_next, .int v_t_imageZero_parish_year])), (a_t_imageZero_parish_wealth, .inl (cI, 8, .inl g_t_imageZero_parish_wealth)), (a_t_imageZero_parish_given, .inl (cI, 64, .inl g_t_imageZero_parish_given)), (a_t_imageZero_parish_row, .inl (cI, 8, .inl g_t_imageZero_parish_row)), (a_t_imageZero_kinship, .inr (3, [.ref a_t_imageZero_kinship_of])), (a_t_imageZero_kinship_of, .inl (cI, 8, .inl g_t_imageZero_kinship_of)), (a_t_imageZero_sights, .inr (7, [.ref a_t_imageZero_sights_sets, .ref a_t_imageZero_sights_counts, .int v_t_imageZero_sights_size])), (a_t_imageZero_sights_sets, .inl (cI, 8, .inl g_t_imageZero_sights_sets)), (a_t_imageZero_sights_counts, .inl (cI, 8, .inl g_t_imageZero_sights_counts))]) (by subst h5; rfl) hw
        refine lv_aload_n hx hb dX9_restore_49 rfl (lv_at hl 1 rfl) ?_
        refine k_get C hw (CC := RX9) (T := TX9) (N := 10) nX9_restore_X9 0 rfl rfl 1 (by decide) (List.mem_of_getElem? (i := 4) rfl) rfl rfl dX9_restore_50 ?_
        refine lv_aload_n hx hb dX9_restore_53 rfl (lv_at hl 0 rfl) ?_
        refine k_getN C hw (CC := RX2) (T := TX2) (N := 4) nX9_restore_X2 1 rfl rfl 1 (by decide) 26 rfl rfl rfl dX9_restore_54 ?_
        refine k_callVN (As := [.ref a_t_imageOne_kinship]) (rest := []) (n := 1) (CC := RX3) (T := TX3) (N := 1) (host := RX9) C hw (T_X3_copyFrom l D cI cZ a_t_imageOne_kinship a_t_imageOne_kinship_of a_t_kinship a_t_kinship_of g_t_imageOne_kinship_of g_t_kinship_of) gX9_restore_X3_copyFrom_n265 rfl ⟨rfl, rfl⟩ 45 rfl (List.mem_of_getElem? (i := 25) rfl) (List.mem_of_getElem? (i := 24) rfl) (List.mem_of_getElem? (i := 26) rfl) (by decide +kernel) ⟨Nat.le_of_ble_eq_true rfl, Nat.le_of_ble_eq_true rfl⟩ 10 rfl rfl [11, 10, 12, 13] rfl rfl [a_t_imageOne_kinship, a_t_kinship, a_t_imageOne_kinship_of, a_t_kinship_of] rfl rfl rfl hl.1 rfl (Nat.le_of_ble_eq_true rfl) ⟨Nat.zero_le _, Nat.zero_le _⟩ dX9_restore_57 (fun H locs hw => ?_)
        obtain ⟨z6, h7⟩ : ∃ z, (f_X3_copyFrom g_t_imageOne_kinship_of g_t_kinship_of) = z := ⟨_, rfl⟩
        refine W.eq (g2 := F0 m 60 ls []) (by subst h7; rfl) ?_
        replace hw := kW_cast (ws' := [(a_t, .inr (9, [.ref a_t_parish, .ref a_t_kinship, .ref a_t_sights, .ref a_t_pad, .ref a_t_trial, .ref a_t_evening, .ref a_t_rows, .ref a_t_guess, .ref a_t_imageZero, .ref a_t_imageOne])), (a_t_imageOne, .inr (2, [.ref a_t_imageOne_parish, .ref a_t_imageOne_kinship, .ref a_t_imageOne_sights, .int v_t_imageOne_kept])), (a_t_parish, .inr (5, [.ref a_t_parish_wealth, .ref a_t_parish_given, .ref a_t_parish_row, .int z4.1, .int z4.2.1, .int z4.2.2.1])), (a_t_imageOne_parish, .inr (5, [.ref a_t_imageOne_parish_wealth, .ref a_t_imageOne_parish_given, .ref a_t_imageOne_parish_row, .int v_t_imageOne_parish_inside, .int v_t_imageOne_parish_next, .int v_t_imageOne_parish_year])), (a_t_imageOne_parish_wealth, .inl (cI, 8, .inl g_t_imageOne_parish_wealth)), (a_t_parish_wealth, .inl (cI, 8, .inl z4.2.2.2.1)), (a_t_imageOne_parish_given, .inl (cI, 64, .inl g_t_imageOne_parish_given)), (a_t_parish_given, .inl (cI, 64, .inl z4.2.2.2.2.1)), (a_t_imageOne_parish_row, .inl (cI, 8, .inl g_t_imageOne_parish_row)), (a_t_parish_row, .inl (cI, 8, .inl z4.2.2.2.2.2)), (a_t_kinship, .inr (3, [.ref a_t_kinship_of])), (a_t_imageOne_kinship, .inr (3, [.ref a_t_imageOne_kinship_of])), (a_t_imageOne_kinship_of, .inl (cI, 8, .inl g_t_imageOne_kinship_of)), (a_t_kinship_of, .inl (cI, 8, .inl z6)), (a_t_sights, .inr (7, [.ref a_t_sights_sets, .ref a_t_sights_counts, .int v_t_sights_size])), (a_t_imageOne_sights, .inr (7, [.ref a_t_imageOne_sights_sets, .ref a_t_imageOne_sights_counts, .int v_t_imageOne_sights_size])), (a_t_imageOne_sights_sets, .inl (cI, 8, .inl g_t_imageOne_sights_sets)), (a_t_sights_sets, .inl (cI, 8, .inl g_t_sights_sets)), (a_t_imageOne_sights_counts, .inl (cI, 8, .inl g_t_imageOne_sights_counts)), (a_t_sights_counts, .inl (cI, 8, .inl g_t_sights_counts)), (a_t_imageZero, .inr (2, [.ref a_t_imageZero_parish, .ref a_t_imageZero_kinship, .ref a_t_imageZero_sights, .int v_t_imageZero_kept])), (a_t_imageZero_parish, .inr (5, [.ref a_t_imageZero_parish_wealth, .ref a_t_imageZero_parish_given, .ref a_t_imageZero_parish_row, .int v_t_imageZero_parish_inside, .int v_t_imageZero_parish_next, .int v_t_imageZero_parish_year])), (a_t_imageZero_parish_wealth, .inl (cI, 8, .inl g_t_imageZero_parish_wealth)), (a_t_imageZero_parish_given, .inl (cI, 64, .inl g_t_imageZero_parish_given)), (a_t_imageZero_parish_row, .inl (cI, 8, .inl g_t_imageZero_parish_row)), (a_t_imageZero_kinship, .inr (3, [.ref a_t_imageZero_kinship_of])), (a_t_imageZero_kinship_of, .inl (cI, 8, .inl g_t_imageZero_kinship_of)), (a_t_imageZero_sights, .inr (7, [.ref a_t_imageZero_sights_sets, .ref a_t_imageZero_sights_counts, .int v_t_imageZero_sights_size])), (a_t_imageZero_sights_sets, .inl (cI, 8, .inl g_t_imageZero_sights_sets)), (a_t_imageZero_sights_counts, .inl (cI, 8, .inl g_t_imageZero_sights_counts))]) (by subst h7; rfl) hw
        refine lv_aload_n hx hb dX9_restore_60 rfl (lv_at hl 1 rfl) ?_
        refine k_get C hw (CC := RX9) (T := TX9) (N := 10) nX9_restore_X9 0 rfl rfl 2 (by decide) (List.mem_of_getElem? (i := 5) rfl) rfl rfl dX9_restore_61 ?_
        refine lv_aload_n hx hb dX9_restore_64 rfl (lv_at hl 0 rfl) ?_
        refine k_getN C hw (CC := RX2) (T := TX2) (N := 4) nX9_restore_X2 1 rfl rfl 2 (by decide) 27 rfl rfl rfl dX9_restore_65 ?_
        refine k_callVN (As := [.ref a_t_imageOne_sights]) (rest := []) (n := 1) (CC := RX7) (T := TX7) (N := 3) (host := RX9) C hw (T_X7_copyFrom l D cI cZ a_t_imageOne_sights a_t_imageOne_sights_sets a_t_imageOne_sights_counts a_t_sights a_t_sights_sets a_t_sights_counts v_t_imageOne_sights_size v_t_sights_size g_t_imageOne_sights_sets g_t_sights_sets g_t_imageOne_sights_counts g_t_sights_counts) gX9_restore_X7_copyFrom_n268 rfl ⟨rfl, rfl⟩ 46 rfl (List.mem_of_getElem? (i := 31) rfl) (List.mem_of_getElem? (i := 30) rfl) (List.mem_of_getElem? (i := 32) rfl) (by decide +kernel) ⟨Nat.le_of_ble_eq_true rfl, Nat.le_of_ble_eq_true rfl⟩ 14 rfl rfl [15, 14, 16, 17, 18, 19] rfl rfl [a_t_imageOne_sights, a_t_sights, a_t_imageOne_sights_sets, a_t_sights_sets, a_t_imageOne_sights_counts, a_t_sights_counts] rfl rfl rfl hl.1 rfl (Nat.le_of_ble_eq_true rfl) ⟨Nat.zero_le _, Nat.zero_le _⟩ dX9_restore_68 (fun H locs hw => ?_)
        obtain ⟨z8, h9⟩ : ∃ z, (f_X7_copyFrom v_t_imageOne_sights_size g_t_imageOne_sights_sets g_t_sights_sets g_t_imageOne_sights_counts g_t_sights_counts) = z := ⟨_, rfl⟩
        refine W.eq (g2 := F0 m 71 ls []) (by subst h9; rfl) ?_
        replace hw := kW_cast (ws' := [(a_t, .inr (9, [.ref a_t_parish, .ref a_t_kinship, .ref a_t_sights, .ref a_t_pad, .ref a_t_trial, .ref a_t_evening, .ref a_t_rows, .ref a_t_guess, .ref a_t_imageZero, .ref a_t_imageOne])), (a_t_imageOne, .inr (2, [.ref a_t_imageOne_parish, .ref a_t_imageOne_kinship, .ref a_t_imageOne_sights, .int v_t_imageOne_kept])), (a_t_parish, .inr (5, [.ref a_t_parish_wealth, .ref a_t_parish_given, .ref a_t_parish_row, .int z4.1, .int z4.2.1, .int z4.2.2.1])), (a_t_imageOne_parish, .inr (5, [.ref a_t_imageOne_parish_wealth, .ref a_t_imageOne_parish_given, .ref a_t_imageOne_parish_row, .int v_t_imageOne_parish_inside, .int v_t_imageOne_parish_next, .int v_t_imageOne_parish_year])), (a_t_imageOne_parish_wealth, .inl (cI, 8, .inl g_t_imageOne_parish_wealth)), (a_t_parish_wealth, .inl (cI, 8, .inl z4.2.2.2.1)), (a_t_imageOne_parish_given, .inl (cI, 64, .inl g_t_imageOne_parish_given)), (a_t_parish_given, .inl (cI, 64, .inl z4.2.2.2.2.1)), (a_t_imageOne_parish_row, .inl (cI, 8, .inl g_t_imageOne_parish_row)), (a_t_parish_row, .inl (cI, 8, .inl z4.2.2.2.2.2)), (a_t_kinship, .inr (3, [.ref a_t_kinship_of])), (a_t_imageOne_kinship, .inr (3, [.ref a_t_imageOne_kinship_of])), (a_t_imageOne_kinship_of, .inl (cI, 8, .inl g_t_imageOne_kinship_of)), (a_t_kinship_of, .inl (cI, 8, .inl z6)), (a_t_sights, .inr (7, [.ref a_t_sights_sets, .ref a_t_sights_counts, .int z8.1])), (a_t_imageOne_sights, .inr (7, [.ref a_t_imageOne_sights_sets, .ref a_t_imageOne_sights_counts, .int v_t_imageOne_sights_size])), (a_t_imageOne_sights_sets, .inl (cI, 8, .inl g_t_imageOne_sights_sets)), (a_t_sights_sets, .inl (cI, 8, .inl z8.2.1)), (a_t_imageOne_sights_counts, .inl (cI, 8, .inl g_t_imageOne_sights_counts)), (a_t_sights_counts, .inl (cI, 8, .inl z8.2.2)), (a_t_imageZero, .inr (2, [.ref a_t_imageZero_parish, .ref a_t_imageZero_kinship, .ref a_t_imageZero_sights, .int v_t_imageZero_kept])), (a_t_imageZero_parish, .inr (5, [.ref a_t_imageZero_parish_wealth, .ref a_t_imageZero_parish_given, .ref a_t_imageZero_parish_row, .int v_t_imageZero_parish_inside, .int v_t_imageZero_parish_next, .int v_t_imageZero_parish_year])), (a_t_imageZero_parish_wealth, .inl (cI, 8, .inl g_t_imageZero_parish_wealth)), (a_t_imageZero_parish_given, .inl (cI, 64, .inl g_t_imageZero_parish_given)), (a_t_imageZero_parish_row, .inl (cI, 8, .inl g_t_imageZero_parish_row)), (a_t_imageZero_kinship, .inr (3, [.ref a_t_imageZero_kinship_of])), (a_t_imageZero_kinship_of, .inl (cI, 8, .inl g_t_imageZero_kinship_of)), (a_t_imageZero_sights, .inr (7, [.ref a_t_imageZero_sights_sets, .ref a_t_imageZero_sights_counts, .int v_t_imageZero_sights_size])), (a_t_imageZero_sights_sets, .inl (cI, 8, .inl g_t_imageZero_sights_sets)), (a_t_imageZero_sights_counts, .inl (cI, 8, .inl g_t_imageZero_sights_counts))]) (by subst h9; rfl) hw
        refine lv_iconst (v := 1) hx hb dX9_restore_71 (by decide) ?_
        rw [show f_X9_restore v_t_imageOne_kept v_t_parish_inside v_t_parish_next v_t_parish_year v_t_imageOne_parish_inside v_t_imageOne_parish_next v_t_imageOne_parish_year g_t_imageOne_parish_wealth g_t_parish_wealth g_t_imageOne_parish_given g_t_parish_given g_t_imageOne_parish_row g_t_parish_row g_t_imageOne_kinship_of g_t_kinship_of v_t_sights_size v_t_imageOne_sights_size g_t_imageOne_sights_sets g_t_sights_sets g_t_imageOne_sights_counts g_t_sights_counts v_t_imageZero_kept v_t_imageZero_parish_inside v_t_imageZero_parish_next v_t_imageZero_parish_year g_t_imageZero_parish_wealth g_t_imageZero_parish_given g_t_imageZero_parish_row g_t_imageZero_kinship_of v_t_imageZero_sights_size g_t_imageZero_sights_sets g_t_imageZero_sights_counts p1 = (1, z4.1, z4.2.1, z4.2.2.1, z4.2.2.2.1, z4.2.2.2.2.1, z4.2.2.2.2.2, z6, z8.1, z8.2.1, z8.2.2) from by
            unfold f_X9_restore
            exact (if_neg c1).trans ((if_neg c2).trans ((if_neg c3).trans ((lt_c h5).trans ((lt_c h7).trans ((lt_c h9).trans (rfl))))))]
        exact k_iret C hr hw dX9_restore_72
      · refine lv_bipush (v := (-3)) hx hb dX9_restore_35 (by decide) ?_
        rw [show f_X9_restore v_t_imageOne_kept v_t_parish_inside v_t_parish_next v_t_parish_year v_t_imageOne_parish_inside v_t_imageOne_parish_next v_t_imageOne_parish_year g_t_imageOne_parish_wealth g_t_parish_wealth g_t_imageOne_parish_given g_t_parish_given g_t_imageOne_parish_row g_t_parish_row g_t_imageOne_kinship_of g_t_kinship_of v_t_sights_size v_t_imageOne_sights_size g_t_imageOne_sights_sets g_t_sights_sets g_t_imageOne_sights_counts g_t_sights_counts v_t_imageZero_kept v_t_imageZero_parish_inside v_t_imageZero_parish_next v_t_imageZero_parish_year g_t_imageZero_parish_wealth g_t_imageZero_parish_given g_t_imageZero_parish_row g_t_imageZero_kinship_of v_t_imageZero_sights_size g_t_imageZero_sights_sets g_t_imageZero_sights_counts p1 = ((-3), v_t_parish_inside, v_t_parish_next, v_t_parish_year, g_t_parish_wealth, g_t_parish_given, g_t_parish_row, g_t_kinship_of, v_t_sights_size, g_t_sights_sets, g_t_sights_counts) from by
            unfold f_X9_restore
            exact (if_neg c1).trans ((if_neg c2).trans ((if_pos c3).trans (rfl)))]
        exact k_iret C hr hw dX9_restore_37
    · refine lv_aload_n hx hb dX9_restore_16 rfl (lv_at hl 0 rfl) ?_
      refine k_get C hw (CC := RX9) (T := TX9) (N := 10) nX9_restore_X9 0 rfl rfl 8 (by decide) (List.mem_of_getElem? (i := 1) rfl) rfl rfl dX9_restore_17 ?_
      refine lv_goto (tgt := 27) hx hb dX9_restore_20 (by decide) ?_
      refine lv_astore_n (lv' := [(2, .ref a_t_imageZero), (0, .ref a_t), (1, .int p1)]) hx hb dX9_restore_27 rfl hl (by decide) rfl (fun ls hl => ?_)
      refine lv_aload_n hx hb dX9_restore_28 rfl (lv_at hl 0 rfl) ?_
      refine k_getN C hw (CC := RX2) (T := TX2) (N := 4) nX9_restore_X2 20 rfl rfl 3 (by decide) 28 rfl rfl rfl dX9_restore_29 ?_
      refine lv_if_ne (tgt := 38) hx hb dX9_restore_32 (by decide) (fun c10 => ?_) (fun c10 => ?_)
      · refine lv_aload_n hx hb dX9_restore_38 rfl (lv_at hl 1 rfl) ?_
        refine k_get C hw (CC := RX9) (T := TX9) (N := 10) nX9_restore_X9 0 rfl rfl 0 (by decide) (List.mem_of_getElem? (i := 3) rfl) rfl rfl dX9_restore_39 ?_
        refine lv_aload_n hx hb dX9_restore_42 rfl (lv_at hl 0 rfl) ?_
        refine k_getN C hw (CC := RX2) (T := TX2) (N := 4) nX9_restore_X2 20 rfl rfl 0 (by decide) 25 rfl rfl rfl dX9_restore_43 ?_
        refine k_callVN (As := [.ref a_t_imageZero_parish]) (rest := []) (n := 1) (CC := RX5) (T := TX5) (N := 6) (host := RX9) C hw (T_X5_copyFrom l D cI cZ a_t_imageZero_parish a_t_imageZero_parish_wealth a_t_imageZero_parish_given a_t_imageZero_parish_row a_t_parish a_t_parish_wealth a_t_parish_given a_t_parish_row v_t_imageZero_parish_inside v_t_imageZero_parish_next v_t_imageZero_parish_year v_t_parish_inside v_t_parish_next v_t_parish_year g_t_imageZero_parish_wealth g_t_parish_wealth g_t_imageZero_parish_given g_t_parish_given g_t_imageZero_parish_row g_t_parish_row) gX9_restore_X5_copyFrom_n173 rfl ⟨rfl, rfl⟩ 30 rfl (List.mem_of_getElem? (i := 11) rfl) (List.mem_of_getElem? (i := 10) rfl) (List.mem_of_getElem? (i := 12) rfl) (by decide +kernel) ⟨Nat.le_of_ble_eq_true rfl, Nat.le_of_ble_eq_true rfl⟩ 2 rfl rfl [21, 2, 22, 5, 23, 7, 24, 9] rfl rfl [a_t_imageZero_parish, a_t_parish, a_t_imageZero_parish_wealth, a_t_parish_wealth, a_t_imageZero_parish_given, a_t_parish_given, a_t_imageZero_parish_row, a_t_parish_row] rfl rfl rfl hl.1 rfl (Nat.le_of_ble_eq_true rfl) ⟨Nat.zero_le _, Nat.zero_le _⟩ dX9_restore_46 (fun H locs hw => ?_)
        obtain ⟨z11, h12⟩ : ∃ z, (f_X5_copyFrom v_t_imageZero_parish_inside v_t_imageZero_parish_next v_t_imageZero_parish_year g_t_imageZero_parish_wealth g_t_parish_wealth g_t_imageZero_parish_given g_t_parish_given g_t_imageZero_parish_row g_t_parish_row) = z := ⟨_, rfl⟩
        refine W.eq (g2 := F0 m 49 ls []) (by subst h12; rfl) ?_
        replace hw := kW_cast (ws' := [(a_t, .inr (9, [.ref a_t_parish, .ref a_t_kinship, .ref a_t_sights, .ref a_t_pad, .ref a_t_trial, .ref a_t_evening, .ref a_t_rows, .ref a_t_guess, .ref a_t_imageZero, .ref a_t_imageOne])), (a_t_imageOne, .inr (2, [.ref a_t_imageOne_parish, .ref a_t_imageOne_kinship, .ref a_t_imageOne_sights, .int v_t_imageOne_kept])), (a_t_parish, .inr (5, [.ref a_t_parish_wealth, .ref a_t_parish_given, .ref a_t_parish_row, .int z11.1, .int z11.2.1, .int z11.2.2.1])), (a_t_imageOne_parish, .inr (5, [.ref a_t_imageOne_parish_wealth, .ref a_t_imageOne_parish_given, .ref a_t_imageOne_parish_row, .int v_t_imageOne_parish_inside, .int v_t_imageOne_parish_next, .int v_t_imageOne_parish_year])), (a_t_imageOne_parish_wealth, .inl (cI, 8, .inl g_t_imageOne_parish_wealth)), (a_t_parish_wealth, .inl (cI, 8, .inl z11.2.2.2.1)), (a_t_imageOne_parish_given, .inl (cI, 64, .inl g_t_imageOne_parish_given)), (a_t_parish_given, .inl (cI, 64, .inl z11.2.2.2.2.1)), (a_t_imageOne_parish_row, .inl (cI, 8, .inl g_t_imageOne_parish_row)), (a_t_parish_row, .inl (cI, 8, .inl z11.2.2.2.2.2)), (a_t_kinship, .inr (3, [.ref a_t_kinship_of])), (a_t_imageOne_kinship, .inr (3, [.ref a_t_imageOne_kinship_of])), (a_t_imageOne_kinship_of, .inl (cI, 8, .inl g_t_imageOne_kinship_of)), (a_t_kinship_of, .inl (cI, 8, .inl g_t_kinship_of)), (a_t_sights, .inr (7, [.ref a_t_sights_sets, .ref a_t_sights_counts, .int v_t_sights_size])), (a_t_imageOne_sights, .inr (7, [.ref a_t_imageOne_sights_sets, .ref a_t_imageOne_sights_counts, .int v_t_imageOne_sights_size])), (a_t_imageOne_sights_sets, .inl (cI, 8, .inl g_t_imageOne_sights_sets)), (a_t_sights_sets, .inl (cI, 8, .inl g_t_sights_sets)), (a_t_imageOne_sights_counts, .inl (cI, 8, .inl g_t_imageOne_sights_counts)), (a_t_sights_counts, .inl (cI, 8, .inl g_t_sights_counts)), (a_t_imageZero, .inr (2, [.ref a_t_imageZero_parish, .ref a_t_imageZero_kinship, .ref a_t_imageZero_sights, .int v_t_imageZero_kept])), (a_t_imageZero_parish, .inr (5, [.ref a_t_imageZero_parish_wealth, .ref a_t_imageZero_parish_given, .ref a_t_imageZero_parish_row, .int v_t_imageZero_parish_inside, .int v_t_imageZero_parish_next, .int v_t_imageZero_parish_year])), (a_t_imageZero_parish_wealth, .inl (cI, 8, .inl g_t_imageZero_parish_wealth)), (a_t_imageZero_parish_given, .inl (cI, 64, .inl g_t_imageZero_parish_given)), (a_t_imageZero_parish_row, .inl (cI, 8, .inl g_t_imageZero_parish_row)), (a_t_imageZero_kinship, .inr (3, [.ref a_t_imageZero_kinship_of])), (a_t_imageZero_kinship_of, .inl (cI, 8, .inl g_t_imageZero_kinship_of)), (a_t_imageZero_sights, .inr (7, [.ref a_t_imageZero_sights_sets, .ref a_t_imageZero_sights_counts, .int v_t_imageZero_sights_size])), (a_t_imageZero_sights_sets, .inl (cI, 8, .inl g_t_imageZero_sights_sets)), (a_t_imageZero_sights_counts, .inl (cI, 8, .inl g_t_imageZero_sights_counts))]) (by subst h12; rfl) hw
        refine lv_aload_n hx hb dX9_restore_49 rfl (lv_at hl 1 rfl) ?_
        refine k_get C hw (CC := RX9) (T := TX9) (N := 10) nX9_restore_X9 0 rfl rfl 1 (by decide) (List.mem_of_getElem? (i := 4) rfl) rfl rfl dX9_restore_50 ?_
        refine lv_aload_n hx hb dX9_restore_53 rfl (lv_at hl 0 rfl) ?_
        refine k_getN C hw (CC := RX2) (T := TX2) (N := 4) nX9_restore_X2 20 rfl rfl 1 (by decide) 26 rfl rfl rfl dX9_restore_54 ?_
        refine k_callVN (As := [.ref a_t_imageZero_kinship]) (rest := []) (n := 1) (CC := RX3) (T := TX3) (N := 1) (host := RX9) C hw (T_X3_copyFrom l D cI cZ a_t_imageZero_kinship a_t_imageZero_kinship_of a_t_kinship a_t_kinship_of g_t_imageZero_kinship_of g_t_kinship_of) gX9_restore_X3_copyFrom_n265 rfl ⟨rfl, rfl⟩ 45 rfl (List.mem_of_getElem? (i := 25) rfl) (List.mem_of_getElem? (i := 24) rfl) (List.mem_of_getElem? (i := 26) rfl) (by decide +kernel) ⟨Nat.le_of_ble_eq_true rfl, Nat.le_of_ble_eq_true rfl⟩ 10 rfl rfl [25, 10, 26, 13] rfl rfl [a_t_imageZero_kinship, a_t_kinship, a_t_imageZero_kinship_of, a_t_kinship_of] rfl rfl rfl hl.1 rfl (Nat.le_of_ble_eq_true rfl) ⟨Nat.zero_le _, Nat.zero_le _⟩ dX9_restore_57 (fun H locs hw => ?_)
        obtain ⟨z13, h14⟩ : ∃ z, (f_X3_copyFrom g_t_imageZero_kinship_of g_t_kinship_of) = z := ⟨_, rfl⟩
        refine W.eq (g2 := F0 m 60 ls []) (by subst h14; rfl) ?_
        replace hw := kW_cast (ws' := [(a_t, .inr (9, [.ref a_t_parish, .ref a_t_kinship, .ref a_t_sights, .ref a_t_pad, .ref a_t_trial, .ref a_t_evening, .ref a_t_rows, .ref a_t_guess, .ref a_t_imageZero, .ref a_t_imageOne])), (a_t_imageOne, .inr (2, [.ref a_t_imageOne_parish, .ref a_t_imageOne_kinship, .ref a_t_imageOne_sights, .int v_t_imageOne_kept])), (a_t_parish, .inr (5, [.ref a_t_parish_wealth, .ref a_t_parish_given, .ref a_t_parish_row, .int z11.1, .int z11.2.1, .int z11.2.2.1])), (a_t_imageOne_parish, .inr (5, [.ref a_t_imageOne_parish_wealth, .ref a_t_imageOne_parish_given, .ref a_t_imageOne_parish_row, .int v_t_imageOne_parish_inside, .int v_t_imageOne_parish_next, .int v_t_imageOne_parish_year])), (a_t_imageOne_parish_wealth, .inl (cI, 8, .inl g_t_imageOne_parish_wealth)), (a_t_parish_wealth, .inl (cI, 8, .inl z11.2.2.2.1)), (a_t_imageOne_parish_given, .inl (cI, 64, .inl g_t_imageOne_parish_given)), (a_t_parish_given, .inl (cI, 64, .inl z11.2.2.2.2.1)), (a_t_imageOne_parish_row, .inl (cI, 8, .inl g_t_imageOne_parish_row)), (a_t_parish_row, .inl (cI, 8, .inl z11.2.2.2.2.2)), (a_t_kinship, .inr (3, [.ref a_t_kinship_of])), (a_t_imageOne_kinship, .inr (3, [.ref a_t_imageOne_kinship_of])), (a_t_imageOne_kinship_of, .inl (cI, 8, .inl g_t_imageOne_kinship_of)), (a_t_kinship_of, .inl (cI, 8, .inl z13)), (a_t_sights, .inr (7, [.ref a_t_sights_sets, .ref a_t_sights_counts, .int v_t_sights_size])), (a_t_imageOne_sights, .inr (7, [.ref a_t_imageOne_sights_sets, .ref a_t_imageOne_sights_counts, .int v_t_imageOne_sights_size])), (a_t_imageOne_sights_sets, .inl (cI, 8, .inl g_t_imageOne_sights_sets)), (a_t_sights_sets, .inl (cI, 8, .inl g_t_sights_sets)), (a_t_imageOne_sights_counts, .inl (cI, 8, .inl g_t_imageOne_sights_counts)), (a_t_sights_counts, .inl (cI, 8, .inl g_t_sights_counts)), (a_t_imageZero, .inr (2, [.ref a_t_imageZero_parish, .ref a_t_imageZero_kinship, .ref a_t_imageZero_sights, .int v_t_imageZero_kept])), (a_t_imageZero_parish, .inr (5, [.ref a_t_imageZero_parish_wealth, .ref a_t_imageZero_parish_given, .ref a_t_imageZero_parish_row, .int v_t_imageZero_parish_inside, .int v_t_imageZero_parish_next, .int v_t_imageZero_parish_year])), (a_t_imageZero_parish_wealth, .inl (cI, 8, .inl g_t_imageZero_parish_wealth)), (a_t_imageZero_parish_given, .inl (cI, 64, .inl g_t_imageZero_parish_given)), (a_t_imageZero_parish_row, .inl (cI, 8, .inl g_t_imageZero_parish_row)), (a_t_imageZero_kinship, .inr (3, [.ref a_t_imageZero_kinship_of])), (a_t_imageZero_kinship_of, .inl (cI, 8, .inl g_t_imageZero_kinship_of)), (a_t_imageZero_sights, .inr (7, [.ref a_t_imageZero_sights_sets, .ref a_t_imageZero_sights_counts, .int v_t_imageZero_sights_size])), (a_t_imageZero_sights_sets, .inl (cI, 8, .inl g_t_imageZero_sights_sets)), (a_t_imageZero_sights_counts, .inl (cI, 8, .inl g_t_imageZero_sights_counts))]) (by subst h14; rfl) hw
        refine lv_aload_n hx hb dX9_restore_60 rfl (lv_at hl 1 rfl) ?_
        refine k_get C hw (CC := RX9) (T := TX9) (N := 10) nX9_restore_X9 0 rfl rfl 2 (by decide) (List.mem_of_getElem? (i := 5) rfl) rfl rfl dX9_restore_61 ?_
        refine lv_aload_n hx hb dX9_restore_64 rfl (lv_at hl 0 rfl) ?_
        refine k_getN C hw (CC := RX2) (T := TX2) (N := 4) nX9_restore_X2 20 rfl rfl 2 (by decide) 27 rfl rfl rfl dX9_restore_65 ?_
        refine k_callVN (As := [.ref a_t_imageZero_sights]) (rest := []) (n := 1) (CC := RX7) (T := TX7) (N := 3) (host := RX9) C hw (T_X7_copyFrom l D cI cZ a_t_imageZero_sights a_t_imageZero_sights_sets a_t_imageZero_sights_counts a_t_sights a_t_sights_sets a_t_sights_counts v_t_imageZero_sights_size v_t_sights_size g_t_imageZero_sights_sets g_t_sights_sets g_t_imageZero_sights_counts g_t_sights_counts) gX9_restore_X7_copyFrom_n268 rfl ⟨rfl, rfl⟩ 46 rfl (List.mem_of_getElem? (i := 31) rfl) (List.mem_of_getElem? (i := 30) rfl) (List.mem_of_getElem? (i := 32) rfl) (by decide +kernel) ⟨Nat.le_of_ble_eq_true rfl, Nat.le_of_ble_eq_true rfl⟩ 14 rfl rfl [27, 14, 28, 17, 29, 19] rfl rfl [a_t_imageZero_sights, a_t_sights, a_t_imageZero_sights_sets, a_t_sights_sets, a_t_imageZero_sights_counts, a_t_sights_counts] rfl rfl rfl hl.1 rfl (Nat.le_of_ble_eq_true rfl) ⟨Nat.zero_le _, Nat.zero_le _⟩ dX9_restore_68 (fun H locs hw => ?_)
        obtain ⟨z15, h16⟩ : ∃ z, (f_X7_copyFrom v_t_imageZero_sights_size g_t_imageZero_sights_sets g_t_sights_sets g_t_imageZero_sights_counts g_t_sights_counts) = z := ⟨_, rfl⟩
        refine W.eq (g2 := F0 m 71 ls []) (by subst h16; rfl) ?_
        replace hw := kW_cast (ws' := [(a_t, .inr (9, [.ref a_t_parish, .ref a_t_kinship, .ref a_t_sights, .ref a_t_pad, .ref a_t_trial, .ref a_t_evening, .ref a_t_rows, .ref a_t_guess, .ref a_t_imageZero, .ref a_t_imageOne])), (a_t_imageOne, .inr (2, [.ref a_t_imageOne_parish, .ref a_t_imageOne_kinship, .ref a_t_imageOne_sights, .int v_t_imageOne_kept])), (a_t_parish, .inr (5, [.ref a_t_parish_wealth, .ref a_t_parish_given, .ref a_t_parish_row, .int z11.1, .int z11.2.1, .int z11.2.2.1])), (a_t_imageOne_parish, .inr (5, [.ref a_t_imageOne_parish_wealth, .ref a_t_imageOne_parish_given, .ref a_t_imageOne_parish_row, .int v_t_imageOne_parish_inside, .int v_t_imageOne_parish_next, .int v_t_imageOne_parish_year])), (a_t_imageOne_parish_wealth, .inl (cI, 8, .inl g_t_imageOne_parish_wealth)), (a_t_parish_wealth, .inl (cI, 8, .inl z11.2.2.2.1)), (a_t_imageOne_parish_given, .inl (cI, 64, .inl g_t_imageOne_parish_given)), (a_t_parish_given, .inl (cI, 64, .inl z11.2.2.2.2.1)), (a_t_imageOne_parish_row, .inl (cI, 8, .inl g_t_imageOne_parish_row)), (a_t_parish_row, .inl (cI, 8, .inl z11.2.2.2.2.2)), (a_t_kinship, .inr (3, [.ref a_t_kinship_of])), (a_t_imageOne_kinship, .inr (3, [.ref a_t_imageOne_kinship_of])), (a_t_imageOne_kinship_of, .inl (cI, 8, .inl g_t_imageOne_kinship_of)), (a_t_kinship_of, .inl (cI, 8, .inl z13)), (a_t_sights, .inr (7, [.ref a_t_sights_sets, .ref a_t_sights_counts, .int z15.1])), (a_t_imageOne_sights, .inr (7, [.ref a_t_imageOne_sights_sets, .ref a_t_imageOne_sights_counts, .int v_t_imageOne_sights_size])), (a_t_imageOne_sights_sets, .inl (cI, 8, .inl g_t_imageOne_sights_sets)), (a_t_sights_sets, .inl (cI, 8, .inl z15.2.1)), (a_t_imageOne_sights_counts, .inl (cI, 8, .inl g_t_imageOne_sights_counts)), (a_t_sights_counts, .inl (cI, 8, .inl z15.2.2)), (a_t_imageZero, .inr (2, [.ref a_t_imageZero_parish, .ref a_t_imageZero_kinship, .ref a_t_imageZero_sights, .int v_t_imageZero_kept])), (a_t_imageZero_parish, .inr (5, [.ref a_t_imageZero_parish_wealth, .ref a_t_imageZero_parish_given, .ref a_t_imageZero_parish_row, .int v_t_imageZero_parish_inside, .int v_t_imageZero_parish_next, .int v_t_imageZero_parish_year])), (a_t_imageZero_parish_wealth, .inl (cI, 8, .inl g_t_imageZero_parish_wealth)), (a_t_imageZero_parish_given, .inl (cI, 64, .inl g_t_imageZero_parish_given)), (a_t_imageZero_parish_row, .inl (cI, 8, .inl g_t_imageZero_parish_row)), (a_t_imageZero_kinship, .inr (3, [.ref a_t_imageZero_kinship_of])), (a_t_imageZero_kinship_of, .inl (cI, 8, .inl g_t_imageZero_kinship_of)), (a_t_imageZero_sights, .inr (7, [.ref a_t_imageZero_sights_sets, .ref a_t_imageZero_sights_counts, .int v_t_imageZero_sights_size])), (a_t_imageZero_sights_sets, .inl (cI, 8, .inl g_t_imageZero_sights_sets)), (a_t_imageZero_sights_counts, .inl (cI, 8, .inl g_t_imageZero_sights_counts))]) (by subst h16; rfl) hw
        refine lv_iconst (v := 1) hx hb dX9_restore_71 (by decide) ?_
        rw [show f_X9_restore v_t_imageOne_kept v_t_parish_inside v_t_parish_next v_t_parish_year v_t_imageOne_parish_inside v_t_imageOne_parish_next v_t_imageOne_parish_year g_t_imageOne_parish_wealth g_t_parish_wealth g_t_imageOne_parish_given g_t_parish_given g_t_imageOne_parish_row g_t_parish_row g_t_imageOne_kinship_of g_t_kinship_of v_t_sights_size v_t_imageOne_sights_size g_t_imageOne_sights_sets g_t_sights_sets g_t_imageOne_sights_counts g_t_sights_counts v_t_imageZero_kept v_t_imageZero_parish_inside v_t_imageZero_parish_next v_t_imageZero_parish_year g_t_imageZero_parish_wealth g_t_imageZero_parish_given g_t_imageZero_parish_row g_t_imageZero_kinship_of v_t_imageZero_sights_size g_t_imageZero_sights_sets g_t_imageZero_sights_counts p1 = (1, z11.1, z11.2.1, z11.2.2.1, z11.2.2.2.1, z11.2.2.2.2.1, z11.2.2.2.2.2, z13, z15.1, z15.2.1, z15.2.2) from by
            unfold f_X9_restore
            exact (if_neg c1).trans ((if_pos c2).trans ((if_neg c10).trans ((lt_c h12).trans ((lt_c h14).trans ((lt_c h16).trans (rfl))))))]
        exact k_iret C hr hw dX9_restore_72
      · refine lv_bipush (v := (-3)) hx hb dX9_restore_35 (by decide) ?_
        rw [show f_X9_restore v_t_imageOne_kept v_t_parish_inside v_t_parish_next v_t_parish_year v_t_imageOne_parish_inside v_t_imageOne_parish_next v_t_imageOne_parish_year g_t_imageOne_parish_wealth g_t_parish_wealth g_t_imageOne_parish_given g_t_parish_given g_t_imageOne_parish_row g_t_parish_row g_t_imageOne_kinship_of g_t_kinship_of v_t_sights_size v_t_imageOne_sights_size g_t_imageOne_sights_sets g_t_sights_sets g_t_imageOne_sights_counts g_t_sights_counts v_t_imageZero_kept v_t_imageZero_parish_inside v_t_imageZero_parish_next v_t_imageZero_parish_year g_t_imageZero_parish_wealth g_t_imageZero_parish_given g_t_imageZero_parish_row g_t_imageZero_kinship_of v_t_imageZero_sights_size g_t_imageZero_sights_sets g_t_imageZero_sights_counts p1 = ((-3), v_t_parish_inside, v_t_parish_next, v_t_parish_year, g_t_parish_wealth, g_t_parish_given, g_t_parish_row, g_t_kinship_of, v_t_sights_size, g_t_sights_sets, g_t_sights_counts) from by
            unfold f_X9_restore
            exact (if_neg c1).trans ((if_pos c2).trans ((if_pos c10).trans (rfl)))]
        exact k_iret C hr hw dX9_restore_37
  · refine lv_bipush (v := (-2)) hx hb dX9_restore_9 (by decide) ?_
    rw [show f_X9_restore v_t_imageOne_kept v_t_parish_inside v_t_parish_next v_t_parish_year v_t_imageOne_parish_inside v_t_imageOne_parish_next v_t_imageOne_parish_year g_t_imageOne_parish_wealth g_t_parish_wealth g_t_imageOne_parish_given g_t_parish_given g_t_imageOne_parish_row g_t_parish_row g_t_imageOne_kinship_of g_t_kinship_of v_t_sights_size v_t_imageOne_sights_size g_t_imageOne_sights_sets g_t_sights_sets g_t_imageOne_sights_counts g_t_sights_counts v_t_imageZero_kept v_t_imageZero_parish_inside v_t_imageZero_parish_next v_t_imageZero_parish_year g_t_imageZero_parish_wealth g_t_imageZero_parish_given g_t_imageZero_parish_row g_t_imageZero_kinship_of v_t_imageZero_sights_size g_t_imageZero_sights_sets g_t_imageZero_sights_counts p1 = ((-2), v_t_parish_inside, v_t_parish_next, v_t_parish_year, g_t_parish_wealth, g_t_parish_given, g_t_parish_row, g_t_kinship_of, v_t_sights_size, g_t_sights_sets, g_t_sights_counts) from by
        unfold f_X9_restore
        exact (if_pos c1).trans (rfl)]
    exact k_iret C hr hw dX9_restore_11

theorem nX9_toldInAll_X4 : ∀ w ∈ wsX40, w ∈ wsX9_toldInAll := fun _ h => List.mem_cons_of_mem _ (List.mem_append_left _ (List.mem_append_left _ (List.mem_append_right _ h)))
theorem nX9_toldInAll_X5 : ∀ w ∈ wsX50, w ∈ wsX9_toldInAll := fun _ h => List.mem_cons_of_mem _ (List.mem_append_left _ (List.mem_append_right _ h))
theorem nX9_toldInAll_X7 : ∀ w ∈ wsX70, w ∈ wsX9_toldInAll := fun _ h => List.mem_cons_of_mem _ (List.mem_append_right _ h)
theorem nX9_toldInAll_X9 : ∀ w ∈ wsX90, w ∈ wsX9_toldInAll := fun _ h => List.mem_cons_of_mem _ (List.mem_append_left _ (List.mem_append_left _ (List.mem_append_left _ (List.mem_append_right _ h))))
def f_X9_toldInAll (v_t_sights_size : Int32) (v_t_pad_signs : Int32) (v_t_parish_inside : Int32) (v_t_parish_next : Int32) (v_t_parish_year : Int32) (g_t_parish_row : (Nat → Int32)) (p1 : Int32) : Int32 := (if p1 = 0 then v_t_pad_signs else (if p1 = 1 then v_t_parish_inside else (if p1 = 2 then (f_X5_rowNumber g_t_parish_row) else (if p1 = 3 then v_t_parish_next else (if p1 = 4 then v_t_parish_year else v_t_sights_size)))))
set_option maxHeartbeats 4000000 in
set_option maxRecDepth 100000 in
theorem T_X9_toldInAll (l : Launch) (D : va_G) (cI cZ : ClassId) (a_t a_t_parish a_t_kinship a_t_sights a_t_pad a_t_trial a_t_evening a_t_rows a_t_guess a_t_imageZero a_t_imageOne a_t_sights_sets a_t_sights_counts a_t_pad_kinds a_t_pad_ones a_t_pad_others a_t_pad_amounts a_t_parish_wealth a_t_parish_given a_t_parish_row : Nat) (v_t_sights_size : Int32) (v_t_pad_acts : Int32) (v_t_pad_signs : Int32) (v_t_pad_wrongPlace : Int32) (v_t_pad_expected : Int32) (v_t_pad_one : Int32) (v_t_pad_other : Int32) (v_t_parish_inside : Int32) (v_t_parish_next : Int32) (v_t_parish_year : Int32) (g_t_parish_row : (Nat → Int32)) (p1 : Int32) : CT l D cI cZ yX9_toldInAll wsX9_toldInAll ({ frames := 1, cells := 0, slots := 0, locals := 22 }) [.ref a_t, .int p1] [(a_t, .inr (9, [.ref a_t_parish, .ref a_t_kinship, .ref a_t_sights, .ref a_t_pad, .ref a_t_trial, .ref a_t_evening, .ref a_t_rows, .ref a_t_guess, .ref a_t_imageZero, .ref a_t_imageOne])), (a_t_sights, .inr (7, [.ref a_t_sights_sets, .ref a_t_sights_counts, .int v_t_sights_size])), (a_t_pad, .inr (4, [.ref a_t_pad_kinds, .ref a_t_pad_ones, .ref a_t_pad_others, .ref a_t_pad_amounts, .int v_t_pad_acts, .int v_t_pad_signs, .int v_t_pad_wrongPlace, .int v_t_pad_expected, .int v_t_pad_one, .int v_t_pad_other])), (a_t_parish, .inr (5, [.ref a_t_parish_wealth, .ref a_t_parish_given, .ref a_t_parish_row, .int v_t_parish_inside, .int v_t_parish_next, .int v_t_parish_year])), (a_t_parish_row, .inl (cI, 8, .inl g_t_parish_row))] (some (.int (f_X9_toldInAll v_t_sights_size v_t_pad_signs v_t_parish_inside v_t_parish_next v_t_parish_year g_t_parish_row p1))) [(a_t, .inr (9, [.ref a_t_parish, .ref a_t_kinship, .ref a_t_sights, .ref a_t_pad, .ref a_t_trial, .ref a_t_evening, .ref a_t_rows, .ref a_t_guess, .ref a_t_imageZero, .ref a_t_imageOne])), (a_t_sights, .inr (7, [.ref a_t_sights_sets, .ref a_t_sights_counts, .int v_t_sights_size])), (a_t_pad, .inr (4, [.ref a_t_pad_kinds, .ref a_t_pad_ones, .ref a_t_pad_others, .ref a_t_pad_amounts, .int v_t_pad_acts, .int v_t_pad_signs, .int v_t_pad_wrongPlace, .int v_t_pad_expected, .int v_t_pad_one, .int v_t_pad_other])), (a_t_parish, .inr (5, [.ref a_t_parish_wealth, .ref a_t_parish_given, .ref a_t_parish_row, .int v_t_parish_inside, .int v_t_parish_next, .int v_t_parish_year])), (a_t_parish_row, .inl (cI, 8, .inl g_t_parish_row))] := by
  refine CT.intro RX9 (by decide) rfl (Nat.le_of_ble_eq_true rfl) rfl ?_
  intro p e s m below meth c C hr hw ls hl
  have hx := C.hx
  have hb := C.hb
  replace hl : lv_has ls 2 [(0, .ref a_t), (1, .int p1)] := hl
  refine lv_iload_n hx hb dX9_toldInAll_0 rfl (lv_at hl 1 rfl) ?_
  by_cases c1 : p1 = 0
  · refine lv_tableIn (tgt := 36) hx hb dX9_toldInAll_1 (by rw [c1]; decide) (by rw [c1]; decide) (by rw [c1]; rfl) (by decide) ?_
    refine lv_aload_n hx hb dX9_toldInAll_36 rfl (lv_at hl 0 rfl) ?_
    refine k_get C hw (CC := RX9) (T := TX9) (N := 10) nX9_toldInAll_X9 0 rfl rfl 3 (by decide) (List.mem_of_getElem? (i := 1) rfl) rfl rfl dX9_toldInAll_37 ?_
    refine k_getN C hw (CC := RX4) (T := TX4) (N := 10) nX9_toldInAll_X4 2 rfl rfl 5 (by decide) 14 rfl rfl rfl dX9_toldInAll_40 ?_
    rw [show f_X9_toldInAll v_t_sights_size v_t_pad_signs v_t_parish_inside v_t_parish_next v_t_parish_year g_t_parish_row p1 = v_t_pad_signs from by
        unfold f_X9_toldInAll
        exact (if_pos c1).trans (rfl)]
    exact k_iret C hr hw dX9_toldInAll_43
  · by_cases c2 : p1 = 1
    · refine lv_tableIn (tgt := 44) hx hb dX9_toldInAll_1 (by rw [c2]; decide) (by rw [c2]; decide) (by rw [c2]; rfl) (by decide) ?_
      refine lv_aload_n hx hb dX9_toldInAll_44 rfl (lv_at hl 0 rfl) ?_
      refine k_get C hw (CC := RX9) (T := TX9) (N := 10) nX9_toldInAll_X9 0 rfl rfl 0 (by decide) (List.mem_of_getElem? (i := 2) rfl) rfl rfl dX9_toldInAll_45 ?_
      refine k_getN C hw (CC := RX5) (T := TX5) (N := 6) nX9_toldInAll_X5 3 rfl rfl 3 (by decide) 2 rfl rfl rfl dX9_toldInAll_48 ?_
      rw [show f_X9_toldInAll v_t_sights_size v_t_pad_signs v_t_parish_inside v_t_parish_next v_t_parish_year g_t_parish_row p1 = v_t_parish_inside from by
          unfold f_X9_toldInAll
          exact (if_neg c1).trans ((if_pos c2).trans (rfl))]
      exact k_iret C hr hw dX9_toldInAll_51
    · by_cases c3 : p1 = 2
      · refine lv_tableIn (tgt := 52) hx hb dX9_toldInAll_1 (by rw [c3]; decide) (by rw [c3]; decide) (by rw [c3]; rfl) (by decide) ?_
        refine lv_aload_n hx hb dX9_toldInAll_52 rfl (lv_at hl 0 rfl) ?_
        refine k_get C hw (CC := RX9) (T := TX9) (N := 10) nX9_toldInAll_X9 0 rfl rfl 0 (by decide) (List.mem_of_getElem? (i := 2) rfl) rfl rfl dX9_toldInAll_53 ?_
        refine k_callVN (As := []) (rest := []) (n := 0) (CC := RX5) (T := TX5) (N := 6) (host := RX9) C hw (T_X5_rowNumber l D cI cZ a_t_parish a_t_parish_wealth a_t_parish_given a_t_parish_row v_t_parish_inside v_t_parish_next v_t_parish_year g_t_parish_row) gX9_toldInAll_X5_rowNumber_n101 rfl ⟨rfl, rfl⟩ 14 rfl (List.mem_of_getElem? (i := 5) rfl) (List.mem_of_getElem? (i := 4) rfl) (List.mem_of_getElem? (i := 6) rfl) (by decide +kernel) ⟨Nat.le_of_ble_eq_true rfl, Nat.le_of_ble_eq_true rfl⟩ 3 rfl rfl [3, 4] rfl rfl [a_t_parish, a_t_parish_row] rfl rfl rfl hl.1 rfl (Nat.le_of_ble_eq_true rfl) ⟨Nat.zero_le _, Nat.zero_le _⟩ dX9_toldInAll_56 (fun H locs hw => ?_)
        refine W.eq (g2 := F0 m 59 ls [.int (f_X5_rowNumber g_t_parish_row)]) rfl ?_
        replace hw : kW D _ s H locs [(a_t, .inr (9, [.ref a_t_parish, .ref a_t_kinship, .ref a_t_sights, .ref a_t_pad, .ref a_t_trial, .ref a_t_evening, .ref a_t_rows, .ref a_t_guess, .ref a_t_imageZero, .ref a_t_imageOne])), (a_t_sights, .inr (7, [.ref a_t_sights_sets, .ref a_t_sights_counts, .int v_t_sights_size])), (a_t_pad, .inr (4, [.ref a_t_pad_kinds, .ref a_t_pad_ones, .ref a_t_pad_others, .ref a_t_pad_amounts, .int v_t_pad_acts, .int v_t_pad_signs, .int v_t_pad_wrongPlace, .int v_t_pad_expected, .int v_t_pad_one, .int v_t_pad_other])), (a_t_parish, .inr (5, [.ref a_t_parish_wealth, .ref a_t_parish_given, .ref a_t_parish_row, .int v_t_parish_inside, .int v_t_parish_next, .int v_t_parish_year])), (a_t_parish_row, .inl (cI, 8, .inl g_t_parish_row))] := hw
        rw [show f_X9_toldInAll v_t_sights_size v_t_pad_signs v_t_parish_inside v_t_parish_next v_t_parish_year g_t_parish_row p1 = (f_X5_rowNumber g_t_parish_row) from by
            unfold f_X9_toldInAll
            exact (if_neg c1).trans ((if_neg c2).trans ((if_pos c3).trans (rfl)))]
        exact k_iret C hr hw dX9_toldInAll_59
      · by_cases c4 : p1 = 3
        · refine lv_tableIn (tgt := 60) hx hb dX9_toldInAll_1 (by rw [c4]; decide) (by rw [c4]; decide) (by rw [c4]; rfl) (by decide) ?_
          refine lv_aload_n hx hb dX9_toldInAll_60 rfl (lv_at hl 0 rfl) ?_
          refine k_get C hw (CC := RX9) (T := TX9) (N := 10) nX9_toldInAll_X9 0 rfl rfl 0 (by decide) (List.mem_of_getElem? (i := 2) rfl) rfl rfl dX9_toldInAll_61 ?_
          refine k_getN C hw (CC := RX5) (T := TX5) (N := 6) nX9_toldInAll_X5 3 rfl rfl 4 (by decide) 3 rfl rfl rfl dX9_toldInAll_64 ?_
          rw [show f_X9_toldInAll v_t_sights_size v_t_pad_signs v_t_parish_inside v_t_parish_next v_t_parish_year g_t_parish_row p1 = v_t_parish_next from by
              unfold f_X9_toldInAll
              exact (if_neg c1).trans ((if_neg c2).trans ((if_neg c3).trans ((if_pos c4).trans (rfl))))]
          exact k_iret C hr hw dX9_toldInAll_67
        · by_cases c5 : p1 = 4
          · refine lv_tableIn (tgt := 68) hx hb dX9_toldInAll_1 (by rw [c5]; decide) (by rw [c5]; decide) (by rw [c5]; rfl) (by decide) ?_
            refine lv_aload_n hx hb dX9_toldInAll_68 rfl (lv_at hl 0 rfl) ?_
            refine k_get C hw (CC := RX9) (T := TX9) (N := 10) nX9_toldInAll_X9 0 rfl rfl 0 (by decide) (List.mem_of_getElem? (i := 2) rfl) rfl rfl dX9_toldInAll_69 ?_
            refine k_getN C hw (CC := RX5) (T := TX5) (N := 6) nX9_toldInAll_X5 3 rfl rfl 5 (by decide) 4 rfl rfl rfl dX9_toldInAll_72 ?_
            rw [show f_X9_toldInAll v_t_sights_size v_t_pad_signs v_t_parish_inside v_t_parish_next v_t_parish_year g_t_parish_row p1 = v_t_parish_year from by
                unfold f_X9_toldInAll
                exact (if_neg c1).trans ((if_neg c2).trans ((if_neg c3).trans ((if_neg c4).trans ((if_pos c5).trans (rfl)))))]
            exact k_iret C hr hw dX9_toldInAll_75
          · refine lv_tableOut (tgt := 76) hx hb dX9_toldInAll_1 (tab_out5 c1 c2 c3 c4 c5) (by decide) ?_
            refine lv_aload_n hx hb dX9_toldInAll_76 rfl (lv_at hl 0 rfl) ?_
            refine k_get C hw (CC := RX9) (T := TX9) (N := 10) nX9_toldInAll_X9 0 rfl rfl 2 (by decide) (List.mem_of_getElem? (i := 3) rfl) rfl rfl dX9_toldInAll_77 ?_
            refine k_getN C hw (CC := RX7) (T := TX7) (N := 3) nX9_toldInAll_X7 1 rfl rfl 2 (by decide) 7 rfl rfl rfl dX9_toldInAll_80 ?_
            rw [show f_X9_toldInAll v_t_sights_size v_t_pad_signs v_t_parish_inside v_t_parish_next v_t_parish_year g_t_parish_row p1 = v_t_sights_size from by
                unfold f_X9_toldInAll
                exact (if_neg c1).trans ((if_neg c2).trans ((if_neg c3).trans ((if_neg c4).trans ((if_neg c5).trans (rfl)))))]
            exact k_iret C hr hw dX9_toldInAll_83

theorem nX9_told_X3 : ∀ w ∈ wsX30, w ∈ wsX9_told := fun _ h => List.mem_cons_of_mem _ (List.mem_append_left _ (List.mem_append_left _ (List.mem_append_right _ h)))
theorem nX9_told_X5 : ∀ w ∈ wsX50, w ∈ wsX9_told := fun _ h => List.mem_cons_of_mem _ (List.mem_append_left _ (List.mem_append_left _ (List.mem_append_left _ (List.mem_append_right _ h))))
theorem nX9_told_X9 : ∀ w ∈ wsX90, w ∈ wsX9_told := fun _ h => List.mem_cons_of_mem _ (List.mem_append_left _ (List.mem_append_left _ (List.mem_append_left _ (List.mem_append_left _ (List.mem_append_right _ h)))))
def f_X9_told (v_t_parish_inside : Int32) (v_t_parish_next : Int32) (v_t_parish_year : Int32) (g_t_parish_given : (Nat → Int32)) (g_t_kinship_of : (Nat → Int32)) (g_t_parish_wealth : (Nat → Int32)) (v_t_sights_size : Int32) (v_t_pad_signs : Int32) (g_t_parish_row : (Nat → Int32)) (p1 : Int32) : Int32 := (if (f_X9_within p1 (0 : Int32) (5 : Int32)) = 0 then (if (f_X9_within p1 (10 : Int32) (17 : Int32)) = 0 then (if (f_X9_within p1 (20 : Int32) (27 : Int32)) = 0 then (if (f_X9_within p1 (100 : Int32) (177 : Int32)) = 0 then (-2) else (if 8 ≤ (p1 - p1 / 10 * 10) then (-2) else (g_t_parish_given ((((p1 - 100) / 10) * 8) + (p1 - p1 / 10 * 10)).toNatClampNeg))) else (g_t_kinship_of (p1 - 20).toNatClampNeg)) else (g_t_parish_wealth (p1 - 10).toNatClampNeg)) else (lt (f_X9_toldInAll v_t_sights_size v_t_pad_signs v_t_parish_inside v_t_parish_next v_t_parish_year g_t_parish_row p1) (fun z9 => z9)))
def o_X9_told (p1 : Int32) : Prop := (if (f_X9_within p1 (0 : Int32) (5 : Int32)) = 0 then (if (f_X9_within p1 (10 : Int32) (17 : Int32)) = 0 then (if (f_X9_within p1 (20 : Int32) (27 : Int32)) = 0 then (if (f_X9_within p1 (100 : Int32) (177 : Int32)) = 0 then True else (if 8 ≤ (p1 - p1 / 10 * 10) then True else ((vp_in ((((p1 - 100) / 10) * 8) + (p1 - p1 / 10 * 10)) 64) ∧ True))) else ((vp_in (p1 - 20) 8) ∧ True)) else ((vp_in (p1 - 10) 8) ∧ True)) else True)
set_option maxHeartbeats 4000000 in
set_option maxRecDepth 100000 in
theorem T_X9_told (l : Launch) (D : va_G) (cI cZ : ClassId) (a_t a_t_parish a_t_kinship a_t_sights a_t_pad a_t_trial a_t_evening a_t_rows a_t_guess a_t_imageZero a_t_imageOne a_t_parish_wealth a_t_parish_given a_t_parish_row a_t_kinship_of a_t_sights_sets a_t_sights_counts a_t_pad_kinds a_t_pad_ones a_t_pad_others a_t_pad_amounts : Nat) (v_t_parish_inside : Int32) (v_t_parish_next : Int32) (v_t_parish_year : Int32) (g_t_parish_given : (Nat → Int32)) (g_t_kinship_of : (Nat → Int32)) (g_t_parish_wealth : (Nat → Int32)) (v_t_sights_size : Int32) (v_t_pad_acts : Int32) (v_t_pad_signs : Int32) (v_t_pad_wrongPlace : Int32) (v_t_pad_expected : Int32) (v_t_pad_one : Int32) (v_t_pad_other : Int32) (g_t_parish_row : (Nat → Int32)) (p1 : Int32) (hok : o_X9_told p1) : CT l D cI cZ yX9_told wsX9_told ({ frames := 2, cells := 0, slots := 0, locals := 43 }) [.ref a_t, .int p1] [(a_t, .inr (9, [.ref a_t_parish, .ref a_t_kinship, .ref a_t_sights, .ref a_t_pad, .ref a_t_trial, .ref a_t_evening, .ref a_t_rows, .ref a_t_guess, .ref a_t_imageZero, .ref a_t_imageOne])), (a_t_parish, .inr (5, [.ref a_t_parish_wealth, .ref a_t_parish_given, .ref a_t_parish_row, .int v_t_parish_inside, .int v_t_parish_next, .int v_t_parish_year])), (a_t_parish_given, .inl (cI, 64, .inl g_t_parish_given)), (a_t_kinship, .inr (3, [.ref a_t_kinship_of])), (a_t_kinship_of, .inl (cI, 8, .inl g_t_kinship_of)), (a_t_parish_wealth, .inl (cI, 8, .inl g_t_parish_wealth)), (a_t_sights, .inr (7, [.ref a_t_sights_sets, .ref a_t_sights_counts, .int v_t_sights_size])), (a_t_pad, .inr (4, [.ref a_t_pad_kinds, .ref a_t_pad_ones, .ref a_t_pad_others, .ref a_t_pad_amounts, .int v_t_pad_acts, .int v_t_pad_signs, .int v_t_pad_wrongPlace, .int v_t_pad_expected, .int v_t_pad_one, .int v_t_pad_other])), (a_t_parish_row, .inl (cI, 8, .inl g_t_parish_row))] (some (.int (f_X9_told v_t_parish_inside v_t_parish_next v_t_parish_year g_t_parish_given g_t_kinship_of g_t_parish_wealth v_t_sights_size v_t_pad_signs g_t_parish_row p1))) [(a_t, .inr (9, [.ref a_t_parish, .ref a_t_kinship, .ref a_t_sights, .ref a_t_pad, .ref a_t_trial, .ref a_t_evening, .ref a_t_rows, .ref a_t_guess, .ref a_t_imageZero, .ref a_t_imageOne])), (a_t_parish, .inr (5, [.ref a_t_parish_wealth, .ref a_t_parish_given, .ref a_t_parish_row, .int v_t_parish_inside, .int v_t_parish_next, .int v_t_parish_year])), (a_t_parish_given, .inl (cI, 64, .inl g_t_parish_given)), (a_t_kinship, .inr (3, [.ref a_t_kinship_of])), (a_t_kinship_of, .inl (cI, 8, .inl g_t_kinship_of)), (a_t_parish_wealth, .inl (cI, 8, .inl g_t_parish_wealth)), (a_t_sights, .inr (7, [.ref a_t_sights_sets, .ref a_t_sights_counts, .int v_t_sights_size])), (a_t_pad, .inr (4, [.ref a_t_pad_kinds, .ref a_t_pad_ones, .ref a_t_pad_others, .ref a_t_pad_amounts, .int v_t_pad_acts, .int v_t_pad_signs, .int v_t_pad_wrongPlace, .int v_t_pad_expected, .int v_t_pad_one, .int v_t_pad_other])), (a_t_parish_row, .inl (cI, 8, .inl g_t_parish_row))] := by
  refine CT.intro RX9 (by decide) rfl (Nat.le_of_ble_eq_true rfl) rfl ?_
  intro p e s m below meth c C hr hw ls hl
  have hx := C.hx
  have hb := C.hb
  replace hl : lv_has ls 2 [(0, .ref a_t), (1, .int p1)] := hl
  refine lv_iload_n hx hb dX9_told_0 rfl (lv_at hl 1 rfl) ?_
  refine lv_iconst (v := 0) hx hb dX9_told_1 (by decide) ?_
  refine lv_iconst (v := 5) hx hb dX9_told_2 (by decide) ?_
  refine k_callS (As := [.int p1, .int 0, .int 5]) (rest := []) (n := 3) C hw (T_X9_within l D cI cZ p1 (0 : Int32) (5 : Int32)) gX9_told_X9_within rfl ⟨rfl, rfl⟩ (by decide +kernel) ⟨Nat.le_of_ble_eq_true rfl, Nat.le_of_ble_eq_true rfl⟩ [] rfl rfl [] rfl rfl rfl hl.1 rfl (Nat.le_of_ble_eq_true rfl) ⟨Nat.zero_le _, Nat.zero_le _⟩ dX9_told_3 (fun H locs hw => ?_)
  refine W.eq (g2 := F0 m 6 ls [.int (f_X9_within p1 (0 : Int32) (5 : Int32))]) rfl ?_
  replace hw : kW D _ s H locs [(a_t, .inr (9, [.ref a_t_parish, .ref a_t_kinship, .ref a_t_sights, .ref a_t_pad, .ref a_t_trial, .ref a_t_evening, .ref a_t_rows, .ref a_t_guess, .ref a_t_imageZero, .ref a_t_imageOne])), (a_t_parish, .inr (5, [.ref a_t_parish_wealth, .ref a_t_parish_given, .ref a_t_parish_row, .int v_t_parish_inside, .int v_t_parish_next, .int v_t_parish_year])), (a_t_parish_given, .inl (cI, 64, .inl g_t_parish_given)), (a_t_kinship, .inr (3, [.ref a_t_kinship_of])), (a_t_kinship_of, .inl (cI, 8, .inl g_t_kinship_of)), (a_t_parish_wealth, .inl (cI, 8, .inl g_t_parish_wealth)), (a_t_sights, .inr (7, [.ref a_t_sights_sets, .ref a_t_sights_counts, .int v_t_sights_size])), (a_t_pad, .inr (4, [.ref a_t_pad_kinds, .ref a_t_pad_ones, .ref a_t_pad_others, .ref a_t_pad_amounts, .int v_t_pad_acts, .int v_t_pad_signs, .int v_t_pad_wrongPlace, .int v_t_pad_expected, .int v_t_pad_one, .int v_t_pad_other])), (a_t_parish_row, .inl (cI, 8, .inl g_t_parish_row))] := hw
  refine lv_if_eq (tgt := 15) hx hb dX9_told_6 (by decide) (fun c1 => ?_) (fun c1 => ?_)
  · replace hok := Eq.mp (if_pos c1) hok
    refine lv_iload_n hx hb dX9_told_15 rfl (lv_at hl 1 rfl) ?_
    refine lv_bipush (v := 10) hx hb dX9_told_16 (by decide) ?_
    refine lv_bipush (v := 17) hx hb dX9_told_18 (by decide) ?_
    refine k_callS (As := [.int p1, .int 10, .int 17]) (rest := []) (n := 3) C hw (T_X9_within l D cI cZ p1 (10 : Int32) (17 : Int32)) gX9_told_X9_within rfl ⟨rfl, rfl⟩ (by decide +kernel) ⟨Nat.le_of_ble_eq_true rfl, Nat.le_of_ble_eq_true rfl⟩ [] rfl rfl [] rfl rfl rfl hl.1 rfl (Nat.le_of_ble_eq_true rfl) ⟨Nat.zero_le _, Nat.zero_le _⟩ dX9_told_20 (fun H locs hw => ?_)
    refine W.eq (g2 := F0 m 23 ls [.int (f_X9_within p1 (10 : Int32) (17 : Int32))]) rfl ?_
    replace hw : kW D _ s H locs [(a_t, .inr (9, [.ref a_t_parish, .ref a_t_kinship, .ref a_t_sights, .ref a_t_pad, .ref a_t_trial, .ref a_t_evening, .ref a_t_rows, .ref a_t_guess, .ref a_t_imageZero, .ref a_t_imageOne])), (a_t_parish, .inr (5, [.ref a_t_parish_wealth, .ref a_t_parish_given, .ref a_t_parish_row, .int v_t_parish_inside, .int v_t_parish_next, .int v_t_parish_year])), (a_t_parish_given, .inl (cI, 64, .inl g_t_parish_given)), (a_t_kinship, .inr (3, [.ref a_t_kinship_of])), (a_t_kinship_of, .inl (cI, 8, .inl g_t_kinship_of)), (a_t_parish_wealth, .inl (cI, 8, .inl g_t_parish_wealth)), (a_t_sights, .inr (7, [.ref a_t_sights_sets, .ref a_t_sights_counts, .int v_t_sights_size])), (a_t_pad, .inr (4, [.ref a_t_pad_kinds, .ref a_t_pad_ones, .ref a_t_pad_others, .ref a_t_pad_amounts, .int v_t_pad_acts, .int v_t_pad_signs, .int v_t_pad_wrongPlace, .int v_t_pad_expected, .int v_t_pad_one, .int v_t_pad_other])), (a_t_parish_row, .inl (cI, 8, .inl g_t_parish_row))] := hw
    refine lv_if_eq (tgt := 39) hx hb dX9_told_23 (by decide) (fun c2 => ?_) (fun c2 => ?_)
    · replace hok := Eq.mp (if_pos c2) hok
      refine lv_iload_n hx hb dX9_told_39 rfl (lv_at hl 1 rfl) ?_
      refine lv_bipush (v := 20) hx hb dX9_told_40 (by decide) ?_
      refine lv_bipush (v := 27) hx hb dX9_told_42 (by decide) ?_
      refine k_callS (As := [.int p1, .int 20, .int 27]) (rest := []) (n := 3) C hw (T_X9_within l D cI cZ p1 (20 : Int32) (27 : Int32)) gX9_told_X9_within rfl ⟨rfl, rfl⟩ (by decide +kernel) ⟨Nat.le_of_ble_eq_true rfl, Nat.le_of_ble_eq_true rfl⟩ [] rfl rfl [] rfl rfl rfl hl.1 rfl (Nat.le_of_ble_eq_true rfl) ⟨Nat.zero_le _, Nat.zero_le _⟩ dX9_told_44 (fun H locs hw => ?_)
      refine W.eq (g2 := F0 m 47 ls [.int (f_X9_within p1 (20 : Int32) (27 : Int32))]) rfl ?_
      replace hw : kW D _ s H locs [(a_t, .inr (9, [.ref a_t_parish, .ref a_t_kinship, .ref a_t_sights, .ref a_t_pad, .ref a_t_trial, .ref a_t_evening, .ref a_t_rows, .ref a_t_guess, .ref a_t_imageZero, .ref a_t_imageOne])), (a_t_parish, .inr (5, [.ref a_t_parish_wealth, .ref a_t_parish_given, .ref a_t_parish_row, .int v_t_parish_inside, .int v_t_parish_next, .int v_t_parish_year])), (a_t_parish_given, .inl (cI, 64, .inl g_t_parish_given)), (a_t_kinship, .inr (3, [.ref a_t_kinship_of])), (a_t_kinship_of, .inl (cI, 8, .inl g_t_kinship_of)), (a_t_parish_wealth, .inl (cI, 8, .inl g_t_parish_wealth)), (a_t_sights, .inr (7, [.ref a_t_sights_sets, .ref a_t_sights_counts, .int v_t_sights_size])), (a_t_pad, .inr (4, [.ref a_t_pad_kinds, .ref a_t_pad_ones, .ref a_t_pad_others, .ref a_t_pad_amounts, .int v_t_pad_acts, .int v_t_pad_signs, .int v_t_pad_wrongPlace, .int v_t_pad_expected, .int v_t_pad_one, .int v_t_pad_other])), (a_t_parish_row, .inl (cI, 8, .inl g_t_parish_row))] := hw
      refine lv_if_eq (tgt := 63) hx hb dX9_told_47 (by decide) (fun c3 => ?_) (fun c3 => ?_)
      · replace hok := Eq.mp (if_pos c3) hok
        refine lv_iload_n hx hb dX9_told_63 rfl (lv_at hl 1 rfl) ?_
        refine lv_bipush (v := 100) hx hb dX9_told_64 (by decide) ?_
        refine lv_sipush (v := 177) hx hb dX9_told_66 (by decide) ?_
        refine k_callS (As := [.int p1, .int 100, .int 177]) (rest := []) (n := 3) C hw (T_X9_within l D cI cZ p1 (100 : Int32) (177 : Int32)) gX9_told_X9_within rfl ⟨rfl, rfl⟩ (by decide +kernel) ⟨Nat.le_of_ble_eq_true rfl, Nat.le_of_ble_eq_true rfl⟩ [] rfl rfl [] rfl rfl rfl hl.1 rfl (Nat.le_of_ble_eq_true rfl) ⟨Nat.zero_le _, Nat.zero_le _⟩ dX9_told_69 (fun H locs hw => ?_)
        refine W.eq (g2 := F0 m 72 ls [.int (f_X9_within p1 (100 : Int32) (177 : Int32))]) rfl ?_
        replace hw : kW D _ s H locs [(a_t, .inr (9, [.ref a_t_parish, .ref a_t_kinship, .ref a_t_sights, .ref a_t_pad, .ref a_t_trial, .ref a_t_evening, .ref a_t_rows, .ref a_t_guess, .ref a_t_imageZero, .ref a_t_imageOne])), (a_t_parish, .inr (5, [.ref a_t_parish_wealth, .ref a_t_parish_given, .ref a_t_parish_row, .int v_t_parish_inside, .int v_t_parish_next, .int v_t_parish_year])), (a_t_parish_given, .inl (cI, 64, .inl g_t_parish_given)), (a_t_kinship, .inr (3, [.ref a_t_kinship_of])), (a_t_kinship_of, .inl (cI, 8, .inl g_t_kinship_of)), (a_t_parish_wealth, .inl (cI, 8, .inl g_t_parish_wealth)), (a_t_sights, .inr (7, [.ref a_t_sights_sets, .ref a_t_sights_counts, .int v_t_sights_size])), (a_t_pad, .inr (4, [.ref a_t_pad_kinds, .ref a_t_pad_ones, .ref a_t_pad_others, .ref a_t_pad_amounts, .int v_t_pad_acts, .int v_t_pad_signs, .int v_t_pad_wrongPlace, .int v_t_pad_expected, .int v_t_pad_one, .int v_t_pad_other])), (a_t_parish_row, .inl (cI, 8, .inl g_t_parish_row))] := hw
        refine lv_if_eq (tgt := 108) hx hb dX9_told_72 (by decide) (fun c4 => ?_) (fun c4 => ?_)
        · refine lv_bipush (v := (-2)) hx hb dX9_told_108 (by decide) ?_
          rw [show f_X9_told v_t_parish_inside v_t_parish_next v_t_parish_year g_t_parish_given g_t_kinship_of g_t_parish_wealth v_t_sights_size v_t_pad_signs g_t_parish_row p1 = (-2) from by
              unfold f_X9_told
              exact (if_pos c1).trans ((if_pos c2).trans ((if_pos c3).trans ((if_pos c4).trans (rfl))))]
          exact k_iret C hr hw dX9_told_110
        · replace hok := Eq.mp (if_neg c4) hok
          refine lv_iload_n hx hb dX9_told_75 rfl (lv_at hl 1 rfl) ?_
          refine lv_bipush (v := 10) hx hb dX9_told_76 (by decide) ?_
          refine lv_irem hx hb dX9_told_78 (by decide) ?_
          refine lv_bipush (v := 8) hx hb dX9_told_79 (by decide) ?_
          refine lv_icmp_ge (tgt := 108) hx hb dX9_told_81 (by decide) (fun c5 => ?_) (fun c5 => ?_)
          · refine lv_bipush (v := (-2)) hx hb dX9_told_108 (by decide) ?_
            rw [show f_X9_told v_t_parish_inside v_t_parish_next v_t_parish_year g_t_parish_given g_t_kinship_of g_t_parish_wealth v_t_sights_size v_t_pad_signs g_t_parish_row p1 = (-2) from by
                unfold f_X9_told
                exact (if_pos c1).trans ((if_pos c2).trans ((if_pos c3).trans ((if_neg c4).trans ((if_pos c5).trans (rfl)))))]
            exact k_iret C hr hw dX9_told_110
          · replace hok := Eq.mp (if_neg c5) hok
            refine lv_aload_n hx hb dX9_told_84 rfl (lv_at hl 0 rfl) ?_
            refine k_get C hw (CC := RX9) (T := TX9) (N := 10) nX9_told_X9 0 rfl rfl 0 (by decide) (List.mem_of_getElem? (i := 1) rfl) rfl rfl dX9_told_85 ?_
            refine k_getN C hw (CC := RX5) (T := TX5) (N := 6) nX9_told_X5 1 rfl rfl 1 (by decide) 1 rfl rfl rfl dX9_told_88 ?_
            refine lv_iload_n hx hb dX9_told_91 rfl (lv_at hl 1 rfl) ?_
            refine lv_bipush (v := 100) hx hb dX9_told_92 (by decide) ?_
            refine lv_isub hx hb dX9_told_94 ?_
            refine lv_bipush (v := 10) hx hb dX9_told_95 (by decide) ?_
            refine lv_idiv hx hb dX9_told_97 (by decide) ?_
            refine lv_bipush (v := 8) hx hb dX9_told_98 (by decide) ?_
            refine lv_imul hx hb dX9_told_100 ?_
            refine lv_iload_n hx hb dX9_told_101 rfl (lv_at hl 1 rfl) ?_
            refine lv_bipush (v := 10) hx hb dX9_told_102 (by decide) ?_
            refine lv_irem hx hb dX9_told_104 (by decide) ?_
            refine lv_iadd hx hb dX9_told_105 ?_
            obtain ⟨h6, hok⟩ := hok
            refine k_iald C hw 2 rfl h6 dX9_told_106 ?_
            rw [show f_X9_told v_t_parish_inside v_t_parish_next v_t_parish_year g_t_parish_given g_t_kinship_of g_t_parish_wealth v_t_sights_size v_t_pad_signs g_t_parish_row p1 = (g_t_parish_given ((((p1 - 100) / 10) * 8) + (p1 - p1 / 10 * 10)).toNatClampNeg) from by
                unfold f_X9_told
                exact (if_pos c1).trans ((if_pos c2).trans ((if_pos c3).trans ((if_neg c4).trans ((if_neg c5).trans (rfl)))))]
            exact k_iret C hr hw dX9_told_107
      · replace hok := Eq.mp (if_neg c3) hok
        refine lv_aload_n hx hb dX9_told_50 rfl (lv_at hl 0 rfl) ?_
        refine k_get C hw (CC := RX9) (T := TX9) (N := 10) nX9_told_X9 0 rfl rfl 1 (by decide) (List.mem_of_getElem? (i := 2) rfl) rfl rfl dX9_told_51 ?_
        refine k_getN C hw (CC := RX3) (T := TX3) (N := 1) nX9_told_X3 3 rfl rfl 0 (by decide) 6 rfl rfl rfl dX9_told_54 ?_
        refine lv_iload_n hx hb dX9_told_57 rfl (lv_at hl 1 rfl) ?_
        refine lv_bipush (v := 20) hx hb dX9_told_58 (by decide) ?_
        refine lv_isub hx hb dX9_told_60 ?_
        obtain ⟨h7, hok⟩ := hok
        refine k_iald C hw 4 rfl h7 dX9_told_61 ?_
        rw [show f_X9_told v_t_parish_inside v_t_parish_next v_t_parish_year g_t_parish_given g_t_kinship_of g_t_parish_wealth v_t_sights_size v_t_pad_signs g_t_parish_row p1 = (g_t_kinship_of (p1 - 20).toNatClampNeg) from by
            unfold f_X9_told
            exact (if_pos c1).trans ((if_pos c2).trans ((if_neg c3).trans (rfl)))]
        exact k_iret C hr hw dX9_told_62
    · replace hok := Eq.mp (if_neg c2) hok
      refine lv_aload_n hx hb dX9_told_26 rfl (lv_at hl 0 rfl) ?_
      refine k_get C hw (CC := RX9) (T := TX9) (N := 10) nX9_told_X9 0 rfl rfl 0 (by decide) (List.mem_of_getElem? (i := 1) rfl) rfl rfl dX9_told_27 ?_
      refine k_getN C hw (CC := RX5) (T := TX5) (N := 6) nX9_told_X5 1 rfl rfl 0 (by decide) 0 rfl rfl rfl dX9_told_30 ?_
      refine lv_iload_n hx hb dX9_told_33 rfl (lv_at hl 1 rfl) ?_
      refine lv_bipush (v := 10) hx hb dX9_told_34 (by decide) ?_
      refine lv_isub hx hb dX9_told_36 ?_
      obtain ⟨h8, hok⟩ := hok
      refine k_iald C hw 5 rfl h8 dX9_told_37 ?_
      rw [show f_X9_told v_t_parish_inside v_t_parish_next v_t_parish_year g_t_parish_given g_t_kinship_of g_t_parish_wealth v_t_sights_size v_t_pad_signs g_t_parish_row p1 = (g_t_parish_wealth (p1 - 10).toNatClampNeg) from by
          unfold f_X9_told
          exact (if_pos c1).trans ((if_neg c2).trans (rfl))]
      exact k_iret C hr hw dX9_told_38
  · refine lv_aload_n hx hb dX9_told_9 rfl (lv_at hl 0 rfl) ?_
    refine lv_iload_n hx hb dX9_told_10 rfl (lv_at hl 1 rfl) ?_
    refine k_callV (As := [.int p1]) (rest := []) (n := 1) (CC := RX9) (T := TX9) (N := 10) C hw (T_X9_toldInAll l D cI cZ a_t a_t_parish a_t_kinship a_t_sights a_t_pad a_t_trial a_t_evening a_t_rows a_t_guess a_t_imageZero a_t_imageOne a_t_sights_sets a_t_sights_counts a_t_pad_kinds a_t_pad_ones a_t_pad_others a_t_pad_amounts a_t_parish_wealth a_t_parish_given a_t_parish_row v_t_sights_size v_t_pad_acts v_t_pad_signs v_t_pad_wrongPlace v_t_pad_expected v_t_pad_one v_t_pad_other v_t_parish_inside v_t_parish_next v_t_parish_year g_t_parish_row p1) gX9_told_X9_toldInAll rfl ⟨rfl, rfl⟩ (by decide +kernel) ⟨Nat.le_of_ble_eq_true rfl, Nat.le_of_ble_eq_true rfl⟩ 0 rfl rfl [0, 6, 7, 1, 8] rfl rfl [a_t, a_t_sights, a_t_pad, a_t_parish, a_t_parish_row] rfl rfl rfl hl.1 rfl (Nat.le_of_ble_eq_true rfl) ⟨Nat.zero_le _, Nat.zero_le _⟩ dX9_told_11 (fun H locs hw => ?_)
    obtain ⟨z9, h10⟩ : ∃ z, (f_X9_toldInAll v_t_sights_size v_t_pad_signs v_t_parish_inside v_t_parish_next v_t_parish_year g_t_parish_row p1) = z := ⟨_, rfl⟩
    refine W.eq (g2 := F0 m 14 ls [.int z9]) (by subst h10; rfl) ?_
    replace hw := kW_cast (ws' := [(a_t, .inr (9, [.ref a_t_parish, .ref a_t_kinship, .ref a_t_sights, .ref a_t_pad, .ref a_t_trial, .ref a_t_evening, .ref a_t_rows, .ref a_t_guess, .ref a_t_imageZero, .ref a_t_imageOne])), (a_t_parish, .inr (5, [.ref a_t_parish_wealth, .ref a_t_parish_given, .ref a_t_parish_row, .int v_t_parish_inside, .int v_t_parish_next, .int v_t_parish_year])), (a_t_parish_given, .inl (cI, 64, .inl g_t_parish_given)), (a_t_kinship, .inr (3, [.ref a_t_kinship_of])), (a_t_kinship_of, .inl (cI, 8, .inl g_t_kinship_of)), (a_t_parish_wealth, .inl (cI, 8, .inl g_t_parish_wealth)), (a_t_sights, .inr (7, [.ref a_t_sights_sets, .ref a_t_sights_counts, .int v_t_sights_size])), (a_t_pad, .inr (4, [.ref a_t_pad_kinds, .ref a_t_pad_ones, .ref a_t_pad_others, .ref a_t_pad_amounts, .int v_t_pad_acts, .int v_t_pad_signs, .int v_t_pad_wrongPlace, .int v_t_pad_expected, .int v_t_pad_one, .int v_t_pad_other])), (a_t_parish_row, .inl (cI, 8, .inl g_t_parish_row))]) (by subst h10; rfl) hw
    rw [show f_X9_told v_t_parish_inside v_t_parish_next v_t_parish_year g_t_parish_given g_t_kinship_of g_t_parish_wealth v_t_sights_size v_t_pad_signs g_t_parish_row p1 = z9 from by
        unfold f_X9_told
        exact (if_neg c1).trans ((lt_c h10).trans (rfl))]
    exact k_iret C hr hw dX9_told_14

