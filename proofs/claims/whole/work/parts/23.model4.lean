def B_X10_lowest_6 (j : Nat) (v : Int64 × Int64) : (Int64 × Int64) ⊕ (Int64 × Int64) := (if (lg_cmp v.2 0) = 0 then Sum.inr (v.1, v.2) else Sum.inl (v.2, (v.1 - v.1 / v.2 * v.2)))
def oB_X10_lowest_6 (j : Nat) (v : Int64 × Int64) : Prop := (if (lg_cmp v.2 0) = 0 then True else ((¬ v.2 = 0) ∧ True))
set_option maxHeartbeats 4000000 in
set_option maxRecDepth 100000 in
theorem l_X10_lowest_6 {p : Program} {l : Launch} {e : Env} {s : State} {m : MethodId} {args : Array Value} {below : List Frame} {meth : Method} {c : Code} {D : va_G} {cI cZ : ClassId} {Q : State → Prop} {A : Nat → Prop} (x0 : Int64) (x2 : Int64) (x4 : Int32) (C : kC p s m args meth c cX10_lowest 11 wsX10_lowest RX10 D cI cZ A) : ∀ (n j : Nat) (x5 : Int64) (x7 : Int64), lbS oB_X10_lowest_6 B_X10_lowest_6 j n (x5, x7) → ∀ (H : Heap) (locs : List Loc), kW D A s H locs [] → ∀ (ls : Array Slot), lv_has ls 11 [(0, .long x0), (2, .long x2), (4, .int x4), (5, .long x5), (7, .long x7)] → (∀ (H : Heap) (locs : List Loc) (ls : Array Slot), kW D A s H locs [] → lv_has ls 11 [(0, .long x0), (2, .long x2), (4, .int x4), (5, .long (lb B_X10_lowest_6 j n (x5, x7)).1)] → W p l e ({ frames := 0, cells := 0, slots := 0, locals := 0 }) s m args below meth c H locs 0 0 Q (F0 m 31 ls [])) → W p l e ({ frames := 0, cells := 0, slots := 0, locals := 0 }) s m args below meth c H locs 0 0 Q (F0 m 6 ls []) := by
  have hx := C.hx
  have hb := C.hb
  intro n
  induction n with
  | zero =>
    intro j x5 x7 hok0 H locs hw ls hl kk
    exact absurd hok0 id
  | succ n ih =>
    intro j x5 x7 hok0 H locs hw ls hl kk
    have hok := hok0.1
    refine lv_lload hx hb dX10_lowest_6 (lv_at hl 4 rfl) ?_
    refine lv_lconst (v := 0) hx hb dX10_lowest_8 (by decide) ?_
    refine W.lcmp hx hb dX10_lowest_9 ?_
    refine lv_if_eq (tgt := 31) hx hb dX10_lowest_10 (by decide) (fun c1 => ?_) (fun c1 => ?_)
    · have hB : B_X10_lowest_6 j (x5, x7) = Sum.inr (x5, x7) := by
        unfold B_X10_lowest_6
        exact (if_pos c1).trans (rfl)
      rw [lb_b hB] at kk
      exact kk _ _ _ hw (lv_sub hl [0, 1, 2, 3] rfl)
    · replace hok := Eq.mp (if_neg c1) hok
      refine lv_lload hx hb dX10_lowest_13 (lv_at hl 3 rfl) ?_
      refine lv_lload hx hb dX10_lowest_15 (lv_at hl 4 rfl) ?_
      obtain ⟨h2, hok⟩ := hok
      refine lv_lrem hx hb dX10_lowest_17 h2 ?_
      refine lv_lstore (lv' := [(9, .long (x5 - x5 / x7 * x7)), (0, .long x0), (2, .long x2), (4, .int x4), (5, .long x5), (7, .long x7)]) hx hb dX10_lowest_18 hl (by decide) rfl (fun ls hl => ?_)
      refine lv_lload hx hb dX10_lowest_20 (lv_at hl 5 rfl) ?_
      refine lv_lstore (lv' := [(5, .long x7), (9, .long (x5 - x5 / x7 * x7)), (0, .long x0), (2, .long x2), (4, .int x4), (7, .long x7)]) hx hb dX10_lowest_22 hl (by decide) rfl (fun ls hl => ?_)
      refine lv_lload hx hb dX10_lowest_24 (lv_at hl 1 rfl) ?_
      refine lv_lstore (lv' := [(7, .long (x5 - x5 / x7 * x7)), (5, .long x7), (9, .long (x5 - x5 / x7 * x7)), (0, .long x0), (2, .long x2), (4, .int x4)]) hx hb dX10_lowest_26 hl (by decide) rfl (fun ls hl => ?_)
      refine lv_goto (tgt := 6) hx hb dX10_lowest_28 (by decide) ?_
      have hB : B_X10_lowest_6 j (x5, x7) = Sum.inl (x7, (x5 - x5 / x7 * x7)) := by
        unfold B_X10_lowest_6
        exact (if_neg c1).trans (rfl)
      rw [lb_c hB] at kk
      have hok2 := lbS_c hB hok0
      exact ih (j + 1) x7 (x5 - x5 / x7 * x7) hok2 _ _ hw _ (lv_sub hl [3, 4, 5, 1, 0] rfl) kk
def f_X10_lowest (p1 : Int64) (p2 : Int64) (p3 : Int32) : Int64 := (if p3 = 0 then (p1 / (lb B_X10_lowest_6 0 100 (p2, p1)).1) else (p2 / (lb B_X10_lowest_6 0 100 (p2, p1)).1))
def o_X10_lowest (p1 : Int64) (p2 : Int64) (p3 : Int32) : Prop := ((lbS oB_X10_lowest_6 B_X10_lowest_6 0 100 (p2, p1)) ∧ (if p3 = 0 then ((¬ (lb B_X10_lowest_6 0 100 (p2, p1)).1 = 0) ∧ True) else ((¬ (lb B_X10_lowest_6 0 100 (p2, p1)).1 = 0) ∧ True)))
set_option maxHeartbeats 4000000 in
set_option maxRecDepth 100000 in
theorem T_X10_lowest (l : Launch) (D : va_G) (cI cZ : ClassId) (p1 : Int64) (p2 : Int64) (p3 : Int32) (hok : o_X10_lowest p1 p2 p3) : CT l D cI cZ yX10_lowest wsX10_lowest ({ frames := 0, cells := 0, slots := 0, locals := 0 }) [.long p1, .long p2, .int p3] [] (some (.long (f_X10_lowest p1 p2 p3))) [] := by
  refine CT.intro RX10 (by decide) rfl (Nat.le_of_ble_eq_true rfl) rfl ?_
  intro p e s m below meth c C hr hw ls hl
  have hx := C.hx
  have hb := C.hb
  replace hl : lv_has ls 11 [(0, .long p1), (2, .long p2), (4, .int p3)] := hl
  refine lv_lload_n hx hb dX10_lowest_0 rfl (lv_at hl 1 rfl) ?_
  refine lv_lstore (lv' := [(5, .long p2), (0, .long p1), (2, .long p2), (4, .int p3)]) hx hb dX10_lowest_1 hl (by decide) rfl (fun ls hl => ?_)
  refine lv_lload_n hx hb dX10_lowest_3 rfl (lv_at hl 1 rfl) ?_
  refine lv_lstore (lv' := [(7, .long p1), (5, .long p2), (0, .long p1), (2, .long p2), (4, .int p3)]) hx hb dX10_lowest_4 hl (by decide) rfl (fun ls hl => ?_)
  obtain ⟨h3, hok⟩ := hok
  refine l_X10_lowest_6  p1 p2 p3 C 100 0 p2 p1 h3 _ _ hw _ (lv_sub hl [2, 3, 4, 1, 0] rfl) (fun H locs ls hw hl => ?_)
  replace hw : kW D _ s H locs [] := hw
  replace hl : lv_has ls 11 [(0, .long p1), (2, .long p2), (4, .int p3), (5, .long (lb B_X10_lowest_6 0 100 (p2, p1)).1)] := hl
  refine lv_iload hx hb dX10_lowest_31 (lv_at hl 2 rfl) ?_
  refine lv_if_ne (tgt := 43) hx hb dX10_lowest_33 (by decide) (fun c4 => ?_) (fun c4 => ?_)
  · replace hok := Eq.mp (if_neg c4) hok
    refine lv_lload_n hx hb dX10_lowest_43 rfl (lv_at hl 1 rfl) ?_
    refine lv_lload hx hb dX10_lowest_44 (lv_at hl 3 rfl) ?_
    obtain ⟨h5, hok⟩ := hok
    refine lv_ldiv hx hb dX10_lowest_46 h5 ?_
    rw [show f_X10_lowest p1 p2 p3 = (p2 / (lb B_X10_lowest_6 0 100 (p2, p1)).1) from by
        unfold f_X10_lowest
        exact (if_neg c4).trans (rfl)]
    exact k_lret C hr hw dX10_lowest_47
  · replace hok := Eq.mp (if_pos c4) hok
    refine lv_lload_n hx hb dX10_lowest_36 rfl (lv_at hl 0 rfl) ?_
    refine lv_lload hx hb dX10_lowest_37 (lv_at hl 3 rfl) ?_
    obtain ⟨h6, hok⟩ := hok
    refine lv_ldiv hx hb dX10_lowest_39 h6 ?_
    refine lv_goto (tgt := 47) hx hb dX10_lowest_40 (by decide) ?_
    rw [show f_X10_lowest p1 p2 p3 = (p1 / (lb B_X10_lowest_6 0 100 (p2, p1)).1) from by
        unfold f_X10_lowest
        exact (if_pos c4).trans (rfl)]
    exact k_lret C hr hw dX10_lowest_47

def B_X10_choose_5 (x0 : Int32) (j : Nat) (v : Int64) : Int64 := ((v * (((x0 - (nI j))).toInt64)) / ((((nI j) + 1)).toInt64))
def oB_X10_choose_5 (j : Nat) (v : Int64) : Prop := ((¬ ((((nI j) + 1)).toInt64) = 0) ∧ True)
set_option maxHeartbeats 4000000 in
set_option maxRecDepth 100000 in
theorem l_X10_choose_5 {p : Program} {l : Launch} {e : Env} {s : State} {m : MethodId} {args : Array Value} {below : List Frame} {meth : Method} {c : Code} {D : va_G} {cI cZ : ClassId} {Q : State → Prop} {A : Nat → Prop} (x0 : Int32) (x1 : Int32) (C : kC p s m args meth c cX10_choose 5 wsX10_choose RX10 D cI cZ A) (b : Nat) (hB : x1 = nI b) (hb31 : b < 2147483648) : ∀ (n j : Nat) (x2 : Int64), n = b - j → j < 2147483648 → itA oB_X10_choose_5 (B_X10_choose_5 x0) j n x2 → ∀ (H : Heap) (locs : List Loc), kW D A s H locs [] → ∀ (ls : Array Slot), lv_has ls 5 [(0, .int x0), (1, .int x1), (2, .long x2), (4, .int (nI j))] → (∀ (H : Heap) (locs : List Loc) (ls : Array Slot), kW D A s H locs [] → lv_has ls 5 [(2, .long (it (B_X10_choose_5 x0) j n x2))] → W p l e ({ frames := 0, cells := 0, slots := 0, locals := 0 }) s m args below meth c H locs 0 0 Q (F0 m 31 ls [])) → W p l e ({ frames := 0, cells := 0, slots := 0, locals := 0 }) s m args below meth c H locs 0 0 Q (F0 m 5 ls []) := by
  have hx := C.hx
  have hb := C.hb
  intro n
  induction n with
  | zero =>
    intro j x2 hn hj hok0 H locs hw ls hl kk
    refine lv_iload hx hb dX10_choose_5 (lv_at hl 3 rfl) ?_
    refine lv_iload_n hx hb dX10_choose_7 rfl (lv_at hl 1 rfl) ?_
    refine lv_icmp_ge (tgt := 31) hx hb dX10_choose_8 (by decide) (fun c3 => ?_) (fun c3 => by rw [hB] at c3; exact absurd (nI_le (a := b) (b := j) (by omega) (by omega)) c3)
    exact kk _ _ _ hw (lv_sub hl [2] rfl)
  | succ n ih =>
    intro j x2 hn hj hok0 H locs hw ls hl kk
    have hok := hok0.1
    refine lv_iload hx hb dX10_choose_5 (lv_at hl 3 rfl) ?_
    refine lv_iload_n hx hb dX10_choose_7 rfl (lv_at hl 1 rfl) ?_
    refine lv_icmp_ge (tgt := 31) hx hb dX10_choose_8 (by decide) (fun c1 => by rw [hB] at c1; exact absurd c1 (nI_ge (a := j) (b := b) (by omega) (by omega))) (fun c1 => ?_)
    refine lv_lload_n hx hb dX10_choose_11 rfl (lv_at hl 2 rfl) ?_
    refine lv_iload_n hx hb dX10_choose_12 rfl (lv_at hl 0 rfl) ?_
    refine lv_iload hx hb dX10_choose_13 (lv_at hl 3 rfl) ?_
    refine lv_isub hx hb dX10_choose_15 ?_
    refine lv_i2l (v := (((x0 - (nI j))).toInt64)) hx hb dX10_choose_16 rfl ?_
    refine lv_lmul hx hb dX10_choose_17 ?_
    refine lv_iload hx hb dX10_choose_18 (lv_at hl 3 rfl) ?_
    refine lv_iconst (v := 1) hx hb dX10_choose_20 (by decide) ?_
    refine lv_iadd hx hb dX10_choose_21 ?_
    refine lv_i2l (v := ((((nI j) + 1)).toInt64)) hx hb dX10_choose_22 rfl ?_
    obtain ⟨h2, hok⟩ := hok
    refine lv_ldiv hx hb dX10_choose_23 h2 ?_
    refine lv_lstore_n (lv' := [(2, .long ((x2 * (((x0 - (nI j))).toInt64)) / ((((nI j) + 1)).toInt64))), (0, .int x0), (1, .int x1), (4, .int (nI j))]) hx hb dX10_choose_24 rfl hl (by decide) rfl (fun ls hl => ?_)
    refine lv_iinc (v := (nI (j + 1))) (lv' := [(4, .int (nI (j + 1))), (2, .long ((x2 * (((x0 - (nI j))).toInt64)) / ((((nI j) + 1)).toInt64))), (0, .int x0), (1, .int x1)]) hx hb dX10_choose_25 hl (k := 3) rfl (nI_1 _) (by decide) rfl (fun ls hl => ?_)
    refine lv_goto (tgt := 5) hx hb dX10_choose_28 (by decide) ?_
    have hB : B_X10_choose_5 x0 j x2 = ((x2 * (((x0 - (nI j))).toInt64)) / ((((nI j) + 1)).toInt64)) := by
      unfold B_X10_choose_5
      exact rfl
    rw [it_c hB] at kk
    have hok2 := itA_c hB hok0
    exact ih (j + 1) ((x2 * (((x0 - (nI j))).toInt64)) / ((((nI j) + 1)).toInt64)) (by omega) (by omega) hok2 _ _ hw _ (lv_sub hl [2, 3, 1, 0] rfl) kk
def f_X10_choose (p1 : Int32) (p2 : Int32) : Int64 := (it (B_X10_choose_5 p1) 0 ((p2.toNatClampNeg) - 0) (1 : Int64))
def o_X10_choose (p1 : Int32) (p2 : Int32) : Prop := ((0 ≤ p2) ∧ ((itA oB_X10_choose_5 (B_X10_choose_5 p1) 0 ((p2.toNatClampNeg) - 0) (1 : Int64)) ∧ True))
set_option maxHeartbeats 4000000 in
set_option maxRecDepth 100000 in
theorem T_X10_choose (l : Launch) (D : va_G) (cI cZ : ClassId) (p1 : Int32) (p2 : Int32) (hok : o_X10_choose p1 p2) : CT l D cI cZ yX10_choose wsX10_choose ({ frames := 0, cells := 0, slots := 0, locals := 0 }) [.int p1, .int p2] [] (some (.long (f_X10_choose p1 p2))) [] := by
  refine CT.intro RX10 (by decide) rfl (Nat.le_of_ble_eq_true rfl) rfl ?_
  intro p e s m below meth c C hr hw ls hl
  have hx := C.hx
  have hb := C.hb
  replace hl : lv_has ls 5 [(0, .int p1), (1, .int p2)] := hl
  refine lv_lconst (v := 1) hx hb dX10_choose_0 (by decide) ?_
  refine lv_lstore_n (lv' := [(2, .long 1), (0, .int p1), (1, .int p2)]) hx hb dX10_choose_1 rfl hl (by decide) rfl (fun ls hl => ?_)
  refine lv_iconst (v := 0) hx hb dX10_choose_2 (by decide) ?_
  refine lv_istore (lv' := [(4, .int 0), (2, .long 1), (0, .int p1), (1, .int p2)]) hx hb dX10_choose_3 hl (by decide) rfl (fun ls hl => ?_)
  obtain ⟨h4, hok⟩ := hok
  obtain ⟨h5, hok⟩ := hok
  refine l_X10_choose_5  p1 p2 C p2.toNatClampNeg (nI_self h4) (clamp_lt _) ((p2.toNatClampNeg) - 0) 0 (1 : Int64) rfl (by decide) h5 _ _ hw _ (lv_sub hl [2, 3, 1, 0] rfl) (fun H locs ls hw hl => ?_)
  replace hw : kW D _ s H locs [] := hw
  replace hl : lv_has ls 5 [(2, .long (it (B_X10_choose_5 p1) 0 ((p2.toNatClampNeg) - 0) (1 : Int64)))] := hl
  refine lv_lload_n hx hb dX10_choose_31 rfl (lv_at hl 0 rfl) ?_
  rw [show f_X10_choose p1 p2 = (it (B_X10_choose_5 p1) 0 ((p2.toNatClampNeg) - 0) (1 : Int64)) from by
      unfold f_X10_choose
      exact rfl]
  exact k_lret C hr hw dX10_choose_32

def B_X10_strangers_15 (j : Nat) (v : Int64 × Int64) : Int64 × Int64 := (v.2, (((((nI j) - 1)).toInt64) * (v.2 + v.1)))
set_option maxHeartbeats 4000000 in
set_option maxRecDepth 100000 in
theorem l_X10_strangers_15 {p : Program} {l : Launch} {e : Env} {s : State} {m : MethodId} {args : Array Value} {below : List Frame} {meth : Method} {c : Code} {D : va_G} {cI cZ : ClassId} {Q : State → Prop} {A : Nat → Prop} (x0 : Int32) (C : kC p s m args meth c cX10_strangers 8 wsX10_strangers RX10 D cI cZ A) (b : Nat) (hB : x0 = nI b) (hb31 : b < 2147483647) : ∀ (n j : Nat) (x1 : Int64) (x3 : Int64), n = b + 1 - j → j < 2147483648 → ∀ (H : Heap) (locs : List Loc), kW D A s H locs [] → ∀ (ls : Array Slot), lv_has ls 8 [(0, .int x0), (1, .long x1), (3, .long x3), (5, .int (nI j))] → (∀ (H : Heap) (locs : List Loc) (ls : Array Slot), kW D A s H locs [] → lv_has ls 8 [(3, .long (it B_X10_strangers_15 j n (x1, x3)).2)] → W p l e ({ frames := 0, cells := 0, slots := 0, locals := 0 }) s m args below meth c H locs 0 0 Q (F0 m 43 ls [])) → W p l e ({ frames := 0, cells := 0, slots := 0, locals := 0 }) s m args below meth c H locs 0 0 Q (F0 m 15 ls []) := by
  have hx := C.hx
  have hb := C.hb
  intro n
  induction n with
  | zero =>
    intro j x1 x3 hn hj H locs hw ls hl kk
    refine lv_iload hx hb dX10_strangers_15 (lv_at hl 3 rfl) ?_
    refine lv_iload_n hx hb dX10_strangers_17 rfl (lv_at hl 0 rfl) ?_
    refine lv_icmp_gt (tgt := 43) hx hb dX10_strangers_18 (by decide) (fun c3 => ?_) (fun c3 => by rw [hB] at c3; exact absurd (nI_lt (a := b) (b := j) (by omega) (by omega)) c3)
    exact kk _ _ _ hw (lv_sub hl [2] rfl)
  | succ n ih =>
    intro j x1 x3 hn hj H locs hw ls hl kk
    refine lv_iload hx hb dX10_strangers_15 (lv_at hl 3 rfl) ?_
    refine lv_iload_n hx hb dX10_strangers_17 rfl (lv_at hl 0 rfl) ?_
    refine lv_icmp_gt (tgt := 43) hx hb dX10_strangers_18 (by decide) (fun c2 => by rw [hB] at c2; exact absurd c2 (nI_nlt (a := b) (b := j) (by omega) (by omega))) (fun c2 => ?_)
    refine lv_iload hx hb dX10_strangers_21 (lv_at hl 3 rfl) ?_
    refine lv_iconst (v := 1) hx hb dX10_strangers_23 (by decide) ?_
    refine lv_isub hx hb dX10_strangers_24 ?_
    refine lv_i2l (v := ((((nI j) - 1)).toInt64)) hx hb dX10_strangers_25 rfl ?_
    refine lv_lload_n hx hb dX10_strangers_26 rfl (lv_at hl 2 rfl) ?_
    refine lv_lload_n hx hb dX10_strangers_27 rfl (lv_at hl 1 rfl) ?_
    refine lv_ladd hx hb dX10_strangers_28 ?_
    refine lv_lmul hx hb dX10_strangers_29 ?_
    refine lv_lstore (lv' := [(6, .long (((((nI j) - 1)).toInt64) * (x3 + x1))), (0, .int x0), (1, .long x1), (3, .long x3), (5, .int (nI j))]) hx hb dX10_strangers_30 hl (by decide) rfl (fun ls hl => ?_)
    refine lv_lload_n hx hb dX10_strangers_32 rfl (lv_at hl 3 rfl) ?_
    refine lv_lstore_n (lv' := [(1, .long x3), (6, .long (((((nI j) - 1)).toInt64) * (x3 + x1))), (0, .int x0), (3, .long x3), (5, .int (nI j))]) hx hb dX10_strangers_33 rfl hl (by decide) rfl (fun ls hl => ?_)
    refine lv_lload hx hb dX10_strangers_34 (lv_at hl 1 rfl) ?_
    refine lv_lstore_n (lv' := [(3, .long (((((nI j) - 1)).toInt64) * (x3 + x1))), (1, .long x3), (6, .long (((((nI j) - 1)).toInt64) * (x3 + x1))), (0, .int x0), (5, .int (nI j))]) hx hb dX10_strangers_36 rfl hl (by decide) rfl (fun ls hl => ?_)
    refine lv_iinc (v := (nI (j + 1))) (lv' := [(5, .int (nI (j + 1))), (3, .long (((((nI j) - 1)).toInt64) * (x3 + x1))), (1, .long x3), (6, .long (((((nI j) - 1)).toInt64) * (x3 + x1))), (0, .int x0)]) hx hb dX10_strangers_37 hl (k := 4) rfl (nI_1 _) (by decide) rfl (fun ls hl => ?_)
    refine lv_goto (tgt := 15) hx hb dX10_strangers_40 (by decide) ?_
    have hB : B_X10_strangers_15 j (x1, x3) = (x3, (((((nI j) - 1)).toInt64) * (x3 + x1))) := by
      unfold B_X10_strangers_15
      exact rfl
    rw [it_c hB] at kk
    exact ih (j + 1) x3 (((((nI j) - 1)).toInt64) * (x3 + x1)) (by omega) (by omega) _ _ hw _ (lv_sub hl [4, 2, 1, 0] rfl) kk
def f_X10_strangers (p1 : Int32) : Int64 := (if p1 = 0 then (lt (it B_X10_strangers_15 2 ((p1.toNatClampNeg + 1) - 2) ((1 : Int64), (1 : Int64))) (fun z10 => z10.2)) else (lt (it B_X10_strangers_15 2 ((p1.toNatClampNeg + 1) - 2) ((1 : Int64), (0 : Int64))) (fun z6 => z6.2)))
def o_X10_strangers (p1 : Int32) : Prop := (if p1 = 0 then ((0 ≤ p1) ∧ ((p1.toNatClampNeg < 2147483647) ∧ True)) else ((0 ≤ p1) ∧ ((p1.toNatClampNeg < 2147483647) ∧ True)))
set_option maxHeartbeats 4000000 in
set_option maxRecDepth 100000 in
theorem T_X10_strangers (l : Launch) (D : va_G) (cI cZ : ClassId) (p1 : Int32) (hok : o_X10_strangers p1) : CT l D cI cZ yX10_strangers wsX10_strangers ({ frames := 0, cells := 0, slots := 0, locals := 0 }) [.int p1] [] (some (.long (f_X10_strangers p1))) [] := by
  refine CT.intro RX10 (by decide) rfl (Nat.le_of_ble_eq_true rfl) rfl ?_
  intro p e s m below meth c C hr hw ls hl
  have hx := C.hx
  have hb := C.hb
  replace hl : lv_has ls 8 [(0, .int p1)] := hl
  refine lv_lconst (v := 1) hx hb dX10_strangers_0 (by decide) ?_
  refine lv_lstore_n (lv' := [(1, .long 1), (0, .int p1)]) hx hb dX10_strangers_1 rfl hl (by decide) rfl (fun ls hl => ?_)
  refine lv_iload_n hx hb dX10_strangers_2 rfl (lv_at hl 1 rfl) ?_
  refine lv_if_ne (tgt := 10) hx hb dX10_strangers_3 (by decide) (fun c1 => ?_) (fun c1 => ?_)
  · replace hok := Eq.mp (if_neg c1) hok
    refine lv_lconst (v := 0) hx hb dX10_strangers_10 (by decide) ?_
    refine lv_lstore_n (lv' := [(3, .long 0), (1, .long 1), (0, .int p1)]) hx hb dX10_strangers_11 rfl hl (by decide) rfl (fun ls hl => ?_)
    refine lv_iconst (v := 2) hx hb dX10_strangers_12 (by decide) ?_
    refine lv_istore (lv' := [(5, .int 2), (3, .long 0), (1, .long 1), (0, .int p1)]) hx hb dX10_strangers_13 hl (by decide) rfl (fun ls hl => ?_)
    obtain ⟨h4, hok⟩ := hok
    obtain ⟨h5, hok⟩ := hok
    refine l_X10_strangers_15  p1 C p1.toNatClampNeg (nI_self h4) h5 ((p1.toNatClampNeg + 1) - 2) 2 (1 : Int64) (0 : Int64) rfl (by decide) _ _ hw _ (lv_sub hl [3, 2, 1, 0] rfl) (fun H locs ls hw hl => ?_)
    obtain ⟨z6, h7⟩ : ∃ z, (it B_X10_strangers_15 2 ((p1.toNatClampNeg + 1) - 2) ((1 : Int64), (0 : Int64))) = z := ⟨_, rfl⟩
    replace hw := kW_cast (ws' := []) (by subst h7; rfl) hw
    replace hl : lv_has ls 8 [(3, .long z6.2)] := by subst h7; exact hl
    refine lv_lload_n hx hb dX10_strangers_43 rfl (lv_at hl 0 rfl) ?_
    rw [show f_X10_strangers p1 = z6.2 from by
        unfold f_X10_strangers
        exact (if_neg c1).trans ((lt_c h7).trans (rfl))]
    exact k_lret C hr hw dX10_strangers_44
  · replace hok := Eq.mp (if_pos c1) hok
    refine lv_lconst (v := 1) hx hb dX10_strangers_6 (by decide) ?_
    refine lv_goto (tgt := 11) hx hb dX10_strangers_7 (by decide) ?_
    refine lv_lstore_n (lv' := [(3, .long 1), (1, .long 1), (0, .int p1)]) hx hb dX10_strangers_11 rfl hl (by decide) rfl (fun ls hl => ?_)
    refine lv_iconst (v := 2) hx hb dX10_strangers_12 (by decide) ?_
    refine lv_istore (lv' := [(5, .int 2), (3, .long 1), (1, .long 1), (0, .int p1)]) hx hb dX10_strangers_13 hl (by decide) rfl (fun ls hl => ?_)
    obtain ⟨h8, hok⟩ := hok
    obtain ⟨h9, hok⟩ := hok
    refine l_X10_strangers_15  p1 C p1.toNatClampNeg (nI_self h8) h9 ((p1.toNatClampNeg + 1) - 2) 2 (1 : Int64) (1 : Int64) rfl (by decide) _ _ hw _ (lv_sub hl [3, 2, 1, 0] rfl) (fun H locs ls hw hl => ?_)
    obtain ⟨z10, h11⟩ : ∃ z, (it B_X10_strangers_15 2 ((p1.toNatClampNeg + 1) - 2) ((1 : Int64), (1 : Int64))) = z := ⟨_, rfl⟩
    replace hw := kW_cast (ws' := []) (by subst h11; rfl) hw
    replace hl : lv_has ls 8 [(3, .long z10.2)] := by subst h11; exact hl
    refine lv_lload_n hx hb dX10_strangers_43 rfl (lv_at hl 0 rfl) ?_
    rw [show f_X10_strangers p1 = z10.2 from by
        unfold f_X10_strangers
        exact (if_pos c1).trans ((lt_c h11).trans (rfl))]
    exact k_lret C hr hw dX10_strangers_44

def B_X10_lots_57 (x1 : Int32) (x2 : Int32) (x3 : Int32) (j : Nat) (v : Int64 × Int64) : Int64 × Int64 := (if (nI j) = x2 then ((v.1 + ((f_X10_choose x1 (nI j)) * (f_X10_strangers (x1 - (nI j))))), (v.2 + ((f_X10_choose x1 (nI j)) * (f_X10_strangers (x1 - (nI j)))))) else (if (nI j) ≤ x2 then ((v.1 + 0), (v.2 + ((f_X10_choose x1 (nI j)) * (f_X10_strangers (x1 - (nI j)))))) else (if x3 = 1 then ((v.1 + ((f_X10_choose x1 (nI j)) * (f_X10_strangers (x1 - (nI j))))), (v.2 + ((f_X10_choose x1 (nI j)) * (f_X10_strangers (x1 - (nI j)))))) else ((v.1 + 0), (v.2 + ((f_X10_choose x1 (nI j)) * (f_X10_strangers (x1 - (nI j)))))))))
def oB_X10_lots_57 (x1 : Int32) (j : Nat) (v : Int64 × Int64) : Prop := ((o_X10_choose x1 (nI j)) ∧ ((o_X10_strangers (x1 - (nI j))) ∧ True))
set_option maxHeartbeats 4000000 in
set_option maxRecDepth 100000 in
theorem l_X10_lots_57 {p : Program} {l : Launch} {e : Env} {s : State} {m : MethodId} {args : Array Value} {below : List Frame} {meth : Method} {c : Code} {D : va_G} {cI cZ : ClassId} {Q : State → Prop} {A : Nat → Prop} (x1 : Int32) (x2 : Int32) (x3 : Int32) (x4 : Int32) (C : kC p s m args meth c cX10_lots 12 wsX10_lots RX10 D cI cZ A) (b : Nat) (hB : x1 = nI b) (hb31 : b < 2147483647) : ∀ (n j : Nat) (x5 : Int64) (x7 : Int64), n = b + 1 - j → j < 2147483648 → itA (oB_X10_lots_57 x1) (B_X10_lots_57 x1 x2 x3) j n (x5, x7) → ∀ (H : Heap) (locs : List Loc), kW D A s H locs [] → ∀ (ls : Array Slot), lv_has ls 12 [(1, .int x1), (2, .int x2), (3, .int x3), (4, .int x4), (5, .long x5), (7, .long x7), (9, .int (nI j))] → (∀ (H : Heap) (locs : List Loc) (ls : Array Slot), kW D A s H locs [] → lv_has ls 12 [(4, .int x4), (5, .long (it (B_X10_lots_57 x1 x2 x3) j n (x5, x7)).1), (7, .long (it (B_X10_lots_57 x1 x2 x3) j n (x5, x7)).2)] → W p l e ({ frames := 1, cells := 0, slots := 0, locals := 30 }) s m args below meth c H locs 0 0 Q (F0 m 120 ls [])) → W p l e ({ frames := 1, cells := 0, slots := 0, locals := 30 }) s m args below meth c H locs 0 0 Q (F0 m 57 ls []) := by
  have hx := C.hx
  have hb := C.hb
  intro n
  induction n with
  | zero =>
    intro j x5 x7 hn hj hok0 H locs hw ls hl kk
    refine lv_iload hx hb dX10_lots_57 (lv_at hl 6 rfl) ?_
    refine lv_iload_n hx hb dX10_lots_59 rfl (lv_at hl 0 rfl) ?_
    refine lv_icmp_gt (tgt := 120) hx hb dX10_lots_60 (by decide) (fun c11 => ?_) (fun c11 => by rw [hB] at c11; exact absurd (nI_lt (a := b) (b := j) (by omega) (by omega)) c11)
    exact kk _ _ _ hw (lv_sub hl [3, 4, 5] rfl)
  | succ n ih =>
    intro j x5 x7 hn hj hok0 H locs hw ls hl kk
    have hok := hok0.1
    refine lv_iload hx hb dX10_lots_57 (lv_at hl 6 rfl) ?_
    refine lv_iload_n hx hb dX10_lots_59 rfl (lv_at hl 0 rfl) ?_
    refine lv_icmp_gt (tgt := 120) hx hb dX10_lots_60 (by decide) (fun c5 => by rw [hB] at c5; exact absurd c5 (nI_nlt (a := b) (b := j) (by omega) (by omega))) (fun c5 => ?_)
    refine lv_iload_n hx hb dX10_lots_63 rfl (lv_at hl 0 rfl) ?_
    refine lv_iload hx hb dX10_lots_64 (lv_at hl 6 rfl) ?_
    obtain ⟨h6, hok⟩ := hok
    refine k_callS (As := [.int x1, .int (nI j)]) (rest := []) (n := 2) C hw (T_X10_choose l D cI cZ x1 (nI j) h6) gX10_lots_X10_choose rfl ⟨rfl, rfl⟩ (by decide +kernel) ⟨Nat.le_of_ble_eq_true rfl, Nat.le_of_ble_eq_true rfl⟩ [] rfl rfl [] rfl rfl rfl hl.1 rfl (Nat.le_of_ble_eq_true rfl) ⟨Nat.zero_le _, Nat.zero_le _⟩ dX10_lots_66 (fun H locs hw => ?_)
    refine W.eq (g2 := F0 m 69 ls [.long (f_X10_choose x1 (nI j))]) rfl ?_
    replace hw : kW D _ s H locs [] := hw
    refine lv_iload_n hx hb dX10_lots_69 rfl (lv_at hl 0 rfl) ?_
    refine lv_iload hx hb dX10_lots_70 (lv_at hl 6 rfl) ?_
    refine lv_isub hx hb dX10_lots_72 ?_
    obtain ⟨h7, hok⟩ := hok
    refine k_callS (As := [.int (x1 - (nI j))]) (rest := [.long (f_X10_choose x1 (nI j))]) (n := 1) C hw (T_X10_strangers l D cI cZ (x1 - (nI j)) h7) gX10_lots_X10_strangers rfl ⟨rfl, rfl⟩ (by decide +kernel) ⟨Nat.le_of_ble_eq_true rfl, Nat.le_of_ble_eq_true rfl⟩ [] rfl rfl [] rfl rfl rfl hl.1 rfl (Nat.le_of_ble_eq_true rfl) ⟨Nat.zero_le _, Nat.zero_le _⟩ dX10_lots_73 (fun H locs hw => ?_)
    refine W.eq (g2 := F0 m 76 ls [.long (f_X10_strangers (x1 - (nI j))), .long (f_X10_choose x1 (nI j))]) rfl ?_
    replace hw : kW D _ s H locs [] := hw
    refine lv_lmul hx hb dX10_lots_76 ?_
    refine lv_lstore (lv' := [(10, .long ((f_X10_choose x1 (nI j)) * (f_X10_strangers (x1 - (nI j))))), (1, .int x1), (2, .int x2), (3, .int x3), (4, .int x4), (5, .long x5), (7, .long x7), (9, .int (nI j))]) hx hb dX10_lots_77 hl (by decide) rfl (fun ls hl => ?_)
    refine lv_lload hx hb dX10_lots_79 (lv_at hl 6 rfl) ?_
    refine lv_lload hx hb dX10_lots_81 (lv_at hl 0 rfl) ?_
    refine lv_ladd hx hb dX10_lots_83 ?_
    refine lv_lstore (lv' := [(7, .long (x7 + ((f_X10_choose x1 (nI j)) * (f_X10_strangers (x1 - (nI j)))))), (10, .long ((f_X10_choose x1 (nI j)) * (f_X10_strangers (x1 - (nI j))))), (1, .int x1), (2, .int x2), (3, .int x3), (4, .int x4), (5, .long x5), (9, .int (nI j))]) hx hb dX10_lots_84 hl (by decide) rfl (fun ls hl => ?_)
    refine lv_lload hx hb dX10_lots_86 (lv_at hl 6 rfl) ?_
    refine lv_iload hx hb dX10_lots_88 (lv_at hl 7 rfl) ?_
    refine lv_iload_n hx hb dX10_lots_90 rfl (lv_at hl 3 rfl) ?_
    refine lv_icmp_eq (tgt := 105) hx hb dX10_lots_91 (by decide) (fun c8 => ?_) (fun c8 => ?_)
    · refine lv_lload hx hb dX10_lots_105 (lv_at hl 1 rfl) ?_
      refine lv_goto (tgt := 111) hx hb dX10_lots_107 (by decide) ?_
      refine lv_ladd hx hb dX10_lots_111 ?_
      refine lv_lstore (lv' := [(5, .long (x5 + ((f_X10_choose x1 (nI j)) * (f_X10_strangers (x1 - (nI j)))))), (7, .long (x7 + ((f_X10_choose x1 (nI j)) * (f_X10_strangers (x1 - (nI j)))))), (10, .long ((f_X10_choose x1 (nI j)) * (f_X10_strangers (x1 - (nI j))))), (1, .int x1), (2, .int x2), (3, .int x3), (4, .int x4), (9, .int (nI j))]) hx hb dX10_lots_112 hl (by decide) rfl (fun ls hl => ?_)
      refine lv_iinc (v := (nI (j + 1))) (lv' := [(9, .int (nI (j + 1))), (5, .long (x5 + ((f_X10_choose x1 (nI j)) * (f_X10_strangers (x1 - (nI j)))))), (7, .long (x7 + ((f_X10_choose x1 (nI j)) * (f_X10_strangers (x1 - (nI j)))))), (10, .long ((f_X10_choose x1 (nI j)) * (f_X10_strangers (x1 - (nI j))))), (1, .int x1), (2, .int x2), (3, .int x3), (4, .int x4)]) hx hb dX10_lots_114 hl (k := 7) rfl (nI_1 _) (by decide) rfl (fun ls hl => ?_)
      refine lv_goto (tgt := 57) hx hb dX10_lots_117 (by decide) ?_
      have hB : B_X10_lots_57 x1 x2 x3 j (x5, x7) = ((x5 + ((f_X10_choose x1 (nI j)) * (f_X10_strangers (x1 - (nI j))))), (x7 + ((f_X10_choose x1 (nI j)) * (f_X10_strangers (x1 - (nI j)))))) := by
        unfold B_X10_lots_57
        exact (if_pos c8).trans (rfl)
      rw [it_c hB] at kk
      have hok2 := itA_c hB hok0
      exact ih (j + 1) (x5 + ((f_X10_choose x1 (nI j)) * (f_X10_strangers (x1 - (nI j))))) (x7 + ((f_X10_choose x1 (nI j)) * (f_X10_strangers (x1 - (nI j))))) (by omega) (by omega) hok2 _ _ hw _ (lv_sub hl [4, 5, 6, 7, 1, 2, 0] rfl) kk
    · refine lv_iload hx hb dX10_lots_94 (lv_at hl 7 rfl) ?_
      refine lv_iload_n hx hb dX10_lots_96 rfl (lv_at hl 3 rfl) ?_
      refine lv_icmp_le (tgt := 110) hx hb dX10_lots_97 (by decide) (fun c9 => ?_) (fun c9 => ?_)
      · refine lv_lconst (v := 0) hx hb dX10_lots_110 (by decide) ?_
        refine lv_ladd hx hb dX10_lots_111 ?_
        refine lv_lstore (lv' := [(5, .long (x5 + 0)), (7, .long (x7 + ((f_X10_choose x1 (nI j)) * (f_X10_strangers (x1 - (nI j)))))), (10, .long ((f_X10_choose x1 (nI j)) * (f_X10_strangers (x1 - (nI j))))), (1, .int x1), (2, .int x2), (3, .int x3), (4, .int x4), (9, .int (nI j))]) hx hb dX10_lots_112 hl (by decide) rfl (fun ls hl => ?_)
        refine lv_iinc (v := (nI (j + 1))) (lv' := [(9, .int (nI (j + 1))), (5, .long (x5 + 0)), (7, .long (x7 + ((f_X10_choose x1 (nI j)) * (f_X10_strangers (x1 - (nI j)))))), (10, .long ((f_X10_choose x1 (nI j)) * (f_X10_strangers (x1 - (nI j))))), (1, .int x1), (2, .int x2), (3, .int x3), (4, .int x4)]) hx hb dX10_lots_114 hl (k := 7) rfl (nI_1 _) (by decide) rfl (fun ls hl => ?_)
        refine lv_goto (tgt := 57) hx hb dX10_lots_117 (by decide) ?_
        have hB : B_X10_lots_57 x1 x2 x3 j (x5, x7) = ((x5 + 0), (x7 + ((f_X10_choose x1 (nI j)) * (f_X10_strangers (x1 - (nI j)))))) := by
          unfold B_X10_lots_57
          exact (if_neg c8).trans ((if_pos c9).trans (rfl))
        rw [it_c hB] at kk
        have hok2 := itA_c hB hok0
        exact ih (j + 1) (x5 + 0) (x7 + ((f_X10_choose x1 (nI j)) * (f_X10_strangers (x1 - (nI j))))) (by omega) (by omega) hok2 _ _ hw _ (lv_sub hl [4, 5, 6, 7, 1, 2, 0] rfl) kk
      · refine lv_iload_n hx hb dX10_lots_100 rfl (lv_at hl 4 rfl) ?_
        refine lv_iconst (v := 1) hx hb dX10_lots_101 (by decide) ?_
        refine lv_icmp_ne (tgt := 110) hx hb dX10_lots_102 (by decide) (fun c10 => ?_) (fun c10 => ?_)
        · refine lv_lconst (v := 0) hx hb dX10_lots_110 (by decide) ?_
          refine lv_ladd hx hb dX10_lots_111 ?_
          refine lv_lstore (lv' := [(5, .long (x5 + 0)), (7, .long (x7 + ((f_X10_choose x1 (nI j)) * (f_X10_strangers (x1 - (nI j)))))), (10, .long ((f_X10_choose x1 (nI j)) * (f_X10_strangers (x1 - (nI j))))), (1, .int x1), (2, .int x2), (3, .int x3), (4, .int x4), (9, .int (nI j))]) hx hb dX10_lots_112 hl (by decide) rfl (fun ls hl => ?_)
          refine lv_iinc (v := (nI (j + 1))) (lv' := [(9, .int (nI (j + 1))), (5, .long (x5 + 0)), (7, .long (x7 + ((f_X10_choose x1 (nI j)) * (f_X10_strangers (x1 - (nI j)))))), (10, .long ((f_X10_choose x1 (nI j)) * (f_X10_strangers (x1 - (nI j))))), (1, .int x1), (2, .int x2), (3, .int x3), (4, .int x4)]) hx hb dX10_lots_114 hl (k := 7) rfl (nI_1 _) (by decide) rfl (fun ls hl => ?_)
          refine lv_goto (tgt := 57) hx hb dX10_lots_117 (by decide) ?_
          have hB : B_X10_lots_57 x1 x2 x3 j (x5, x7) = ((x5 + 0), (x7 + ((f_X10_choose x1 (nI j)) * (f_X10_strangers (x1 - (nI j)))))) := by
            unfold B_X10_lots_57
            exact (if_neg c8).trans ((if_neg c9).trans ((if_neg c10).trans (rfl)))
          rw [it_c hB] at kk
          have hok2 := itA_c hB hok0
          exact ih (j + 1) (x5 + 0) (x7 + ((f_X10_choose x1 (nI j)) * (f_X10_strangers (x1 - (nI j))))) (by omega) (by omega) hok2 _ _ hw _ (lv_sub hl [4, 5, 6, 7, 1, 2, 0] rfl) kk
        · refine lv_lload hx hb dX10_lots_105 (lv_at hl 1 rfl) ?_
          refine lv_goto (tgt := 111) hx hb dX10_lots_107 (by decide) ?_
          refine lv_ladd hx hb dX10_lots_111 ?_
          refine lv_lstore (lv' := [(5, .long (x5 + ((f_X10_choose x1 (nI j)) * (f_X10_strangers (x1 - (nI j)))))), (7, .long (x7 + ((f_X10_choose x1 (nI j)) * (f_X10_strangers (x1 - (nI j)))))), (10, .long ((f_X10_choose x1 (nI j)) * (f_X10_strangers (x1 - (nI j))))), (1, .int x1), (2, .int x2), (3, .int x3), (4, .int x4), (9, .int (nI j))]) hx hb dX10_lots_112 hl (by decide) rfl (fun ls hl => ?_)
          refine lv_iinc (v := (nI (j + 1))) (lv' := [(9, .int (nI (j + 1))), (5, .long (x5 + ((f_X10_choose x1 (nI j)) * (f_X10_strangers (x1 - (nI j)))))), (7, .long (x7 + ((f_X10_choose x1 (nI j)) * (f_X10_strangers (x1 - (nI j)))))), (10, .long ((f_X10_choose x1 (nI j)) * (f_X10_strangers (x1 - (nI j))))), (1, .int x1), (2, .int x2), (3, .int x3), (4, .int x4)]) hx hb dX10_lots_114 hl (k := 7) rfl (nI_1 _) (by decide) rfl (fun ls hl => ?_)
          refine lv_goto (tgt := 57) hx hb dX10_lots_117 (by decide) ?_
          have hB : B_X10_lots_57 x1 x2 x3 j (x5, x7) = ((x5 + ((f_X10_choose x1 (nI j)) * (f_X10_strangers (x1 - (nI j))))), (x7 + ((f_X10_choose x1 (nI j)) * (f_X10_strangers (x1 - (nI j)))))) := by
            unfold B_X10_lots_57
            exact (if_neg c8).trans ((if_neg c9).trans ((if_pos c10).trans (rfl)))
          rw [it_c hB] at kk
          have hok2 := itA_c hB hok0
          exact ih (j + 1) (x5 + ((f_X10_choose x1 (nI j)) * (f_X10_strangers (x1 - (nI j))))) (x7 + ((f_X10_choose x1 (nI j)) * (f_X10_strangers (x1 - (nI j))))) (by omega) (by omega) hok2 _ _ hw _ (lv_sub hl [4, 5, 6, 7, 1, 2, 0] rfl) kk
def f_X10_lots (p1 : Int32) (p2 : Int32) (p3 : Int32) (p4 : Int32) : Int64 := (if (f_X10_in ((p1).toInt64) (0 : Int64) (12 : Int64)) = 0 then (-1000000000000000002) else (if (f_X10_in ((p2).toInt64) (0 : Int64) ((p1).toInt64)) = 0 then (-1000000000000000002) else (if (f_X10_in ((p3).toInt64) (0 : Int64) (1 : Int64)) = 0 then (-1000000000000000002) else (if (f_X10_in ((p4).toInt64) (0 : Int64) (1 : Int64)) = 0 then (-1000000000000000002) else (lt (it (B_X10_lots_57 p1 p2 p3) 0 ((p1.toNatClampNeg + 1) - 0) ((0 : Int64), (0 : Int64))) (fun z15 => (f_X10_lowest z15.1 z15.2 p4)))))))
def o_X10_lots (p1 : Int32) (p2 : Int32) (p3 : Int32) (p4 : Int32) : Prop := (if (f_X10_in ((p1).toInt64) (0 : Int64) (12 : Int64)) = 0 then True else (if (f_X10_in ((p2).toInt64) (0 : Int64) ((p1).toInt64)) = 0 then True else (if (f_X10_in ((p3).toInt64) (0 : Int64) (1 : Int64)) = 0 then True else (if (f_X10_in ((p4).toInt64) (0 : Int64) (1 : Int64)) = 0 then True else ((0 ≤ p1) ∧ ((p1.toNatClampNeg < 2147483647) ∧ ((itA (oB_X10_lots_57 p1) (B_X10_lots_57 p1 p2 p3) 0 ((p1.toNatClampNeg + 1) - 0) ((0 : Int64), (0 : Int64))) ∧ (lt (it (B_X10_lots_57 p1 p2 p3) 0 ((p1.toNatClampNeg + 1) - 0) ((0 : Int64), (0 : Int64))) (fun z15 => ((o_X10_lowest z15.1 z15.2 p4) ∧ True))))))))))
set_option maxHeartbeats 4000000 in
set_option maxRecDepth 100000 in
theorem T_X10_lots (l : Launch) (D : va_G) (cI cZ : ClassId) (a_t : Nat) (p1 : Int32) (p2 : Int32) (p3 : Int32) (p4 : Int32) (hok : o_X10_lots p1 p2 p3 p4) : CT l D cI cZ yX10_lots wsX10_lots ({ frames := 1, cells := 0, slots := 0, locals := 30 }) [.ref a_t, .int p1, .int p2, .int p3, .int p4] [] (some (.long (f_X10_lots p1 p2 p3 p4))) [] := by
  refine CT.intro RX10 (by decide) rfl (Nat.le_of_ble_eq_true rfl) rfl ?_
  intro p e s m below meth c C hr hw ls hl
  have hx := C.hx
  have hb := C.hb
  replace hl : lv_has ls 12 [(0, .ref a_t), (1, .int p1), (2, .int p2), (3, .int p3), (4, .int p4)] := hl
  refine lv_iload_n hx hb dX10_lots_0 rfl (lv_at hl 1 rfl) ?_
  refine lv_i2l (v := ((p1).toInt64)) hx hb dX10_lots_1 rfl ?_
  refine lv_lconst (v := 0) hx hb dX10_lots_2 (by decide) ?_
  refine lv_ldc2 (v := 12) hx hb C.hown (C.hts _ (List.mem_of_getElem? (i := 1) rfl)) dX10_lots_3 ?_
  refine k_callS (As := [.long ((p1).toInt64), .long 0, .long 12]) (rest := []) (n := 3) C hw (T_X10_in l D cI cZ ((p1).toInt64) (0 : Int64) (12 : Int64)) gX10_lots_X10_in rfl ⟨rfl, rfl⟩ (by decide +kernel) ⟨Nat.le_of_ble_eq_true rfl, Nat.le_of_ble_eq_true rfl⟩ [] rfl rfl [] rfl rfl rfl hl.1 rfl (Nat.le_of_ble_eq_true rfl) ⟨Nat.zero_le _, Nat.zero_le _⟩ dX10_lots_6 (fun H locs hw => ?_)
  refine W.eq (g2 := F0 m 9 ls [.int (f_X10_in ((p1).toInt64) (0 : Int64) (12 : Int64))]) rfl ?_
  replace hw : kW D _ s H locs [] := hw
  refine lv_if_eq (tgt := 44) hx hb dX10_lots_9 (by decide) (fun c1 => ?_) (fun c1 => ?_)
  · refine lv_ldc2 (v := (-1000000000000000002)) hx hb C.hown (C.hts _ (List.mem_of_getElem? (i := 2) rfl)) dX10_lots_44 ?_
    rw [show f_X10_lots p1 p2 p3 p4 = (-1000000000000000002) from by
        unfold f_X10_lots
        exact (if_pos c1).trans (rfl)]
    exact k_lret C hr hw dX10_lots_47
  · replace hok := Eq.mp (if_neg c1) hok
    refine lv_iload_n hx hb dX10_lots_12 rfl (lv_at hl 2 rfl) ?_
    refine lv_i2l (v := ((p2).toInt64)) hx hb dX10_lots_13 rfl ?_
    refine lv_lconst (v := 0) hx hb dX10_lots_14 (by decide) ?_
    refine lv_iload_n hx hb dX10_lots_15 rfl (lv_at hl 1 rfl) ?_
    refine lv_i2l (v := ((p1).toInt64)) hx hb dX10_lots_16 rfl ?_
    refine k_callS (As := [.long ((p2).toInt64), .long 0, .long ((p1).toInt64)]) (rest := []) (n := 3) C hw (T_X10_in l D cI cZ ((p2).toInt64) (0 : Int64) ((p1).toInt64)) gX10_lots_X10_in rfl ⟨rfl, rfl⟩ (by decide +kernel) ⟨Nat.le_of_ble_eq_true rfl, Nat.le_of_ble_eq_true rfl⟩ [] rfl rfl [] rfl rfl rfl hl.1 rfl (Nat.le_of_ble_eq_true rfl) ⟨Nat.zero_le _, Nat.zero_le _⟩ dX10_lots_17 (fun H locs hw => ?_)
    refine W.eq (g2 := F0 m 20 ls [.int (f_X10_in ((p2).toInt64) (0 : Int64) ((p1).toInt64))]) rfl ?_
    replace hw : kW D _ s H locs [] := hw
    refine lv_if_eq (tgt := 44) hx hb dX10_lots_20 (by decide) (fun c2 => ?_) (fun c2 => ?_)
    · refine lv_ldc2 (v := (-1000000000000000002)) hx hb C.hown (C.hts _ (List.mem_of_getElem? (i := 2) rfl)) dX10_lots_44 ?_
      rw [show f_X10_lots p1 p2 p3 p4 = (-1000000000000000002) from by
          unfold f_X10_lots
          exact (if_neg c1).trans ((if_pos c2).trans (rfl))]
      exact k_lret C hr hw dX10_lots_47
    · replace hok := Eq.mp (if_neg c2) hok
      refine lv_iload_n hx hb dX10_lots_23 rfl (lv_at hl 3 rfl) ?_
      refine lv_i2l (v := ((p3).toInt64)) hx hb dX10_lots_24 rfl ?_
      refine lv_lconst (v := 0) hx hb dX10_lots_25 (by decide) ?_
      refine lv_lconst (v := 1) hx hb dX10_lots_26 (by decide) ?_
      refine k_callS (As := [.long ((p3).toInt64), .long 0, .long 1]) (rest := []) (n := 3) C hw (T_X10_in l D cI cZ ((p3).toInt64) (0 : Int64) (1 : Int64)) gX10_lots_X10_in rfl ⟨rfl, rfl⟩ (by decide +kernel) ⟨Nat.le_of_ble_eq_true rfl, Nat.le_of_ble_eq_true rfl⟩ [] rfl rfl [] rfl rfl rfl hl.1 rfl (Nat.le_of_ble_eq_true rfl) ⟨Nat.zero_le _, Nat.zero_le _⟩ dX10_lots_27 (fun H locs hw => ?_)
      refine W.eq (g2 := F0 m 30 ls [.int (f_X10_in ((p3).toInt64) (0 : Int64) (1 : Int64))]) rfl ?_
      replace hw : kW D _ s H locs [] := hw
      refine lv_if_eq (tgt := 44) hx hb dX10_lots_30 (by decide) (fun c3 => ?_) (fun c3 => ?_)
      · refine lv_ldc2 (v := (-1000000000000000002)) hx hb C.hown (C.hts _ (List.mem_of_getElem? (i := 2) rfl)) dX10_lots_44 ?_
        rw [show f_X10_lots p1 p2 p3 p4 = (-1000000000000000002) from by
            unfold f_X10_lots
            exact (if_neg c1).trans ((if_neg c2).trans ((if_pos c3).trans (rfl)))]
        exact k_lret C hr hw dX10_lots_47
      · replace hok := Eq.mp (if_neg c3) hok
        refine lv_iload hx hb dX10_lots_33 (lv_at hl 4 rfl) ?_
        refine lv_i2l (v := ((p4).toInt64)) hx hb dX10_lots_35 rfl ?_
        refine lv_lconst (v := 0) hx hb dX10_lots_36 (by decide) ?_
        refine lv_lconst (v := 1) hx hb dX10_lots_37 (by decide) ?_
        refine k_callS (As := [.long ((p4).toInt64), .long 0, .long 1]) (rest := []) (n := 3) C hw (T_X10_in l D cI cZ ((p4).toInt64) (0 : Int64) (1 : Int64)) gX10_lots_X10_in rfl ⟨rfl, rfl⟩ (by decide +kernel) ⟨Nat.le_of_ble_eq_true rfl, Nat.le_of_ble_eq_true rfl⟩ [] rfl rfl [] rfl rfl rfl hl.1 rfl (Nat.le_of_ble_eq_true rfl) ⟨Nat.zero_le _, Nat.zero_le _⟩ dX10_lots_38 (fun H locs hw => ?_)
        refine W.eq (g2 := F0 m 41 ls [.int (f_X10_in ((p4).toInt64) (0 : Int64) (1 : Int64))]) rfl ?_
        replace hw : kW D _ s H locs [] := hw
        refine lv_if_ne (tgt := 48) hx hb dX10_lots_41 (by decide) (fun c4 => ?_) (fun c4 => ?_)
        · replace hok := Eq.mp (if_neg c4) hok
          refine lv_lconst (v := 0) hx hb dX10_lots_48 (by decide) ?_
          refine lv_lstore (lv' := [(5, .long 0), (0, .ref a_t), (1, .int p1), (2, .int p2), (3, .int p3), (4, .int p4)]) hx hb dX10_lots_49 hl (by decide) rfl (fun ls hl => ?_)
          refine lv_lconst (v := 0) hx hb dX10_lots_51 (by decide) ?_
          refine lv_lstore (lv' := [(7, .long 0), (5, .long 0), (0, .ref a_t), (1, .int p1), (2, .int p2), (3, .int p3), (4, .int p4)]) hx hb dX10_lots_52 hl (by decide) rfl (fun ls hl => ?_)
          refine lv_iconst (v := 0) hx hb dX10_lots_54 (by decide) ?_
          refine lv_istore (lv' := [(9, .int 0), (7, .long 0), (5, .long 0), (0, .ref a_t), (1, .int p1), (2, .int p2), (3, .int p3), (4, .int p4)]) hx hb dX10_lots_55 hl (by decide) rfl (fun ls hl => ?_)
          obtain ⟨h12, hok⟩ := hok
          obtain ⟨h13, hok⟩ := hok
          obtain ⟨h14, hok⟩ := hok
          refine l_X10_lots_57  p1 p2 p3 p4 C p1.toNatClampNeg (nI_self h12) h13 ((p1.toNatClampNeg + 1) - 0) 0 (0 : Int64) (0 : Int64) rfl (by decide) h14 _ _ hw _ (lv_sub hl [4, 5, 6, 7, 2, 1, 0] rfl) (fun H locs ls hw hl => ?_)
          obtain ⟨z15, h16⟩ : ∃ z, (it (B_X10_lots_57 p1 p2 p3) 0 ((p1.toNatClampNeg + 1) - 0) ((0 : Int64), (0 : Int64))) = z := ⟨_, rfl⟩
          replace hw := kW_cast (ws' := []) (by subst h16; rfl) hw
          replace hl : lv_has ls 12 [(4, .int p4), (5, .long z15.1), (7, .long z15.2)] := by subst h16; exact hl
          replace hok := Eq.mp (lt_c h16) hok
          refine lv_lload hx hb dX10_lots_120 (lv_at hl 1 rfl) ?_
          refine lv_lload hx hb dX10_lots_122 (lv_at hl 2 rfl) ?_
          refine lv_iload hx hb dX10_lots_124 (lv_at hl 0 rfl) ?_
          obtain ⟨h17, hok⟩ := hok
          refine k_callS (As := [.long z15.1, .long z15.2, .int p4]) (rest := []) (n := 3) C hw (T_X10_lowest l D cI cZ z15.1 z15.2 p4 h17) gX10_lots_X10_lowest rfl ⟨rfl, rfl⟩ (by decide +kernel) ⟨Nat.le_of_ble_eq_true rfl, Nat.le_of_ble_eq_true rfl⟩ [] rfl rfl [] rfl rfl rfl hl.1 rfl (Nat.le_of_ble_eq_true rfl) ⟨Nat.zero_le _, Nat.zero_le _⟩ dX10_lots_126 (fun H locs hw => ?_)
          refine W.eq (g2 := F0 m 129 ls [.long (f_X10_lowest z15.1 z15.2 p4)]) rfl ?_
          replace hw : kW D _ s H locs [] := hw
          rw [show f_X10_lots p1 p2 p3 p4 = (f_X10_lowest z15.1 z15.2 p4) from by
              unfold f_X10_lots
              exact (if_neg c1).trans ((if_neg c2).trans ((if_neg c3).trans ((if_neg c4).trans ((lt_c h16).trans (rfl)))))]
          exact k_lret C hr hw dX10_lots_129
        · refine lv_ldc2 (v := (-1000000000000000002)) hx hb C.hown (C.hts _ (List.mem_of_getElem? (i := 2) rfl)) dX10_lots_44 ?_
          rw [show f_X10_lots p1 p2 p3 p4 = (-1000000000000000002) from by
              unfold f_X10_lots
              exact (if_neg c1).trans ((if_neg c2).trans ((if_neg c3).trans ((if_pos c4).trans (rfl))))]
          exact k_lret C hr hw dX10_lots_47

def f_X10_actBy (p1 : Int32) : Int32 := (if p1 = 0 then 0 else (if p1 = 1 then 1 else (if p1 = 2 then 2 else (if p1 = 3 then 2 else (if p1 = 4 then 2 else (if p1 = 5 then 3 else (if p1 = 6 then 4 else (if p1 = 7 then 4 else 2))))))))
set_option maxHeartbeats 4000000 in
set_option maxRecDepth 100000 in
theorem T_X10_actBy (l : Launch) (D : va_G) (cI cZ : ClassId) (p1 : Int32) : CT l D cI cZ yX10_actBy wsX10_actBy ({ frames := 0, cells := 0, slots := 0, locals := 0 }) [.int p1] [] (some (.int (f_X10_actBy p1))) [] := by
  refine CT.intro RX10 (by decide) rfl (Nat.le_of_ble_eq_true rfl) rfl ?_
  intro p e s m below meth c C hr hw ls hl
  have hx := C.hx
  have hb := C.hb
  replace hl : lv_has ls 1 [(0, .int p1)] := hl
  refine lv_iload_n hx hb dX10_actBy_0 rfl (lv_at hl 0 rfl) ?_
  by_cases c1 : p1 = 0
  · refine lv_tableIn (tgt := 48) hx hb dX10_actBy_1 (by rw [c1]; decide) (by rw [c1]; decide) (by rw [c1]; rfl) (by decide) ?_
    refine lv_iconst (v := 0) hx hb dX10_actBy_48 (by decide) ?_
    rw [show f_X10_actBy p1 = 0 from by
        unfold f_X10_actBy
        exact (if_pos c1).trans (rfl)]
    exact k_iret C hr hw dX10_actBy_49
  · by_cases c2 : p1 = 1
    · refine lv_tableIn (tgt := 50) hx hb dX10_actBy_1 (by rw [c2]; decide) (by rw [c2]; decide) (by rw [c2]; rfl) (by decide) ?_
      refine lv_iconst (v := 1) hx hb dX10_actBy_50 (by decide) ?_
      rw [show f_X10_actBy p1 = 1 from by
          unfold f_X10_actBy
          exact (if_neg c1).trans ((if_pos c2).trans (rfl))]
      exact k_iret C hr hw dX10_actBy_51
    · by_cases c3 : p1 = 2
      · refine lv_tableIn (tgt := 56) hx hb dX10_actBy_1 (by rw [c3]; decide) (by rw [c3]; decide) (by rw [c3]; rfl) (by decide) ?_
        refine lv_iconst (v := 2) hx hb dX10_actBy_56 (by decide) ?_
        rw [show f_X10_actBy p1 = 2 from by
            unfold f_X10_actBy
            exact (if_neg c1).trans ((if_neg c2).trans ((if_pos c3).trans (rfl)))]
        exact k_iret C hr hw dX10_actBy_57
      · by_cases c4 : p1 = 3
        · refine lv_tableIn (tgt := 56) hx hb dX10_actBy_1 (by rw [c4]; decide) (by rw [c4]; decide) (by rw [c4]; rfl) (by decide) ?_
          refine lv_iconst (v := 2) hx hb dX10_actBy_56 (by decide) ?_
          rw [show f_X10_actBy p1 = 2 from by
              unfold f_X10_actBy
              exact (if_neg c1).trans ((if_neg c2).trans ((if_neg c3).trans ((if_pos c4).trans (rfl))))]
          exact k_iret C hr hw dX10_actBy_57
        · by_cases c5 : p1 = 4
          · refine lv_tableIn (tgt := 56) hx hb dX10_actBy_1 (by rw [c5]; decide) (by rw [c5]; decide) (by rw [c5]; rfl) (by decide) ?_
            refine lv_iconst (v := 2) hx hb dX10_actBy_56 (by decide) ?_
            rw [show f_X10_actBy p1 = 2 from by
                unfold f_X10_actBy
                exact (if_neg c1).trans ((if_neg c2).trans ((if_neg c3).trans ((if_neg c4).trans ((if_pos c5).trans (rfl)))))]
            exact k_iret C hr hw dX10_actBy_57
          · by_cases c6 : p1 = 5
            · refine lv_tableIn (tgt := 52) hx hb dX10_actBy_1 (by rw [c6]; decide) (by rw [c6]; decide) (by rw [c6]; rfl) (by decide) ?_
              refine lv_iconst (v := 3) hx hb dX10_actBy_52 (by decide) ?_
              rw [show f_X10_actBy p1 = 3 from by
                  unfold f_X10_actBy
                  exact (if_neg c1).trans ((if_neg c2).trans ((if_neg c3).trans ((if_neg c4).trans ((if_neg c5).trans ((if_pos c6).trans (rfl))))))]
              exact k_iret C hr hw dX10_actBy_53
            · by_cases c7 : p1 = 6
              · refine lv_tableIn (tgt := 54) hx hb dX10_actBy_1 (by rw [c7]; decide) (by rw [c7]; decide) (by rw [c7]; rfl) (by decide) ?_
                refine lv_iconst (v := 4) hx hb dX10_actBy_54 (by decide) ?_
                rw [show f_X10_actBy p1 = 4 from by
                    unfold f_X10_actBy
                    exact (if_neg c1).trans ((if_neg c2).trans ((if_neg c3).trans ((if_neg c4).trans ((if_neg c5).trans ((if_neg c6).trans ((if_pos c7).trans (rfl)))))))]
                exact k_iret C hr hw dX10_actBy_55
              · by_cases c8 : p1 = 7
                · refine lv_tableIn (tgt := 54) hx hb dX10_actBy_1 (by rw [c8]; decide) (by rw [c8]; decide) (by rw [c8]; rfl) (by decide) ?_
                  refine lv_iconst (v := 4) hx hb dX10_actBy_54 (by decide) ?_
                  rw [show f_X10_actBy p1 = 4 from by
                      unfold f_X10_actBy
                      exact (if_neg c1).trans ((if_neg c2).trans ((if_neg c3).trans ((if_neg c4).trans ((if_neg c5).trans ((if_neg c6).trans ((if_neg c7).trans ((if_pos c8).trans (rfl))))))))]
                  exact k_iret C hr hw dX10_actBy_55
                · refine lv_tableOut (tgt := 56) hx hb dX10_actBy_1 (tab_out8 c1 c2 c3 c4 c5 c6 c7 c8) (by decide) ?_
                  refine lv_iconst (v := 2) hx hb dX10_actBy_56 (by decide) ?_
                  rw [show f_X10_actBy p1 = 2 from by
                      unfold f_X10_actBy
                      exact (if_neg c1).trans ((if_neg c2).trans ((if_neg c3).trans ((if_neg c4).trans ((if_neg c5).trans ((if_neg c6).trans ((if_neg c7).trans ((if_neg c8).trans (rfl))))))))]
                  exact k_iret C hr hw dX10_actBy_57

theorem nX10_century_X10 : ∀ w ∈ wsX100, w ∈ wsX10_century := fun _ h => List.mem_cons_of_mem _ (List.mem_append_right _ h)
def B_X10_century_54 (j : Nat) (v : Int32 × Int32 × Int32 × Int32 × Int32 × Int32 × (Nat → Int32) × (Nat → Int32) × (Nat → Int32)) : Int32 × Int32 × Int32 × Int32 × Int32 × Int32 × (Nat → Int32) × (Nat → Int32) × (Nat → Int32) := (lt (f_X10_actBy ((((((75 * ((v.1).toInt64)) + 74) - ((75 * ((v.1).toInt64)) + 74) / 65537 * 65537).toInt32) / 8) - (((((75 * ((v.1).toInt64)) + 74) - ((75 * ((v.1).toInt64)) + 74) / 65537 * 65537).toInt32) / 8) / 8 * 8)) (fun z8 => (lt (f_X10_whyNot v.2.1 v.2.2.2.1 v.2.2.2.2.2.2.2.1 z8 (((((75 * ((v.1).toInt64)) + 74) - ((75 * ((v.1).toInt64)) + 74) / 65537 * 65537).toInt32) - ((((75 * ((v.1).toInt64)) + 74) - ((75 * ((v.1).toInt64)) + 74) / 65537 * 65537).toInt32) / 8 * 8) ((((((75 * ((v.1).toInt64)) + 74) - ((75 * ((v.1).toInt64)) + 74) / 65537 * 65537).toInt32) / 64) - (((((75 * ((v.1).toInt64)) + 74) - ((75 * ((v.1).toInt64)) + 74) / 65537 * 65537).toInt32) / 64) / 8 * 8) (1 + (((((((75 * ((v.1).toInt64)) + 74) - ((75 * ((v.1).toInt64)) + 74) / 65537 * 65537).toInt32) / 64) / 8) - ((((((75 * ((v.1).toInt64)) + 74) - ((75 * ((v.1).toInt64)) + 74) / 65537 * 65537).toInt32) / 64) / 8) / 9 * 9))) (fun z11 => (if z11 = 0 then (lt (f_X10_happen v.2.1 v.2.2.1 v.2.2.2.1 v.2.2.2.2.1 v.2.2.2.2.2.2.2.2 v.2.2.2.2.2.2.2.1 v.2.2.2.2.2.2.1 z8 (((((75 * ((v.1).toInt64)) + 74) - ((75 * ((v.1).toInt64)) + 74) / 65537 * 65537).toInt32) - ((((75 * ((v.1).toInt64)) + 74) - ((75 * ((v.1).toInt64)) + 74) / 65537 * 65537).toInt32) / 8 * 8) ((((((75 * ((v.1).toInt64)) + 74) - ((75 * ((v.1).toInt64)) + 74) / 65537 * 65537).toInt32) / 64) - (((((75 * ((v.1).toInt64)) + 74) - ((75 * ((v.1).toInt64)) + 74) / 65537 * 65537).toInt32) / 64) / 8 * 8) (1 + (((((((75 * ((v.1).toInt64)) + 74) - ((75 * ((v.1).toInt64)) + 74) / 65537 * 65537).toInt32) / 64) / 8) - ((((((75 * ((v.1).toInt64)) + 74) - ((75 * ((v.1).toInt64)) + 74) / 65537 * 65537).toInt32) / 64) / 8) / 9 * 9))) (fun z15 => (((((75 * ((v.1).toInt64)) + 74) - ((75 * ((v.1).toInt64)) + 74) / 65537 * 65537).toInt32), z15.1, z15.2.1, z15.2.2.1, z15.2.2.2.1, z15.2.2.2.2.1, z15.2.2.2.2.2.2.2, z15.2.2.2.2.2.2.1, z15.2.2.2.2.2.1))) else (((((75 * ((v.1).toInt64)) + 74) - ((75 * ((v.1).toInt64)) + 74) / 65537 * 65537).toInt32), v.2.1, v.2.2.1, v.2.2.2.1, v.2.2.2.2.1, v.2.2.2.2.2.1, v.2.2.2.2.2.2.1, v.2.2.2.2.2.2.2.1, v.2.2.2.2.2.2.2.2))))))
def oB_X10_century_54 (j : Nat) (v : Int32 × Int32 × Int32 × Int32 × Int32 × Int32 × (Nat → Int32) × (Nat → Int32) × (Nat → Int32)) : Prop := (lt (f_X10_actBy ((((((75 * ((v.1).toInt64)) + 74) - ((75 * ((v.1).toInt64)) + 74) / 65537 * 65537).toInt32) / 8) - (((((75 * ((v.1).toInt64)) + 74) - ((75 * ((v.1).toInt64)) + 74) / 65537 * 65537).toInt32) / 8) / 8 * 8)) (fun z8 => ((o_X10_whyNot v.2.1 z8 (((((75 * ((v.1).toInt64)) + 74) - ((75 * ((v.1).toInt64)) + 74) / 65537 * 65537).toInt32) - ((((75 * ((v.1).toInt64)) + 74) - ((75 * ((v.1).toInt64)) + 74) / 65537 * 65537).toInt32) / 8 * 8) ((((((75 * ((v.1).toInt64)) + 74) - ((75 * ((v.1).toInt64)) + 74) / 65537 * 65537).toInt32) / 64) - (((((75 * ((v.1).toInt64)) + 74) - ((75 * ((v.1).toInt64)) + 74) / 65537 * 65537).toInt32) / 64) / 8 * 8)) ∧ (lt (f_X10_whyNot v.2.1 v.2.2.2.1 v.2.2.2.2.2.2.2.1 z8 (((((75 * ((v.1).toInt64)) + 74) - ((75 * ((v.1).toInt64)) + 74) / 65537 * 65537).toInt32) - ((((75 * ((v.1).toInt64)) + 74) - ((75 * ((v.1).toInt64)) + 74) / 65537 * 65537).toInt32) / 8 * 8) ((((((75 * ((v.1).toInt64)) + 74) - ((75 * ((v.1).toInt64)) + 74) / 65537 * 65537).toInt32) / 64) - (((((75 * ((v.1).toInt64)) + 74) - ((75 * ((v.1).toInt64)) + 74) / 65537 * 65537).toInt32) / 64) / 8 * 8) (1 + (((((((75 * ((v.1).toInt64)) + 74) - ((75 * ((v.1).toInt64)) + 74) / 65537 * 65537).toInt32) / 64) / 8) - ((((((75 * ((v.1).toInt64)) + 74) - ((75 * ((v.1).toInt64)) + 74) / 65537 * 65537).toInt32) / 64) / 8) / 9 * 9))) (fun z11 => (if z11 = 0 then ((o_X10_happen v.2.2.1 v.2.2.2.2.2.2.2.2 v.2.2.2.2.2.2.2.1 v.2.2.2.2.2.2.1 z8 (((((75 * ((v.1).toInt64)) + 74) - ((75 * ((v.1).toInt64)) + 74) / 65537 * 65537).toInt32) - ((((75 * ((v.1).toInt64)) + 74) - ((75 * ((v.1).toInt64)) + 74) / 65537 * 65537).toInt32) / 8 * 8) ((((((75 * ((v.1).toInt64)) + 74) - ((75 * ((v.1).toInt64)) + 74) / 65537 * 65537).toInt32) / 64) - (((((75 * ((v.1).toInt64)) + 74) - ((75 * ((v.1).toInt64)) + 74) / 65537 * 65537).toInt32) / 64) / 8 * 8) (1 + (((((((75 * ((v.1).toInt64)) + 74) - ((75 * ((v.1).toInt64)) + 74) / 65537 * 65537).toInt32) / 64) / 8) - ((((((75 * ((v.1).toInt64)) + 74) - ((75 * ((v.1).toInt64)) + 74) / 65537 * 65537).toInt32) / 64) / 8) / 9 * 9))) ∧ True) else True))))))
set_option maxHeartbeats 4000000 in
set_option maxRecDepth 100000 in
theorem l_X10_century_54 {p : Program} {l : Launch} {e : Env} {s : State} {m : MethodId} {args : Array Value} {below : List Frame} {meth : Method} {c : Code} {D : va_G} {cI cZ : ClassId} {Q : State → Prop} {A : Nat → Prop} (a_t a_t_wealth a_t_given a_t_chart a_t_relatives a_t_sightSet a_t_sightMany a_t_digits a_t_pad a_t_act a_t_who a_t_whom a_t_much a_t_had a_t_dues a_t_groups a_t_ways a_t_fit a_t_byMany a_t_kept a_t_isKept : Nat) (x2 : Int32) (x3 : Int32) (v_t_sights : Int32) (v_t_padMany : Int32) (v_t_acts : Int32) (v_t_badAct : Int32) (v_t_badWhy : Int32) (v_t_firstAct : Int32) (v_t_firstHouse : Int32) (v_t_fitMany : Int32) (v_t_keptAt : Int32) (v_t_isWriting : Int32) (g_t_had : (Nat → Int32)) (C : kC p s m args meth c cX10_century 9 wsX10_century RX10 D cI cZ A) (b : Nat) (hB : x2 = nI b) (hb31 : b < 2147483648) : ∀ (n j : Nat) (x4 : Int32) (v_t_inside : Int32) (v_t_next : Int32) (v_t_years : Int32) (v_t_givenNow : Int32) (v_t_entered : Int32) (g_t_given : (Nat → Int32)) (g_t_wealth : (Nat → Int32)) (g_t_chart : (Nat → Int32)), n = b - j → j < 2147483648 → itA oB_X10_century_54 B_X10_century_54 j n (x4, v_t_inside, v_t_next, v_t_years, v_t_givenNow, v_t_entered, g_t_given, g_t_wealth, g_t_chart) → ∀ (H : Heap) (locs : List Loc), kW D A s H locs [(a_t, .inr (10, [.ref a_t_wealth, .ref a_t_given, .ref a_t_chart, .ref a_t_relatives, .int v_t_inside, .int v_t_next, .int v_t_years, .ref a_t_sightSet, .ref a_t_sightMany, .int v_t_sights, .ref a_t_digits, .ref a_t_pad, .int v_t_padMany, .ref a_t_act, .ref a_t_who, .ref a_t_whom, .ref a_t_much, .int v_t_acts, .int v_t_givenNow, .int v_t_entered, .ref a_t_had, .int v_t_badAct, .int v_t_badWhy, .int v_t_firstAct, .int v_t_firstHouse, .ref a_t_dues, .ref a_t_groups, .ref a_t_ways, .ref a_t_fit, .int v_t_fitMany, .ref a_t_byMany, .ref a_t_kept, .ref a_t_isKept, .int v_t_keptAt, .int v_t_isWriting])), (a_t_had, .inl (cI, 83, .inl g_t_had)), (a_t_given, .inl (cI, 64, .inl g_t_given)), (a_t_wealth, .inl (cI, 8, .inl g_t_wealth)), (a_t_chart, .inl (cI, 8, .inl g_t_chart))] → ∀ (ls : Array Slot), lv_has ls 9 [(0, .ref a_t), (2, .int x2), (3, .int x3), (4, .int x4), (5, .int (nI j))] → (∀ (H : Heap) (locs : List Loc) (ls : Array Slot), kW D A s H locs [(a_t, .inr (10, [.ref a_t_wealth, .ref a_t_given, .ref a_t_chart, .ref a_t_relatives, .int (it B_X10_century_54 j n (x4, v_t_inside, v_t_next, v_t_years, v_t_givenNow, v_t_entered, g_t_given, g_t_wealth, g_t_chart)).2.1, .int (it B_X10_century_54 j n (x4, v_t_inside, v_t_next, v_t_years, v_t_givenNow, v_t_entered, g_t_given, g_t_wealth, g_t_chart)).2.2.1, .int (it B_X10_century_54 j n (x4, v_t_inside, v_t_next, v_t_years, v_t_givenNow, v_t_entered, g_t_given, g_t_wealth, g_t_chart)).2.2.2.1, .ref a_t_sightSet, .ref a_t_sightMany, .int v_t_sights, .ref a_t_digits, .ref a_t_pad, .int v_t_padMany, .ref a_t_act, .ref a_t_who, .ref a_t_whom, .ref a_t_much, .int v_t_acts, .int (it B_X10_century_54 j n (x4, v_t_inside, v_t_next, v_t_years, v_t_givenNow, v_t_entered, g_t_given, g_t_wealth, g_t_chart)).2.2.2.2.1, .int (it B_X10_century_54 j n (x4, v_t_inside, v_t_next, v_t_years, v_t_givenNow, v_t_entered, g_t_given, g_t_wealth, g_t_chart)).2.2.2.2.2.1, .ref a_t_had, .int v_t_badAct, .int v_t_badWhy, .int v_t_firstAct, .int v_t_firstHouse, .ref a_t_dues, .ref a_t_groups, .ref a_t_ways, .ref a_t_fit, .int v_t_fitMany, .ref a_t_byMany, .ref a_t_kept, .ref a_t_isKept, .int v_t_keptAt, .int v_t_isWriting])), (a_t_had, .inl (cI, 83, .inl g_t_had)), (a_t_given, .inl (cI, 64, .inl (it B_X10_century_54 j n (x4, v_t_inside, v_t_next, v_t_years, v_t_givenNow, v_t_entered, g_t_given, g_t_wealth, g_t_chart)).2.2.2.2.2.2.1)), (a_t_wealth, .inl (cI, 8, .inl (it B_X10_century_54 j n (x4, v_t_inside, v_t_next, v_t_years, v_t_givenNow, v_t_entered, g_t_given, g_t_wealth, g_t_chart)).2.2.2.2.2.2.2.1)), (a_t_chart, .inl (cI, 8, .inl (it B_X10_century_54 j n (x4, v_t_inside, v_t_next, v_t_years, v_t_givenNow, v_t_entered, g_t_given, g_t_wealth, g_t_chart)).2.2.2.2.2.2.2.2))] → lv_has ls 9 [(0, .ref a_t), (3, .int x3)] → W p l e ({ frames := 3, cells := 0, slots := 0, locals := 71 }) s m args below meth c H locs 0 0 Q (F0 m 155 ls [])) → W p l e ({ frames := 3, cells := 0, slots := 0, locals := 71 }) s m args below meth c H locs 0 0 Q (F0 m 54 ls []) := by
  have hx := C.hx
  have hb := C.hb
  intro n
  induction n with
  | zero =>
    intro j x4 v_t_inside v_t_next v_t_years v_t_givenNow v_t_entered g_t_given g_t_wealth g_t_chart hn hj hok0 H locs hw ls hl kk
    refine lv_iload hx hb dX10_century_54 (lv_at hl 4 rfl) ?_
    refine lv_iload_n hx hb dX10_century_56 rfl (lv_at hl 1 rfl) ?_
    refine lv_icmp_ge (tgt := 155) hx hb dX10_century_57 (by decide) (fun c17 => ?_) (fun c17 => by rw [hB] at c17; exact absurd (nI_le (a := b) (b := j) (by omega) (by omega)) c17)
    exact kk _ _ _ hw (lv_sub hl [0, 2] rfl)
  | succ n ih =>
    intro j x4 v_t_inside v_t_next v_t_years v_t_givenNow v_t_entered g_t_given g_t_wealth g_t_chart hn hj hok0 H locs hw ls hl kk
    have hok := hok0.1
    refine lv_iload hx hb dX10_century_54 (lv_at hl 4 rfl) ?_
    refine lv_iload_n hx hb dX10_century_56 rfl (lv_at hl 1 rfl) ?_
    refine lv_icmp_ge (tgt := 155) hx hb dX10_century_57 (by decide) (fun c7 => by rw [hB] at c7; exact absurd c7 (nI_ge (a := j) (b := b) (by omega) (by omega))) (fun c7 => ?_)
    refine lv_ldc2 (v := 75) hx hb C.hown (C.hts _ (List.mem_of_getElem? (i := 5) rfl)) dX10_century_60 ?_
    refine lv_iload hx hb dX10_century_63 (lv_at hl 3 rfl) ?_
    refine lv_i2l (v := ((x4).toInt64)) hx hb dX10_century_65 rfl ?_
    refine lv_lmul hx hb dX10_century_66 ?_
    refine lv_ldc2 (v := 74) hx hb C.hown (C.hts _ (List.mem_of_getElem? (i := 6) rfl)) dX10_century_67 ?_
    refine lv_ladd hx hb dX10_century_70 ?_
    refine lv_ldc2 (v := 65537) hx hb C.hown (C.hts _ (List.mem_of_getElem? (i := 7) rfl)) dX10_century_71 ?_
    refine lv_lrem hx hb dX10_century_74 (by decide) ?_
    refine lv_l2i (v := ((((75 * ((x4).toInt64)) + 74) - ((75 * ((x4).toInt64)) + 74) / 65537 * 65537).toInt32)) hx hb dX10_century_75 rfl ?_
    refine lv_istore (lv' := [(4, .int ((((75 * ((x4).toInt64)) + 74) - ((75 * ((x4).toInt64)) + 74) / 65537 * 65537).toInt32)), (0, .ref a_t), (2, .int x2), (3, .int x3), (5, .int (nI j))]) hx hb dX10_century_76 hl (by decide) rfl (fun ls hl => ?_)
    refine lv_iload hx hb dX10_century_78 (lv_at hl 0 rfl) ?_
    refine lv_bipush (v := 8) hx hb dX10_century_80 (by decide) ?_
    refine lv_idiv hx hb dX10_century_82 (by decide) ?_
    refine lv_bipush (v := 8) hx hb dX10_century_83 (by decide) ?_
    refine lv_irem hx hb dX10_century_85 (by decide) ?_
    refine k_callS (As := [.int ((((((75 * ((x4).toInt64)) + 74) - ((75 * ((x4).toInt64)) + 74) / 65537 * 65537).toInt32) / 8) - (((((75 * ((x4).toInt64)) + 74) - ((75 * ((x4).toInt64)) + 74) / 65537 * 65537).toInt32) / 8) / 8 * 8)]) (rest := []) (n := 1) C hw (T_X10_actBy l D cI cZ ((((((75 * ((x4).toInt64)) + 74) - ((75 * ((x4).toInt64)) + 74) / 65537 * 65537).toInt32) / 8) - (((((75 * ((x4).toInt64)) + 74) - ((75 * ((x4).toInt64)) + 74) / 65537 * 65537).toInt32) / 8) / 8 * 8)) gX10_century_X10_actBy rfl ⟨rfl, rfl⟩ (by decide +kernel) ⟨Nat.le_of_ble_eq_true rfl, Nat.le_of_ble_eq_true rfl⟩ [] rfl rfl [] rfl rfl rfl hl.1 rfl (Nat.le_of_ble_eq_true rfl) ⟨Nat.zero_le _, Nat.zero_le _⟩ dX10_century_86 (fun H locs hw => ?_)
    obtain ⟨z8, h9⟩ : ∃ z, (f_X10_actBy ((((((75 * ((x4).toInt64)) + 74) - ((75 * ((x4).toInt64)) + 74) / 65537 * 65537).toInt32) / 8) - (((((75 * ((x4).toInt64)) + 74) - ((75 * ((x4).toInt64)) + 74) / 65537 * 65537).toInt32) / 8) / 8 * 8)) = z := ⟨_, rfl⟩
    refine W.eq (g2 := F0 m 89 ls [.int z8]) (by subst h9; rfl) ?_
    replace hw := kW_cast (ws' := [(a_t, .inr (10, [.ref a_t_wealth, .ref a_t_given, .ref a_t_chart, .ref a_t_relatives, .int v_t_inside, .int v_t_next, .int v_t_years, .ref a_t_sightSet, .ref a_t_sightMany, .int v_t_sights, .ref a_t_digits, .ref a_t_pad, .int v_t_padMany, .ref a_t_act, .ref a_t_who, .ref a_t_whom, .ref a_t_much, .int v_t_acts, .int v_t_givenNow, .int v_t_entered, .ref a_t_had, .int v_t_badAct, .int v_t_badWhy, .int v_t_firstAct, .int v_t_firstHouse, .ref a_t_dues, .ref a_t_groups, .ref a_t_ways, .ref a_t_fit, .int v_t_fitMany, .ref a_t_byMany, .ref a_t_kept, .ref a_t_isKept, .int v_t_keptAt, .int v_t_isWriting])), (a_t_had, .inl (cI, 83, .inl g_t_had)), (a_t_given, .inl (cI, 64, .inl g_t_given)), (a_t_wealth, .inl (cI, 8, .inl g_t_wealth)), (a_t_chart, .inl (cI, 8, .inl g_t_chart))]) (by subst h9; rfl) hw
    replace hok := Eq.mp (lt_c h9) hok
    refine lv_istore (lv' := [(6, .int z8), (4, .int ((((75 * ((x4).toInt64)) + 74) - ((75 * ((x4).toInt64)) + 74) / 65537 * 65537).toInt32)), (0, .ref a_t), (2, .int x2), (3, .int x3), (5, .int (nI j))]) hx hb dX10_century_89 hl (by decide) rfl (fun ls hl => ?_)
    refine lv_iload hx hb dX10_century_91 (lv_at hl 1 rfl) ?_
    refine lv_bipush (v := 64) hx hb dX10_century_93 (by decide) ?_
    refine lv_idiv hx hb dX10_century_95 (by decide) ?_
    refine lv_istore (lv' := [(7, .int (((((75 * ((x4).toInt64)) + 74) - ((75 * ((x4).toInt64)) + 74) / 65537 * 65537).toInt32) / 64)), (6, .int z8), (4, .int ((((75 * ((x4).toInt64)) + 74) - ((75 * ((x4).toInt64)) + 74) / 65537 * 65537).toInt32)), (0, .ref a_t), (2, .int x2), (3, .int x3), (5, .int (nI j))]) hx hb dX10_century_96 hl (by decide) rfl (fun ls hl => ?_)
    refine lv_iconst (v := 1) hx hb dX10_century_98 (by decide) ?_
    refine lv_iload hx hb dX10_century_99 (lv_at hl 0 rfl) ?_
    refine lv_bipush (v := 8) hx hb dX10_century_101 (by decide) ?_
    refine lv_idiv hx hb dX10_century_103 (by decide) ?_
    refine lv_bipush (v := 9) hx hb dX10_century_104 (by decide) ?_
    refine lv_irem hx hb dX10_century_106 (by decide) ?_
    refine lv_iadd hx hb dX10_century_107 ?_
    refine lv_istore (lv' := [(8, .int (1 + (((((((75 * ((x4).toInt64)) + 74) - ((75 * ((x4).toInt64)) + 74) / 65537 * 65537).toInt32) / 64) / 8) - ((((((75 * ((x4).toInt64)) + 74) - ((75 * ((x4).toInt64)) + 74) / 65537 * 65537).toInt32) / 64) / 8) / 9 * 9))), (7, .int (((((75 * ((x4).toInt64)) + 74) - ((75 * ((x4).toInt64)) + 74) / 65537 * 65537).toInt32) / 64)), (6, .int z8), (4, .int ((((75 * ((x4).toInt64)) + 74) - ((75 * ((x4).toInt64)) + 74) / 65537 * 65537).toInt32)), (0, .ref a_t), (2, .int x2), (3, .int x3), (5, .int (nI j))]) hx hb dX10_century_108 hl (by decide) rfl (fun ls hl => ?_)
    refine lv_aload_n hx hb dX10_century_110 rfl (lv_at hl 4 rfl) ?_
    refine lv_iload hx hb dX10_century_111 (lv_at hl 2 rfl) ?_
    refine lv_iload hx hb dX10_century_113 (lv_at hl 3 rfl) ?_
    refine lv_bipush (v := 8) hx hb dX10_century_115 (by decide) ?_
    refine lv_irem hx hb dX10_century_117 (by decide) ?_
    refine lv_iload hx hb dX10_century_118 (lv_at hl 1 rfl) ?_
    refine lv_bipush (v := 8) hx hb dX10_century_120 (by decide) ?_
    refine lv_irem hx hb dX10_century_122 (by decide) ?_
    refine lv_iload hx hb dX10_century_123 (lv_at hl 0 rfl) ?_
    obtain ⟨h10, hok⟩ := hok
    refine k_callV (As := [.int z8, .int (((((75 * ((x4).toInt64)) + 74) - ((75 * ((x4).toInt64)) + 74) / 65537 * 65537).toInt32) - ((((75 * ((x4).toInt64)) + 74) - ((75 * ((x4).toInt64)) + 74) / 65537 * 65537).toInt32) / 8 * 8), .int ((((((75 * ((x4).toInt64)) + 74) - ((75 * ((x4).toInt64)) + 74) / 65537 * 65537).toInt32) / 64) - (((((75 * ((x4).toInt64)) + 74) - ((75 * ((x4).toInt64)) + 74) / 65537 * 65537).toInt32) / 64) / 8 * 8), .int (1 + (((((((75 * ((x4).toInt64)) + 74) - ((75 * ((x4).toInt64)) + 74) / 65537 * 65537).toInt32) / 64) / 8) - ((((((75 * ((x4).toInt64)) + 74) - ((75 * ((x4).toInt64)) + 74) / 65537 * 65537).toInt32) / 64) / 8) / 9 * 9))]) (rest := []) (n := 4) (CC := RX10) (T := TX10) (N := 35) C hw (T_X10_whyNot l D cI cZ a_t a_t_wealth a_t_given a_t_chart a_t_relatives a_t_sightSet a_t_sightMany a_t_digits a_t_pad a_t_act a_t_who a_t_whom a_t_much a_t_had a_t_dues a_t_groups a_t_ways a_t_fit a_t_byMany a_t_kept a_t_isKept v_t_inside v_t_next v_t_years v_t_sights v_t_padMany v_t_acts v_t_givenNow v_t_entered v_t_badAct v_t_badWhy v_t_firstAct v_t_firstHouse v_t_fitMany v_t_keptAt v_t_isWriting g_t_wealth z8 (((((75 * ((x4).toInt64)) + 74) - ((75 * ((x4).toInt64)) + 74) / 65537 * 65537).toInt32) - ((((75 * ((x4).toInt64)) + 74) - ((75 * ((x4).toInt64)) + 74) / 65537 * 65537).toInt32) / 8 * 8) ((((((75 * ((x4).toInt64)) + 74) - ((75 * ((x4).toInt64)) + 74) / 65537 * 65537).toInt32) / 64) - (((((75 * ((x4).toInt64)) + 74) - ((75 * ((x4).toInt64)) + 74) / 65537 * 65537).toInt32) / 64) / 8 * 8) (1 + (((((((75 * ((x4).toInt64)) + 74) - ((75 * ((x4).toInt64)) + 74) / 65537 * 65537).toInt32) / 64) / 8) - ((((((75 * ((x4).toInt64)) + 74) - ((75 * ((x4).toInt64)) + 74) / 65537 * 65537).toInt32) / 64) / 8) / 9 * 9)) h10) gX10_century_X10_whyNot rfl ⟨rfl, rfl⟩ (by decide +kernel) ⟨Nat.le_of_ble_eq_true rfl, Nat.le_of_ble_eq_true rfl⟩ 0 rfl rfl [0, 3] rfl rfl [a_t, a_t_wealth] rfl rfl rfl hl.1 rfl (Nat.le_of_ble_eq_true rfl) ⟨Nat.zero_le _, Nat.zero_le _⟩ dX10_century_125 (fun H locs hw => ?_)
    obtain ⟨z11, h12⟩ : ∃ z, (f_X10_whyNot v_t_inside v_t_years g_t_wealth z8 (((((75 * ((x4).toInt64)) + 74) - ((75 * ((x4).toInt64)) + 74) / 65537 * 65537).toInt32) - ((((75 * ((x4).toInt64)) + 74) - ((75 * ((x4).toInt64)) + 74) / 65537 * 65537).toInt32) / 8 * 8) ((((((75 * ((x4).toInt64)) + 74) - ((75 * ((x4).toInt64)) + 74) / 65537 * 65537).toInt32) / 64) - (((((75 * ((x4).toInt64)) + 74) - ((75 * ((x4).toInt64)) + 74) / 65537 * 65537).toInt32) / 64) / 8 * 8) (1 + (((((((75 * ((x4).toInt64)) + 74) - ((75 * ((x4).toInt64)) + 74) / 65537 * 65537).toInt32) / 64) / 8) - ((((((75 * ((x4).toInt64)) + 74) - ((75 * ((x4).toInt64)) + 74) / 65537 * 65537).toInt32) / 64) / 8) / 9 * 9))) = z := ⟨_, rfl⟩
    refine W.eq (g2 := F0 m 128 ls [.int z11]) (by subst h12; rfl) ?_
    replace hw := kW_cast (ws' := [(a_t, .inr (10, [.ref a_t_wealth, .ref a_t_given, .ref a_t_chart, .ref a_t_relatives, .int v_t_inside, .int v_t_next, .int v_t_years, .ref a_t_sightSet, .ref a_t_sightMany, .int v_t_sights, .ref a_t_digits, .ref a_t_pad, .int v_t_padMany, .ref a_t_act, .ref a_t_who, .ref a_t_whom, .ref a_t_much, .int v_t_acts, .int v_t_givenNow, .int v_t_entered, .ref a_t_had, .int v_t_badAct, .int v_t_badWhy, .int v_t_firstAct, .int v_t_firstHouse, .ref a_t_dues, .ref a_t_groups, .ref a_t_ways, .ref a_t_fit, .int v_t_fitMany, .ref a_t_byMany, .ref a_t_kept, .ref a_t_isKept, .int v_t_keptAt, .int v_t_isWriting])), (a_t_had, .inl (cI, 83, .inl g_t_had)), (a_t_given, .inl (cI, 64, .inl g_t_given)), (a_t_wealth, .inl (cI, 8, .inl g_t_wealth)), (a_t_chart, .inl (cI, 8, .inl g_t_chart))]) (by subst h12; rfl) hw
    replace hok := Eq.mp (lt_c h12) hok
    refine lv_if_ne (tgt := 149) hx hb dX10_century_128 (by decide) (fun c13 => ?_) (fun c13 => ?_)
    · refine lv_iinc (v := (nI (j + 1))) (lv' := [(5, .int (nI (j + 1))), (8, .int (1 + (((((((75 * ((x4).toInt64)) + 74) - ((75 * ((x4).toInt64)) + 74) / 65537 * 65537).toInt32) / 64) / 8) - ((((((75 * ((x4).toInt64)) + 74) - ((75 * ((x4).toInt64)) + 74) / 65537 * 65537).toInt32) / 64) / 8) / 9 * 9))), (7, .int (((((75 * ((x4).toInt64)) + 74) - ((75 * ((x4).toInt64)) + 74) / 65537 * 65537).toInt32) / 64)), (6, .int z8), (4, .int ((((75 * ((x4).toInt64)) + 74) - ((75 * ((x4).toInt64)) + 74) / 65537 * 65537).toInt32)), (0, .ref a_t), (2, .int x2), (3, .int x3)]) hx hb dX10_century_149 hl (k := 7) rfl (nI_1 _) (by decide) rfl (fun ls hl => ?_)
      refine lv_goto (tgt := 54) hx hb dX10_century_152 (by decide) ?_
      have hB : B_X10_century_54 j (x4, v_t_inside, v_t_next, v_t_years, v_t_givenNow, v_t_entered, g_t_given, g_t_wealth, g_t_chart) = (((((75 * ((x4).toInt64)) + 74) - ((75 * ((x4).toInt64)) + 74) / 65537 * 65537).toInt32), v_t_inside, v_t_next, v_t_years, v_t_givenNow, v_t_entered, g_t_given, g_t_wealth, g_t_chart) := by
        unfold B_X10_century_54
        exact (lt_c h9).trans ((lt_c h12).trans ((if_neg c13).trans (rfl)))
      rw [it_c hB] at kk
      have hok2 := itA_c hB hok0
      exact ih (j + 1) ((((75 * ((x4).toInt64)) + 74) - ((75 * ((x4).toInt64)) + 74) / 65537 * 65537).toInt32) v_t_inside v_t_next v_t_years v_t_givenNow v_t_entered g_t_given g_t_wealth g_t_chart (by omega) (by omega) hok2 _ _ hw _ (lv_sub hl [5, 6, 7, 4, 0] rfl) kk
    · replace hok := Eq.mp (if_pos c13) hok
      refine lv_aload_n hx hb dX10_century_131 rfl (lv_at hl 4 rfl) ?_
      refine lv_iload hx hb dX10_century_132 (lv_at hl 2 rfl) ?_
      refine lv_iload hx hb dX10_century_134 (lv_at hl 3 rfl) ?_
      refine lv_bipush (v := 8) hx hb dX10_century_136 (by decide) ?_
      refine lv_irem hx hb dX10_century_138 (by decide) ?_
      refine lv_iload hx hb dX10_century_139 (lv_at hl 1 rfl) ?_
      refine lv_bipush (v := 8) hx hb dX10_century_141 (by decide) ?_
      refine lv_irem hx hb dX10_century_143 (by decide) ?_
      refine lv_iload hx hb dX10_century_144 (lv_at hl 0 rfl) ?_
      obtain ⟨h14, hok⟩ := hok
      refine k_callV (As := [.int z8, .int (((((75 * ((x4).toInt64)) + 74) - ((75 * ((x4).toInt64)) + 74) / 65537 * 65537).toInt32) - ((((75 * ((x4).toInt64)) + 74) - ((75 * ((x4).toInt64)) + 74) / 65537 * 65537).toInt32) / 8 * 8), .int ((((((75 * ((x4).toInt64)) + 74) - ((75 * ((x4).toInt64)) + 74) / 65537 * 65537).toInt32) / 64) - (((((75 * ((x4).toInt64)) + 74) - ((75 * ((x4).toInt64)) + 74) / 65537 * 65537).toInt32) / 64) / 8 * 8), .int (1 + (((((((75 * ((x4).toInt64)) + 74) - ((75 * ((x4).toInt64)) + 74) / 65537 * 65537).toInt32) / 64) / 8) - ((((((75 * ((x4).toInt64)) + 74) - ((75 * ((x4).toInt64)) + 74) / 65537 * 65537).toInt32) / 64) / 8) / 9 * 9))]) (rest := []) (n := 4) (CC := RX10) (T := TX10) (N := 35) C hw (T_X10_happen l D cI cZ a_t a_t_wealth a_t_given a_t_chart a_t_relatives a_t_sightSet a_t_sightMany a_t_digits a_t_pad a_t_act a_t_who a_t_whom a_t_much a_t_had a_t_dues a_t_groups a_t_ways a_t_fit a_t_byMany a_t_kept a_t_isKept v_t_inside v_t_next v_t_years v_t_sights v_t_padMany v_t_acts v_t_givenNow v_t_entered v_t_badAct v_t_badWhy v_t_firstAct v_t_firstHouse v_t_fitMany v_t_keptAt v_t_isWriting g_t_chart g_t_wealth g_t_given z8 (((((75 * ((x4).toInt64)) + 74) - ((75 * ((x4).toInt64)) + 74) / 65537 * 65537).toInt32) - ((((75 * ((x4).toInt64)) + 74) - ((75 * ((x4).toInt64)) + 74) / 65537 * 65537).toInt32) / 8 * 8) ((((((75 * ((x4).toInt64)) + 74) - ((75 * ((x4).toInt64)) + 74) / 65537 * 65537).toInt32) / 64) - (((((75 * ((x4).toInt64)) + 74) - ((75 * ((x4).toInt64)) + 74) / 65537 * 65537).toInt32) / 64) / 8 * 8) (1 + (((((((75 * ((x4).toInt64)) + 74) - ((75 * ((x4).toInt64)) + 74) / 65537 * 65537).toInt32) / 64) / 8) - ((((((75 * ((x4).toInt64)) + 74) - ((75 * ((x4).toInt64)) + 74) / 65537 * 65537).toInt32) / 64) / 8) / 9 * 9)) h14) gX10_century_X10_happen rfl ⟨rfl, rfl⟩ (by decide +kernel) ⟨Nat.le_of_ble_eq_true rfl, Nat.le_of_ble_eq_true rfl⟩ 0 rfl rfl [0, 4, 3, 2] rfl rfl [a_t, a_t_chart, a_t_wealth, a_t_given] rfl rfl rfl hl.1 rfl (Nat.le_of_ble_eq_true rfl) ⟨Nat.zero_le _, Nat.zero_le _⟩ dX10_century_146 (fun H locs hw => ?_)
      obtain ⟨z15, h16⟩ : ∃ z, (f_X10_happen v_t_inside v_t_next v_t_years v_t_givenNow g_t_chart g_t_wealth g_t_given z8 (((((75 * ((x4).toInt64)) + 74) - ((75 * ((x4).toInt64)) + 74) / 65537 * 65537).toInt32) - ((((75 * ((x4).toInt64)) + 74) - ((75 * ((x4).toInt64)) + 74) / 65537 * 65537).toInt32) / 8 * 8) ((((((75 * ((x4).toInt64)) + 74) - ((75 * ((x4).toInt64)) + 74) / 65537 * 65537).toInt32) / 64) - (((((75 * ((x4).toInt64)) + 74) - ((75 * ((x4).toInt64)) + 74) / 65537 * 65537).toInt32) / 64) / 8 * 8) (1 + (((((((75 * ((x4).toInt64)) + 74) - ((75 * ((x4).toInt64)) + 74) / 65537 * 65537).toInt32) / 64) / 8) - ((((((75 * ((x4).toInt64)) + 74) - ((75 * ((x4).toInt64)) + 74) / 65537 * 65537).toInt32) / 64) / 8) / 9 * 9))) = z := ⟨_, rfl⟩
      refine W.eq (g2 := F0 m 149 ls []) (by subst h16; rfl) ?_
      replace hw := kW_cast (ws' := [(a_t, .inr (10, [.ref a_t_wealth, .ref a_t_given, .ref a_t_chart, .ref a_t_relatives, .int z15.1, .int z15.2.1, .int z15.2.2.1, .ref a_t_sightSet, .ref a_t_sightMany, .int v_t_sights, .ref a_t_digits, .ref a_t_pad, .int v_t_padMany, .ref a_t_act, .ref a_t_who, .ref a_t_whom, .ref a_t_much, .int v_t_acts, .int z15.2.2.2.1, .int z15.2.2.2.2.1, .ref a_t_had, .int v_t_badAct, .int v_t_badWhy, .int v_t_firstAct, .int v_t_firstHouse, .ref a_t_dues, .ref a_t_groups, .ref a_t_ways, .ref a_t_fit, .int v_t_fitMany, .ref a_t_byMany, .ref a_t_kept, .ref a_t_isKept, .int v_t_keptAt, .int v_t_isWriting])), (a_t_had, .inl (cI, 83, .inl g_t_had)), (a_t_given, .inl (cI, 64, .inl z15.2.2.2.2.2.2.2)), (a_t_wealth, .inl (cI, 8, .inl z15.2.2.2.2.2.2.1)), (a_t_chart, .inl (cI, 8, .inl z15.2.2.2.2.2.1))]) (by subst h16; rfl) hw
      refine lv_iinc (v := (nI (j + 1))) (lv' := [(5, .int (nI (j + 1))), (8, .int (1 + (((((((75 * ((x4).toInt64)) + 74) - ((75 * ((x4).toInt64)) + 74) / 65537 * 65537).toInt32) / 64) / 8) - ((((((75 * ((x4).toInt64)) + 74) - ((75 * ((x4).toInt64)) + 74) / 65537 * 65537).toInt32) / 64) / 8) / 9 * 9))), (7, .int (((((75 * ((x4).toInt64)) + 74) - ((75 * ((x4).toInt64)) + 74) / 65537 * 65537).toInt32) / 64)), (6, .int z8), (4, .int ((((75 * ((x4).toInt64)) + 74) - ((75 * ((x4).toInt64)) + 74) / 65537 * 65537).toInt32)), (0, .ref a_t), (2, .int x2), (3, .int x3)]) hx hb dX10_century_149 hl (k := 7) rfl (nI_1 _) (by decide) rfl (fun ls hl => ?_)
      refine lv_goto (tgt := 54) hx hb dX10_century_152 (by decide) ?_
      have hB : B_X10_century_54 j (x4, v_t_inside, v_t_next, v_t_years, v_t_givenNow, v_t_entered, g_t_given, g_t_wealth, g_t_chart) = (((((75 * ((x4).toInt64)) + 74) - ((75 * ((x4).toInt64)) + 74) / 65537 * 65537).toInt32), z15.1, z15.2.1, z15.2.2.1, z15.2.2.2.1, z15.2.2.2.2.1, z15.2.2.2.2.2.2.2, z15.2.2.2.2.2.2.1, z15.2.2.2.2.2.1) := by
        unfold B_X10_century_54
        exact (lt_c h9).trans ((lt_c h12).trans ((if_pos c13).trans ((lt_c h16).trans (rfl))))
      rw [it_c hB] at kk
      have hok2 := itA_c hB hok0
      exact ih (j + 1) ((((75 * ((x4).toInt64)) + 74) - ((75 * ((x4).toInt64)) + 74) / 65537 * 65537).toInt32) z15.1 z15.2.1 z15.2.2.1 z15.2.2.2.1 z15.2.2.2.2.1 z15.2.2.2.2.2.2.2 z15.2.2.2.2.2.2.1 z15.2.2.2.2.2.1 (by omega) (by omega) hok2 _ _ hw _ (lv_sub hl [5, 6, 7, 4, 0] rfl) kk
def f_X10_century (v_t_inside : Int32) (v_t_next : Int32) (v_t_years : Int32) (v_t_givenNow : Int32) (v_t_entered : Int32) (g_t_had : (Nat → Int32)) (g_t_given : (Nat → Int32)) (g_t_wealth : (Nat → Int32)) (g_t_chart : (Nat → Int32)) (p1 : Int32) (p2 : Int32) (p3 : Int32) : Int32 × Int32 × Int32 × Int32 × Int32 × Int32 × (Nat → Int32) × (Nat → Int32) × (Nat → Int32) × (Nat → Int32) := (if (f_X10_in ((p1).toInt64) (0 : Int64) (9999 : Int64)) = 0 then ((-2), v_t_inside, v_t_next, v_t_years, v_t_givenNow, v_t_entered, g_t_had, g_t_given, g_t_wealth, g_t_chart) else (if (f_X10_in ((p2).toInt64) (1 : Int64) (99 : Int64)) = 0 then ((-2), v_t_inside, v_t_next, v_t_years, v_t_givenNow, v_t_entered, g_t_had, g_t_given, g_t_wealth, g_t_chart) else (if (f_X10_in ((p3).toInt64) (0 : Int64) (2 : Int64)) = 0 then ((-2), v_t_inside, v_t_next, v_t_years, v_t_givenNow, v_t_entered, g_t_had, g_t_given, g_t_wealth, g_t_chart) else (lt (f_X10_keepNow v_t_inside v_t_next v_t_years g_t_had g_t_given g_t_wealth g_t_chart) (fun z5 => (lt (it B_X10_century_54 0 ((p2.toNatClampNeg) - 0) (p1, v_t_inside, v_t_next, v_t_years, (0 : Int32), v_t_entered, g_t_given, g_t_wealth, g_t_chart)) (fun z20 => (if p3 = 0 then (lt (f_X10_back z5 z20.2.2.2.2.2.2.1 z20.2.2.2.2.2.2.2.1 z20.2.2.2.2.2.2.2.2 (z20.2.2.2.2.2.2.2.1 0)) (fun z31 => (z31.1, z31.2.1, z31.2.2.1, z31.2.2.2.1, z20.2.2.2.2.1, z20.2.2.2.2.2.1, z5, z31.2.2.2.2.1, z31.2.2.2.2.2.1, z31.2.2.2.2.2.2))) else (if p3 = 1 then (lt (f_X10_back z5 z20.2.2.2.2.2.2.1 z20.2.2.2.2.2.2.2.1 z20.2.2.2.2.2.2.2.2 z20.2.1) (fun z28 => (z28.1, z28.2.1, z28.2.2.1, z28.2.2.2.1, z20.2.2.2.2.1, z20.2.2.2.2.2.1, z5, z28.2.2.2.2.1, z28.2.2.2.2.2.1, z28.2.2.2.2.2.2))) else (lt (f_X10_back z5 z20.2.2.2.2.2.2.1 z20.2.2.2.2.2.2.2.1 z20.2.2.2.2.2.2.2.2 z20.2.2.2.2.1) (fun z25 => (z25.1, z25.2.1, z25.2.2.1, z25.2.2.2.1, z20.2.2.2.2.1, z20.2.2.2.2.2.1, z5, z25.2.2.2.2.1, z25.2.2.2.2.2.1, z25.2.2.2.2.2.2))))))))))))
def o_X10_century (v_t_inside : Int32) (v_t_next : Int32) (v_t_years : Int32) (v_t_entered : Int32) (g_t_had : (Nat → Int32)) (g_t_given : (Nat → Int32)) (g_t_wealth : (Nat → Int32)) (g_t_chart : (Nat → Int32)) (p1 : Int32) (p2 : Int32) (p3 : Int32) : Prop := (if (f_X10_in ((p1).toInt64) (0 : Int64) (9999 : Int64)) = 0 then True else (if (f_X10_in ((p2).toInt64) (1 : Int64) (99 : Int64)) = 0 then True else (if (f_X10_in ((p3).toInt64) (0 : Int64) (2 : Int64)) = 0 then True else ((o_X10_keepNow g_t_had g_t_given g_t_wealth g_t_chart) ∧ (lt (f_X10_keepNow v_t_inside v_t_next v_t_years g_t_had g_t_given g_t_wealth g_t_chart) (fun z5 => ((0 ≤ p2) ∧ ((itA oB_X10_century_54 B_X10_century_54 0 ((p2.toNatClampNeg) - 0) (p1, v_t_inside, v_t_next, v_t_years, (0 : Int32), v_t_entered, g_t_given, g_t_wealth, g_t_chart)) ∧ (lt (it B_X10_century_54 0 ((p2.toNatClampNeg) - 0) (p1, v_t_inside, v_t_next, v_t_years, (0 : Int32), v_t_entered, g_t_given, g_t_wealth, g_t_chart)) (fun z20 => (if p3 = 0 then ((o_X10_back z5 z20.2.2.2.2.2.2.1 z20.2.2.2.2.2.2.2.1 z20.2.2.2.2.2.2.2.2) ∧ True) else (if p3 = 1 then ((o_X10_back z5 z20.2.2.2.2.2.2.1 z20.2.2.2.2.2.2.2.1 z20.2.2.2.2.2.2.2.2) ∧ True) else ((o_X10_back z5 z20.2.2.2.2.2.2.1 z20.2.2.2.2.2.2.2.1 z20.2.2.2.2.2.2.2.2) ∧ True)))))))))))))
set_option maxHeartbeats 4000000 in
set_option maxRecDepth 100000 in
theorem T_X10_century (l : Launch) (D : va_G) (cI cZ : ClassId) (a_t a_t_wealth a_t_given a_t_chart a_t_relatives a_t_sightSet a_t_sightMany a_t_digits a_t_pad a_t_act a_t_who a_t_whom a_t_much a_t_had a_t_dues a_t_groups a_t_ways a_t_fit a_t_byMany a_t_kept a_t_isKept : Nat) (v_t_inside : Int32) (v_t_next : Int32) (v_t_years : Int32) (v_t_sights : Int32) (v_t_padMany : Int32) (v_t_acts : Int32) (v_t_givenNow : Int32) (v_t_entered : Int32) (v_t_badAct : Int32) (v_t_badWhy : Int32) (v_t_firstAct : Int32) (v_t_firstHouse : Int32) (v_t_fitMany : Int32) (v_t_keptAt : Int32) (v_t_isWriting : Int32) (g_t_had : (Nat → Int32)) (g_t_given : (Nat → Int32)) (g_t_wealth : (Nat → Int32)) (g_t_chart : (Nat → Int32)) (p1 : Int32) (p2 : Int32) (p3 : Int32) (hok : o_X10_century v_t_inside v_t_next v_t_years v_t_entered g_t_had g_t_given g_t_wealth g_t_chart p1 p2 p3) : CT l D cI cZ yX10_century wsX10_century ({ frames := 3, cells := 0, slots := 0, locals := 71 }) [.ref a_t, .int p1, .int p2, .int p3] [(a_t, .inr (10, [.ref a_t_wealth, .ref a_t_given, .ref a_t_chart, .ref a_t_relatives, .int v_t_inside, .int v_t_next, .int v_t_years, .ref a_t_sightSet, .ref a_t_sightMany, .int v_t_sights, .ref a_t_digits, .ref a_t_pad, .int v_t_padMany, .ref a_t_act, .ref a_t_who, .ref a_t_whom, .ref a_t_much, .int v_t_acts, .int v_t_givenNow, .int v_t_entered, .ref a_t_had, .int v_t_badAct, .int v_t_badWhy, .int v_t_firstAct, .int v_t_firstHouse, .ref a_t_dues, .ref a_t_groups, .ref a_t_ways, .ref a_t_fit, .int v_t_fitMany, .ref a_t_byMany, .ref a_t_kept, .ref a_t_isKept, .int v_t_keptAt, .int v_t_isWriting])), (a_t_had, .inl (cI, 83, .inl g_t_had)), (a_t_given, .inl (cI, 64, .inl g_t_given)), (a_t_wealth, .inl (cI, 8, .inl g_t_wealth)), (a_t_chart, .inl (cI, 8, .inl g_t_chart))] (some (.int (f_X10_century v_t_inside v_t_next v_t_years v_t_givenNow v_t_entered g_t_had g_t_given g_t_wealth g_t_chart p1 p2 p3).1)) [(a_t, .inr (10, [.ref a_t_wealth, .ref a_t_given, .ref a_t_chart, .ref a_t_relatives, .int (f_X10_century v_t_inside v_t_next v_t_years v_t_givenNow v_t_entered g_t_had g_t_given g_t_wealth g_t_chart p1 p2 p3).2.1, .int (f_X10_century v_t_inside v_t_next v_t_years v_t_givenNow v_t_entered g_t_had g_t_given g_t_wealth g_t_chart p1 p2 p3).2.2.1, .int (f_X10_century v_t_inside v_t_next v_t_years v_t_givenNow v_t_entered g_t_had g_t_given g_t_wealth g_t_chart p1 p2 p3).2.2.2.1, .ref a_t_sightSet, .ref a_t_sightMany, .int v_t_sights, .ref a_t_digits, .ref a_t_pad, .int v_t_padMany, .ref a_t_act, .ref a_t_who, .ref a_t_whom, .ref a_t_much, .int v_t_acts, .int (f_X10_century v_t_inside v_t_next v_t_years v_t_givenNow v_t_entered g_t_had g_t_given g_t_wealth g_t_chart p1 p2 p3).2.2.2.2.1, .int (f_X10_century v_t_inside v_t_next v_t_years v_t_givenNow v_t_entered g_t_had g_t_given g_t_wealth g_t_chart p1 p2 p3).2.2.2.2.2.1, .ref a_t_had, .int v_t_badAct, .int v_t_badWhy, .int v_t_firstAct, .int v_t_firstHouse, .ref a_t_dues, .ref a_t_groups, .ref a_t_ways, .ref a_t_fit, .int v_t_fitMany, .ref a_t_byMany, .ref a_t_kept, .ref a_t_isKept, .int v_t_keptAt, .int v_t_isWriting])), (a_t_had, .inl (cI, 83, .inl (f_X10_century v_t_inside v_t_next v_t_years v_t_givenNow v_t_entered g_t_had g_t_given g_t_wealth g_t_chart p1 p2 p3).2.2.2.2.2.2.1)), (a_t_given, .inl (cI, 64, .inl (f_X10_century v_t_inside v_t_next v_t_years v_t_givenNow v_t_entered g_t_had g_t_given g_t_wealth g_t_chart p1 p2 p3).2.2.2.2.2.2.2.1)), (a_t_wealth, .inl (cI, 8, .inl (f_X10_century v_t_inside v_t_next v_t_years v_t_givenNow v_t_entered g_t_had g_t_given g_t_wealth g_t_chart p1 p2 p3).2.2.2.2.2.2.2.2.1)), (a_t_chart, .inl (cI, 8, .inl (f_X10_century v_t_inside v_t_next v_t_years v_t_givenNow v_t_entered g_t_had g_t_given g_t_wealth g_t_chart p1 p2 p3).2.2.2.2.2.2.2.2.2))] := by
  refine CT.intro RX10 (by decide) rfl (Nat.le_of_ble_eq_true rfl) rfl ?_
  intro p e s m below meth c C hr hw ls hl
  have hx := C.hx
  have hb := C.hb
  replace hl : lv_has ls 9 [(0, .ref a_t), (1, .int p1), (2, .int p2), (3, .int p3)] := hl
  refine lv_iload_n hx hb dX10_century_0 rfl (lv_at hl 1 rfl) ?_
  refine lv_i2l (v := ((p1).toInt64)) hx hb dX10_century_1 rfl ?_
  refine lv_lconst (v := 0) hx hb dX10_century_2 (by decide) ?_
  refine lv_ldc2 (v := 9999) hx hb C.hown (C.hts _ (List.mem_of_getElem? (i := 1) rfl)) dX10_century_3 ?_
  refine k_callS (As := [.long ((p1).toInt64), .long 0, .long 9999]) (rest := []) (n := 3) C hw (T_X10_in l D cI cZ ((p1).toInt64) (0 : Int64) (9999 : Int64)) gX10_century_X10_in rfl ⟨rfl, rfl⟩ (by decide +kernel) ⟨Nat.le_of_ble_eq_true rfl, Nat.le_of_ble_eq_true rfl⟩ [] rfl rfl [] rfl rfl rfl hl.1 rfl (Nat.le_of_ble_eq_true rfl) ⟨Nat.zero_le _, Nat.zero_le _⟩ dX10_century_6 (fun H locs hw => ?_)
  refine W.eq (g2 := F0 m 9 ls [.int (f_X10_in ((p1).toInt64) (0 : Int64) (9999 : Int64))]) rfl ?_
  replace hw : kW D _ s H locs [(a_t, .inr (10, [.ref a_t_wealth, .ref a_t_given, .ref a_t_chart, .ref a_t_relatives, .int v_t_inside, .int v_t_next, .int v_t_years, .ref a_t_sightSet, .ref a_t_sightMany, .int v_t_sights, .ref a_t_digits, .ref a_t_pad, .int v_t_padMany, .ref a_t_act, .ref a_t_who, .ref a_t_whom, .ref a_t_much, .int v_t_acts, .int v_t_givenNow, .int v_t_entered, .ref a_t_had, .int v_t_badAct, .int v_t_badWhy, .int v_t_firstAct, .int v_t_firstHouse, .ref a_t_dues, .ref a_t_groups, .ref a_t_ways, .ref a_t_fit, .int v_t_fitMany, .ref a_t_byMany, .ref a_t_kept, .ref a_t_isKept, .int v_t_keptAt, .int v_t_isWriting])), (a_t_had, .inl (cI, 83, .inl g_t_had)), (a_t_given, .inl (cI, 64, .inl g_t_given)), (a_t_wealth, .inl (cI, 8, .inl g_t_wealth)), (a_t_chart, .inl (cI, 8, .inl g_t_chart))] := hw
  refine lv_if_eq (tgt := 36) hx hb dX10_century_9 (by decide) (fun c1 => ?_) (fun c1 => ?_)
  · refine lv_bipush (v := (-2)) hx hb dX10_century_36 (by decide) ?_
    rw [show f_X10_century v_t_inside v_t_next v_t_years v_t_givenNow v_t_entered g_t_had g_t_given g_t_wealth g_t_chart p1 p2 p3 = ((-2), v_t_inside, v_t_next, v_t_years, v_t_givenNow, v_t_entered, g_t_had, g_t_given, g_t_wealth, g_t_chart) from by
        unfold f_X10_century
        exact (if_pos c1).trans (rfl)]
    exact k_iret C hr hw dX10_century_38
  · replace hok := Eq.mp (if_neg c1) hok
    refine lv_iload_n hx hb dX10_century_12 rfl (lv_at hl 2 rfl) ?_
    refine lv_i2l (v := ((p2).toInt64)) hx hb dX10_century_13 rfl ?_
    refine lv_lconst (v := 1) hx hb dX10_century_14 (by decide) ?_
    refine lv_ldc2 (v := 99) hx hb C.hown (C.hts _ (List.mem_of_getElem? (i := 2) rfl)) dX10_century_15 ?_
    refine k_callS (As := [.long ((p2).toInt64), .long 1, .long 99]) (rest := []) (n := 3) C hw (T_X10_in l D cI cZ ((p2).toInt64) (1 : Int64) (99 : Int64)) gX10_century_X10_in rfl ⟨rfl, rfl⟩ (by decide +kernel) ⟨Nat.le_of_ble_eq_true rfl, Nat.le_of_ble_eq_true rfl⟩ [] rfl rfl [] rfl rfl rfl hl.1 rfl (Nat.le_of_ble_eq_true rfl) ⟨Nat.zero_le _, Nat.zero_le _⟩ dX10_century_18 (fun H locs hw => ?_)
    refine W.eq (g2 := F0 m 21 ls [.int (f_X10_in ((p2).toInt64) (1 : Int64) (99 : Int64))]) rfl ?_
    replace hw : kW D _ s H locs [(a_t, .inr (10, [.ref a_t_wealth, .ref a_t_given, .ref a_t_chart, .ref a_t_relatives, .int v_t_inside, .int v_t_next, .int v_t_years, .ref a_t_sightSet, .ref a_t_sightMany, .int v_t_sights, .ref a_t_digits, .ref a_t_pad, .int v_t_padMany, .ref a_t_act, .ref a_t_who, .ref a_t_whom, .ref a_t_much, .int v_t_acts, .int v_t_givenNow, .int v_t_entered, .ref a_t_had, .int v_t_badAct, .int v_t_badWhy, .int v_t_firstAct, .int v_t_firstHouse, .ref a_t_dues, .ref a_t_groups, .ref a_t_ways, .ref a_t_fit, .int v_t_fitMany, .ref a_t_byMany, .ref a_t_kept, .ref a_t_isKept, .int v_t_keptAt, .int v_t_isWriting])), (a_t_had, .inl (cI, 83, .inl g_t_had)), (a_t_given, .inl (cI, 64, .inl g_t_given)), (a_t_wealth, .inl (cI, 8, .inl g_t_wealth)), (a_t_chart, .inl (cI, 8, .inl g_t_chart))] := hw
    refine lv_if_eq (tgt := 36) hx hb dX10_century_21 (by decide) (fun c2 => ?_) (fun c2 => ?_)
    · refine lv_bipush (v := (-2)) hx hb dX10_century_36 (by decide) ?_
      rw [show f_X10_century v_t_inside v_t_next v_t_years v_t_givenNow v_t_entered g_t_had g_t_given g_t_wealth g_t_chart p1 p2 p3 = ((-2), v_t_inside, v_t_next, v_t_years, v_t_givenNow, v_t_entered, g_t_had, g_t_given, g_t_wealth, g_t_chart) from by
          unfold f_X10_century
          exact (if_neg c1).trans ((if_pos c2).trans (rfl))]
      exact k_iret C hr hw dX10_century_38
    · replace hok := Eq.mp (if_neg c2) hok
      refine lv_iload_n hx hb dX10_century_24 rfl (lv_at hl 3 rfl) ?_
      refine lv_i2l (v := ((p3).toInt64)) hx hb dX10_century_25 rfl ?_
      refine lv_lconst (v := 0) hx hb dX10_century_26 (by decide) ?_
      refine lv_ldc2 (v := 2) hx hb C.hown (C.hts _ (List.mem_of_getElem? (i := 3) rfl)) dX10_century_27 ?_
      refine k_callS (As := [.long ((p3).toInt64), .long 0, .long 2]) (rest := []) (n := 3) C hw (T_X10_in l D cI cZ ((p3).toInt64) (0 : Int64) (2 : Int64)) gX10_century_X10_in rfl ⟨rfl, rfl⟩ (by decide +kernel) ⟨Nat.le_of_ble_eq_true rfl, Nat.le_of_ble_eq_true rfl⟩ [] rfl rfl [] rfl rfl rfl hl.1 rfl (Nat.le_of_ble_eq_true rfl) ⟨Nat.zero_le _, Nat.zero_le _⟩ dX10_century_30 (fun H locs hw => ?_)
      refine W.eq (g2 := F0 m 33 ls [.int (f_X10_in ((p3).toInt64) (0 : Int64) (2 : Int64))]) rfl ?_
      replace hw : kW D _ s H locs [(a_t, .inr (10, [.ref a_t_wealth, .ref a_t_given, .ref a_t_chart, .ref a_t_relatives, .int v_t_inside, .int v_t_next, .int v_t_years, .ref a_t_sightSet, .ref a_t_sightMany, .int v_t_sights, .ref a_t_digits, .ref a_t_pad, .int v_t_padMany, .ref a_t_act, .ref a_t_who, .ref a_t_whom, .ref a_t_much, .int v_t_acts, .int v_t_givenNow, .int v_t_entered, .ref a_t_had, .int v_t_badAct, .int v_t_badWhy, .int v_t_firstAct, .int v_t_firstHouse, .ref a_t_dues, .ref a_t_groups, .ref a_t_ways, .ref a_t_fit, .int v_t_fitMany, .ref a_t_byMany, .ref a_t_kept, .ref a_t_isKept, .int v_t_keptAt, .int v_t_isWriting])), (a_t_had, .inl (cI, 83, .inl g_t_had)), (a_t_given, .inl (cI, 64, .inl g_t_given)), (a_t_wealth, .inl (cI, 8, .inl g_t_wealth)), (a_t_chart, .inl (cI, 8, .inl g_t_chart))] := hw
      refine lv_if_ne (tgt := 39) hx hb dX10_century_33 (by decide) (fun c3 => ?_) (fun c3 => ?_)
      · replace hok := Eq.mp (if_neg c3) hok
        refine lv_aload_n hx hb dX10_century_39 rfl (lv_at hl 0 rfl) ?_
        obtain ⟨h4, hok⟩ := hok
        refine k_callV (As := []) (rest := []) (n := 0) (CC := RX10) (T := TX10) (N := 35) C hw (T_X10_keepNow l D cI cZ a_t a_t_wealth a_t_given a_t_chart a_t_relatives a_t_sightSet a_t_sightMany a_t_digits a_t_pad a_t_act a_t_who a_t_whom a_t_much a_t_had a_t_dues a_t_groups a_t_ways a_t_fit a_t_byMany a_t_kept a_t_isKept v_t_inside v_t_next v_t_years v_t_sights v_t_padMany v_t_acts v_t_givenNow v_t_entered v_t_badAct v_t_badWhy v_t_firstAct v_t_firstHouse v_t_fitMany v_t_keptAt v_t_isWriting g_t_had g_t_given g_t_wealth g_t_chart h4) gX10_century_X10_keepNow rfl ⟨rfl, rfl⟩ (by decide +kernel) ⟨Nat.le_of_ble_eq_true rfl, Nat.le_of_ble_eq_true rfl⟩ 0 rfl rfl [0, 1, 2, 3, 4] rfl rfl [a_t, a_t_had, a_t_given, a_t_wealth, a_t_chart] rfl rfl rfl hl.1 rfl (Nat.le_of_ble_eq_true rfl) ⟨Nat.zero_le _, Nat.zero_le _⟩ dX10_century_40 (fun H locs hw => ?_)
        obtain ⟨z5, h6⟩ : ∃ z, (f_X10_keepNow v_t_inside v_t_next v_t_years g_t_had g_t_given g_t_wealth g_t_chart) = z := ⟨_, rfl⟩
        refine W.eq (g2 := F0 m 43 ls []) (by subst h6; rfl) ?_
        replace hw := kW_cast (ws' := [(a_t, .inr (10, [.ref a_t_wealth, .ref a_t_given, .ref a_t_chart, .ref a_t_relatives, .int v_t_inside, .int v_t_next, .int v_t_years, .ref a_t_sightSet, .ref a_t_sightMany, .int v_t_sights, .ref a_t_digits, .ref a_t_pad, .int v_t_padMany, .ref a_t_act, .ref a_t_who, .ref a_t_whom, .ref a_t_much, .int v_t_acts, .int v_t_givenNow, .int v_t_entered, .ref a_t_had, .int v_t_badAct, .int v_t_badWhy, .int v_t_firstAct, .int v_t_firstHouse, .ref a_t_dues, .ref a_t_groups, .ref a_t_ways, .ref a_t_fit, .int v_t_fitMany, .ref a_t_byMany, .ref a_t_kept, .ref a_t_isKept, .int v_t_keptAt, .int v_t_isWriting])), (a_t_had, .inl (cI, 83, .inl z5)), (a_t_given, .inl (cI, 64, .inl g_t_given)), (a_t_wealth, .inl (cI, 8, .inl g_t_wealth)), (a_t_chart, .inl (cI, 8, .inl g_t_chart))]) (by subst h6; rfl) hw
        replace hok := Eq.mp (lt_c h6) hok
        refine lv_aload_n hx hb dX10_century_43 rfl (lv_at hl 0 rfl) ?_
        refine lv_iconst (v := 0) hx hb dX10_century_44 (by decide) ?_
        refine k_put C hw (CC := RX10) (T := TX10) (N := 35) (v := .int 0) nX10_century_X10 tyX10_ok nmX10 0 rfl rfl 18 (by decide) (List.mem_of_getElem? (i := 4) rfl) rfl rfl rfl rfl (Nat.le_of_ble_eq_true rfl) dX10_century_45 (fun H locs hw => ?_)
        replace hw : kW D _ s H locs [(a_t, .inr (10, [.ref a_t_wealth, .ref a_t_given, .ref a_t_chart, .ref a_t_relatives, .int v_t_inside, .int v_t_next, .int v_t_years, .ref a_t_sightSet, .ref a_t_sightMany, .int v_t_sights, .ref a_t_digits, .ref a_t_pad, .int v_t_padMany, .ref a_t_act, .ref a_t_who, .ref a_t_whom, .ref a_t_much, .int v_t_acts, .int 0, .int v_t_entered, .ref a_t_had, .int v_t_badAct, .int v_t_badWhy, .int v_t_firstAct, .int v_t_firstHouse, .ref a_t_dues, .ref a_t_groups, .ref a_t_ways, .ref a_t_fit, .int v_t_fitMany, .ref a_t_byMany, .ref a_t_kept, .ref a_t_isKept, .int v_t_keptAt, .int v_t_isWriting])), (a_t_had, .inl (cI, 83, .inl z5)), (a_t_given, .inl (cI, 64, .inl g_t_given)), (a_t_wealth, .inl (cI, 8, .inl g_t_wealth)), (a_t_chart, .inl (cI, 8, .inl g_t_chart))] := hw
        refine lv_iload_n hx hb dX10_century_48 rfl (lv_at hl 1 rfl) ?_
        refine lv_istore (lv' := [(4, .int p1), (0, .ref a_t), (1, .int p1), (2, .int p2), (3, .int p3)]) hx hb dX10_century_49 hl (by decide) rfl (fun ls hl => ?_)
        refine lv_iconst (v := 0) hx hb dX10_century_51 (by decide) ?_
        refine lv_istore (lv' := [(5, .int 0), (4, .int p1), (0, .ref a_t), (1, .int p1), (2, .int p2), (3, .int p3)]) hx hb dX10_century_52 hl (by decide) rfl (fun ls hl => ?_)
        obtain ⟨h18, hok⟩ := hok
        obtain ⟨h19, hok⟩ := hok
        refine l_X10_century_54 a_t a_t_wealth a_t_given a_t_chart a_t_relatives a_t_sightSet a_t_sightMany a_t_digits a_t_pad a_t_act a_t_who a_t_whom a_t_much a_t_had a_t_dues a_t_groups a_t_ways a_t_fit a_t_byMany a_t_kept a_t_isKept p2 p3 v_t_sights v_t_padMany v_t_acts v_t_badAct v_t_badWhy v_t_firstAct v_t_firstHouse v_t_fitMany v_t_keptAt v_t_isWriting z5 C p2.toNatClampNeg (nI_self h18) (clamp_lt _) ((p2.toNatClampNeg) - 0) 0 p1 v_t_inside v_t_next v_t_years (0 : Int32) v_t_entered g_t_given g_t_wealth g_t_chart rfl (by decide) h19 _ _ hw _ (lv_sub hl [2, 4, 5, 1, 0] rfl) (fun H locs ls hw hl => ?_)
        obtain ⟨z20, h21⟩ : ∃ z, (it B_X10_century_54 0 ((p2.toNatClampNeg) - 0) (p1, v_t_inside, v_t_next, v_t_years, (0 : Int32), v_t_entered, g_t_given, g_t_wealth, g_t_chart)) = z := ⟨_, rfl⟩
        replace hw := kW_cast (ws' := [(a_t, .inr (10, [.ref a_t_wealth, .ref a_t_given, .ref a_t_chart, .ref a_t_relatives, .int z20.2.1, .int z20.2.2.1, .int z20.2.2.2.1, .ref a_t_sightSet, .ref a_t_sightMany, .int v_t_sights, .ref a_t_digits, .ref a_t_pad, .int v_t_padMany, .ref a_t_act, .ref a_t_who, .ref a_t_whom, .ref a_t_much, .int v_t_acts, .int z20.2.2.2.2.1, .int z20.2.2.2.2.2.1, .ref a_t_had, .int v_t_badAct, .int v_t_badWhy, .int v_t_firstAct, .int v_t_firstHouse, .ref a_t_dues, .ref a_t_groups, .ref a_t_ways, .ref a_t_fit, .int v_t_fitMany, .ref a_t_byMany, .ref a_t_kept, .ref a_t_isKept, .int v_t_keptAt, .int v_t_isWriting])), (a_t_had, .inl (cI, 83, .inl z5)), (a_t_given, .inl (cI, 64, .inl z20.2.2.2.2.2.2.1)), (a_t_wealth, .inl (cI, 8, .inl z20.2.2.2.2.2.2.2.1)), (a_t_chart, .inl (cI, 8, .inl z20.2.2.2.2.2.2.2.2))]) (by subst h21; rfl) hw
        replace hl : lv_has ls 9 [(0, .ref a_t), (3, .int p3)] := by subst h21; exact hl
        replace hok := Eq.mp (lt_c h21) hok
        refine lv_aload_n hx hb dX10_century_155 rfl (lv_at hl 0 rfl) ?_
        refine lv_iload_n hx hb dX10_century_156 rfl (lv_at hl 1 rfl) ?_
        refine lv_if_ne (tgt := 169) hx hb dX10_century_157 (by decide) (fun c22 => ?_) (fun c22 => ?_)
        · replace hok := Eq.mp (if_neg c22) hok
          refine lv_iload_n hx hb dX10_century_169 rfl (lv_at hl 1 rfl) ?_
          refine lv_iconst (v := 1) hx hb dX10_century_170 (by decide) ?_
          refine lv_icmp_ne (tgt := 181) hx hb dX10_century_171 (by decide) (fun c23 => ?_) (fun c23 => ?_)
          · replace hok := Eq.mp (if_neg c23) hok
            refine lv_aload_n hx hb dX10_century_181 rfl (lv_at hl 0 rfl) ?_
            refine k_get C hw (CC := RX10) (T := TX10) (N := 35) nX10_century_X10 0 rfl rfl 18 (by decide) (List.mem_of_getElem? (i := 4) rfl) rfl rfl dX10_century_182 ?_
            obtain ⟨h24, hok⟩ := hok
            refine k_callV (As := [.int z20.2.2.2.2.1]) (rest := []) (n := 1) (CC := RX10) (T := TX10) (N := 35) C hw (T_X10_back l D cI cZ a_t a_t_wealth a_t_given a_t_chart a_t_relatives a_t_sightSet a_t_sightMany a_t_digits a_t_pad a_t_act a_t_who a_t_whom a_t_much a_t_had a_t_dues a_t_groups a_t_ways a_t_fit a_t_byMany a_t_kept a_t_isKept z20.2.1 z20.2.2.1 z20.2.2.2.1 v_t_sights v_t_padMany v_t_acts z20.2.2.2.2.1 z20.2.2.2.2.2.1 v_t_badAct v_t_badWhy v_t_firstAct v_t_firstHouse v_t_fitMany v_t_keptAt v_t_isWriting z5 z20.2.2.2.2.2.2.1 z20.2.2.2.2.2.2.2.1 z20.2.2.2.2.2.2.2.2 z20.2.2.2.2.1 h24) gX10_century_X10_back rfl ⟨rfl, rfl⟩ (by decide +kernel) ⟨Nat.le_of_ble_eq_true rfl, Nat.le_of_ble_eq_true rfl⟩ 0 rfl rfl [0, 1, 2, 3, 4] rfl rfl [a_t, a_t_had, a_t_given, a_t_wealth, a_t_chart] rfl rfl rfl hl.1 rfl (Nat.le_of_ble_eq_true rfl) ⟨Nat.zero_le _, Nat.zero_le _⟩ dX10_century_185 (fun H locs hw => ?_)
            obtain ⟨z25, h26⟩ : ∃ z, (f_X10_back z5 z20.2.2.2.2.2.2.1 z20.2.2.2.2.2.2.2.1 z20.2.2.2.2.2.2.2.2 z20.2.2.2.2.1) = z := ⟨_, rfl⟩
            refine W.eq (g2 := F0 m 188 ls [.int z25.1]) (by subst h26; rfl) ?_
            replace hw := kW_cast (ws' := [(a_t, .inr (10, [.ref a_t_wealth, .ref a_t_given, .ref a_t_chart, .ref a_t_relatives, .int z25.2.1, .int z25.2.2.1, .int z25.2.2.2.1, .ref a_t_sightSet, .ref a_t_sightMany, .int v_t_sights, .ref a_t_digits, .ref a_t_pad, .int v_t_padMany, .ref a_t_act, .ref a_t_who, .ref a_t_whom, .ref a_t_much, .int v_t_acts, .int z20.2.2.2.2.1, .int z20.2.2.2.2.2.1, .ref a_t_had, .int v_t_badAct, .int v_t_badWhy, .int v_t_firstAct, .int v_t_firstHouse, .ref a_t_dues, .ref a_t_groups, .ref a_t_ways, .ref a_t_fit, .int v_t_fitMany, .ref a_t_byMany, .ref a_t_kept, .ref a_t_isKept, .int v_t_keptAt, .int v_t_isWriting])), (a_t_had, .inl (cI, 83, .inl z5)), (a_t_given, .inl (cI, 64, .inl z25.2.2.2.2.1)), (a_t_wealth, .inl (cI, 8, .inl z25.2.2.2.2.2.1)), (a_t_chart, .inl (cI, 8, .inl z25.2.2.2.2.2.2))]) (by subst h26; rfl) hw
            rw [show f_X10_century v_t_inside v_t_next v_t_years v_t_givenNow v_t_entered g_t_had g_t_given g_t_wealth g_t_chart p1 p2 p3 = (z25.1, z25.2.1, z25.2.2.1, z25.2.2.2.1, z20.2.2.2.2.1, z20.2.2.2.2.2.1, z5, z25.2.2.2.2.1, z25.2.2.2.2.2.1, z25.2.2.2.2.2.2) from by
                unfold f_X10_century
                exact (if_neg c1).trans ((if_neg c2).trans ((if_neg c3).trans ((lt_c h6).trans ((lt_c h21).trans ((if_neg c22).trans ((if_neg c23).trans ((lt_c h26).trans (rfl))))))))]
            exact k_iret C hr hw dX10_century_188
          · replace hok := Eq.mp (if_pos c23) hok
            refine lv_aload_n hx hb dX10_century_174 rfl (lv_at hl 0 rfl) ?_
            refine k_get C hw (CC := RX10) (T := TX10) (N := 35) nX10_century_X10 0 rfl rfl 4 (by decide) (List.mem_of_getElem? (i := 9) rfl) rfl rfl dX10_century_175 ?_
            refine lv_goto (tgt := 185) hx hb dX10_century_178 (by decide) ?_
            obtain ⟨h27, hok⟩ := hok
            refine k_callV (As := [.int z20.2.1]) (rest := []) (n := 1) (CC := RX10) (T := TX10) (N := 35) C hw (T_X10_back l D cI cZ a_t a_t_wealth a_t_given a_t_chart a_t_relatives a_t_sightSet a_t_sightMany a_t_digits a_t_pad a_t_act a_t_who a_t_whom a_t_much a_t_had a_t_dues a_t_groups a_t_ways a_t_fit a_t_byMany a_t_kept a_t_isKept z20.2.1 z20.2.2.1 z20.2.2.2.1 v_t_sights v_t_padMany v_t_acts z20.2.2.2.2.1 z20.2.2.2.2.2.1 v_t_badAct v_t_badWhy v_t_firstAct v_t_firstHouse v_t_fitMany v_t_keptAt v_t_isWriting z5 z20.2.2.2.2.2.2.1 z20.2.2.2.2.2.2.2.1 z20.2.2.2.2.2.2.2.2 z20.2.1 h27) gX10_century_X10_back rfl ⟨rfl, rfl⟩ (by decide +kernel) ⟨Nat.le_of_ble_eq_true rfl, Nat.le_of_ble_eq_true rfl⟩ 0 rfl rfl [0, 1, 2, 3, 4] rfl rfl [a_t, a_t_had, a_t_given, a_t_wealth, a_t_chart] rfl rfl rfl hl.1 rfl (Nat.le_of_ble_eq_true rfl) ⟨Nat.zero_le _, Nat.zero_le _⟩ dX10_century_185 (fun H locs hw => ?_)
            obtain ⟨z28, h29⟩ : ∃ z, (f_X10_back z5 z20.2.2.2.2.2.2.1 z20.2.2.2.2.2.2.2.1 z20.2.2.2.2.2.2.2.2 z20.2.1) = z := ⟨_, rfl⟩
            refine W.eq (g2 := F0 m 188 ls [.int z28.1]) (by subst h29; rfl) ?_
            replace hw := kW_cast (ws' := [(a_t, .inr (10, [.ref a_t_wealth, .ref a_t_given, .ref a_t_chart, .ref a_t_relatives, .int z28.2.1, .int z28.2.2.1, .int z28.2.2.2.1, .ref a_t_sightSet, .ref a_t_sightMany, .int v_t_sights, .ref a_t_digits, .ref a_t_pad, .int v_t_padMany, .ref a_t_act, .ref a_t_who, .ref a_t_whom, .ref a_t_much, .int v_t_acts, .int z20.2.2.2.2.1, .int z20.2.2.2.2.2.1, .ref a_t_had, .int v_t_badAct, .int v_t_badWhy, .int v_t_firstAct, .int v_t_firstHouse, .ref a_t_dues, .ref a_t_groups, .ref a_t_ways, .ref a_t_fit, .int v_t_fitMany, .ref a_t_byMany, .ref a_t_kept, .ref a_t_isKept, .int v_t_keptAt, .int v_t_isWriting])), (a_t_had, .inl (cI, 83, .inl z5)), (a_t_given, .inl (cI, 64, .inl z28.2.2.2.2.1)), (a_t_wealth, .inl (cI, 8, .inl z28.2.2.2.2.2.1)), (a_t_chart, .inl (cI, 8, .inl z28.2.2.2.2.2.2))]) (by subst h29; rfl) hw
            rw [show f_X10_century v_t_inside v_t_next v_t_years v_t_givenNow v_t_entered g_t_had g_t_given g_t_wealth g_t_chart p1 p2 p3 = (z28.1, z28.2.1, z28.2.2.1, z28.2.2.2.1, z20.2.2.2.2.1, z20.2.2.2.2.2.1, z5, z28.2.2.2.2.1, z28.2.2.2.2.2.1, z28.2.2.2.2.2.2) from by
                unfold f_X10_century
                exact (if_neg c1).trans ((if_neg c2).trans ((if_neg c3).trans ((lt_c h6).trans ((lt_c h21).trans ((if_neg c22).trans ((if_pos c23).trans ((lt_c h29).trans (rfl))))))))]
            exact k_iret C hr hw dX10_century_188
        · replace hok := Eq.mp (if_pos c22) hok
          refine lv_aload_n hx hb dX10_century_160 rfl (lv_at hl 0 rfl) ?_
          refine k_get C hw (CC := RX10) (T := TX10) (N := 35) nX10_century_X10 0 rfl rfl 0 (by decide) (List.mem_of_getElem? (i := 8) rfl) rfl rfl dX10_century_161 ?_
          refine lv_iconst (v := 0) hx hb dX10_century_164 (by decide) ?_
          refine k_ialdN C hw 3 rfl 0 rfl (by decide) (by decide) dX10_century_165 ?_
          refine lv_goto (tgt := 185) hx hb dX10_century_166 (by decide) ?_
          obtain ⟨h30, hok⟩ := hok
          refine k_callV (As := [.int (z20.2.2.2.2.2.2.2.1 0)]) (rest := []) (n := 1) (CC := RX10) (T := TX10) (N := 35) C hw (T_X10_back l D cI cZ a_t a_t_wealth a_t_given a_t_chart a_t_relatives a_t_sightSet a_t_sightMany a_t_digits a_t_pad a_t_act a_t_who a_t_whom a_t_much a_t_had a_t_dues a_t_groups a_t_ways a_t_fit a_t_byMany a_t_kept a_t_isKept z20.2.1 z20.2.2.1 z20.2.2.2.1 v_t_sights v_t_padMany v_t_acts z20.2.2.2.2.1 z20.2.2.2.2.2.1 v_t_badAct v_t_badWhy v_t_firstAct v_t_firstHouse v_t_fitMany v_t_keptAt v_t_isWriting z5 z20.2.2.2.2.2.2.1 z20.2.2.2.2.2.2.2.1 z20.2.2.2.2.2.2.2.2 (z20.2.2.2.2.2.2.2.1 0) h30) gX10_century_X10_back rfl ⟨rfl, rfl⟩ (by decide +kernel) ⟨Nat.le_of_ble_eq_true rfl, Nat.le_of_ble_eq_true rfl⟩ 0 rfl rfl [0, 1, 2, 3, 4] rfl rfl [a_t, a_t_had, a_t_given, a_t_wealth, a_t_chart] rfl rfl rfl hl.1 rfl (Nat.le_of_ble_eq_true rfl) ⟨Nat.zero_le _, Nat.zero_le _⟩ dX10_century_185 (fun H locs hw => ?_)
          obtain ⟨z31, h32⟩ : ∃ z, (f_X10_back z5 z20.2.2.2.2.2.2.1 z20.2.2.2.2.2.2.2.1 z20.2.2.2.2.2.2.2.2 (z20.2.2.2.2.2.2.2.1 0)) = z := ⟨_, rfl⟩
          refine W.eq (g2 := F0 m 188 ls [.int z31.1]) (by subst h32; rfl) ?_
          replace hw := kW_cast (ws' := [(a_t, .inr (10, [.ref a_t_wealth, .ref a_t_given, .ref a_t_chart, .ref a_t_relatives, .int z31.2.1, .int z31.2.2.1, .int z31.2.2.2.1, .ref a_t_sightSet, .ref a_t_sightMany, .int v_t_sights, .ref a_t_digits, .ref a_t_pad, .int v_t_padMany, .ref a_t_act, .ref a_t_who, .ref a_t_whom, .ref a_t_much, .int v_t_acts, .int z20.2.2.2.2.1, .int z20.2.2.2.2.2.1, .ref a_t_had, .int v_t_badAct, .int v_t_badWhy, .int v_t_firstAct, .int v_t_firstHouse, .ref a_t_dues, .ref a_t_groups, .ref a_t_ways, .ref a_t_fit, .int v_t_fitMany, .ref a_t_byMany, .ref a_t_kept, .ref a_t_isKept, .int v_t_keptAt, .int v_t_isWriting])), (a_t_had, .inl (cI, 83, .inl z5)), (a_t_given, .inl (cI, 64, .inl z31.2.2.2.2.1)), (a_t_wealth, .inl (cI, 8, .inl z31.2.2.2.2.2.1)), (a_t_chart, .inl (cI, 8, .inl z31.2.2.2.2.2.2))]) (by subst h32; rfl) hw
          rw [show f_X10_century v_t_inside v_t_next v_t_years v_t_givenNow v_t_entered g_t_had g_t_given g_t_wealth g_t_chart p1 p2 p3 = (z31.1, z31.2.1, z31.2.2.1, z31.2.2.2.1, z20.2.2.2.2.1, z20.2.2.2.2.2.1, z5, z31.2.2.2.2.1, z31.2.2.2.2.2.1, z31.2.2.2.2.2.2) from by
              unfold f_X10_century
              exact (if_neg c1).trans ((if_neg c2).trans ((if_neg c3).trans ((lt_c h6).trans ((lt_c h21).trans ((if_pos c22).trans ((lt_c h32).trans (rfl)))))))]
          exact k_iret C hr hw dX10_century_188
      · refine lv_bipush (v := (-2)) hx hb dX10_century_36 (by decide) ?_
        rw [show f_X10_century v_t_inside v_t_next v_t_years v_t_givenNow v_t_entered g_t_had g_t_given g_t_wealth g_t_chart p1 p2 p3 = ((-2), v_t_inside, v_t_next, v_t_years, v_t_givenNow, v_t_entered, g_t_had, g_t_given, g_t_wealth, g_t_chart) from by
            unfold f_X10_century
            exact (if_neg c1).trans ((if_neg c2).trans ((if_pos c3).trans (rfl)))]
        exact k_iret C hr hw dX10_century_38

theorem nX10_pass_X10 : ∀ w ∈ wsX100, w ∈ wsX10_pass := fun _ h => List.mem_cons_of_mem _ (List.mem_append_right _ h)
def f_X10_pass (v_t_keptAt : Int32) (v_t_isWriting : Int32) (g_t_kept : (Nat → Int32)) (p1 : Int32) : Int32 × Int32 × (Nat → Int32) := (if v_t_isWriting = 0 then ((g_t_kept v_t_keptAt.toNatClampNeg), (v_t_keptAt + 1), (upd g_t_kept v_t_keptAt.toNatClampNeg (g_t_kept v_t_keptAt.toNatClampNeg))) else (p1, (v_t_keptAt + 1), (upd g_t_kept v_t_keptAt.toNatClampNeg p1)))
def o_X10_pass (v_t_keptAt : Int32) (v_t_isWriting : Int32) : Prop := (if v_t_isWriting = 0 then ((vp_in v_t_keptAt 240) ∧ ((vp_in v_t_keptAt 240) ∧ True)) else ((vp_in v_t_keptAt 240) ∧ True))
set_option maxHeartbeats 4000000 in
set_option maxRecDepth 100000 in
theorem T_X10_pass (l : Launch) (D : va_G) (cI cZ : ClassId) (a_t a_t_wealth a_t_given a_t_chart a_t_relatives a_t_sightSet a_t_sightMany a_t_digits a_t_pad a_t_act a_t_who a_t_whom a_t_much a_t_had a_t_dues a_t_groups a_t_ways a_t_fit a_t_byMany a_t_kept a_t_isKept : Nat) (v_t_inside : Int32) (v_t_next : Int32) (v_t_years : Int32) (v_t_sights : Int32) (v_t_padMany : Int32) (v_t_acts : Int32) (v_t_givenNow : Int32) (v_t_entered : Int32) (v_t_badAct : Int32) (v_t_badWhy : Int32) (v_t_firstAct : Int32) (v_t_firstHouse : Int32) (v_t_fitMany : Int32) (v_t_keptAt : Int32) (v_t_isWriting : Int32) (g_t_kept : (Nat → Int32)) (p1 : Int32) (hok : o_X10_pass v_t_keptAt v_t_isWriting) : CT l D cI cZ yX10_pass wsX10_pass ({ frames := 0, cells := 0, slots := 0, locals := 0 }) [.ref a_t, .int p1] [(a_t, .inr (10, [.ref a_t_wealth, .ref a_t_given, .ref a_t_chart, .ref a_t_relatives, .int v_t_inside, .int v_t_next, .int v_t_years, .ref a_t_sightSet, .ref a_t_sightMany, .int v_t_sights, .ref a_t_digits, .ref a_t_pad, .int v_t_padMany, .ref a_t_act, .ref a_t_who, .ref a_t_whom, .ref a_t_much, .int v_t_acts, .int v_t_givenNow, .int v_t_entered, .ref a_t_had, .int v_t_badAct, .int v_t_badWhy, .int v_t_firstAct, .int v_t_firstHouse, .ref a_t_dues, .ref a_t_groups, .ref a_t_ways, .ref a_t_fit, .int v_t_fitMany, .ref a_t_byMany, .ref a_t_kept, .ref a_t_isKept, .int v_t_keptAt, .int v_t_isWriting])), (a_t_kept, .inl (cI, 240, .inl g_t_kept))] (some (.int (f_X10_pass v_t_keptAt v_t_isWriting g_t_kept p1).1)) [(a_t, .inr (10, [.ref a_t_wealth, .ref a_t_given, .ref a_t_chart, .ref a_t_relatives, .int v_t_inside, .int v_t_next, .int v_t_years, .ref a_t_sightSet, .ref a_t_sightMany, .int v_t_sights, .ref a_t_digits, .ref a_t_pad, .int v_t_padMany, .ref a_t_act, .ref a_t_who, .ref a_t_whom, .ref a_t_much, .int v_t_acts, .int v_t_givenNow, .int v_t_entered, .ref a_t_had, .int v_t_badAct, .int v_t_badWhy, .int v_t_firstAct, .int v_t_firstHouse, .ref a_t_dues, .ref a_t_groups, .ref a_t_ways, .ref a_t_fit, .int v_t_fitMany, .ref a_t_byMany, .ref a_t_kept, .ref a_t_isKept, .int (f_X10_pass v_t_keptAt v_t_isWriting g_t_kept p1).2.1, .int v_t_isWriting])), (a_t_kept, .inl (cI, 240, .inl (f_X10_pass v_t_keptAt v_t_isWriting g_t_kept p1).2.2))] := by
  refine CT.intro RX10 (by decide) rfl (Nat.le_of_ble_eq_true rfl) rfl ?_
  intro p e s m below meth c C hr hw ls hl
  have hx := C.hx
  have hb := C.hb
  replace hl : lv_has ls 3 [(0, .ref a_t), (1, .int p1)] := hl
  refine lv_aload_n hx hb dX10_pass_0 rfl (lv_at hl 0 rfl) ?_
  refine k_get C hw (CC := RX10) (T := TX10) (N := 35) nX10_pass_X10 0 rfl rfl 34 (by decide) (List.mem_of_getElem? (i := 1) rfl) rfl rfl dX10_pass_1 ?_
  refine lv_if_eq (tgt := 11) hx hb dX10_pass_4 (by decide) (fun c1 => ?_) (fun c1 => ?_)
  · replace hok := Eq.mp (if_pos c1) hok
    refine lv_aload_n hx hb dX10_pass_11 rfl (lv_at hl 0 rfl) ?_
    refine k_get C hw (CC := RX10) (T := TX10) (N := 35) nX10_pass_X10 0 rfl rfl 31 (by decide) (List.mem_of_getElem? (i := 2) rfl) rfl rfl dX10_pass_12 ?_
    refine lv_aload_n hx hb dX10_pass_15 rfl (lv_at hl 0 rfl) ?_
    refine k_get C hw (CC := RX10) (T := TX10) (N := 35) nX10_pass_X10 0 rfl rfl 33 (by decide) (List.mem_of_getElem? (i := 3) rfl) rfl rfl dX10_pass_16 ?_
    obtain ⟨h2, hok⟩ := hok
    refine k_iald C hw 1 rfl h2 dX10_pass_19 ?_
    refine lv_istore_n (lv' := [(2, .int (g_t_kept v_t_keptAt.toNatClampNeg)), (0, .ref a_t), (1, .int p1)]) hx hb dX10_pass_20 rfl hl (by decide) rfl (fun ls hl => ?_)
    refine lv_aload_n hx hb dX10_pass_21 rfl (lv_at hl 1 rfl) ?_
    refine k_get C hw (CC := RX10) (T := TX10) (N := 35) nX10_pass_X10 0 rfl rfl 31 (by decide) (List.mem_of_getElem? (i := 2) rfl) rfl rfl dX10_pass_22 ?_
    refine lv_aload_n hx hb dX10_pass_25 rfl (lv_at hl 1 rfl) ?_
    refine k_get C hw (CC := RX10) (T := TX10) (N := 35) nX10_pass_X10 0 rfl rfl 33 (by decide) (List.mem_of_getElem? (i := 3) rfl) rfl rfl dX10_pass_26 ?_
    refine lv_iload_n hx hb dX10_pass_29 rfl (lv_at hl 0 rfl) ?_
    obtain ⟨h3, hok⟩ := hok
    refine k_iast C hw 1 rfl h3 dX10_pass_30 (fun H locs hw => ?_)
    replace hw : kW D _ s H locs [(a_t, .inr (10, [.ref a_t_wealth, .ref a_t_given, .ref a_t_chart, .ref a_t_relatives, .int v_t_inside, .int v_t_next, .int v_t_years, .ref a_t_sightSet, .ref a_t_sightMany, .int v_t_sights, .ref a_t_digits, .ref a_t_pad, .int v_t_padMany, .ref a_t_act, .ref a_t_who, .ref a_t_whom, .ref a_t_much, .int v_t_acts, .int v_t_givenNow, .int v_t_entered, .ref a_t_had, .int v_t_badAct, .int v_t_badWhy, .int v_t_firstAct, .int v_t_firstHouse, .ref a_t_dues, .ref a_t_groups, .ref a_t_ways, .ref a_t_fit, .int v_t_fitMany, .ref a_t_byMany, .ref a_t_kept, .ref a_t_isKept, .int v_t_keptAt, .int v_t_isWriting])), (a_t_kept, .inl (cI, 240, .inl (upd g_t_kept v_t_keptAt.toNatClampNeg (g_t_kept v_t_keptAt.toNatClampNeg))))] := hw
    refine lv_aload_n hx hb dX10_pass_31 rfl (lv_at hl 1 rfl) ?_
    refine lv_dup hx hb dX10_pass_32 rfl ?_
    refine k_get C hw (CC := RX10) (T := TX10) (N := 35) nX10_pass_X10 0 rfl rfl 33 (by decide) (List.mem_of_getElem? (i := 3) rfl) rfl rfl dX10_pass_33 ?_
    refine lv_iconst (v := 1) hx hb dX10_pass_36 (by decide) ?_
    refine lv_iadd hx hb dX10_pass_37 ?_
    refine k_put C hw (CC := RX10) (T := TX10) (N := 35) (v := .int (v_t_keptAt + 1)) nX10_pass_X10 tyX10_ok nmX10 0 rfl rfl 33 (by decide) (List.mem_of_getElem? (i := 3) rfl) rfl rfl rfl rfl (Nat.le_of_ble_eq_true rfl) dX10_pass_38 (fun H locs hw => ?_)
    replace hw : kW D _ s H locs [(a_t, .inr (10, [.ref a_t_wealth, .ref a_t_given, .ref a_t_chart, .ref a_t_relatives, .int v_t_inside, .int v_t_next, .int v_t_years, .ref a_t_sightSet, .ref a_t_sightMany, .int v_t_sights, .ref a_t_digits, .ref a_t_pad, .int v_t_padMany, .ref a_t_act, .ref a_t_who, .ref a_t_whom, .ref a_t_much, .int v_t_acts, .int v_t_givenNow, .int v_t_entered, .ref a_t_had, .int v_t_badAct, .int v_t_badWhy, .int v_t_firstAct, .int v_t_firstHouse, .ref a_t_dues, .ref a_t_groups, .ref a_t_ways, .ref a_t_fit, .int v_t_fitMany, .ref a_t_byMany, .ref a_t_kept, .ref a_t_isKept, .int (v_t_keptAt + 1), .int v_t_isWriting])), (a_t_kept, .inl (cI, 240, .inl (upd g_t_kept v_t_keptAt.toNatClampNeg (g_t_kept v_t_keptAt.toNatClampNeg))))] := hw
    refine lv_iload_n hx hb dX10_pass_41 rfl (lv_at hl 0 rfl) ?_
    rw [show f_X10_pass v_t_keptAt v_t_isWriting g_t_kept p1 = ((g_t_kept v_t_keptAt.toNatClampNeg), (v_t_keptAt + 1), (upd g_t_kept v_t_keptAt.toNatClampNeg (g_t_kept v_t_keptAt.toNatClampNeg))) from by
        unfold f_X10_pass
        exact (if_pos c1).trans (rfl)]
    exact k_iret C hr hw dX10_pass_42
  · replace hok := Eq.mp (if_neg c1) hok
    refine lv_iload_n hx hb dX10_pass_7 rfl (lv_at hl 1 rfl) ?_
    refine lv_goto (tgt := 20) hx hb dX10_pass_8 (by decide) ?_
    refine lv_istore_n (lv' := [(2, .int p1), (0, .ref a_t), (1, .int p1)]) hx hb dX10_pass_20 rfl hl (by decide) rfl (fun ls hl => ?_)
    refine lv_aload_n hx hb dX10_pass_21 rfl (lv_at hl 1 rfl) ?_
    refine k_get C hw (CC := RX10) (T := TX10) (N := 35) nX10_pass_X10 0 rfl rfl 31 (by decide) (List.mem_of_getElem? (i := 2) rfl) rfl rfl dX10_pass_22 ?_
    refine lv_aload_n hx hb dX10_pass_25 rfl (lv_at hl 1 rfl) ?_
    refine k_get C hw (CC := RX10) (T := TX10) (N := 35) nX10_pass_X10 0 rfl rfl 33 (by decide) (List.mem_of_getElem? (i := 3) rfl) rfl rfl dX10_pass_26 ?_
    refine lv_iload_n hx hb dX10_pass_29 rfl (lv_at hl 0 rfl) ?_
    obtain ⟨h4, hok⟩ := hok
    refine k_iast C hw 1 rfl h4 dX10_pass_30 (fun H locs hw => ?_)
    replace hw : kW D _ s H locs [(a_t, .inr (10, [.ref a_t_wealth, .ref a_t_given, .ref a_t_chart, .ref a_t_relatives, .int v_t_inside, .int v_t_next, .int v_t_years, .ref a_t_sightSet, .ref a_t_sightMany, .int v_t_sights, .ref a_t_digits, .ref a_t_pad, .int v_t_padMany, .ref a_t_act, .ref a_t_who, .ref a_t_whom, .ref a_t_much, .int v_t_acts, .int v_t_givenNow, .int v_t_entered, .ref a_t_had, .int v_t_badAct, .int v_t_badWhy, .int v_t_firstAct, .int v_t_firstHouse, .ref a_t_dues, .ref a_t_groups, .ref a_t_ways, .ref a_t_fit, .int v_t_fitMany, .ref a_t_byMany, .ref a_t_kept, .ref a_t_isKept, .int v_t_keptAt, .int v_t_isWriting])), (a_t_kept, .inl (cI, 240, .inl (upd g_t_kept v_t_keptAt.toNatClampNeg p1)))] := hw
    refine lv_aload_n hx hb dX10_pass_31 rfl (lv_at hl 1 rfl) ?_
    refine lv_dup hx hb dX10_pass_32 rfl ?_
    refine k_get C hw (CC := RX10) (T := TX10) (N := 35) nX10_pass_X10 0 rfl rfl 33 (by decide) (List.mem_of_getElem? (i := 3) rfl) rfl rfl dX10_pass_33 ?_
    refine lv_iconst (v := 1) hx hb dX10_pass_36 (by decide) ?_
    refine lv_iadd hx hb dX10_pass_37 ?_
    refine k_put C hw (CC := RX10) (T := TX10) (N := 35) (v := .int (v_t_keptAt + 1)) nX10_pass_X10 tyX10_ok nmX10 0 rfl rfl 33 (by decide) (List.mem_of_getElem? (i := 3) rfl) rfl rfl rfl rfl (Nat.le_of_ble_eq_true rfl) dX10_pass_38 (fun H locs hw => ?_)
    replace hw : kW D _ s H locs [(a_t, .inr (10, [.ref a_t_wealth, .ref a_t_given, .ref a_t_chart, .ref a_t_relatives, .int v_t_inside, .int v_t_next, .int v_t_years, .ref a_t_sightSet, .ref a_t_sightMany, .int v_t_sights, .ref a_t_digits, .ref a_t_pad, .int v_t_padMany, .ref a_t_act, .ref a_t_who, .ref a_t_whom, .ref a_t_much, .int v_t_acts, .int v_t_givenNow, .int v_t_entered, .ref a_t_had, .int v_t_badAct, .int v_t_badWhy, .int v_t_firstAct, .int v_t_firstHouse, .ref a_t_dues, .ref a_t_groups, .ref a_t_ways, .ref a_t_fit, .int v_t_fitMany, .ref a_t_byMany, .ref a_t_kept, .ref a_t_isKept, .int (v_t_keptAt + 1), .int v_t_isWriting])), (a_t_kept, .inl (cI, 240, .inl (upd g_t_kept v_t_keptAt.toNatClampNeg p1)))] := hw
    refine lv_iload_n hx hb dX10_pass_41 rfl (lv_at hl 0 rfl) ?_
    rw [show f_X10_pass v_t_keptAt v_t_isWriting g_t_kept p1 = (p1, (v_t_keptAt + 1), (upd g_t_kept v_t_keptAt.toNatClampNeg p1)) from by
        unfold f_X10_pass
        exact (if_neg c1).trans (rfl)]
    exact k_iret C hr hw dX10_pass_42

def B_X10_passRow_8_2 (v_t_isWriting : Int32) (j : Nat) (v : (Nat → Int32) × Int32 × (Nat → Int32)) : (Nat → Int32) × Int32 × (Nat → Int32) := (lt (f_X10_pass v.2.1 v_t_isWriting v.2.2 (v.1 j)) (fun z4 => ((upd v.1 j z4.1), z4.2.1, z4.2.2)))
def oB_X10_passRow_8_2 (v_t_isWriting : Int32) (j : Nat) (v : (Nat → Int32) × Int32 × (Nat → Int32)) : Prop := ((j < 8) ∧ ((o_X10_pass v.2.1 v_t_isWriting) ∧ (lt (f_X10_pass v.2.1 v_t_isWriting v.2.2 (v.1 j)) (fun z4 => ((j < 8) ∧ True)))))
set_option maxHeartbeats 4000000 in
set_option maxRecDepth 100000 in
theorem l_X10_passRow_8_2 {p : Program} {l : Launch} {e : Env} {s : State} {m : MethodId} {args : Array Value} {below : List Frame} {meth : Method} {c : Code} {D : va_G} {cI cZ : ClassId} {Q : State → Prop} {A : Nat → Prop} (a_r1 a_t a_t_wealth a_t_given a_t_chart a_t_relatives a_t_sightSet a_t_sightMany a_t_digits a_t_pad a_t_act a_t_who a_t_whom a_t_much a_t_had a_t_dues a_t_groups a_t_ways a_t_fit a_t_byMany a_t_kept a_t_isKept : Nat) (x2 : Int32) (v_t_inside : Int32) (v_t_next : Int32) (v_t_years : Int32) (v_t_sights : Int32) (v_t_padMany : Int32) (v_t_acts : Int32) (v_t_givenNow : Int32) (v_t_entered : Int32) (v_t_badAct : Int32) (v_t_badWhy : Int32) (v_t_firstAct : Int32) (v_t_firstHouse : Int32) (v_t_fitMany : Int32) (v_t_isWriting : Int32) (C : kC p s m args meth c cX10_passRow 4 wsX10_passRow RX10 D cI cZ A) (b : Nat) (hB : x2 = nI b) (hb31 : b < 2147483648) : ∀ (n j : Nat) (g_r1 : (Nat → Int32)) (v_t_keptAt : Int32) (g_t_kept : (Nat → Int32)), n = b - j → j < 2147483648 → itA (oB_X10_passRow_8_2 v_t_isWriting) (B_X10_passRow_8_2 v_t_isWriting) j n (g_r1, v_t_keptAt, g_t_kept) → ∀ (H : Heap) (locs : List Loc), kW D A s H locs [(a_r1, .inl (cI, 8, .inl g_r1)), (a_t, .inr (10, [.ref a_t_wealth, .ref a_t_given, .ref a_t_chart, .ref a_t_relatives, .int v_t_inside, .int v_t_next, .int v_t_years, .ref a_t_sightSet, .ref a_t_sightMany, .int v_t_sights, .ref a_t_digits, .ref a_t_pad, .int v_t_padMany, .ref a_t_act, .ref a_t_who, .ref a_t_whom, .ref a_t_much, .int v_t_acts, .int v_t_givenNow, .int v_t_entered, .ref a_t_had, .int v_t_badAct, .int v_t_badWhy, .int v_t_firstAct, .int v_t_firstHouse, .ref a_t_dues, .ref a_t_groups, .ref a_t_ways, .ref a_t_fit, .int v_t_fitMany, .ref a_t_byMany, .ref a_t_kept, .ref a_t_isKept, .int v_t_keptAt, .int v_t_isWriting])), (a_t_kept, .inl (cI, 240, .inl g_t_kept))] → ∀ (ls : Array Slot), lv_has ls 4 [(0, .ref a_t), (1, .ref a_r1), (2, .int x2), (3, .int (nI j))] → (∀ (H : Heap) (locs : List Loc) (ls : Array Slot), kW D A s H locs [(a_r1, .inl (cI, 8, .inl (it (B_X10_passRow_8_2 v_t_isWriting) j n (g_r1, v_t_keptAt, g_t_kept)).1)), (a_t, .inr (10, [.ref a_t_wealth, .ref a_t_given, .ref a_t_chart, .ref a_t_relatives, .int v_t_inside, .int v_t_next, .int v_t_years, .ref a_t_sightSet, .ref a_t_sightMany, .int v_t_sights, .ref a_t_digits, .ref a_t_pad, .int v_t_padMany, .ref a_t_act, .ref a_t_who, .ref a_t_whom, .ref a_t_much, .int v_t_acts, .int v_t_givenNow, .int v_t_entered, .ref a_t_had, .int v_t_badAct, .int v_t_badWhy, .int v_t_firstAct, .int v_t_firstHouse, .ref a_t_dues, .ref a_t_groups, .ref a_t_ways, .ref a_t_fit, .int v_t_fitMany, .ref a_t_byMany, .ref a_t_kept, .ref a_t_isKept, .int (it (B_X10_passRow_8_2 v_t_isWriting) j n (g_r1, v_t_keptAt, g_t_kept)).2.1, .int v_t_isWriting])), (a_t_kept, .inl (cI, 240, .inl (it (B_X10_passRow_8_2 v_t_isWriting) j n (g_r1, v_t_keptAt, g_t_kept)).2.2))] → lv_has ls 4 [] → W p l e ({ frames := 1, cells := 0, slots := 0, locals := 22 }) s m args below meth c H locs 0 0 Q (F0 m 23 ls [])) → W p l e ({ frames := 1, cells := 0, slots := 0, locals := 22 }) s m args below meth c H locs 0 0 Q (F0 m 2 ls []) := by
  have hx := C.hx
  have hb := C.hb
  intro n
  induction n with
  | zero =>
    intro j g_r1 v_t_keptAt g_t_kept hn hj hok0 H locs hw ls hl kk
    refine lv_iload_n hx hb dX10_passRow_2 rfl (lv_at hl 3 rfl) ?_
    refine lv_iload_n hx hb dX10_passRow_3 rfl (lv_at hl 2 rfl) ?_
    refine lv_icmp_ge (tgt := 23) hx hb dX10_passRow_4 (by decide) (fun c7 => ?_) (fun c7 => by rw [hB] at c7; exact absurd (nI_le (a := b) (b := j) (by omega) (by omega)) c7)
    exact kk _ _ _ hw (lv_sub hl [] rfl)
  | succ n ih =>
    intro j g_r1 v_t_keptAt g_t_kept hn hj hok0 H locs hw ls hl kk
    have hok := hok0.1
    refine lv_iload_n hx hb dX10_passRow_2 rfl (lv_at hl 3 rfl) ?_
    refine lv_iload_n hx hb dX10_passRow_3 rfl (lv_at hl 2 rfl) ?_
    refine lv_icmp_ge (tgt := 23) hx hb dX10_passRow_4 (by decide) (fun c1 => by rw [hB] at c1; exact absurd c1 (nI_ge (a := j) (b := b) (by omega) (by omega))) (fun c1 => ?_)
    refine lv_aload_n hx hb dX10_passRow_7 rfl (lv_at hl 1 rfl) ?_
    refine lv_iload_n hx hb dX10_passRow_8 rfl (lv_at hl 3 rfl) ?_
    refine lv_aload_n hx hb dX10_passRow_9 rfl (lv_at hl 0 rfl) ?_
    refine lv_aload_n hx hb dX10_passRow_10 rfl (lv_at hl 1 rfl) ?_
    refine lv_iload_n hx hb dX10_passRow_11 rfl (lv_at hl 3 rfl) ?_
    obtain ⟨h2, hok⟩ := hok
    refine k_ialdN C hw 0 rfl j rfl h2 (by decide) dX10_passRow_12 ?_
    obtain ⟨h3, hok⟩ := hok
    refine k_callV (As := [.int (g_r1 j)]) (rest := [.int (nI j), .ref a_r1]) (n := 1) (CC := RX10) (T := TX10) (N := 35) C hw (T_X10_pass l D cI cZ a_t a_t_wealth a_t_given a_t_chart a_t_relatives a_t_sightSet a_t_sightMany a_t_digits a_t_pad a_t_act a_t_who a_t_whom a_t_much a_t_had a_t_dues a_t_groups a_t_ways a_t_fit a_t_byMany a_t_kept a_t_isKept v_t_inside v_t_next v_t_years v_t_sights v_t_padMany v_t_acts v_t_givenNow v_t_entered v_t_badAct v_t_badWhy v_t_firstAct v_t_firstHouse v_t_fitMany v_t_keptAt v_t_isWriting g_t_kept (g_r1 j) h3) gX10_passRow_X10_pass rfl ⟨rfl, rfl⟩ (by decide +kernel) ⟨Nat.le_of_ble_eq_true rfl, Nat.le_of_ble_eq_true rfl⟩ 1 rfl rfl [1, 2] rfl rfl [a_t, a_t_kept] rfl rfl rfl hl.1 rfl (Nat.le_of_ble_eq_true rfl) ⟨Nat.zero_le _, Nat.zero_le _⟩ dX10_passRow_13 (fun H locs hw => ?_)
    obtain ⟨z4, h5⟩ : ∃ z, (f_X10_pass v_t_keptAt v_t_isWriting g_t_kept (g_r1 j)) = z := ⟨_, rfl⟩
    refine W.eq (g2 := F0 m 16 ls [.int z4.1, .int (nI j), .ref a_r1]) (by subst h5; rfl) ?_
    replace hw := kW_cast (ws' := [(a_r1, .inl (cI, 8, .inl g_r1)), (a_t, .inr (10, [.ref a_t_wealth, .ref a_t_given, .ref a_t_chart, .ref a_t_relatives, .int v_t_inside, .int v_t_next, .int v_t_years, .ref a_t_sightSet, .ref a_t_sightMany, .int v_t_sights, .ref a_t_digits, .ref a_t_pad, .int v_t_padMany, .ref a_t_act, .ref a_t_who, .ref a_t_whom, .ref a_t_much, .int v_t_acts, .int v_t_givenNow, .int v_t_entered, .ref a_t_had, .int v_t_badAct, .int v_t_badWhy, .int v_t_firstAct, .int v_t_firstHouse, .ref a_t_dues, .ref a_t_groups, .ref a_t_ways, .ref a_t_fit, .int v_t_fitMany, .ref a_t_byMany, .ref a_t_kept, .ref a_t_isKept, .int z4.2.1, .int v_t_isWriting])), (a_t_kept, .inl (cI, 240, .inl z4.2.2))]) (by subst h5; rfl) hw
    replace hok := Eq.mp (lt_c h5) hok
    obtain ⟨h6, hok⟩ := hok
    refine k_iastN C hw 0 rfl j rfl h6 (by decide) dX10_passRow_16 (fun H locs hw => ?_)
    replace hw : kW D _ s H locs [(a_r1, .inl (cI, 8, .inl (upd g_r1 j z4.1))), (a_t, .inr (10, [.ref a_t_wealth, .ref a_t_given, .ref a_t_chart, .ref a_t_relatives, .int v_t_inside, .int v_t_next, .int v_t_years, .ref a_t_sightSet, .ref a_t_sightMany, .int v_t_sights, .ref a_t_digits, .ref a_t_pad, .int v_t_padMany, .ref a_t_act, .ref a_t_who, .ref a_t_whom, .ref a_t_much, .int v_t_acts, .int v_t_givenNow, .int v_t_entered, .ref a_t_had, .int v_t_badAct, .int v_t_badWhy, .int v_t_firstAct, .int v_t_firstHouse, .ref a_t_dues, .ref a_t_groups, .ref a_t_ways, .ref a_t_fit, .int v_t_fitMany, .ref a_t_byMany, .ref a_t_kept, .ref a_t_isKept, .int z4.2.1, .int v_t_isWriting])), (a_t_kept, .inl (cI, 240, .inl z4.2.2))] := hw
    refine lv_iinc (v := (nI (j + 1))) (lv' := [(3, .int (nI (j + 1))), (0, .ref a_t), (1, .ref a_r1), (2, .int x2)]) hx hb dX10_passRow_17 hl (k := 3) rfl (nI_1 _) (by decide) rfl (fun ls hl => ?_)
    refine lv_goto (tgt := 2) hx hb dX10_passRow_20 (by decide) ?_
    have hB : B_X10_passRow_8_2 v_t_isWriting j (g_r1, v_t_keptAt, g_t_kept) = ((upd g_r1 j z4.1), z4.2.1, z4.2.2) := by
      unfold B_X10_passRow_8_2
      exact (lt_c h5).trans (rfl)
    rw [it_c hB] at kk
    have hok2 := itA_c hB hok0
    exact ih (j + 1) (upd g_r1 j z4.1) z4.2.1 z4.2.2 (by omega) (by omega) hok2 _ _ hw _ (lv_sub hl [1, 2, 3, 0] rfl) kk
def f_X10_passRow_8 (g_r1 : (Nat → Int32)) (v_t_keptAt : Int32) (v_t_isWriting : Int32) (g_t_kept : (Nat → Int32)) (p2 : Int32) : (Nat → Int32) × Int32 × (Nat → Int32) := (lt (it (B_X10_passRow_8_2 v_t_isWriting) 0 ((p2.toNatClampNeg) - 0) (g_r1, v_t_keptAt, g_t_kept)) (fun z10 => (z10.1, z10.2.1, z10.2.2)))
def o_X10_passRow_8 (g_r1 : (Nat → Int32)) (v_t_keptAt : Int32) (v_t_isWriting : Int32) (g_t_kept : (Nat → Int32)) (p2 : Int32) : Prop := ((0 ≤ p2) ∧ ((itA (oB_X10_passRow_8_2 v_t_isWriting) (B_X10_passRow_8_2 v_t_isWriting) 0 ((p2.toNatClampNeg) - 0) (g_r1, v_t_keptAt, g_t_kept)) ∧ True))
set_option maxHeartbeats 4000000 in
set_option maxRecDepth 100000 in
theorem T_X10_passRow_8 (l : Launch) (D : va_G) (cI cZ : ClassId) (a_r1 a_t a_t_wealth a_t_given a_t_chart a_t_relatives a_t_sightSet a_t_sightMany a_t_digits a_t_pad a_t_act a_t_who a_t_whom a_t_much a_t_had a_t_dues a_t_groups a_t_ways a_t_fit a_t_byMany a_t_kept a_t_isKept : Nat) (g_r1 : (Nat → Int32)) (v_t_inside : Int32) (v_t_next : Int32) (v_t_years : Int32) (v_t_sights : Int32) (v_t_padMany : Int32) (v_t_acts : Int32) (v_t_givenNow : Int32) (v_t_entered : Int32) (v_t_badAct : Int32) (v_t_badWhy : Int32) (v_t_firstAct : Int32) (v_t_firstHouse : Int32) (v_t_fitMany : Int32) (v_t_keptAt : Int32) (v_t_isWriting : Int32) (g_t_kept : (Nat → Int32)) (p2 : Int32) (hok : o_X10_passRow_8 g_r1 v_t_keptAt v_t_isWriting g_t_kept p2) : CT l D cI cZ yX10_passRow wsX10_passRow ({ frames := 1, cells := 0, slots := 0, locals := 22 }) [.ref a_t, .ref a_r1, .int p2] [(a_r1, .inl (cI, 8, .inl g_r1)), (a_t, .inr (10, [.ref a_t_wealth, .ref a_t_given, .ref a_t_chart, .ref a_t_relatives, .int v_t_inside, .int v_t_next, .int v_t_years, .ref a_t_sightSet, .ref a_t_sightMany, .int v_t_sights, .ref a_t_digits, .ref a_t_pad, .int v_t_padMany, .ref a_t_act, .ref a_t_who, .ref a_t_whom, .ref a_t_much, .int v_t_acts, .int v_t_givenNow, .int v_t_entered, .ref a_t_had, .int v_t_badAct, .int v_t_badWhy, .int v_t_firstAct, .int v_t_firstHouse, .ref a_t_dues, .ref a_t_groups, .ref a_t_ways, .ref a_t_fit, .int v_t_fitMany, .ref a_t_byMany, .ref a_t_kept, .ref a_t_isKept, .int v_t_keptAt, .int v_t_isWriting])), (a_t_kept, .inl (cI, 240, .inl g_t_kept))] none [(a_r1, .inl (cI, 8, .inl (f_X10_passRow_8 g_r1 v_t_keptAt v_t_isWriting g_t_kept p2).1)), (a_t, .inr (10, [.ref a_t_wealth, .ref a_t_given, .ref a_t_chart, .ref a_t_relatives, .int v_t_inside, .int v_t_next, .int v_t_years, .ref a_t_sightSet, .ref a_t_sightMany, .int v_t_sights, .ref a_t_digits, .ref a_t_pad, .int v_t_padMany, .ref a_t_act, .ref a_t_who, .ref a_t_whom, .ref a_t_much, .int v_t_acts, .int v_t_givenNow, .int v_t_entered, .ref a_t_had, .int v_t_badAct, .int v_t_badWhy, .int v_t_firstAct, .int v_t_firstHouse, .ref a_t_dues, .ref a_t_groups, .ref a_t_ways, .ref a_t_fit, .int v_t_fitMany, .ref a_t_byMany, .ref a_t_kept, .ref a_t_isKept, .int (f_X10_passRow_8 g_r1 v_t_keptAt v_t_isWriting g_t_kept p2).2.1, .int v_t_isWriting])), (a_t_kept, .inl (cI, 240, .inl (f_X10_passRow_8 g_r1 v_t_keptAt v_t_isWriting g_t_kept p2).2.2))] := by
  refine CT.intro RX10 (by decide) rfl (Nat.le_of_ble_eq_true rfl) rfl ?_
  intro p e s m below meth c C hr hw ls hl
  have hx := C.hx
  have hb := C.hb
  replace hl : lv_has ls 4 [(0, .ref a_t), (1, .ref a_r1), (2, .int p2)] := hl
  refine lv_iconst (v := 0) hx hb dX10_passRow_0 (by decide) ?_
  refine lv_istore_n (lv' := [(3, .int 0), (0, .ref a_t), (1, .ref a_r1), (2, .int p2)]) hx hb dX10_passRow_1 rfl hl (by decide) rfl (fun ls hl => ?_)
  obtain ⟨h8, hok⟩ := hok
  obtain ⟨h9, hok⟩ := hok
  refine l_X10_passRow_8_2 a_r1 a_t a_t_wealth a_t_given a_t_chart a_t_relatives a_t_sightSet a_t_sightMany a_t_digits a_t_pad a_t_act a_t_who a_t_whom a_t_much a_t_had a_t_dues a_t_groups a_t_ways a_t_fit a_t_byMany a_t_kept a_t_isKept p2 v_t_inside v_t_next v_t_years v_t_sights v_t_padMany v_t_acts v_t_givenNow v_t_entered v_t_badAct v_t_badWhy v_t_firstAct v_t_firstHouse v_t_fitMany v_t_isWriting C p2.toNatClampNeg (nI_self h8) (clamp_lt _) ((p2.toNatClampNeg) - 0) 0 g_r1 v_t_keptAt g_t_kept rfl (by decide) h9 _ _ hw _ (lv_sub hl [1, 2, 3, 0] rfl) (fun H locs ls hw hl => ?_)
  obtain ⟨z10, h11⟩ : ∃ z, (it (B_X10_passRow_8_2 v_t_isWriting) 0 ((p2.toNatClampNeg) - 0) (g_r1, v_t_keptAt, g_t_kept)) = z := ⟨_, rfl⟩
  replace hw := kW_cast (ws' := [(a_r1, .inl (cI, 8, .inl z10.1)), (a_t, .inr (10, [.ref a_t_wealth, .ref a_t_given, .ref a_t_chart, .ref a_t_relatives, .int v_t_inside, .int v_t_next, .int v_t_years, .ref a_t_sightSet, .ref a_t_sightMany, .int v_t_sights, .ref a_t_digits, .ref a_t_pad, .int v_t_padMany, .ref a_t_act, .ref a_t_who, .ref a_t_whom, .ref a_t_much, .int v_t_acts, .int v_t_givenNow, .int v_t_entered, .ref a_t_had, .int v_t_badAct, .int v_t_badWhy, .int v_t_firstAct, .int v_t_firstHouse, .ref a_t_dues, .ref a_t_groups, .ref a_t_ways, .ref a_t_fit, .int v_t_fitMany, .ref a_t_byMany, .ref a_t_kept, .ref a_t_isKept, .int z10.2.1, .int v_t_isWriting])), (a_t_kept, .inl (cI, 240, .inl z10.2.2))]) (by subst h11; rfl) hw
  replace hl : lv_has ls 4 [] := by subst h11; exact hl
  rw [show f_X10_passRow_8 g_r1 v_t_keptAt v_t_isWriting g_t_kept p2 = (z10.1, z10.2.1, z10.2.2) from by
      unfold f_X10_passRow_8
      exact (lt_c h11).trans (rfl)]
  exact k_vret C hr hw dX10_passRow_23

def B_X10_passRow_64_2 (v_t_isWriting : Int32) (j : Nat) (v : (Nat → Int32) × Int32 × (Nat → Int32)) : (Nat → Int32) × Int32 × (Nat → Int32) := (lt (f_X10_pass v.2.1 v_t_isWriting v.2.2 (v.1 j)) (fun z4 => ((upd v.1 j z4.1), z4.2.1, z4.2.2)))
def oB_X10_passRow_64_2 (v_t_isWriting : Int32) (j : Nat) (v : (Nat → Int32) × Int32 × (Nat → Int32)) : Prop := ((j < 64) ∧ ((o_X10_pass v.2.1 v_t_isWriting) ∧ (lt (f_X10_pass v.2.1 v_t_isWriting v.2.2 (v.1 j)) (fun z4 => ((j < 64) ∧ True)))))
set_option maxHeartbeats 4000000 in
set_option maxRecDepth 100000 in
theorem l_X10_passRow_64_2 {p : Program} {l : Launch} {e : Env} {s : State} {m : MethodId} {args : Array Value} {below : List Frame} {meth : Method} {c : Code} {D : va_G} {cI cZ : ClassId} {Q : State → Prop} {A : Nat → Prop} (a_r1 a_t a_t_wealth a_t_given a_t_chart a_t_relatives a_t_sightSet a_t_sightMany a_t_digits a_t_pad a_t_act a_t_who a_t_whom a_t_much a_t_had a_t_dues a_t_groups a_t_ways a_t_fit a_t_byMany a_t_kept a_t_isKept : Nat) (x2 : Int32) (v_t_inside : Int32) (v_t_next : Int32) (v_t_years : Int32) (v_t_sights : Int32) (v_t_padMany : Int32) (v_t_acts : Int32) (v_t_givenNow : Int32) (v_t_entered : Int32) (v_t_badAct : Int32) (v_t_badWhy : Int32) (v_t_firstAct : Int32) (v_t_firstHouse : Int32) (v_t_fitMany : Int32) (v_t_isWriting : Int32) (C : kC p s m args meth c cX10_passRow 4 wsX10_passRow RX10 D cI cZ A) (b : Nat) (hB : x2 = nI b) (hb31 : b < 2147483648) : ∀ (n j : Nat) (g_r1 : (Nat → Int32)) (v_t_keptAt : Int32) (g_t_kept : (Nat → Int32)), n = b - j → j < 2147483648 → itA (oB_X10_passRow_64_2 v_t_isWriting) (B_X10_passRow_64_2 v_t_isWriting) j n (g_r1, v_t_keptAt, g_t_kept) → ∀ (H : Heap) (locs : List Loc), kW D A s H locs [(a_r1, .inl (cI, 64, .inl g_r1)), (a_t, .inr (10, [.ref a_t_wealth, .ref a_t_given, .ref a_t_chart, .ref a_t_relatives, .int v_t_inside, .int v_t_next, .int v_t_years, .ref a_t_sightSet, .ref a_t_sightMany, .int v_t_sights, .ref a_t_digits, .ref a_t_pad, .int v_t_padMany, .ref a_t_act, .ref a_t_who, .ref a_t_whom, .ref a_t_much, .int v_t_acts, .int v_t_givenNow, .int v_t_entered, .ref a_t_had, .int v_t_badAct, .int v_t_badWhy, .int v_t_firstAct, .int v_t_firstHouse, .ref a_t_dues, .ref a_t_groups, .ref a_t_ways, .ref a_t_fit, .int v_t_fitMany, .ref a_t_byMany, .ref a_t_kept, .ref a_t_isKept, .int v_t_keptAt, .int v_t_isWriting])), (a_t_kept, .inl (cI, 240, .inl g_t_kept))] → ∀ (ls : Array Slot), lv_has ls 4 [(0, .ref a_t), (1, .ref a_r1), (2, .int x2), (3, .int (nI j))] → (∀ (H : Heap) (locs : List Loc) (ls : Array Slot), kW D A s H locs [(a_r1, .inl (cI, 64, .inl (it (B_X10_passRow_64_2 v_t_isWriting) j n (g_r1, v_t_keptAt, g_t_kept)).1)), (a_t, .inr (10, [.ref a_t_wealth, .ref a_t_given, .ref a_t_chart, .ref a_t_relatives, .int v_t_inside, .int v_t_next, .int v_t_years, .ref a_t_sightSet, .ref a_t_sightMany, .int v_t_sights, .ref a_t_digits, .ref a_t_pad, .int v_t_padMany, .ref a_t_act, .ref a_t_who, .ref a_t_whom, .ref a_t_much, .int v_t_acts, .int v_t_givenNow, .int v_t_entered, .ref a_t_had, .int v_t_badAct, .int v_t_badWhy, .int v_t_firstAct, .int v_t_firstHouse, .ref a_t_dues, .ref a_t_groups, .ref a_t_ways, .ref a_t_fit, .int v_t_fitMany, .ref a_t_byMany, .ref a_t_kept, .ref a_t_isKept, .int (it (B_X10_passRow_64_2 v_t_isWriting) j n (g_r1, v_t_keptAt, g_t_kept)).2.1, .int v_t_isWriting])), (a_t_kept, .inl (cI, 240, .inl (it (B_X10_passRow_64_2 v_t_isWriting) j n (g_r1, v_t_keptAt, g_t_kept)).2.2))] → lv_has ls 4 [] → W p l e ({ frames := 1, cells := 0, slots := 0, locals := 22 }) s m args below meth c H locs 0 0 Q (F0 m 23 ls [])) → W p l e ({ frames := 1, cells := 0, slots := 0, locals := 22 }) s m args below meth c H locs 0 0 Q (F0 m 2 ls []) := by
  have hx := C.hx
  have hb := C.hb
  intro n
  induction n with
  | zero =>
    intro j g_r1 v_t_keptAt g_t_kept hn hj hok0 H locs hw ls hl kk
    refine lv_iload_n hx hb dX10_passRow_2 rfl (lv_at hl 3 rfl) ?_
    refine lv_iload_n hx hb dX10_passRow_3 rfl (lv_at hl 2 rfl) ?_
    refine lv_icmp_ge (tgt := 23) hx hb dX10_passRow_4 (by decide) (fun c7 => ?_) (fun c7 => by rw [hB] at c7; exact absurd (nI_le (a := b) (b := j) (by omega) (by omega)) c7)
    exact kk _ _ _ hw (lv_sub hl [] rfl)
  | succ n ih =>
    intro j g_r1 v_t_keptAt g_t_kept hn hj hok0 H locs hw ls hl kk
    have hok := hok0.1
    refine lv_iload_n hx hb dX10_passRow_2 rfl (lv_at hl 3 rfl) ?_
    refine lv_iload_n hx hb dX10_passRow_3 rfl (lv_at hl 2 rfl) ?_
    refine lv_icmp_ge (tgt := 23) hx hb dX10_passRow_4 (by decide) (fun c1 => by rw [hB] at c1; exact absurd c1 (nI_ge (a := j) (b := b) (by omega) (by omega))) (fun c1 => ?_)
    refine lv_aload_n hx hb dX10_passRow_7 rfl (lv_at hl 1 rfl) ?_
    refine lv_iload_n hx hb dX10_passRow_8 rfl (lv_at hl 3 rfl) ?_
    refine lv_aload_n hx hb dX10_passRow_9 rfl (lv_at hl 0 rfl) ?_
    refine lv_aload_n hx hb dX10_passRow_10 rfl (lv_at hl 1 rfl) ?_
    refine lv_iload_n hx hb dX10_passRow_11 rfl (lv_at hl 3 rfl) ?_
    obtain ⟨h2, hok⟩ := hok
    refine k_ialdN C hw 0 rfl j rfl h2 (by decide) dX10_passRow_12 ?_
    obtain ⟨h3, hok⟩ := hok
    refine k_callV (As := [.int (g_r1 j)]) (rest := [.int (nI j), .ref a_r1]) (n := 1) (CC := RX10) (T := TX10) (N := 35) C hw (T_X10_pass l D cI cZ a_t a_t_wealth a_t_given a_t_chart a_t_relatives a_t_sightSet a_t_sightMany a_t_digits a_t_pad a_t_act a_t_who a_t_whom a_t_much a_t_had a_t_dues a_t_groups a_t_ways a_t_fit a_t_byMany a_t_kept a_t_isKept v_t_inside v_t_next v_t_years v_t_sights v_t_padMany v_t_acts v_t_givenNow v_t_entered v_t_badAct v_t_badWhy v_t_firstAct v_t_firstHouse v_t_fitMany v_t_keptAt v_t_isWriting g_t_kept (g_r1 j) h3) gX10_passRow_X10_pass rfl ⟨rfl, rfl⟩ (by decide +kernel) ⟨Nat.le_of_ble_eq_true rfl, Nat.le_of_ble_eq_true rfl⟩ 1 rfl rfl [1, 2] rfl rfl [a_t, a_t_kept] rfl rfl rfl hl.1 rfl (Nat.le_of_ble_eq_true rfl) ⟨Nat.zero_le _, Nat.zero_le _⟩ dX10_passRow_13 (fun H locs hw => ?_)
    obtain ⟨z4, h5⟩ : ∃ z, (f_X10_pass v_t_keptAt v_t_isWriting g_t_kept (g_r1 j)) = z := ⟨_, rfl⟩
    refine W.eq (g2 := F0 m 16 ls [.int z4.1, .int (nI j), .ref a_r1]) (by subst h5; rfl) ?_
    replace hw := kW_cast (ws' := [(a_r1, .inl (cI, 64, .inl g_r1)), (a_t, .inr (10, [.ref a_t_wealth, .ref a_t_given, .ref a_t_chart, .ref a_t_relatives, .int v_t_inside, .int v_t_next, .int v_t_years, .ref a_t_sightSet, .ref a_t_sightMany, .int v_t_sights, .ref a_t_digits, .ref a_t_pad, .int v_t_padMany, .ref a_t_act, .ref a_t_who, .ref a_t_whom, .ref a_t_much, .int v_t_acts, .int v_t_givenNow, .int v_t_entered, .ref a_t_had, .int v_t_badAct, .int v_t_badWhy, .int v_t_firstAct, .int v_t_firstHouse, .ref a_t_dues, .ref a_t_groups, .ref a_t_ways, .ref a_t_fit, .int v_t_fitMany, .ref a_t_byMany, .ref a_t_kept, .ref a_t_isKept, .int z4.2.1, .int v_t_isWriting])), (a_t_kept, .inl (cI, 240, .inl z4.2.2))]) (by subst h5; rfl) hw
    replace hok := Eq.mp (lt_c h5) hok
    obtain ⟨h6, hok⟩ := hok
    refine k_iastN C hw 0 rfl j rfl h6 (by decide) dX10_passRow_16 (fun H locs hw => ?_)
    replace hw : kW D _ s H locs [(a_r1, .inl (cI, 64, .inl (upd g_r1 j z4.1))), (a_t, .inr (10, [.ref a_t_wealth, .ref a_t_given, .ref a_t_chart, .ref a_t_relatives, .int v_t_inside, .int v_t_next, .int v_t_years, .ref a_t_sightSet, .ref a_t_sightMany, .int v_t_sights, .ref a_t_digits, .ref a_t_pad, .int v_t_padMany, .ref a_t_act, .ref a_t_who, .ref a_t_whom, .ref a_t_much, .int v_t_acts, .int v_t_givenNow, .int v_t_entered, .ref a_t_had, .int v_t_badAct, .int v_t_badWhy, .int v_t_firstAct, .int v_t_firstHouse, .ref a_t_dues, .ref a_t_groups, .ref a_t_ways, .ref a_t_fit, .int v_t_fitMany, .ref a_t_byMany, .ref a_t_kept, .ref a_t_isKept, .int z4.2.1, .int v_t_isWriting])), (a_t_kept, .inl (cI, 240, .inl z4.2.2))] := hw
    refine lv_iinc (v := (nI (j + 1))) (lv' := [(3, .int (nI (j + 1))), (0, .ref a_t), (1, .ref a_r1), (2, .int x2)]) hx hb dX10_passRow_17 hl (k := 3) rfl (nI_1 _) (by decide) rfl (fun ls hl => ?_)
    refine lv_goto (tgt := 2) hx hb dX10_passRow_20 (by decide) ?_
    have hB : B_X10_passRow_64_2 v_t_isWriting j (g_r1, v_t_keptAt, g_t_kept) = ((upd g_r1 j z4.1), z4.2.1, z4.2.2) := by
      unfold B_X10_passRow_64_2
      exact (lt_c h5).trans (rfl)
    rw [it_c hB] at kk
    have hok2 := itA_c hB hok0
    exact ih (j + 1) (upd g_r1 j z4.1) z4.2.1 z4.2.2 (by omega) (by omega) hok2 _ _ hw _ (lv_sub hl [1, 2, 3, 0] rfl) kk
def f_X10_passRow_64 (g_r1 : (Nat → Int32)) (v_t_keptAt : Int32) (v_t_isWriting : Int32) (g_t_kept : (Nat → Int32)) (p2 : Int32) : (Nat → Int32) × Int32 × (Nat → Int32) := (lt (it (B_X10_passRow_64_2 v_t_isWriting) 0 ((p2.toNatClampNeg) - 0) (g_r1, v_t_keptAt, g_t_kept)) (fun z10 => (z10.1, z10.2.1, z10.2.2)))
def o_X10_passRow_64 (g_r1 : (Nat → Int32)) (v_t_keptAt : Int32) (v_t_isWriting : Int32) (g_t_kept : (Nat → Int32)) (p2 : Int32) : Prop := ((0 ≤ p2) ∧ ((itA (oB_X10_passRow_64_2 v_t_isWriting) (B_X10_passRow_64_2 v_t_isWriting) 0 ((p2.toNatClampNeg) - 0) (g_r1, v_t_keptAt, g_t_kept)) ∧ True))
set_option maxHeartbeats 4000000 in
set_option maxRecDepth 100000 in
theorem T_X10_passRow_64 (l : Launch) (D : va_G) (cI cZ : ClassId) (a_r1 a_t a_t_wealth a_t_given a_t_chart a_t_relatives a_t_sightSet a_t_sightMany a_t_digits a_t_pad a_t_act a_t_who a_t_whom a_t_much a_t_had a_t_dues a_t_groups a_t_ways a_t_fit a_t_byMany a_t_kept a_t_isKept : Nat) (g_r1 : (Nat → Int32)) (v_t_inside : Int32) (v_t_next : Int32) (v_t_years : Int32) (v_t_sights : Int32) (v_t_padMany : Int32) (v_t_acts : Int32) (v_t_givenNow : Int32) (v_t_entered : Int32) (v_t_badAct : Int32) (v_t_badWhy : Int32) (v_t_firstAct : Int32) (v_t_firstHouse : Int32) (v_t_fitMany : Int32) (v_t_keptAt : Int32) (v_t_isWriting : Int32) (g_t_kept : (Nat → Int32)) (p2 : Int32) (hok : o_X10_passRow_64 g_r1 v_t_keptAt v_t_isWriting g_t_kept p2) : CT l D cI cZ yX10_passRow wsX10_passRow ({ frames := 1, cells := 0, slots := 0, locals := 22 }) [.ref a_t, .ref a_r1, .int p2] [(a_r1, .inl (cI, 64, .inl g_r1)), (a_t, .inr (10, [.ref a_t_wealth, .ref a_t_given, .ref a_t_chart, .ref a_t_relatives, .int v_t_inside, .int v_t_next, .int v_t_years, .ref a_t_sightSet, .ref a_t_sightMany, .int v_t_sights, .ref a_t_digits, .ref a_t_pad, .int v_t_padMany, .ref a_t_act, .ref a_t_who, .ref a_t_whom, .ref a_t_much, .int v_t_acts, .int v_t_givenNow, .int v_t_entered, .ref a_t_had, .int v_t_badAct, .int v_t_badWhy, .int v_t_firstAct, .int v_t_firstHouse, .ref a_t_dues, .ref a_t_groups, .ref a_t_ways, .ref a_t_fit, .int v_t_fitMany, .ref a_t_byMany, .ref a_t_kept, .ref a_t_isKept, .int v_t_keptAt, .int v_t_isWriting])), (a_t_kept, .inl (cI, 240, .inl g_t_kept))] none [(a_r1, .inl (cI, 64, .inl (f_X10_passRow_64 g_r1 v_t_keptAt v_t_isWriting g_t_kept p2).1)), (a_t, .inr (10, [.ref a_t_wealth, .ref a_t_given, .ref a_t_chart, .ref a_t_relatives, .int v_t_inside, .int v_t_next, .int v_t_years, .ref a_t_sightSet, .ref a_t_sightMany, .int v_t_sights, .ref a_t_digits, .ref a_t_pad, .int v_t_padMany, .ref a_t_act, .ref a_t_who, .ref a_t_whom, .ref a_t_much, .int v_t_acts, .int v_t_givenNow, .int v_t_entered, .ref a_t_had, .int v_t_badAct, .int v_t_badWhy, .int v_t_firstAct, .int v_t_firstHouse, .ref a_t_dues, .ref a_t_groups, .ref a_t_ways, .ref a_t_fit, .int v_t_fitMany, .ref a_t_byMany, .ref a_t_kept, .ref a_t_isKept, .int (f_X10_passRow_64 g_r1 v_t_keptAt v_t_isWriting g_t_kept p2).2.1, .int v_t_isWriting])), (a_t_kept, .inl (cI, 240, .inl (f_X10_passRow_64 g_r1 v_t_keptAt v_t_isWriting g_t_kept p2).2.2))] := by
  refine CT.intro RX10 (by decide) rfl (Nat.le_of_ble_eq_true rfl) rfl ?_
  intro p e s m below meth c C hr hw ls hl
  have hx := C.hx
  have hb := C.hb
  replace hl : lv_has ls 4 [(0, .ref a_t), (1, .ref a_r1), (2, .int p2)] := hl
  refine lv_iconst (v := 0) hx hb dX10_passRow_0 (by decide) ?_
  refine lv_istore_n (lv' := [(3, .int 0), (0, .ref a_t), (1, .ref a_r1), (2, .int p2)]) hx hb dX10_passRow_1 rfl hl (by decide) rfl (fun ls hl => ?_)
  obtain ⟨h8, hok⟩ := hok
  obtain ⟨h9, hok⟩ := hok
  refine l_X10_passRow_64_2 a_r1 a_t a_t_wealth a_t_given a_t_chart a_t_relatives a_t_sightSet a_t_sightMany a_t_digits a_t_pad a_t_act a_t_who a_t_whom a_t_much a_t_had a_t_dues a_t_groups a_t_ways a_t_fit a_t_byMany a_t_kept a_t_isKept p2 v_t_inside v_t_next v_t_years v_t_sights v_t_padMany v_t_acts v_t_givenNow v_t_entered v_t_badAct v_t_badWhy v_t_firstAct v_t_firstHouse v_t_fitMany v_t_isWriting C p2.toNatClampNeg (nI_self h8) (clamp_lt _) ((p2.toNatClampNeg) - 0) 0 g_r1 v_t_keptAt g_t_kept rfl (by decide) h9 _ _ hw _ (lv_sub hl [1, 2, 3, 0] rfl) (fun H locs ls hw hl => ?_)
  obtain ⟨z10, h11⟩ : ∃ z, (it (B_X10_passRow_64_2 v_t_isWriting) 0 ((p2.toNatClampNeg) - 0) (g_r1, v_t_keptAt, g_t_kept)) = z := ⟨_, rfl⟩
  replace hw := kW_cast (ws' := [(a_r1, .inl (cI, 64, .inl z10.1)), (a_t, .inr (10, [.ref a_t_wealth, .ref a_t_given, .ref a_t_chart, .ref a_t_relatives, .int v_t_inside, .int v_t_next, .int v_t_years, .ref a_t_sightSet, .ref a_t_sightMany, .int v_t_sights, .ref a_t_digits, .ref a_t_pad, .int v_t_padMany, .ref a_t_act, .ref a_t_who, .ref a_t_whom, .ref a_t_much, .int v_t_acts, .int v_t_givenNow, .int v_t_entered, .ref a_t_had, .int v_t_badAct, .int v_t_badWhy, .int v_t_firstAct, .int v_t_firstHouse, .ref a_t_dues, .ref a_t_groups, .ref a_t_ways, .ref a_t_fit, .int v_t_fitMany, .ref a_t_byMany, .ref a_t_kept, .ref a_t_isKept, .int z10.2.1, .int v_t_isWriting])), (a_t_kept, .inl (cI, 240, .inl z10.2.2))]) (by subst h11; rfl) hw
  replace hl : lv_has ls 4 [] := by subst h11; exact hl
  rw [show f_X10_passRow_64 g_r1 v_t_keptAt v_t_isWriting g_t_kept p2 = (z10.1, z10.2.1, z10.2.2) from by
      unfold f_X10_passRow_64
      exact (lt_c h11).trans (rfl)]
  exact k_vret C hr hw dX10_passRow_23

theorem nX10_passAll_X10 : ∀ w ∈ wsX100, w ∈ wsX10_passAll := fun _ h => List.mem_cons_of_mem _ (List.mem_append_right _ h)
def f_X10_passAll (v_t_inside : Int32) (v_t_next : Int32) (v_t_years : Int32) (v_t_sights : Int32) (v_t_keptAt : Int32) (v_t_isWriting : Int32) (g_t_kept : (Nat → Int32)) (g_t_wealth : (Nat → Int32)) (g_t_given : (Nat → Int32)) (g_t_chart : (Nat → Int32)) (g_t_relatives : (Nat → Int32)) (g_t_sightSet : (Nat → Int32)) (g_t_sightMany : (Nat → Int32)) : Int32 × Int32 × Int32 × Int32 × Int32 × (Nat → Int32) × (Nat → Int32) × (Nat → Int32) × (Nat → Int32) × (Nat → Int32) × (Nat → Int32) × (Nat → Int32) := (lt (f_X10_pass v_t_keptAt v_t_isWriting g_t_kept v_t_inside) (fun z2 => (lt (f_X10_pass z2.2.1 v_t_isWriting z2.2.2 v_t_next) (fun z5 => (lt (f_X10_pass z5.2.1 v_t_isWriting z5.2.2 v_t_years) (fun z8 => (lt (f_X10_pass z8.2.1 v_t_isWriting z8.2.2 v_t_sights) (fun z11 => (lt (f_X10_passRow_8 g_t_wealth z11.2.1 v_t_isWriting z11.2.2 (8 : Int32)) (fun z14 => (lt (f_X10_passRow_64 g_t_given z14.2.1 v_t_isWriting z14.2.2 (64 : Int32)) (fun z17 => (lt (f_X10_passRow_8 g_t_chart z17.2.1 v_t_isWriting z17.2.2 (8 : Int32)) (fun z20 => (lt (f_X10_passRow_8 g_t_relatives z20.2.1 v_t_isWriting z20.2.2 (8 : Int32)) (fun z23 => (lt (f_X10_passRow_8 g_t_sightSet z23.2.1 v_t_isWriting z23.2.2 (8 : Int32)) (fun z26 => (lt (f_X10_passRow_8 g_t_sightMany z26.2.1 v_t_isWriting z26.2.2 (8 : Int32)) (fun z29 => (z2.1, z5.1, z8.1, z11.1, z29.2.1, z29.2.2, z14.1, z17.1, z20.1, z23.1, z26.1, z29.1)))))))))))))))))))))
def o_X10_passAll (v_t_inside : Int32) (v_t_next : Int32) (v_t_years : Int32) (v_t_sights : Int32) (v_t_keptAt : Int32) (v_t_isWriting : Int32) (g_t_kept : (Nat → Int32)) (g_t_wealth : (Nat → Int32)) (g_t_given : (Nat → Int32)) (g_t_chart : (Nat → Int32)) (g_t_relatives : (Nat → Int32)) (g_t_sightSet : (Nat → Int32)) (g_t_sightMany : (Nat → Int32)) : Prop := ((o_X10_pass v_t_keptAt v_t_isWriting) ∧ (lt (f_X10_pass v_t_keptAt v_t_isWriting g_t_kept v_t_inside) (fun z2 => ((o_X10_pass z2.2.1 v_t_isWriting) ∧ (lt (f_X10_pass z2.2.1 v_t_isWriting z2.2.2 v_t_next) (fun z5 => ((o_X10_pass z5.2.1 v_t_isWriting) ∧ (lt (f_X10_pass z5.2.1 v_t_isWriting z5.2.2 v_t_years) (fun z8 => ((o_X10_pass z8.2.1 v_t_isWriting) ∧ (lt (f_X10_pass z8.2.1 v_t_isWriting z8.2.2 v_t_sights) (fun z11 => ((o_X10_passRow_8 g_t_wealth z11.2.1 v_t_isWriting z11.2.2 (8 : Int32)) ∧ (lt (f_X10_passRow_8 g_t_wealth z11.2.1 v_t_isWriting z11.2.2 (8 : Int32)) (fun z14 => ((o_X10_passRow_64 g_t_given z14.2.1 v_t_isWriting z14.2.2 (64 : Int32)) ∧ (lt (f_X10_passRow_64 g_t_given z14.2.1 v_t_isWriting z14.2.2 (64 : Int32)) (fun z17 => ((o_X10_passRow_8 g_t_chart z17.2.1 v_t_isWriting z17.2.2 (8 : Int32)) ∧ (lt (f_X10_passRow_8 g_t_chart z17.2.1 v_t_isWriting z17.2.2 (8 : Int32)) (fun z20 => ((o_X10_passRow_8 g_t_relatives z20.2.1 v_t_isWriting z20.2.2 (8 : Int32)) ∧ (lt (f_X10_passRow_8 g_t_relatives z20.2.1 v_t_isWriting z20.2.2 (8 : Int32)) (fun z23 => ((o_X10_passRow_8 g_t_sightSet z23.2.1 v_t_isWriting z23.2.2 (8 : Int32)) ∧ (lt (f_X10_passRow_8 g_t_sightSet z23.2.1 v_t_isWriting z23.2.2 (8 : Int32)) (fun z26 => ((o_X10_passRow_8 g_t_sightMany z26.2.1 v_t_isWriting z26.2.2 (8 : Int32)) ∧ True))))))))))))))))))))))))))))
set_option maxHeartbeats 4000000 in
set_option maxRecDepth 100000 in
theorem T_X10_passAll (l : Launch) (D : va_G) (cI cZ : ClassId) (a_t a_t_wealth a_t_given a_t_chart a_t_relatives a_t_sightSet a_t_sightMany a_t_digits a_t_pad a_t_act a_t_who a_t_whom a_t_much a_t_had a_t_dues a_t_groups a_t_ways a_t_fit a_t_byMany a_t_kept a_t_isKept : Nat) (v_t_inside : Int32) (v_t_next : Int32) (v_t_years : Int32) (v_t_sights : Int32) (v_t_padMany : Int32) (v_t_acts : Int32) (v_t_givenNow : Int32) (v_t_entered : Int32) (v_t_badAct : Int32) (v_t_badWhy : Int32) (v_t_firstAct : Int32) (v_t_firstHouse : Int32) (v_t_fitMany : Int32) (v_t_keptAt : Int32) (v_t_isWriting : Int32) (g_t_kept : (Nat → Int32)) (g_t_wealth : (Nat → Int32)) (g_t_given : (Nat → Int32)) (g_t_chart : (Nat → Int32)) (g_t_relatives : (Nat → Int32)) (g_t_sightSet : (Nat → Int32)) (g_t_sightMany : (Nat → Int32)) (hok : o_X10_passAll v_t_inside v_t_next v_t_years v_t_sights v_t_keptAt v_t_isWriting g_t_kept g_t_wealth g_t_given g_t_chart g_t_relatives g_t_sightSet g_t_sightMany) : CT l D cI cZ yX10_passAll wsX10_passAll ({ frames := 2, cells := 0, slots := 0, locals := 45 }) [.ref a_t] [(a_t, .inr (10, [.ref a_t_wealth, .ref a_t_given, .ref a_t_chart, .ref a_t_relatives, .int v_t_inside, .int v_t_next, .int v_t_years, .ref a_t_sightSet, .ref a_t_sightMany, .int v_t_sights, .ref a_t_digits, .ref a_t_pad, .int v_t_padMany, .ref a_t_act, .ref a_t_who, .ref a_t_whom, .ref a_t_much, .int v_t_acts, .int v_t_givenNow, .int v_t_entered, .ref a_t_had, .int v_t_badAct, .int v_t_badWhy, .int v_t_firstAct, .int v_t_firstHouse, .ref a_t_dues, .ref a_t_groups, .ref a_t_ways, .ref a_t_fit, .int v_t_fitMany, .ref a_t_byMany, .ref a_t_kept, .ref a_t_isKept, .int v_t_keptAt, .int v_t_isWriting])), (a_t_kept, .inl (cI, 240, .inl g_t_kept)), (a_t_wealth, .inl (cI, 8, .inl g_t_wealth)), (a_t_given, .inl (cI, 64, .inl g_t_given)), (a_t_chart, .inl (cI, 8, .inl g_t_chart)), (a_t_relatives, .inl (cI, 8, .inl g_t_relatives)), (a_t_sightSet, .inl (cI, 8, .inl g_t_sightSet)), (a_t_sightMany, .inl (cI, 8, .inl g_t_sightMany))] none [(a_t, .inr (10, [.ref a_t_wealth, .ref a_t_given, .ref a_t_chart, .ref a_t_relatives, .int (f_X10_passAll v_t_inside v_t_next v_t_years v_t_sights v_t_keptAt v_t_isWriting g_t_kept g_t_wealth g_t_given g_t_chart g_t_relatives g_t_sightSet g_t_sightMany).1, .int (f_X10_passAll v_t_inside v_t_next v_t_years v_t_sights v_t_keptAt v_t_isWriting g_t_kept g_t_wealth g_t_given g_t_chart g_t_relatives g_t_sightSet g_t_sightMany).2.1, .int (f_X10_passAll v_t_inside v_t_next v_t_years v_t_sights v_t_keptAt v_t_isWriting g_t_kept g_t_wealth g_t_given g_t_chart g_t_relatives g_t_sightSet g_t_sightMany).2.2.1, .ref a_t_sightSet, .ref a_t_sightMany, .int (f_X10_passAll v_t_inside v_t_next v_t_years v_t_sights v_t_keptAt v_t_isWriting g_t_kept g_t_wealth g_t_given g_t_chart g_t_relatives g_t_sightSet g_t_sightMany).2.2.2.1, .ref a_t_digits, .ref a_t_pad, .int v_t_padMany, .ref a_t_act, .ref a_t_who, .ref a_t_whom, .ref a_t_much, .int v_t_acts, .int v_t_givenNow, .int v_t_entered, .ref a_t_had, .int v_t_badAct, .int v_t_badWhy, .int v_t_firstAct, .int v_t_firstHouse, .ref a_t_dues, .ref a_t_groups, .ref a_t_ways, .ref a_t_fit, .int v_t_fitMany, .ref a_t_byMany, .ref a_t_kept, .ref a_t_isKept, .int (f_X10_passAll v_t_inside v_t_next v_t_years v_t_sights v_t_keptAt v_t_isWriting g_t_kept g_t_wealth g_t_given g_t_chart g_t_relatives g_t_sightSet g_t_sightMany).2.2.2.2.1, .int v_t_isWriting])), (a_t_kept, .inl (cI, 240, .inl (f_X10_passAll v_t_inside v_t_next v_t_years v_t_sights v_t_keptAt v_t_isWriting g_t_kept g_t_wealth g_t_given g_t_chart g_t_relatives g_t_sightSet g_t_sightMany).2.2.2.2.2.1)), (a_t_wealth, .inl (cI, 8, .inl (f_X10_passAll v_t_inside v_t_next v_t_years v_t_sights v_t_keptAt v_t_isWriting g_t_kept g_t_wealth g_t_given g_t_chart g_t_relatives g_t_sightSet g_t_sightMany).2.2.2.2.2.2.1)), (a_t_given, .inl (cI, 64, .inl (f_X10_passAll v_t_inside v_t_next v_t_years v_t_sights v_t_keptAt v_t_isWriting g_t_kept g_t_wealth g_t_given g_t_chart g_t_relatives g_t_sightSet g_t_sightMany).2.2.2.2.2.2.2.1)), (a_t_chart, .inl (cI, 8, .inl (f_X10_passAll v_t_inside v_t_next v_t_years v_t_sights v_t_keptAt v_t_isWriting g_t_kept g_t_wealth g_t_given g_t_chart g_t_relatives g_t_sightSet g_t_sightMany).2.2.2.2.2.2.2.2.1)), (a_t_relatives, .inl (cI, 8, .inl (f_X10_passAll v_t_inside v_t_next v_t_years v_t_sights v_t_keptAt v_t_isWriting g_t_kept g_t_wealth g_t_given g_t_chart g_t_relatives g_t_sightSet g_t_sightMany).2.2.2.2.2.2.2.2.2.1)), (a_t_sightSet, .inl (cI, 8, .inl (f_X10_passAll v_t_inside v_t_next v_t_years v_t_sights v_t_keptAt v_t_isWriting g_t_kept g_t_wealth g_t_given g_t_chart g_t_relatives g_t_sightSet g_t_sightMany).2.2.2.2.2.2.2.2.2.2.1)), (a_t_sightMany, .inl (cI, 8, .inl (f_X10_passAll v_t_inside v_t_next v_t_years v_t_sights v_t_keptAt v_t_isWriting g_t_kept g_t_wealth g_t_given g_t_chart g_t_relatives g_t_sightSet g_t_sightMany).2.2.2.2.2.2.2.2.2.2.2))] := by
  refine CT.intro RX10 (by decide) rfl (Nat.le_of_ble_eq_true rfl) rfl ?_
  intro p e s m below meth c C hr hw ls hl
  have hx := C.hx
  have hb := C.hb
  replace hl : lv_has ls 1 [(0, .ref a_t)] := hl
  refine lv_aload_n hx hb dX10_passAll_0 rfl (lv_at hl 0 rfl) ?_
  refine lv_aload_n hx hb dX10_passAll_1 rfl (lv_at hl 0 rfl) ?_
  refine lv_aload_n hx hb dX10_passAll_2 rfl (lv_at hl 0 rfl) ?_
  refine k_get C hw (CC := RX10) (T := TX10) (N := 35) nX10_passAll_X10 0 rfl rfl 4 (by decide) (List.mem_of_getElem? (i := 1) rfl) rfl rfl dX10_passAll_3 ?_
  obtain ⟨h1, hok⟩ := hok
  refine k_callV (As := [.int v_t_inside]) (rest := [.ref a_t]) (n := 1) (CC := RX10) (T := TX10) (N := 35) C hw (T_X10_pass l D cI cZ a_t a_t_wealth a_t_given a_t_chart a_t_relatives a_t_sightSet a_t_sightMany a_t_digits a_t_pad a_t_act a_t_who a_t_whom a_t_much a_t_had a_t_dues a_t_groups a_t_ways a_t_fit a_t_byMany a_t_kept a_t_isKept v_t_inside v_t_next v_t_years v_t_sights v_t_padMany v_t_acts v_t_givenNow v_t_entered v_t_badAct v_t_badWhy v_t_firstAct v_t_firstHouse v_t_fitMany v_t_keptAt v_t_isWriting g_t_kept v_t_inside h1) gX10_passAll_X10_pass rfl ⟨rfl, rfl⟩ (by decide +kernel) ⟨Nat.le_of_ble_eq_true rfl, Nat.le_of_ble_eq_true rfl⟩ 0 rfl rfl [0, 1] rfl rfl [a_t, a_t_kept] rfl rfl rfl hl.1 rfl (Nat.le_of_ble_eq_true rfl) ⟨Nat.zero_le _, Nat.zero_le _⟩ dX10_passAll_6 (fun H locs hw => ?_)
  obtain ⟨z2, h3⟩ : ∃ z, (f_X10_pass v_t_keptAt v_t_isWriting g_t_kept v_t_inside) = z := ⟨_, rfl⟩
  refine W.eq (g2 := F0 m 9 ls [.int z2.1, .ref a_t]) (by subst h3; rfl) ?_
  replace hw := kW_cast (ws' := [(a_t, .inr (10, [.ref a_t_wealth, .ref a_t_given, .ref a_t_chart, .ref a_t_relatives, .int v_t_inside, .int v_t_next, .int v_t_years, .ref a_t_sightSet, .ref a_t_sightMany, .int v_t_sights, .ref a_t_digits, .ref a_t_pad, .int v_t_padMany, .ref a_t_act, .ref a_t_who, .ref a_t_whom, .ref a_t_much, .int v_t_acts, .int v_t_givenNow, .int v_t_entered, .ref a_t_had, .int v_t_badAct, .int v_t_badWhy, .int v_t_firstAct, .int v_t_firstHouse, .ref a_t_dues, .ref a_t_groups, .ref a_t_ways, .ref a_t_fit, .int v_t_fitMany, .ref a_t_byMany, .ref a_t_kept, .ref a_t_isKept, .int z2.2.1, .int v_t_isWriting])), (a_t_kept, .inl (cI, 240, .inl z2.2.2)), (a_t_wealth, .inl (cI, 8, .inl g_t_wealth)), (a_t_given, .inl (cI, 64, .inl g_t_given)), (a_t_chart, .inl (cI, 8, .inl g_t_chart)), (a_t_relatives, .inl (cI, 8, .inl g_t_relatives)), (a_t_sightSet, .inl (cI, 8, .inl g_t_sightSet)), (a_t_sightMany, .inl (cI, 8, .inl g_t_sightMany))]) (by subst h3; rfl) hw
  replace hok := Eq.mp (lt_c h3) hok
  refine k_put C hw (CC := RX10) (T := TX10) (N := 35) (v := .int z2.1) nX10_passAll_X10 tyX10_ok nmX10 0 rfl rfl 4 (by decide) (List.mem_of_getElem? (i := 1) rfl) rfl rfl rfl rfl (Nat.le_of_ble_eq_true rfl) dX10_passAll_9 (fun H locs hw => ?_)
  replace hw : kW D _ s H locs [(a_t, .inr (10, [.ref a_t_wealth, .ref a_t_given, .ref a_t_chart, .ref a_t_relatives, .int z2.1, .int v_t_next, .int v_t_years, .ref a_t_sightSet, .ref a_t_sightMany, .int v_t_sights, .ref a_t_digits, .ref a_t_pad, .int v_t_padMany, .ref a_t_act, .ref a_t_who, .ref a_t_whom, .ref a_t_much, .int v_t_acts, .int v_t_givenNow, .int v_t_entered, .ref a_t_had, .int v_t_badAct, .int v_t_badWhy, .int v_t_firstAct, .int v_t_firstHouse, .ref a_t_dues, .ref a_t_groups, .ref a_t_ways, .ref a_t_fit, .int v_t_fitMany, .ref a_t_byMany, .ref a_t_kept, .ref a_t_isKept, .int z2.2.1, .int v_t_isWriting])), (a_t_kept, .inl (cI, 240, .inl z2.2.2)), (a_t_wealth, .inl (cI, 8, .inl g_t_wealth)), (a_t_given, .inl (cI, 64, .inl g_t_given)), (a_t_chart, .inl (cI, 8, .inl g_t_chart)), (a_t_relatives, .inl (cI, 8, .inl g_t_relatives)), (a_t_sightSet, .inl (cI, 8, .inl g_t_sightSet)), (a_t_sightMany, .inl (cI, 8, .inl g_t_sightMany))] := hw
  refine lv_aload_n hx hb dX10_passAll_12 rfl (lv_at hl 0 rfl) ?_
  refine lv_aload_n hx hb dX10_passAll_13 rfl (lv_at hl 0 rfl) ?_
  refine lv_aload_n hx hb dX10_passAll_14 rfl (lv_at hl 0 rfl) ?_
  refine k_get C hw (CC := RX10) (T := TX10) (N := 35) nX10_passAll_X10 0 rfl rfl 5 (by decide) (List.mem_of_getElem? (i := 2) rfl) rfl rfl dX10_passAll_15 ?_
  obtain ⟨h4, hok⟩ := hok
  refine k_callV (As := [.int v_t_next]) (rest := [.ref a_t]) (n := 1) (CC := RX10) (T := TX10) (N := 35) C hw (T_X10_pass l D cI cZ a_t a_t_wealth a_t_given a_t_chart a_t_relatives a_t_sightSet a_t_sightMany a_t_digits a_t_pad a_t_act a_t_who a_t_whom a_t_much a_t_had a_t_dues a_t_groups a_t_ways a_t_fit a_t_byMany a_t_kept a_t_isKept z2.1 v_t_next v_t_years v_t_sights v_t_padMany v_t_acts v_t_givenNow v_t_entered v_t_badAct v_t_badWhy v_t_firstAct v_t_firstHouse v_t_fitMany z2.2.1 v_t_isWriting z2.2.2 v_t_next h4) gX10_passAll_X10_pass rfl ⟨rfl, rfl⟩ (by decide +kernel) ⟨Nat.le_of_ble_eq_true rfl, Nat.le_of_ble_eq_true rfl⟩ 0 rfl rfl [0, 1] rfl rfl [a_t, a_t_kept] rfl rfl rfl hl.1 rfl (Nat.le_of_ble_eq_true rfl) ⟨Nat.zero_le _, Nat.zero_le _⟩ dX10_passAll_18 (fun H locs hw => ?_)
  obtain ⟨z5, h6⟩ : ∃ z, (f_X10_pass z2.2.1 v_t_isWriting z2.2.2 v_t_next) = z := ⟨_, rfl⟩
  refine W.eq (g2 := F0 m 21 ls [.int z5.1, .ref a_t]) (by subst h6; rfl) ?_
  replace hw := kW_cast (ws' := [(a_t, .inr (10, [.ref a_t_wealth, .ref a_t_given, .ref a_t_chart, .ref a_t_relatives, .int z2.1, .int v_t_next, .int v_t_years, .ref a_t_sightSet, .ref a_t_sightMany, .int v_t_sights, .ref a_t_digits, .ref a_t_pad, .int v_t_padMany, .ref a_t_act, .ref a_t_who, .ref a_t_whom, .ref a_t_much, .int v_t_acts, .int v_t_givenNow, .int v_t_entered, .ref a_t_had, .int v_t_badAct, .int v_t_badWhy, .int v_t_firstAct, .int v_t_firstHouse, .ref a_t_dues, .ref a_t_groups, .ref a_t_ways, .ref a_t_fit, .int v_t_fitMany, .ref a_t_byMany, .ref a_t_kept, .ref a_t_isKept, .int z5.2.1, .int v_t_isWriting])), (a_t_kept, .inl (cI, 240, .inl z5.2.2)), (a_t_wealth, .inl (cI, 8, .inl g_t_wealth)), (a_t_given, .inl (cI, 64, .inl g_t_given)), (a_t_chart, .inl (cI, 8, .inl g_t_chart)), (a_t_relatives, .inl (cI, 8, .inl g_t_relatives)), (a_t_sightSet, .inl (cI, 8, .inl g_t_sightSet)), (a_t_sightMany, .inl (cI, 8, .inl g_t_sightMany))]) (by subst h6; rfl) hw
  replace hok := Eq.mp (lt_c h6) hok
  refine k_put C hw (CC := RX10) (T := TX10) (N := 35) (v := .int z5.1) nX10_passAll_X10 tyX10_ok nmX10 0 rfl rfl 5 (by decide) (List.mem_of_getElem? (i := 2) rfl) rfl rfl rfl rfl (Nat.le_of_ble_eq_true rfl) dX10_passAll_21 (fun H locs hw => ?_)
  replace hw : kW D _ s H locs [(a_t, .inr (10, [.ref a_t_wealth, .ref a_t_given, .ref a_t_chart, .ref a_t_relatives, .int z2.1, .int z5.1, .int v_t_years, .ref a_t_sightSet, .ref a_t_sightMany, .int v_t_sights, .ref a_t_digits, .ref a_t_pad, .int v_t_padMany, .ref a_t_act, .ref a_t_who, .ref a_t_whom, .ref a_t_much, .int v_t_acts, .int v_t_givenNow, .int v_t_entered, .ref a_t_had, .int v_t_badAct, .int v_t_badWhy, .int v_t_firstAct, .int v_t_firstHouse, .ref a_t_dues, .ref a_t_groups, .ref a_t_ways, .ref a_t_fit, .int v_t_fitMany, .ref a_t_byMany, .ref a_t_kept, .ref a_t_isKept, .int z5.2.1, .int v_t_isWriting])), (a_t_kept, .inl (cI, 240, .inl z5.2.2)), (a_t_wealth, .inl (cI, 8, .inl g_t_wealth)), (a_t_given, .inl (cI, 64, .inl g_t_given)), (a_t_chart, .inl (cI, 8, .inl g_t_chart)), (a_t_relatives, .inl (cI, 8, .inl g_t_relatives)), (a_t_sightSet, .inl (cI, 8, .inl g_t_sightSet)), (a_t_sightMany, .inl (cI, 8, .inl g_t_sightMany))] := hw
  refine lv_aload_n hx hb dX10_passAll_24 rfl (lv_at hl 0 rfl) ?_
  refine lv_aload_n hx hb dX10_passAll_25 rfl (lv_at hl 0 rfl) ?_
  refine lv_aload_n hx hb dX10_passAll_26 rfl (lv_at hl 0 rfl) ?_
  refine k_get C hw (CC := RX10) (T := TX10) (N := 35) nX10_passAll_X10 0 rfl rfl 6 (by decide) (List.mem_of_getElem? (i := 3) rfl) rfl rfl dX10_passAll_27 ?_
  obtain ⟨h7, hok⟩ := hok
  refine k_callV (As := [.int v_t_years]) (rest := [.ref a_t]) (n := 1) (CC := RX10) (T := TX10) (N := 35) C hw (T_X10_pass l D cI cZ a_t a_t_wealth a_t_given a_t_chart a_t_relatives a_t_sightSet a_t_sightMany a_t_digits a_t_pad a_t_act a_t_who a_t_whom a_t_much a_t_had a_t_dues a_t_groups a_t_ways a_t_fit a_t_byMany a_t_kept a_t_isKept z2.1 z5.1 v_t_years v_t_sights v_t_padMany v_t_acts v_t_givenNow v_t_entered v_t_badAct v_t_badWhy v_t_firstAct v_t_firstHouse v_t_fitMany z5.2.1 v_t_isWriting z5.2.2 v_t_years h7) gX10_passAll_X10_pass rfl ⟨rfl, rfl⟩ (by decide +kernel) ⟨Nat.le_of_ble_eq_true rfl, Nat.le_of_ble_eq_true rfl⟩ 0 rfl rfl [0, 1] rfl rfl [a_t, a_t_kept] rfl rfl rfl hl.1 rfl (Nat.le_of_ble_eq_true rfl) ⟨Nat.zero_le _, Nat.zero_le _⟩ dX10_passAll_30 (fun H locs hw => ?_)
  obtain ⟨z8, h9⟩ : ∃ z, (f_X10_pass z5.2.1 v_t_isWriting z5.2.2 v_t_years) = z := ⟨_, rfl⟩
  refine W.eq (g2 := F0 m 33 ls [.int z8.1, .ref a_t]) (by subst h9; rfl) ?_
  replace hw := kW_cast (ws' := [(a_t, .inr (10, [.ref a_t_wealth, .ref a_t_given, .ref a_t_chart, .ref a_t_relatives, .int z2.1, .int z5.1, .int v_t_years, .ref a_t_sightSet, .ref a_t_sightMany, .int v_t_sights, .ref a_t_digits, .ref a_t_pad, .int v_t_padMany, .ref a_t_act, .ref a_t_who, .ref a_t_whom, .ref a_t_much, .int v_t_acts, .int v_t_givenNow, .int v_t_entered, .ref a_t_had, .int v_t_badAct, .int v_t_badWhy, .int v_t_firstAct, .int v_t_firstHouse, .ref a_t_dues, .ref a_t_groups, .ref a_t_ways, .ref a_t_fit, .int v_t_fitMany, .ref a_t_byMany, .ref a_t_kept, .ref a_t_isKept, .int z8.2.1, .int v_t_isWriting])), (a_t_kept, .inl (cI, 240, .inl z8.2.2)), (a_t_wealth, .inl (cI, 8, .inl g_t_wealth)), (a_t_given, .inl (cI, 64, .inl g_t_given)), (a_t_chart, .inl (cI, 8, .inl g_t_chart)), (a_t_relatives, .inl (cI, 8, .inl g_t_relatives)), (a_t_sightSet, .inl (cI, 8, .inl g_t_sightSet)), (a_t_sightMany, .inl (cI, 8, .inl g_t_sightMany))]) (by subst h9; rfl) hw
  replace hok := Eq.mp (lt_c h9) hok
  refine k_put C hw (CC := RX10) (T := TX10) (N := 35) (v := .int z8.1) nX10_passAll_X10 tyX10_ok nmX10 0 rfl rfl 6 (by decide) (List.mem_of_getElem? (i := 3) rfl) rfl rfl rfl rfl (Nat.le_of_ble_eq_true rfl) dX10_passAll_33 (fun H locs hw => ?_)
  replace hw : kW D _ s H locs [(a_t, .inr (10, [.ref a_t_wealth, .ref a_t_given, .ref a_t_chart, .ref a_t_relatives, .int z2.1, .int z5.1, .int z8.1, .ref a_t_sightSet, .ref a_t_sightMany, .int v_t_sights, .ref a_t_digits, .ref a_t_pad, .int v_t_padMany, .ref a_t_act, .ref a_t_who, .ref a_t_whom, .ref a_t_much, .int v_t_acts, .int v_t_givenNow, .int v_t_entered, .ref a_t_had, .int v_t_badAct, .int v_t_badWhy, .int v_t_firstAct, .int v_t_firstHouse, .ref a_t_dues, .ref a_t_groups, .ref a_t_ways, .ref a_t_fit, .int v_t_fitMany, .ref a_t_byMany, .ref a_t_kept, .ref a_t_isKept, .int z8.2.1, .int v_t_isWriting])), (a_t_kept, .inl (cI, 240, .inl z8.2.2)), (a_t_wealth, .inl (cI, 8, .inl g_t_wealth)), (a_t_given, .inl (cI, 64, .inl g_t_given)), (a_t_chart, .inl (cI, 8, .inl g_t_chart)), (a_t_relatives, .inl (cI, 8, .inl g_t_relatives)), (a_t_sightSet, .inl (cI, 8, .inl g_t_sightSet)), (a_t_sightMany, .inl (cI, 8, .inl g_t_sightMany))] := hw
  refine lv_aload_n hx hb dX10_passAll_36 rfl (lv_at hl 0 rfl) ?_
  refine lv_aload_n hx hb dX10_passAll_37 rfl (lv_at hl 0 rfl) ?_
  refine lv_aload_n hx hb dX10_passAll_38 rfl (lv_at hl 0 rfl) ?_
  refine k_get C hw (CC := RX10) (T := TX10) (N := 35) nX10_passAll_X10 0 rfl rfl 9 (by decide) (List.mem_of_getElem? (i := 4) rfl) rfl rfl dX10_passAll_39 ?_
  obtain ⟨h10, hok⟩ := hok
  refine k_callV (As := [.int v_t_sights]) (rest := [.ref a_t]) (n := 1) (CC := RX10) (T := TX10) (N := 35) C hw (T_X10_pass l D cI cZ a_t a_t_wealth a_t_given a_t_chart a_t_relatives a_t_sightSet a_t_sightMany a_t_digits a_t_pad a_t_act a_t_who a_t_whom a_t_much a_t_had a_t_dues a_t_groups a_t_ways a_t_fit a_t_byMany a_t_kept a_t_isKept z2.1 z5.1 z8.1 v_t_sights v_t_padMany v_t_acts v_t_givenNow v_t_entered v_t_badAct v_t_badWhy v_t_firstAct v_t_firstHouse v_t_fitMany z8.2.1 v_t_isWriting z8.2.2 v_t_sights h10) gX10_passAll_X10_pass rfl ⟨rfl, rfl⟩ (by decide +kernel) ⟨Nat.le_of_ble_eq_true rfl, Nat.le_of_ble_eq_true rfl⟩ 0 rfl rfl [0, 1] rfl rfl [a_t, a_t_kept] rfl rfl rfl hl.1 rfl (Nat.le_of_ble_eq_true rfl) ⟨Nat.zero_le _, Nat.zero_le _⟩ dX10_passAll_42 (fun H locs hw => ?_)
  obtain ⟨z11, h12⟩ : ∃ z, (f_X10_pass z8.2.1 v_t_isWriting z8.2.2 v_t_sights) = z := ⟨_, rfl⟩
  refine W.eq (g2 := F0 m 45 ls [.int z11.1, .ref a_t]) (by subst h12; rfl) ?_
  replace hw := kW_cast (ws' := [(a_t, .inr (10, [.ref a_t_wealth, .ref a_t_given, .ref a_t_chart, .ref a_t_relatives, .int z2.1, .int z5.1, .int z8.1, .ref a_t_sightSet, .ref a_t_sightMany, .int v_t_sights, .ref a_t_digits, .ref a_t_pad, .int v_t_padMany, .ref a_t_act, .ref a_t_who, .ref a_t_whom, .ref a_t_much, .int v_t_acts, .int v_t_givenNow, .int v_t_entered, .ref a_t_had, .int v_t_badAct, .int v_t_badWhy, .int v_t_firstAct, .int v_t_firstHouse, .ref a_t_dues, .ref a_t_groups, .ref a_t_ways, .ref a_t_fit, .int v_t_fitMany, .ref a_t_byMany, .ref a_t_kept, .ref a_t_isKept, .int z11.2.1, .int v_t_isWriting])), (a_t_kept, .inl (cI, 240, .inl z11.2.2)), (a_t_wealth, .inl (cI, 8, .inl g_t_wealth)), (a_t_given, .inl (cI, 64, .inl g_t_given)), (a_t_chart, .inl (cI, 8, .inl g_t_chart)), (a_t_relatives, .inl (cI, 8, .inl g_t_relatives)), (a_t_sightSet, .inl (cI, 8, .inl g_t_sightSet)), (a_t_sightMany, .inl (cI, 8, .inl g_t_sightMany))]) (by subst h12; rfl) hw
  replace hok := Eq.mp (lt_c h12) hok
  refine k_put C hw (CC := RX10) (T := TX10) (N := 35) (v := .int z11.1) nX10_passAll_X10 tyX10_ok nmX10 0 rfl rfl 9 (by decide) (List.mem_of_getElem? (i := 4) rfl) rfl rfl rfl rfl (Nat.le_of_ble_eq_true rfl) dX10_passAll_45 (fun H locs hw => ?_)
  replace hw : kW D _ s H locs [(a_t, .inr (10, [.ref a_t_wealth, .ref a_t_given, .ref a_t_chart, .ref a_t_relatives, .int z2.1, .int z5.1, .int z8.1, .ref a_t_sightSet, .ref a_t_sightMany, .int z11.1, .ref a_t_digits, .ref a_t_pad, .int v_t_padMany, .ref a_t_act, .ref a_t_who, .ref a_t_whom, .ref a_t_much, .int v_t_acts, .int v_t_givenNow, .int v_t_entered, .ref a_t_had, .int v_t_badAct, .int v_t_badWhy, .int v_t_firstAct, .int v_t_firstHouse, .ref a_t_dues, .ref a_t_groups, .ref a_t_ways, .ref a_t_fit, .int v_t_fitMany, .ref a_t_byMany, .ref a_t_kept, .ref a_t_isKept, .int z11.2.1, .int v_t_isWriting])), (a_t_kept, .inl (cI, 240, .inl z11.2.2)), (a_t_wealth, .inl (cI, 8, .inl g_t_wealth)), (a_t_given, .inl (cI, 64, .inl g_t_given)), (a_t_chart, .inl (cI, 8, .inl g_t_chart)), (a_t_relatives, .inl (cI, 8, .inl g_t_relatives)), (a_t_sightSet, .inl (cI, 8, .inl g_t_sightSet)), (a_t_sightMany, .inl (cI, 8, .inl g_t_sightMany))] := hw
  refine lv_aload_n hx hb dX10_passAll_48 rfl (lv_at hl 0 rfl) ?_
  refine lv_aload_n hx hb dX10_passAll_49 rfl (lv_at hl 0 rfl) ?_
  refine k_get C hw (CC := RX10) (T := TX10) (N := 35) nX10_passAll_X10 0 rfl rfl 0 (by decide) (List.mem_of_getElem? (i := 5) rfl) rfl rfl dX10_passAll_50 ?_
  refine lv_bipush (v := 8) hx hb dX10_passAll_53 (by decide) ?_
  obtain ⟨h13, hok⟩ := hok
  refine k_callV (As := [.ref a_t_wealth, .int 8]) (rest := []) (n := 2) (CC := RX10) (T := TX10) (N := 35) C hw (T_X10_passRow_8 l D cI cZ a_t_wealth a_t a_t_wealth a_t_given a_t_chart a_t_relatives a_t_sightSet a_t_sightMany a_t_digits a_t_pad a_t_act a_t_who a_t_whom a_t_much a_t_had a_t_dues a_t_groups a_t_ways a_t_fit a_t_byMany a_t_kept a_t_isKept g_t_wealth z2.1 z5.1 z8.1 z11.1 v_t_padMany v_t_acts v_t_givenNow v_t_entered v_t_badAct v_t_badWhy v_t_firstAct v_t_firstHouse v_t_fitMany z11.2.1 v_t_isWriting z11.2.2 (8 : Int32) h13) gX10_passAll_X10_passRow rfl ⟨rfl, rfl⟩ (by decide +kernel) ⟨Nat.le_of_ble_eq_true rfl, Nat.le_of_ble_eq_true rfl⟩ 0 rfl rfl [2, 0, 1] rfl rfl [a_t_wealth, a_t, a_t_kept] rfl rfl rfl hl.1 rfl (Nat.le_of_ble_eq_true rfl) ⟨Nat.zero_le _, Nat.zero_le _⟩ dX10_passAll_55 (fun H locs hw => ?_)
  obtain ⟨z14, h15⟩ : ∃ z, (f_X10_passRow_8 g_t_wealth z11.2.1 v_t_isWriting z11.2.2 (8 : Int32)) = z := ⟨_, rfl⟩
  refine W.eq (g2 := F0 m 58 ls []) (by subst h15; rfl) ?_
  replace hw := kW_cast (ws' := [(a_t, .inr (10, [.ref a_t_wealth, .ref a_t_given, .ref a_t_chart, .ref a_t_relatives, .int z2.1, .int z5.1, .int z8.1, .ref a_t_sightSet, .ref a_t_sightMany, .int z11.1, .ref a_t_digits, .ref a_t_pad, .int v_t_padMany, .ref a_t_act, .ref a_t_who, .ref a_t_whom, .ref a_t_much, .int v_t_acts, .int v_t_givenNow, .int v_t_entered, .ref a_t_had, .int v_t_badAct, .int v_t_badWhy, .int v_t_firstAct, .int v_t_firstHouse, .ref a_t_dues, .ref a_t_groups, .ref a_t_ways, .ref a_t_fit, .int v_t_fitMany, .ref a_t_byMany, .ref a_t_kept, .ref a_t_isKept, .int z14.2.1, .int v_t_isWriting])), (a_t_kept, .inl (cI, 240, .inl z14.2.2)), (a_t_wealth, .inl (cI, 8, .inl z14.1)), (a_t_given, .inl (cI, 64, .inl g_t_given)), (a_t_chart, .inl (cI, 8, .inl g_t_chart)), (a_t_relatives, .inl (cI, 8, .inl g_t_relatives)), (a_t_sightSet, .inl (cI, 8, .inl g_t_sightSet)), (a_t_sightMany, .inl (cI, 8, .inl g_t_sightMany))]) (by subst h15; rfl) hw
  replace hok := Eq.mp (lt_c h15) hok
  refine lv_aload_n hx hb dX10_passAll_58 rfl (lv_at hl 0 rfl) ?_
  refine lv_aload_n hx hb dX10_passAll_59 rfl (lv_at hl 0 rfl) ?_
  refine k_get C hw (CC := RX10) (T := TX10) (N := 35) nX10_passAll_X10 0 rfl rfl 1 (by decide) (List.mem_of_getElem? (i := 6) rfl) rfl rfl dX10_passAll_60 ?_
  refine lv_bipush (v := 64) hx hb dX10_passAll_63 (by decide) ?_
  obtain ⟨h16, hok⟩ := hok
  refine k_callV (As := [.ref a_t_given, .int 64]) (rest := []) (n := 2) (CC := RX10) (T := TX10) (N := 35) C hw (T_X10_passRow_64 l D cI cZ a_t_given a_t a_t_wealth a_t_given a_t_chart a_t_relatives a_t_sightSet a_t_sightMany a_t_digits a_t_pad a_t_act a_t_who a_t_whom a_t_much a_t_had a_t_dues a_t_groups a_t_ways a_t_fit a_t_byMany a_t_kept a_t_isKept g_t_given z2.1 z5.1 z8.1 z11.1 v_t_padMany v_t_acts v_t_givenNow v_t_entered v_t_badAct v_t_badWhy v_t_firstAct v_t_firstHouse v_t_fitMany z14.2.1 v_t_isWriting z14.2.2 (64 : Int32) h16) gX10_passAll_X10_passRow rfl ⟨rfl, rfl⟩ (by decide +kernel) ⟨Nat.le_of_ble_eq_true rfl, Nat.le_of_ble_eq_true rfl⟩ 0 rfl rfl [3, 0, 1] rfl rfl [a_t_given, a_t, a_t_kept] rfl rfl rfl hl.1 rfl (Nat.le_of_ble_eq_true rfl) ⟨Nat.zero_le _, Nat.zero_le _⟩ dX10_passAll_65 (fun H locs hw => ?_)
  obtain ⟨z17, h18⟩ : ∃ z, (f_X10_passRow_64 g_t_given z14.2.1 v_t_isWriting z14.2.2 (64 : Int32)) = z := ⟨_, rfl⟩
  refine W.eq (g2 := F0 m 68 ls []) (by subst h18; rfl) ?_
  replace hw := kW_cast (ws' := [(a_t, .inr (10, [.ref a_t_wealth, .ref a_t_given, .ref a_t_chart, .ref a_t_relatives, .int z2.1, .int z5.1, .int z8.1, .ref a_t_sightSet, .ref a_t_sightMany, .int z11.1, .ref a_t_digits, .ref a_t_pad, .int v_t_padMany, .ref a_t_act, .ref a_t_who, .ref a_t_whom, .ref a_t_much, .int v_t_acts, .int v_t_givenNow, .int v_t_entered, .ref a_t_had, .int v_t_badAct, .int v_t_badWhy, .int v_t_firstAct, .int v_t_firstHouse, .ref a_t_dues, .ref a_t_groups, .ref a_t_ways, .ref a_t_fit, .int v_t_fitMany, .ref a_t_byMany, .ref a_t_kept, .ref a_t_isKept, .int z17.2.1, .int v_t_isWriting])), (a_t_kept, .inl (cI, 240, .inl z17.2.2)), (a_t_wealth, .inl (cI, 8, .inl z14.1)), (a_t_given, .inl (cI, 64, .inl z17.1)), (a_t_chart, .inl (cI, 8, .inl g_t_chart)), (a_t_relatives, .inl (cI, 8, .inl g_t_relatives)), (a_t_sightSet, .inl (cI, 8, .inl g_t_sightSet)), (a_t_sightMany, .inl (cI, 8, .inl g_t_sightMany))]) (by subst h18; rfl) hw
  replace hok := Eq.mp (lt_c h18) hok
  refine lv_aload_n hx hb dX10_passAll_68 rfl (lv_at hl 0 rfl) ?_
  refine lv_aload_n hx hb dX10_passAll_69 rfl (lv_at hl 0 rfl) ?_
  refine k_get C hw (CC := RX10) (T := TX10) (N := 35) nX10_passAll_X10 0 rfl rfl 2 (by decide) (List.mem_of_getElem? (i := 7) rfl) rfl rfl dX10_passAll_70 ?_
  refine lv_bipush (v := 8) hx hb dX10_passAll_73 (by decide) ?_
  obtain ⟨h19, hok⟩ := hok
  refine k_callV (As := [.ref a_t_chart, .int 8]) (rest := []) (n := 2) (CC := RX10) (T := TX10) (N := 35) C hw (T_X10_passRow_8 l D cI cZ a_t_chart a_t a_t_wealth a_t_given a_t_chart a_t_relatives a_t_sightSet a_t_sightMany a_t_digits a_t_pad a_t_act a_t_who a_t_whom a_t_much a_t_had a_t_dues a_t_groups a_t_ways a_t_fit a_t_byMany a_t_kept a_t_isKept g_t_chart z2.1 z5.1 z8.1 z11.1 v_t_padMany v_t_acts v_t_givenNow v_t_entered v_t_badAct v_t_badWhy v_t_firstAct v_t_firstHouse v_t_fitMany z17.2.1 v_t_isWriting z17.2.2 (8 : Int32) h19) gX10_passAll_X10_passRow rfl ⟨rfl, rfl⟩ (by decide +kernel) ⟨Nat.le_of_ble_eq_true rfl, Nat.le_of_ble_eq_true rfl⟩ 0 rfl rfl [4, 0, 1] rfl rfl [a_t_chart, a_t, a_t_kept] rfl rfl rfl hl.1 rfl (Nat.le_of_ble_eq_true rfl) ⟨Nat.zero_le _, Nat.zero_le _⟩ dX10_passAll_75 (fun H locs hw => ?_)
  obtain ⟨z20, h21⟩ : ∃ z, (f_X10_passRow_8 g_t_chart z17.2.1 v_t_isWriting z17.2.2 (8 : Int32)) = z := ⟨_, rfl⟩
  refine W.eq (g2 := F0 m 78 ls []) (by subst h21; rfl) ?_
  replace hw := kW_cast (ws' := [(a_t, .inr (10, [.ref a_t_wealth, .ref a_t_given, .ref a_t_chart, .ref a_t_relatives, .int z2.1, .int z5.1, .int z8.1, .ref a_t_sightSet, .ref a_t_sightMany, .int z11.1, .ref a_t_digits, .ref a_t_pad, .int v_t_padMany, .ref a_t_act, .ref a_t_who, .ref a_t_whom, .ref a_t_much, .int v_t_acts, .int v_t_givenNow, .int v_t_entered, .ref a_t_had, .int v_t_badAct, .int v_t_badWhy, .int v_t_firstAct, .int v_t_firstHouse, .ref a_t_dues, .ref a_t_groups, .ref a_t_ways, .ref a_t_fit, .int v_t_fitMany, .ref a_t_byMany, .ref a_t_kept, .ref a_t_isKept, .int z20.2.1, .int v_t_isWriting])), (a_t_kept, .inl (cI, 240, .inl z20.2.2)), (a_t_wealth, .inl (cI, 8, .inl z14.1)), (a_t_given, .inl (cI, 64, .inl z17.1)), (a_t_chart, .inl (cI, 8, .inl z20.1)), (a_t_relatives, .inl (cI, 8, .inl g_t_relatives)), (a_t_sightSet, .inl (cI, 8, .inl g_t_sightSet)), (a_t_sightMany, .inl (cI, 8, .inl g_t_sightMany))]) (by subst h21; rfl) hw
  replace hok := Eq.mp (lt_c h21) hok
  refine lv_aload_n hx hb dX10_passAll_78 rfl (lv_at hl 0 rfl) ?_
  refine lv_aload_n hx hb dX10_passAll_79 rfl (lv_at hl 0 rfl) ?_
  refine k_get C hw (CC := RX10) (T := TX10) (N := 35) nX10_passAll_X10 0 rfl rfl 3 (by decide) (List.mem_of_getElem? (i := 8) rfl) rfl rfl dX10_passAll_80 ?_
  refine lv_bipush (v := 8) hx hb dX10_passAll_83 (by decide) ?_
  obtain ⟨h22, hok⟩ := hok
  refine k_callV (As := [.ref a_t_relatives, .int 8]) (rest := []) (n := 2) (CC := RX10) (T := TX10) (N := 35) C hw (T_X10_passRow_8 l D cI cZ a_t_relatives a_t a_t_wealth a_t_given a_t_chart a_t_relatives a_t_sightSet a_t_sightMany a_t_digits a_t_pad a_t_act a_t_who a_t_whom a_t_much a_t_had a_t_dues a_t_groups a_t_ways a_t_fit a_t_byMany a_t_kept a_t_isKept g_t_relatives z2.1 z5.1 z8.1 z11.1 v_t_padMany v_t_acts v_t_givenNow v_t_entered v_t_badAct v_t_badWhy v_t_firstAct v_t_firstHouse v_t_fitMany z20.2.1 v_t_isWriting z20.2.2 (8 : Int32) h22) gX10_passAll_X10_passRow rfl ⟨rfl, rfl⟩ (by decide +kernel) ⟨Nat.le_of_ble_eq_true rfl, Nat.le_of_ble_eq_true rfl⟩ 0 rfl rfl [5, 0, 1] rfl rfl [a_t_relatives, a_t, a_t_kept] rfl rfl rfl hl.1 rfl (Nat.le_of_ble_eq_true rfl) ⟨Nat.zero_le _, Nat.zero_le _⟩ dX10_passAll_85 (fun H locs hw => ?_)
  obtain ⟨z23, h24⟩ : ∃ z, (f_X10_passRow_8 g_t_relatives z20.2.1 v_t_isWriting z20.2.2 (8 : Int32)) = z := ⟨_, rfl⟩
  refine W.eq (g2 := F0 m 88 ls []) (by subst h24; rfl) ?_
  replace hw := kW_cast (ws' := [(a_t, .inr (10, [.ref a_t_wealth, .ref a_t_given, .ref a_t_chart, .ref a_t_relatives, .int z2.1, .int z5.1, .int z8.1, .ref a_t_sightSet, .ref a_t_sightMany, .int z11.1, .ref a_t_digits, .ref a_t_pad, .int v_t_padMany, .ref a_t_act, .ref a_t_who, .ref a_t_whom, .ref a_t_much, .int v_t_acts, .int v_t_givenNow, .int v_t_entered, .ref a_t_had, .int v_t_badAct, .int v_t_badWhy, .int v_t_firstAct, .int v_t_firstHouse, .ref a_t_dues, .ref a_t_groups, .ref a_t_ways, .ref a_t_fit, .int v_t_fitMany, .ref a_t_byMany, .ref a_t_kept, .ref a_t_isKept, .int z23.2.1, .int v_t_isWriting])), (a_t_kept, .inl (cI, 240, .inl z23.2.2)), (a_t_wealth, .inl (cI, 8, .inl z14.1)), (a_t_given, .inl (cI, 64, .inl z17.1)), (a_t_chart, .inl (cI, 8, .inl z20.1)), (a_t_relatives, .inl (cI, 8, .inl z23.1)), (a_t_sightSet, .inl (cI, 8, .inl g_t_sightSet)), (a_t_sightMany, .inl (cI, 8, .inl g_t_sightMany))]) (by subst h24; rfl) hw
  replace hok := Eq.mp (lt_c h24) hok
  refine lv_aload_n hx hb dX10_passAll_88 rfl (lv_at hl 0 rfl) ?_
  refine lv_aload_n hx hb dX10_passAll_89 rfl (lv_at hl 0 rfl) ?_
  refine k_get C hw (CC := RX10) (T := TX10) (N := 35) nX10_passAll_X10 0 rfl rfl 7 (by decide) (List.mem_of_getElem? (i := 9) rfl) rfl rfl dX10_passAll_90 ?_
  refine lv_bipush (v := 8) hx hb dX10_passAll_93 (by decide) ?_
  obtain ⟨h25, hok⟩ := hok
  refine k_callV (As := [.ref a_t_sightSet, .int 8]) (rest := []) (n := 2) (CC := RX10) (T := TX10) (N := 35) C hw (T_X10_passRow_8 l D cI cZ a_t_sightSet a_t a_t_wealth a_t_given a_t_chart a_t_relatives a_t_sightSet a_t_sightMany a_t_digits a_t_pad a_t_act a_t_who a_t_whom a_t_much a_t_had a_t_dues a_t_groups a_t_ways a_t_fit a_t_byMany a_t_kept a_t_isKept g_t_sightSet z2.1 z5.1 z8.1 z11.1 v_t_padMany v_t_acts v_t_givenNow v_t_entered v_t_badAct v_t_badWhy v_t_firstAct v_t_firstHouse v_t_fitMany z23.2.1 v_t_isWriting z23.2.2 (8 : Int32) h25) gX10_passAll_X10_passRow rfl ⟨rfl, rfl⟩ (by decide +kernel) ⟨Nat.le_of_ble_eq_true rfl, Nat.le_of_ble_eq_true rfl⟩ 0 rfl rfl [6, 0, 1] rfl rfl [a_t_sightSet, a_t, a_t_kept] rfl rfl rfl hl.1 rfl (Nat.le_of_ble_eq_true rfl) ⟨Nat.zero_le _, Nat.zero_le _⟩ dX10_passAll_95 (fun H locs hw => ?_)
  obtain ⟨z26, h27⟩ : ∃ z, (f_X10_passRow_8 g_t_sightSet z23.2.1 v_t_isWriting z23.2.2 (8 : Int32)) = z := ⟨_, rfl⟩
  refine W.eq (g2 := F0 m 98 ls []) (by subst h27; rfl) ?_
  replace hw := kW_cast (ws' := [(a_t, .inr (10, [.ref a_t_wealth, .ref a_t_given, .ref a_t_chart, .ref a_t_relatives, .int z2.1, .int z5.1, .int z8.1, .ref a_t_sightSet, .ref a_t_sightMany, .int z11.1, .ref a_t_digits, .ref a_t_pad, .int v_t_padMany, .ref a_t_act, .ref a_t_who, .ref a_t_whom, .ref a_t_much, .int v_t_acts, .int v_t_givenNow, .int v_t_entered, .ref a_t_had, .int v_t_badAct, .int v_t_badWhy, .int v_t_firstAct, .int v_t_firstHouse, .ref a_t_dues, .ref a_t_groups, .ref a_t_ways, .ref a_t_fit, .int v_t_fitMany, .ref a_t_byMany, .ref a_t_kept, .ref a_t_isKept, .int z26.2.1, .int v_t_isWriting])), (a_t_kept, .inl (cI, 240, .inl z26.2.2)), (a_t_wealth, .inl (cI, 8, .inl z14.1)), (a_t_given, .inl (cI, 64, .inl z17.1)), (a_t_chart, .inl (cI, 8, .inl z20.1)), (a_t_relatives, .inl (cI, 8, .inl z23.1)), (a_t_sightSet, .inl (cI, 8, .inl z26.1)), (a_t_sightMany, .inl (cI, 8, .inl g_t_sightMany))]) (by subst h27; rfl) hw
  replace hok := Eq.mp (lt_c h27) hok
  refine lv_aload_n hx hb dX10_passAll_98 rfl (lv_at hl 0 rfl) ?_
  refine lv_aload_n hx hb dX10_passAll_99 rfl (lv_at hl 0 rfl) ?_
  refine k_get C hw (CC := RX10) (T := TX10) (N := 35) nX10_passAll_X10 0 rfl rfl 8 (by decide) (List.mem_of_getElem? (i := 10) rfl) rfl rfl dX10_passAll_100 ?_
  refine lv_bipush (v := 8) hx hb dX10_passAll_103 (by decide) ?_
  obtain ⟨h28, hok⟩ := hok
  refine k_callV (As := [.ref a_t_sightMany, .int 8]) (rest := []) (n := 2) (CC := RX10) (T := TX10) (N := 35) C hw (T_X10_passRow_8 l D cI cZ a_t_sightMany a_t a_t_wealth a_t_given a_t_chart a_t_relatives a_t_sightSet a_t_sightMany a_t_digits a_t_pad a_t_act a_t_who a_t_whom a_t_much a_t_had a_t_dues a_t_groups a_t_ways a_t_fit a_t_byMany a_t_kept a_t_isKept g_t_sightMany z2.1 z5.1 z8.1 z11.1 v_t_padMany v_t_acts v_t_givenNow v_t_entered v_t_badAct v_t_badWhy v_t_firstAct v_t_firstHouse v_t_fitMany z26.2.1 v_t_isWriting z26.2.2 (8 : Int32) h28) gX10_passAll_X10_passRow rfl ⟨rfl, rfl⟩ (by decide +kernel) ⟨Nat.le_of_ble_eq_true rfl, Nat.le_of_ble_eq_true rfl⟩ 0 rfl rfl [7, 0, 1] rfl rfl [a_t_sightMany, a_t, a_t_kept] rfl rfl rfl hl.1 rfl (Nat.le_of_ble_eq_true rfl) ⟨Nat.zero_le _, Nat.zero_le _⟩ dX10_passAll_105 (fun H locs hw => ?_)
  obtain ⟨z29, h30⟩ : ∃ z, (f_X10_passRow_8 g_t_sightMany z26.2.1 v_t_isWriting z26.2.2 (8 : Int32)) = z := ⟨_, rfl⟩
  refine W.eq (g2 := F0 m 108 ls []) (by subst h30; rfl) ?_
  replace hw := kW_cast (ws' := [(a_t, .inr (10, [.ref a_t_wealth, .ref a_t_given, .ref a_t_chart, .ref a_t_relatives, .int z2.1, .int z5.1, .int z8.1, .ref a_t_sightSet, .ref a_t_sightMany, .int z11.1, .ref a_t_digits, .ref a_t_pad, .int v_t_padMany, .ref a_t_act, .ref a_t_who, .ref a_t_whom, .ref a_t_much, .int v_t_acts, .int v_t_givenNow, .int v_t_entered, .ref a_t_had, .int v_t_badAct, .int v_t_badWhy, .int v_t_firstAct, .int v_t_firstHouse, .ref a_t_dues, .ref a_t_groups, .ref a_t_ways, .ref a_t_fit, .int v_t_fitMany, .ref a_t_byMany, .ref a_t_kept, .ref a_t_isKept, .int z29.2.1, .int v_t_isWriting])), (a_t_kept, .inl (cI, 240, .inl z29.2.2)), (a_t_wealth, .inl (cI, 8, .inl z14.1)), (a_t_given, .inl (cI, 64, .inl z17.1)), (a_t_chart, .inl (cI, 8, .inl z20.1)), (a_t_relatives, .inl (cI, 8, .inl z23.1)), (a_t_sightSet, .inl (cI, 8, .inl z26.1)), (a_t_sightMany, .inl (cI, 8, .inl z29.1))]) (by subst h30; rfl) hw
  rw [show f_X10_passAll v_t_inside v_t_next v_t_years v_t_sights v_t_keptAt v_t_isWriting g_t_kept g_t_wealth g_t_given g_t_chart g_t_relatives g_t_sightSet g_t_sightMany = (z2.1, z5.1, z8.1, z11.1, z29.2.1, z29.2.2, z14.1, z17.1, z20.1, z23.1, z26.1, z29.1) from by
      unfold f_X10_passAll
      exact (lt_c h3).trans ((lt_c h6).trans ((lt_c h9).trans ((lt_c h12).trans ((lt_c h15).trans ((lt_c h18).trans ((lt_c h21).trans ((lt_c h24).trans ((lt_c h27).trans ((lt_c h30).trans (rfl))))))))))]
  exact k_vret C hr hw dX10_passAll_108

theorem nX10_image_X10 : ∀ w ∈ wsX100, w ∈ wsX10_image := fun _ h => List.mem_cons_of_mem _ (List.mem_append_right _ h)
def f_X10_image (v_t_inside : Int32) (v_t_next : Int32) (v_t_years : Int32) (v_t_sights : Int32) (v_t_keptAt : Int32) (v_t_isWriting : Int32) (g_t_kept : (Nat → Int32)) (g_t_wealth : (Nat → Int32)) (g_t_given : (Nat → Int32)) (g_t_chart : (Nat → Int32)) (g_t_relatives : (Nat → Int32)) (g_t_sightSet : (Nat → Int32)) (g_t_sightMany : (Nat → Int32)) (g_t_isKept : (Nat → Int32)) (p1 : Int32) : Int32 × Int32 × Int32 × Int32 × Int32 × Int32 × Int32 × (Nat → Int32) × (Nat → Int32) × (Nat → Int32) × (Nat → Int32) × (Nat → Int32) × (Nat → Int32) × (Nat → Int32) × (Nat → Int32) := (if (f_X10_in ((p1).toInt64) (0 : Int64) (1 : Int64)) = 0 then ((-2), v_t_inside, v_t_next, v_t_years, v_t_sights, v_t_keptAt, v_t_isWriting, g_t_kept, g_t_wealth, g_t_given, g_t_chart, g_t_relatives, g_t_sightSet, g_t_sightMany, g_t_isKept) else (lt (f_X10_passAll v_t_inside v_t_next v_t_years v_t_sights (120 * p1) (1 : Int32) g_t_kept g_t_wealth g_t_given g_t_chart g_t_relatives g_t_sightSet g_t_sightMany) (fun z3 => (1, z3.1, z3.2.1, z3.2.2.1, z3.2.2.2.1, z3.2.2.2.2.1, 1, z3.2.2.2.2.2.1, z3.2.2.2.2.2.2.1, z3.2.2.2.2.2.2.2.1, z3.2.2.2.2.2.2.2.2.1, z3.2.2.2.2.2.2.2.2.2.1, z3.2.2.2.2.2.2.2.2.2.2.1, z3.2.2.2.2.2.2.2.2.2.2.2, (upd g_t_isKept p1.toNatClampNeg (vp_nar .boolean 1))))))
def o_X10_image (v_t_inside : Int32) (v_t_next : Int32) (v_t_years : Int32) (v_t_sights : Int32) (g_t_kept : (Nat → Int32)) (g_t_wealth : (Nat → Int32)) (g_t_given : (Nat → Int32)) (g_t_chart : (Nat → Int32)) (g_t_relatives : (Nat → Int32)) (g_t_sightSet : (Nat → Int32)) (g_t_sightMany : (Nat → Int32)) (p1 : Int32) : Prop := (if (f_X10_in ((p1).toInt64) (0 : Int64) (1 : Int64)) = 0 then True else ((o_X10_passAll v_t_inside v_t_next v_t_years v_t_sights (120 * p1) (1 : Int32) g_t_kept g_t_wealth g_t_given g_t_chart g_t_relatives g_t_sightSet g_t_sightMany) ∧ (lt (f_X10_passAll v_t_inside v_t_next v_t_years v_t_sights (120 * p1) (1 : Int32) g_t_kept g_t_wealth g_t_given g_t_chart g_t_relatives g_t_sightSet g_t_sightMany) (fun z3 => ((vp_in p1 2) ∧ True)))))
set_option maxHeartbeats 4000000 in
set_option maxRecDepth 100000 in
theorem T_X10_image (l : Launch) (D : va_G) (cI cZ : ClassId) (a_t a_t_wealth a_t_given a_t_chart a_t_relatives a_t_sightSet a_t_sightMany a_t_digits a_t_pad a_t_act a_t_who a_t_whom a_t_much a_t_had a_t_dues a_t_groups a_t_ways a_t_fit a_t_byMany a_t_kept a_t_isKept : Nat) (v_t_inside : Int32) (v_t_next : Int32) (v_t_years : Int32) (v_t_sights : Int32) (v_t_padMany : Int32) (v_t_acts : Int32) (v_t_givenNow : Int32) (v_t_entered : Int32) (v_t_badAct : Int32) (v_t_badWhy : Int32) (v_t_firstAct : Int32) (v_t_firstHouse : Int32) (v_t_fitMany : Int32) (v_t_keptAt : Int32) (v_t_isWriting : Int32) (g_t_kept : (Nat → Int32)) (g_t_wealth : (Nat → Int32)) (g_t_given : (Nat → Int32)) (g_t_chart : (Nat → Int32)) (g_t_relatives : (Nat → Int32)) (g_t_sightSet : (Nat → Int32)) (g_t_sightMany : (Nat → Int32)) (g_t_isKept : (Nat → Int32)) (p1 : Int32) (hok : o_X10_image v_t_inside v_t_next v_t_years v_t_sights g_t_kept g_t_wealth g_t_given g_t_chart g_t_relatives g_t_sightSet g_t_sightMany p1) : CT l D cI cZ yX10_image wsX10_image ({ frames := 3, cells := 0, slots := 0, locals := 65 }) [.ref a_t, .int p1] [(a_t, .inr (10, [.ref a_t_wealth, .ref a_t_given, .ref a_t_chart, .ref a_t_relatives, .int v_t_inside, .int v_t_next, .int v_t_years, .ref a_t_sightSet, .ref a_t_sightMany, .int v_t_sights, .ref a_t_digits, .ref a_t_pad, .int v_t_padMany, .ref a_t_act, .ref a_t_who, .ref a_t_whom, .ref a_t_much, .int v_t_acts, .int v_t_givenNow, .int v_t_entered, .ref a_t_had, .int v_t_badAct, .int v_t_badWhy, .int v_t_firstAct, .int v_t_firstHouse, .ref a_t_dues, .ref a_t_groups, .ref a_t_ways, .ref a_t_fit, .int v_t_fitMany, .ref a_t_byMany, .ref a_t_kept, .ref a_t_isKept, .int v_t_keptAt, .int v_t_isWriting])), (a_t_kept, .inl (cI, 240, .inl g_t_kept)), (a_t_wealth, .inl (cI, 8, .inl g_t_wealth)), (a_t_given, .inl (cI, 64, .inl g_t_given)), (a_t_chart, .inl (cI, 8, .inl g_t_chart)), (a_t_relatives, .inl (cI, 8, .inl g_t_relatives)), (a_t_sightSet, .inl (cI, 8, .inl g_t_sightSet)), (a_t_sightMany, .inl (cI, 8, .inl g_t_sightMany)), (a_t_isKept, .inl (cZ, 2, .inl g_t_isKept))] (some (.int (f_X10_image v_t_inside v_t_next v_t_years v_t_sights v_t_keptAt v_t_isWriting g_t_kept g_t_wealth g_t_given g_t_chart g_t_relatives g_t_sightSet g_t_sightMany g_t_isKept p1).1)) [(a_t, .inr (10, [.ref a_t_wealth, .ref a_t_given, .ref a_t_chart, .ref a_t_relatives, .int (f_X10_image v_t_inside v_t_next v_t_years v_t_sights v_t_keptAt v_t_isWriting g_t_kept g_t_wealth g_t_given g_t_chart g_t_relatives g_t_sightSet g_t_sightMany g_t_isKept p1).2.1, .int (f_X10_image v_t_inside v_t_next v_t_years v_t_sights v_t_keptAt v_t_isWriting g_t_kept g_t_wealth g_t_given g_t_chart g_t_relatives g_t_sightSet g_t_sightMany g_t_isKept p1).2.2.1, .int (f_X10_image v_t_inside v_t_next v_t_years v_t_sights v_t_keptAt v_t_isWriting g_t_kept g_t_wealth g_t_given g_t_chart g_t_relatives g_t_sightSet g_t_sightMany g_t_isKept p1).2.2.2.1, .ref a_t_sightSet, .ref a_t_sightMany, .int (f_X10_image v_t_inside v_t_next v_t_years v_t_sights v_t_keptAt v_t_isWriting g_t_kept g_t_wealth g_t_given g_t_chart g_t_relatives g_t_sightSet g_t_sightMany g_t_isKept p1).2.2.2.2.1, .ref a_t_digits, .ref a_t_pad, .int v_t_padMany, .ref a_t_act, .ref a_t_who, .ref a_t_whom, .ref a_t_much, .int v_t_acts, .int v_t_givenNow, .int v_t_entered, .ref a_t_had, .int v_t_badAct, .int v_t_badWhy, .int v_t_firstAct, .int v_t_firstHouse, .ref a_t_dues, .ref a_t_groups, .ref a_t_ways, .ref a_t_fit, .int v_t_fitMany, .ref a_t_byMany, .ref a_t_kept, .ref a_t_isKept, .int (f_X10_image v_t_inside v_t_next v_t_years v_t_sights v_t_keptAt v_t_isWriting g_t_kept g_t_wealth g_t_given g_t_chart g_t_relatives g_t_sightSet g_t_sightMany g_t_isKept p1).2.2.2.2.2.1, .int (f_X10_image v_t_inside v_t_next v_t_years v_t_sights v_t_keptAt v_t_isWriting g_t_kept g_t_wealth g_t_given g_t_chart g_t_relatives g_t_sightSet g_t_sightMany g_t_isKept p1).2.2.2.2.2.2.1])), (a_t_kept, .inl (cI, 240, .inl (f_X10_image v_t_inside v_t_next v_t_years v_t_sights v_t_keptAt v_t_isWriting g_t_kept g_t_wealth g_t_given g_t_chart g_t_relatives g_t_sightSet g_t_sightMany g_t_isKept p1).2.2.2.2.2.2.2.1)), (a_t_wealth, .inl (cI, 8, .inl (f_X10_image v_t_inside v_t_next v_t_years v_t_sights v_t_keptAt v_t_isWriting g_t_kept g_t_wealth g_t_given g_t_chart g_t_relatives g_t_sightSet g_t_sightMany g_t_isKept p1).2.2.2.2.2.2.2.2.1)), (a_t_given, .inl (cI, 64, .inl (f_X10_image v_t_inside v_t_next v_t_years v_t_sights v_t_keptAt v_t_isWriting g_t_kept g_t_wealth g_t_given g_t_chart g_t_relatives g_t_sightSet g_t_sightMany g_t_isKept p1).2.2.2.2.2.2.2.2.2.1)), (a_t_chart, .inl (cI, 8, .inl (f_X10_image v_t_inside v_t_next v_t_years v_t_sights v_t_keptAt v_t_isWriting g_t_kept g_t_wealth g_t_given g_t_chart g_t_relatives g_t_sightSet g_t_sightMany g_t_isKept p1).2.2.2.2.2.2.2.2.2.2.1)), (a_t_relatives, .inl (cI, 8, .inl (f_X10_image v_t_inside v_t_next v_t_years v_t_sights v_t_keptAt v_t_isWriting g_t_kept g_t_wealth g_t_given g_t_chart g_t_relatives g_t_sightSet g_t_sightMany g_t_isKept p1).2.2.2.2.2.2.2.2.2.2.2.1)), (a_t_sightSet, .inl (cI, 8, .inl (f_X10_image v_t_inside v_t_next v_t_years v_t_sights v_t_keptAt v_t_isWriting g_t_kept g_t_wealth g_t_given g_t_chart g_t_relatives g_t_sightSet g_t_sightMany g_t_isKept p1).2.2.2.2.2.2.2.2.2.2.2.2.1)), (a_t_sightMany, .inl (cI, 8, .inl (f_X10_image v_t_inside v_t_next v_t_years v_t_sights v_t_keptAt v_t_isWriting g_t_kept g_t_wealth g_t_given g_t_chart g_t_relatives g_t_sightSet g_t_sightMany g_t_isKept p1).2.2.2.2.2.2.2.2.2.2.2.2.2.1)), (a_t_isKept, .inl (cZ, 2, .inl (f_X10_image v_t_inside v_t_next v_t_years v_t_sights v_t_keptAt v_t_isWriting g_t_kept g_t_wealth g_t_given g_t_chart g_t_relatives g_t_sightSet g_t_sightMany g_t_isKept p1).2.2.2.2.2.2.2.2.2.2.2.2.2.2))] := by
  refine CT.intro RX10 (by decide) rfl (Nat.le_of_ble_eq_true rfl) rfl ?_
  intro p e s m below meth c C hr hw ls hl
  have hx := C.hx
  have hb := C.hb
  replace hl : lv_has ls 2 [(0, .ref a_t), (1, .int p1)] := hl
  refine lv_iload_n hx hb dX10_image_0 rfl (lv_at hl 1 rfl) ?_
  refine lv_i2l (v := ((p1).toInt64)) hx hb dX10_image_1 rfl ?_
  refine lv_lconst (v := 0) hx hb dX10_image_2 (by decide) ?_
  refine lv_lconst (v := 1) hx hb dX10_image_3 (by decide) ?_
  refine k_callS (As := [.long ((p1).toInt64), .long 0, .long 1]) (rest := []) (n := 3) C hw (T_X10_in l D cI cZ ((p1).toInt64) (0 : Int64) (1 : Int64)) gX10_image_X10_in rfl ⟨rfl, rfl⟩ (by decide +kernel) ⟨Nat.le_of_ble_eq_true rfl, Nat.le_of_ble_eq_true rfl⟩ [] rfl rfl [] rfl rfl rfl hl.1 rfl (Nat.le_of_ble_eq_true rfl) ⟨Nat.zero_le _, Nat.zero_le _⟩ dX10_image_4 (fun H locs hw => ?_)
  refine W.eq (g2 := F0 m 7 ls [.int (f_X10_in ((p1).toInt64) (0 : Int64) (1 : Int64))]) rfl ?_
  replace hw : kW D _ s H locs [(a_t, .inr (10, [.ref a_t_wealth, .ref a_t_given, .ref a_t_chart, .ref a_t_relatives, .int v_t_inside, .int v_t_next, .int v_t_years, .ref a_t_sightSet, .ref a_t_sightMany, .int v_t_sights, .ref a_t_digits, .ref a_t_pad, .int v_t_padMany, .ref a_t_act, .ref a_t_who, .ref a_t_whom, .ref a_t_much, .int v_t_acts, .int v_t_givenNow, .int v_t_entered, .ref a_t_had, .int v_t_badAct, .int v_t_badWhy, .int v_t_firstAct, .int v_t_firstHouse, .ref a_t_dues, .ref a_t_groups, .ref a_t_ways, .ref a_t_fit, .int v_t_fitMany, .ref a_t_byMany, .ref a_t_kept, .ref a_t_isKept, .int v_t_keptAt, .int v_t_isWriting])), (a_t_kept, .inl (cI, 240, .inl g_t_kept)), (a_t_wealth, .inl (cI, 8, .inl g_t_wealth)), (a_t_given, .inl (cI, 64, .inl g_t_given)), (a_t_chart, .inl (cI, 8, .inl g_t_chart)), (a_t_relatives, .inl (cI, 8, .inl g_t_relatives)), (a_t_sightSet, .inl (cI, 8, .inl g_t_sightSet)), (a_t_sightMany, .inl (cI, 8, .inl g_t_sightMany)), (a_t_isKept, .inl (cZ, 2, .inl g_t_isKept))] := hw
  refine lv_if_ne (tgt := 13) hx hb dX10_image_7 (by decide) (fun c1 => ?_) (fun c1 => ?_)
  · replace hok := Eq.mp (if_neg c1) hok
    refine lv_aload_n hx hb dX10_image_13 rfl (lv_at hl 0 rfl) ?_
    refine lv_bipush (v := 120) hx hb dX10_image_14 (by decide) ?_
    refine lv_iload_n hx hb dX10_image_16 rfl (lv_at hl 1 rfl) ?_
    refine lv_imul hx hb dX10_image_17 ?_
    refine k_put C hw (CC := RX10) (T := TX10) (N := 35) (v := .int (120 * p1)) nX10_image_X10 tyX10_ok nmX10 0 rfl rfl 33 (by decide) (List.mem_of_getElem? (i := 1) rfl) rfl rfl rfl rfl (Nat.le_of_ble_eq_true rfl) dX10_image_18 (fun H locs hw => ?_)
    replace hw : kW D _ s H locs [(a_t, .inr (10, [.ref a_t_wealth, .ref a_t_given, .ref a_t_chart, .ref a_t_relatives, .int v_t_inside, .int v_t_next, .int v_t_years, .ref a_t_sightSet, .ref a_t_sightMany, .int v_t_sights, .ref a_t_digits, .ref a_t_pad, .int v_t_padMany, .ref a_t_act, .ref a_t_who, .ref a_t_whom, .ref a_t_much, .int v_t_acts, .int v_t_givenNow, .int v_t_entered, .ref a_t_had, .int v_t_badAct, .int v_t_badWhy, .int v_t_firstAct, .int v_t_firstHouse, .ref a_t_dues, .ref a_t_groups, .ref a_t_ways, .ref a_t_fit, .int v_t_fitMany, .ref a_t_byMany, .ref a_t_kept, .ref a_t_isKept, .int (120 * p1), .int v_t_isWriting])), (a_t_kept, .inl (cI, 240, .inl g_t_kept)), (a_t_wealth, .inl (cI, 8, .inl g_t_wealth)), (a_t_given, .inl (cI, 64, .inl g_t_given)), (a_t_chart, .inl (cI, 8, .inl g_t_chart)), (a_t_relatives, .inl (cI, 8, .inl g_t_relatives)), (a_t_sightSet, .inl (cI, 8, .inl g_t_sightSet)), (a_t_sightMany, .inl (cI, 8, .inl g_t_sightMany)), (a_t_isKept, .inl (cZ, 2, .inl g_t_isKept))] := hw
    refine lv_aload_n hx hb dX10_image_21 rfl (lv_at hl 0 rfl) ?_
    refine lv_iconst (v := 1) hx hb dX10_image_22 (by decide) ?_
    refine k_put C hw (CC := RX10) (T := TX10) (N := 35) (v := .int 1) nX10_image_X10 tyX10_ok nmX10 0 rfl rfl 34 (by decide) (List.mem_of_getElem? (i := 2) rfl) rfl rfl rfl rfl (Nat.le_of_ble_eq_true rfl) dX10_image_23 (fun H locs hw => ?_)
    replace hw : kW D _ s H locs [(a_t, .inr (10, [.ref a_t_wealth, .ref a_t_given, .ref a_t_chart, .ref a_t_relatives, .int v_t_inside, .int v_t_next, .int v_t_years, .ref a_t_sightSet, .ref a_t_sightMany, .int v_t_sights, .ref a_t_digits, .ref a_t_pad, .int v_t_padMany, .ref a_t_act, .ref a_t_who, .ref a_t_whom, .ref a_t_much, .int v_t_acts, .int v_t_givenNow, .int v_t_entered, .ref a_t_had, .int v_t_badAct, .int v_t_badWhy, .int v_t_firstAct, .int v_t_firstHouse, .ref a_t_dues, .ref a_t_groups, .ref a_t_ways, .ref a_t_fit, .int v_t_fitMany, .ref a_t_byMany, .ref a_t_kept, .ref a_t_isKept, .int (120 * p1), .int 1])), (a_t_kept, .inl (cI, 240, .inl g_t_kept)), (a_t_wealth, .inl (cI, 8, .inl g_t_wealth)), (a_t_given, .inl (cI, 64, .inl g_t_given)), (a_t_chart, .inl (cI, 8, .inl g_t_chart)), (a_t_relatives, .inl (cI, 8, .inl g_t_relatives)), (a_t_sightSet, .inl (cI, 8, .inl g_t_sightSet)), (a_t_sightMany, .inl (cI, 8, .inl g_t_sightMany)), (a_t_isKept, .inl (cZ, 2, .inl g_t_isKept))] := hw
    refine lv_aload_n hx hb dX10_image_26 rfl (lv_at hl 0 rfl) ?_
    obtain ⟨h2, hok⟩ := hok
    refine k_callV (As := []) (rest := []) (n := 0) (CC := RX10) (T := TX10) (N := 35) C hw (T_X10_passAll l D cI cZ a_t a_t_wealth a_t_given a_t_chart a_t_relatives a_t_sightSet a_t_sightMany a_t_digits a_t_pad a_t_act a_t_who a_t_whom a_t_much a_t_had a_t_dues a_t_groups a_t_ways a_t_fit a_t_byMany a_t_kept a_t_isKept v_t_inside v_t_next v_t_years v_t_sights v_t_padMany v_t_acts v_t_givenNow v_t_entered v_t_badAct v_t_badWhy v_t_firstAct v_t_firstHouse v_t_fitMany (120 * p1) (1 : Int32) g_t_kept g_t_wealth g_t_given g_t_chart g_t_relatives g_t_sightSet g_t_sightMany h2) gX10_image_X10_passAll rfl ⟨rfl, rfl⟩ (by decide +kernel) ⟨Nat.le_of_ble_eq_true rfl, Nat.le_of_ble_eq_true rfl⟩ 0 rfl rfl [0, 1, 2, 3, 4, 5, 6, 7] rfl rfl [a_t, a_t_kept, a_t_wealth, a_t_given, a_t_chart, a_t_relatives, a_t_sightSet, a_t_sightMany] rfl rfl rfl hl.1 rfl (Nat.le_of_ble_eq_true rfl) ⟨Nat.zero_le _, Nat.zero_le _⟩ dX10_image_27 (fun H locs hw => ?_)
    obtain ⟨z3, h4⟩ : ∃ z, (f_X10_passAll v_t_inside v_t_next v_t_years v_t_sights (120 * p1) (1 : Int32) g_t_kept g_t_wealth g_t_given g_t_chart g_t_relatives g_t_sightSet g_t_sightMany) = z := ⟨_, rfl⟩
    refine W.eq (g2 := F0 m 30 ls []) (by subst h4; rfl) ?_
    replace hw := kW_cast (ws' := [(a_t, .inr (10, [.ref a_t_wealth, .ref a_t_given, .ref a_t_chart, .ref a_t_relatives, .int z3.1, .int z3.2.1, .int z3.2.2.1, .ref a_t_sightSet, .ref a_t_sightMany, .int z3.2.2.2.1, .ref a_t_digits, .ref a_t_pad, .int v_t_padMany, .ref a_t_act, .ref a_t_who, .ref a_t_whom, .ref a_t_much, .int v_t_acts, .int v_t_givenNow, .int v_t_entered, .ref a_t_had, .int v_t_badAct, .int v_t_badWhy, .int v_t_firstAct, .int v_t_firstHouse, .ref a_t_dues, .ref a_t_groups, .ref a_t_ways, .ref a_t_fit, .int v_t_fitMany, .ref a_t_byMany, .ref a_t_kept, .ref a_t_isKept, .int z3.2.2.2.2.1, .int 1])), (a_t_kept, .inl (cI, 240, .inl z3.2.2.2.2.2.1)), (a_t_wealth, .inl (cI, 8, .inl z3.2.2.2.2.2.2.1)), (a_t_given, .inl (cI, 64, .inl z3.2.2.2.2.2.2.2.1)), (a_t_chart, .inl (cI, 8, .inl z3.2.2.2.2.2.2.2.2.1)), (a_t_relatives, .inl (cI, 8, .inl z3.2.2.2.2.2.2.2.2.2.1)), (a_t_sightSet, .inl (cI, 8, .inl z3.2.2.2.2.2.2.2.2.2.2.1)), (a_t_sightMany, .inl (cI, 8, .inl z3.2.2.2.2.2.2.2.2.2.2.2)), (a_t_isKept, .inl (cZ, 2, .inl g_t_isKept))]) (by subst h4; rfl) hw
    replace hok := Eq.mp (lt_c h4) hok
    refine lv_aload_n hx hb dX10_image_30 rfl (lv_at hl 0 rfl) ?_
    refine k_get C hw (CC := RX10) (T := TX10) (N := 35) nX10_image_X10 0 rfl rfl 32 (by decide) (List.mem_of_getElem? (i := 3) rfl) rfl rfl dX10_image_31 ?_
    refine lv_iload_n hx hb dX10_image_34 rfl (lv_at hl 1 rfl) ?_
    refine lv_iconst (v := 1) hx hb dX10_image_35 (by decide) ?_
    obtain ⟨h5, hok⟩ := hok
    refine k_zast C hw 8 rfl h5 dX10_image_36 (fun H locs hw => ?_)
    replace hw : kW D _ s H locs [(a_t, .inr (10, [.ref a_t_wealth, .ref a_t_given, .ref a_t_chart, .ref a_t_relatives, .int z3.1, .int z3.2.1, .int z3.2.2.1, .ref a_t_sightSet, .ref a_t_sightMany, .int z3.2.2.2.1, .ref a_t_digits, .ref a_t_pad, .int v_t_padMany, .ref a_t_act, .ref a_t_who, .ref a_t_whom, .ref a_t_much, .int v_t_acts, .int v_t_givenNow, .int v_t_entered, .ref a_t_had, .int v_t_badAct, .int v_t_badWhy, .int v_t_firstAct, .int v_t_firstHouse, .ref a_t_dues, .ref a_t_groups, .ref a_t_ways, .ref a_t_fit, .int v_t_fitMany, .ref a_t_byMany, .ref a_t_kept, .ref a_t_isKept, .int z3.2.2.2.2.1, .int 1])), (a_t_kept, .inl (cI, 240, .inl z3.2.2.2.2.2.1)), (a_t_wealth, .inl (cI, 8, .inl z3.2.2.2.2.2.2.1)), (a_t_given, .inl (cI, 64, .inl z3.2.2.2.2.2.2.2.1)), (a_t_chart, .inl (cI, 8, .inl z3.2.2.2.2.2.2.2.2.1)), (a_t_relatives, .inl (cI, 8, .inl z3.2.2.2.2.2.2.2.2.2.1)), (a_t_sightSet, .inl (cI, 8, .inl z3.2.2.2.2.2.2.2.2.2.2.1)), (a_t_sightMany, .inl (cI, 8, .inl z3.2.2.2.2.2.2.2.2.2.2.2)), (a_t_isKept, .inl (cZ, 2, .inl (upd g_t_isKept p1.toNatClampNeg (vp_nar .boolean 1))))] := hw
    refine lv_iconst (v := 1) hx hb dX10_image_37 (by decide) ?_
    rw [show f_X10_image v_t_inside v_t_next v_t_years v_t_sights v_t_keptAt v_t_isWriting g_t_kept g_t_wealth g_t_given g_t_chart g_t_relatives g_t_sightSet g_t_sightMany g_t_isKept p1 = (1, z3.1, z3.2.1, z3.2.2.1, z3.2.2.2.1, z3.2.2.2.2.1, 1, z3.2.2.2.2.2.1, z3.2.2.2.2.2.2.1, z3.2.2.2.2.2.2.2.1, z3.2.2.2.2.2.2.2.2.1, z3.2.2.2.2.2.2.2.2.2.1, z3.2.2.2.2.2.2.2.2.2.2.1, z3.2.2.2.2.2.2.2.2.2.2.2, (upd g_t_isKept p1.toNatClampNeg (vp_nar .boolean 1))) from by
        unfold f_X10_image
        exact (if_neg c1).trans ((lt_c h4).trans (rfl))]
    exact k_iret C hr hw dX10_image_38
  · refine lv_bipush (v := (-2)) hx hb dX10_image_10 (by decide) ?_
    rw [show f_X10_image v_t_inside v_t_next v_t_years v_t_sights v_t_keptAt v_t_isWriting g_t_kept g_t_wealth g_t_given g_t_chart g_t_relatives g_t_sightSet g_t_sightMany g_t_isKept p1 = ((-2), v_t_inside, v_t_next, v_t_years, v_t_sights, v_t_keptAt, v_t_isWriting, g_t_kept, g_t_wealth, g_t_given, g_t_chart, g_t_relatives, g_t_sightSet, g_t_sightMany, g_t_isKept) from by
        unfold f_X10_image
        exact (if_pos c1).trans (rfl)]
    exact k_iret C hr hw dX10_image_12

theorem nX10_restore_X10 : ∀ w ∈ wsX100, w ∈ wsX10_restore := fun _ h => List.mem_cons_of_mem _ (List.mem_append_right _ h)
def f_X10_restore (v_t_inside : Int32) (v_t_next : Int32) (v_t_years : Int32) (v_t_sights : Int32) (v_t_keptAt : Int32) (v_t_isWriting : Int32) (g_t_isKept : (Nat → Int32)) (g_t_kept : (Nat → Int32)) (g_t_wealth : (Nat → Int32)) (g_t_given : (Nat → Int32)) (g_t_chart : (Nat → Int32)) (g_t_relatives : (Nat → Int32)) (g_t_sightSet : (Nat → Int32)) (g_t_sightMany : (Nat → Int32)) (p1 : Int32) : Int32 × Int32 × Int32 × Int32 × Int32 × Int32 × Int32 × (Nat → Int32) × (Nat → Int32) × (Nat → Int32) × (Nat → Int32) × (Nat → Int32) × (Nat → Int32) × (Nat → Int32) := (if (f_X10_in ((p1).toInt64) (0 : Int64) (1 : Int64)) = 0 then ((-2), v_t_inside, v_t_next, v_t_years, v_t_sights, v_t_keptAt, v_t_isWriting, g_t_kept, g_t_wealth, g_t_given, g_t_chart, g_t_relatives, g_t_sightSet, g_t_sightMany) else (if (g_t_isKept p1.toNatClampNeg) = 0 then ((-3), v_t_inside, v_t_next, v_t_years, v_t_sights, v_t_keptAt, v_t_isWriting, g_t_kept, g_t_wealth, g_t_given, g_t_chart, g_t_relatives, g_t_sightSet, g_t_sightMany) else (lt (f_X10_passAll v_t_inside v_t_next v_t_years v_t_sights (120 * p1) (0 : Int32) g_t_kept g_t_wealth g_t_given g_t_chart g_t_relatives g_t_sightSet g_t_sightMany) (fun z5 => (1, z5.1, z5.2.1, z5.2.2.1, z5.2.2.2.1, z5.2.2.2.2.1, 0, z5.2.2.2.2.2.1, z5.2.2.2.2.2.2.1, z5.2.2.2.2.2.2.2.1, z5.2.2.2.2.2.2.2.2.1, z5.2.2.2.2.2.2.2.2.2.1, z5.2.2.2.2.2.2.2.2.2.2.1, z5.2.2.2.2.2.2.2.2.2.2.2)))))
def o_X10_restore (v_t_inside : Int32) (v_t_next : Int32) (v_t_years : Int32) (v_t_sights : Int32) (g_t_isKept : (Nat → Int32)) (g_t_kept : (Nat → Int32)) (g_t_wealth : (Nat → Int32)) (g_t_given : (Nat → Int32)) (g_t_chart : (Nat → Int32)) (g_t_relatives : (Nat → Int32)) (g_t_sightSet : (Nat → Int32)) (g_t_sightMany : (Nat → Int32)) (p1 : Int32) : Prop := (if (f_X10_in ((p1).toInt64) (0 : Int64) (1 : Int64)) = 0 then True else ((vp_in p1 2) ∧ (if (g_t_isKept p1.toNatClampNeg) = 0 then True else ((o_X10_passAll v_t_inside v_t_next v_t_years v_t_sights (120 * p1) (0 : Int32) g_t_kept g_t_wealth g_t_given g_t_chart g_t_relatives g_t_sightSet g_t_sightMany) ∧ True))))
set_option maxHeartbeats 4000000 in
set_option maxRecDepth 100000 in
theorem T_X10_restore (l : Launch) (D : va_G) (cI cZ : ClassId) (a_t a_t_wealth a_t_given a_t_chart a_t_relatives a_t_sightSet a_t_sightMany a_t_digits a_t_pad a_t_act a_t_who a_t_whom a_t_much a_t_had a_t_dues a_t_groups a_t_ways a_t_fit a_t_byMany a_t_kept a_t_isKept : Nat) (v_t_inside : Int32) (v_t_next : Int32) (v_t_years : Int32) (v_t_sights : Int32) (v_t_padMany : Int32) (v_t_acts : Int32) (v_t_givenNow : Int32) (v_t_entered : Int32) (v_t_badAct : Int32) (v_t_badWhy : Int32) (v_t_firstAct : Int32) (v_t_firstHouse : Int32) (v_t_fitMany : Int32) (v_t_keptAt : Int32) (v_t_isWriting : Int32) (g_t_isKept : (Nat → Int32)) (g_t_kept : (Nat → Int32)) (g_t_wealth : (Nat → Int32)) (g_t_given : (Nat → Int32)) (g_t_chart : (Nat → Int32)) (g_t_relatives : (Nat → Int32)) (g_t_sightSet : (Nat → Int32)) (g_t_sightMany : (Nat → Int32)) (p1 : Int32) (hok : o_X10_restore v_t_inside v_t_next v_t_years v_t_sights g_t_isKept g_t_kept g_t_wealth g_t_given g_t_chart g_t_relatives g_t_sightSet g_t_sightMany p1) : CT l D cI cZ yX10_restore wsX10_restore ({ frames := 3, cells := 0, slots := 0, locals := 65 }) [.ref a_t, .int p1] [(a_t, .inr (10, [.ref a_t_wealth, .ref a_t_given, .ref a_t_chart, .ref a_t_relatives, .int v_t_inside, .int v_t_next, .int v_t_years, .ref a_t_sightSet, .ref a_t_sightMany, .int v_t_sights, .ref a_t_digits, .ref a_t_pad, .int v_t_padMany, .ref a_t_act, .ref a_t_who, .ref a_t_whom, .ref a_t_much, .int v_t_acts, .int v_t_givenNow, .int v_t_entered, .ref a_t_had, .int v_t_badAct, .int v_t_badWhy, .int v_t_firstAct, .int v_t_firstHouse, .ref a_t_dues, .ref a_t_groups, .ref a_t_ways, .ref a_t_fit, .int v_t_fitMany, .ref a_t_byMany, .ref a_t_kept, .ref a_t_isKept, .int v_t_keptAt, .int v_t_isWriting])), (a_t_isKept, .inl (cZ, 2, .inl g_t_isKept)), (a_t_kept, .inl (cI, 240, .inl g_t_kept)), (a_t_wealth, .inl (cI, 8, .inl g_t_wealth)), (a_t_given, .inl (cI, 64, .inl g_t_given)), (a_t_chart, .inl (cI, 8, .inl g_t_chart)), (a_t_relatives, .inl (cI, 8, .inl g_t_relatives)), (a_t_sightSet, .inl (cI, 8, .inl g_t_sightSet)), (a_t_sightMany, .inl (cI, 8, .inl g_t_sightMany))] (some (.int (f_X10_restore v_t_inside v_t_next v_t_years v_t_sights v_t_keptAt v_t_isWriting g_t_isKept g_t_kept g_t_wealth g_t_given g_t_chart g_t_relatives g_t_sightSet g_t_sightMany p1).1)) [(a_t, .inr (10, [.ref a_t_wealth, .ref a_t_given, .ref a_t_chart, .ref a_t_relatives, .int (f_X10_restore v_t_inside v_t_next v_t_years v_t_sights v_t_keptAt v_t_isWriting g_t_isKept g_t_kept g_t_wealth g_t_given g_t_chart g_t_relatives g_t_sightSet g_t_sightMany p1).2.1, .int (f_X10_restore v_t_inside v_t_next v_t_years v_t_sights v_t_keptAt v_t_isWriting g_t_isKept g_t_kept g_t_wealth g_t_given g_t_chart g_t_relatives g_t_sightSet g_t_sightMany p1).2.2.1, .int (f_X10_restore v_t_inside v_t_next v_t_years v_t_sights v_t_keptAt v_t_isWriting g_t_isKept g_t_kept g_t_wealth g_t_given g_t_chart g_t_relatives g_t_sightSet g_t_sightMany p1).2.2.2.1, .ref a_t_sightSet, .ref a_t_sightMany, .int (f_X10_restore v_t_inside v_t_next v_t_years v_t_sights v_t_keptAt v_t_isWriting g_t_isKept g_t_kept g_t_wealth g_t_given g_t_chart g_t_relatives g_t_sightSet g_t_sightMany p1).2.2.2.2.1, .ref a_t_digits, .ref a_t_pad, .int v_t_padMany, .ref a_t_act, .ref a_t_who, .ref a_t_whom, .ref a_t_much, .int v_t_acts, .int v_t_givenNow, .int v_t_entered, .ref a_t_had, .int v_t_badAct, .int v_t_badWhy, .int v_t_firstAct, .int v_t_firstHouse, .ref a_t_dues, .ref a_t_groups, .ref a_t_ways, .ref a_t_fit, .int v_t_fitMany, .ref a_t_byMany, .ref a_t_kept, .ref a_t_isKept, .int (f_X10_restore v_t_inside v_t_next v_t_years v_t_sights v_t_keptAt v_t_isWriting g_t_isKept g_t_kept g_t_wealth g_t_given g_t_chart g_t_relatives g_t_sightSet g_t_sightMany p1).2.2.2.2.2.1, .int (f_X10_restore v_t_inside v_t_next v_t_years v_t_sights v_t_keptAt v_t_isWriting g_t_isKept g_t_kept g_t_wealth g_t_given g_t_chart g_t_relatives g_t_sightSet g_t_sightMany p1).2.2.2.2.2.2.1])), (a_t_isKept, .inl (cZ, 2, .inl g_t_isKept)), (a_t_kept, .inl (cI, 240, .inl (f_X10_restore v_t_inside v_t_next v_t_years v_t_sights v_t_keptAt v_t_isWriting g_t_isKept g_t_kept g_t_wealth g_t_given g_t_chart g_t_relatives g_t_sightSet g_t_sightMany p1).2.2.2.2.2.2.2.1)), (a_t_wealth, .inl (cI, 8, .inl (f_X10_restore v_t_inside v_t_next v_t_years v_t_sights v_t_keptAt v_t_isWriting g_t_isKept g_t_kept g_t_wealth g_t_given g_t_chart g_t_relatives g_t_sightSet g_t_sightMany p1).2.2.2.2.2.2.2.2.1)), (a_t_given, .inl (cI, 64, .inl (f_X10_restore v_t_inside v_t_next v_t_years v_t_sights v_t_keptAt v_t_isWriting g_t_isKept g_t_kept g_t_wealth g_t_given g_t_chart g_t_relatives g_t_sightSet g_t_sightMany p1).2.2.2.2.2.2.2.2.2.1)), (a_t_chart, .inl (cI, 8, .inl (f_X10_restore v_t_inside v_t_next v_t_years v_t_sights v_t_keptAt v_t_isWriting g_t_isKept g_t_kept g_t_wealth g_t_given g_t_chart g_t_relatives g_t_sightSet g_t_sightMany p1).2.2.2.2.2.2.2.2.2.2.1)), (a_t_relatives, .inl (cI, 8, .inl (f_X10_restore v_t_inside v_t_next v_t_years v_t_sights v_t_keptAt v_t_isWriting g_t_isKept g_t_kept g_t_wealth g_t_given g_t_chart g_t_relatives g_t_sightSet g_t_sightMany p1).2.2.2.2.2.2.2.2.2.2.2.1)), (a_t_sightSet, .inl (cI, 8, .inl (f_X10_restore v_t_inside v_t_next v_t_years v_t_sights v_t_keptAt v_t_isWriting g_t_isKept g_t_kept g_t_wealth g_t_given g_t_chart g_t_relatives g_t_sightSet g_t_sightMany p1).2.2.2.2.2.2.2.2.2.2.2.2.1)), (a_t_sightMany, .inl (cI, 8, .inl (f_X10_restore v_t_inside v_t_next v_t_years v_t_sights v_t_keptAt v_t_isWriting g_t_isKept g_t_kept g_t_wealth g_t_given g_t_chart g_t_relatives g_t_sightSet g_t_sightMany p1).2.2.2.2.2.2.2.2.2.2.2.2.2))] := by
  refine CT.intro RX10 (by decide) rfl (Nat.le_of_ble_eq_true rfl) rfl ?_
  intro p e s m below meth c C hr hw ls hl
  have hx := C.hx
  have hb := C.hb
  replace hl : lv_has ls 2 [(0, .ref a_t), (1, .int p1)] := hl
  refine lv_iload_n hx hb dX10_restore_0 rfl (lv_at hl 1 rfl) ?_
  refine lv_i2l (v := ((p1).toInt64)) hx hb dX10_restore_1 rfl ?_
  refine lv_lconst (v := 0) hx hb dX10_restore_2 (by decide) ?_
  refine lv_lconst (v := 1) hx hb dX10_restore_3 (by decide) ?_
  refine k_callS (As := [.long ((p1).toInt64), .long 0, .long 1]) (rest := []) (n := 3) C hw (T_X10_in l D cI cZ ((p1).toInt64) (0 : Int64) (1 : Int64)) gX10_restore_X10_in rfl ⟨rfl, rfl⟩ (by decide +kernel) ⟨Nat.le_of_ble_eq_true rfl, Nat.le_of_ble_eq_true rfl⟩ [] rfl rfl [] rfl rfl rfl hl.1 rfl (Nat.le_of_ble_eq_true rfl) ⟨Nat.zero_le _, Nat.zero_le _⟩ dX10_restore_4 (fun H locs hw => ?_)
  refine W.eq (g2 := F0 m 7 ls [.int (f_X10_in ((p1).toInt64) (0 : Int64) (1 : Int64))]) rfl ?_
  replace hw : kW D _ s H locs [(a_t, .inr (10, [.ref a_t_wealth, .ref a_t_given, .ref a_t_chart, .ref a_t_relatives, .int v_t_inside, .int v_t_next, .int v_t_years, .ref a_t_sightSet, .ref a_t_sightMany, .int v_t_sights, .ref a_t_digits, .ref a_t_pad, .int v_t_padMany, .ref a_t_act, .ref a_t_who, .ref a_t_whom, .ref a_t_much, .int v_t_acts, .int v_t_givenNow, .int v_t_entered, .ref a_t_had, .int v_t_badAct, .int v_t_badWhy, .int v_t_firstAct, .int v_t_firstHouse, .ref a_t_dues, .ref a_t_groups, .ref a_t_ways, .ref a_t_fit, .int v_t_fitMany, .ref a_t_byMany, .ref a_t_kept, .ref a_t_isKept, .int v_t_keptAt, .int v_t_isWriting])), (a_t_isKept, .inl (cZ, 2, .inl g_t_isKept)), (a_t_kept, .inl (cI, 240, .inl g_t_kept)), (a_t_wealth, .inl (cI, 8, .inl g_t_wealth)), (a_t_given, .inl (cI, 64, .inl g_t_given)), (a_t_chart, .inl (cI, 8, .inl g_t_chart)), (a_t_relatives, .inl (cI, 8, .inl g_t_relatives)), (a_t_sightSet, .inl (cI, 8, .inl g_t_sightSet)), (a_t_sightMany, .inl (cI, 8, .inl g_t_sightMany))] := hw
  refine lv_if_ne (tgt := 13) hx hb dX10_restore_7 (by decide) (fun c1 => ?_) (fun c1 => ?_)
  · replace hok := Eq.mp (if_neg c1) hok
    refine lv_aload_n hx hb dX10_restore_13 rfl (lv_at hl 0 rfl) ?_
    refine k_get C hw (CC := RX10) (T := TX10) (N := 35) nX10_restore_X10 0 rfl rfl 32 (by decide) (List.mem_of_getElem? (i := 1) rfl) rfl rfl dX10_restore_14 ?_
    refine lv_iload_n hx hb dX10_restore_17 rfl (lv_at hl 1 rfl) ?_
    obtain ⟨h2, hok⟩ := hok
    refine k_zald C hw 1 rfl h2 dX10_restore_18 ?_
    refine lv_if_ne (tgt := 25) hx hb dX10_restore_19 (by decide) (fun c3 => ?_) (fun c3 => ?_)
    · replace hok := Eq.mp (if_neg c3) hok
      refine lv_aload_n hx hb dX10_restore_25 rfl (lv_at hl 0 rfl) ?_
      refine lv_bipush (v := 120) hx hb dX10_restore_26 (by decide) ?_
      refine lv_iload_n hx hb dX10_restore_28 rfl (lv_at hl 1 rfl) ?_
      refine lv_imul hx hb dX10_restore_29 ?_
      refine k_put C hw (CC := RX10) (T := TX10) (N := 35) (v := .int (120 * p1)) nX10_restore_X10 tyX10_ok nmX10 0 rfl rfl 33 (by decide) (List.mem_of_getElem? (i := 2) rfl) rfl rfl rfl rfl (Nat.le_of_ble_eq_true rfl) dX10_restore_30 (fun H locs hw => ?_)
      replace hw : kW D _ s H locs [(a_t, .inr (10, [.ref a_t_wealth, .ref a_t_given, .ref a_t_chart, .ref a_t_relatives, .int v_t_inside, .int v_t_next, .int v_t_years, .ref a_t_sightSet, .ref a_t_sightMany, .int v_t_sights, .ref a_t_digits, .ref a_t_pad, .int v_t_padMany, .ref a_t_act, .ref a_t_who, .ref a_t_whom, .ref a_t_much, .int v_t_acts, .int v_t_givenNow, .int v_t_entered, .ref a_t_had, .int v_t_badAct, .int v_t_badWhy, .int v_t_firstAct, .int v_t_firstHouse, .ref a_t_dues, .ref a_t_groups, .ref a_t_ways, .ref a_t_fit, .int v_t_fitMany, .ref a_t_byMany, .ref a_t_kept, .ref a_t_isKept, .int (120 * p1), .int v_t_isWriting])), (a_t_isKept, .inl (cZ, 2, .inl g_t_isKept)), (a_t_kept, .inl (cI, 240, .inl g_t_kept)), (a_t_wealth, .inl (cI, 8, .inl g_t_wealth)), (a_t_given, .inl (cI, 64, .inl g_t_given)), (a_t_chart, .inl (cI, 8, .inl g_t_chart)), (a_t_relatives, .inl (cI, 8, .inl g_t_relatives)), (a_t_sightSet, .inl (cI, 8, .inl g_t_sightSet)), (a_t_sightMany, .inl (cI, 8, .inl g_t_sightMany))] := hw
      refine lv_aload_n hx hb dX10_restore_33 rfl (lv_at hl 0 rfl) ?_
      refine lv_iconst (v := 0) hx hb dX10_restore_34 (by decide) ?_
      refine k_put C hw (CC := RX10) (T := TX10) (N := 35) (v := .int 0) nX10_restore_X10 tyX10_ok nmX10 0 rfl rfl 34 (by decide) (List.mem_of_getElem? (i := 3) rfl) rfl rfl rfl rfl (Nat.le_of_ble_eq_true rfl) dX10_restore_35 (fun H locs hw => ?_)
      replace hw : kW D _ s H locs [(a_t, .inr (10, [.ref a_t_wealth, .ref a_t_given, .ref a_t_chart, .ref a_t_relatives, .int v_t_inside, .int v_t_next, .int v_t_years, .ref a_t_sightSet, .ref a_t_sightMany, .int v_t_sights, .ref a_t_digits, .ref a_t_pad, .int v_t_padMany, .ref a_t_act, .ref a_t_who, .ref a_t_whom, .ref a_t_much, .int v_t_acts, .int v_t_givenNow, .int v_t_entered, .ref a_t_had, .int v_t_badAct, .int v_t_badWhy, .int v_t_firstAct, .int v_t_firstHouse, .ref a_t_dues, .ref a_t_groups, .ref a_t_ways, .ref a_t_fit, .int v_t_fitMany, .ref a_t_byMany, .ref a_t_kept, .ref a_t_isKept, .int (120 * p1), .int 0])), (a_t_isKept, .inl (cZ, 2, .inl g_t_isKept)), (a_t_kept, .inl (cI, 240, .inl g_t_kept)), (a_t_wealth, .inl (cI, 8, .inl g_t_wealth)), (a_t_given, .inl (cI, 64, .inl g_t_given)), (a_t_chart, .inl (cI, 8, .inl g_t_chart)), (a_t_relatives, .inl (cI, 8, .inl g_t_relatives)), (a_t_sightSet, .inl (cI, 8, .inl g_t_sightSet)), (a_t_sightMany, .inl (cI, 8, .inl g_t_sightMany))] := hw
      refine lv_aload_n hx hb dX10_restore_38 rfl (lv_at hl 0 rfl) ?_
      obtain ⟨h4, hok⟩ := hok
      refine k_callV (As := []) (rest := []) (n := 0) (CC := RX10) (T := TX10) (N := 35) C hw (T_X10_passAll l D cI cZ a_t a_t_wealth a_t_given a_t_chart a_t_relatives a_t_sightSet a_t_sightMany a_t_digits a_t_pad a_t_act a_t_who a_t_whom a_t_much a_t_had a_t_dues a_t_groups a_t_ways a_t_fit a_t_byMany a_t_kept a_t_isKept v_t_inside v_t_next v_t_years v_t_sights v_t_padMany v_t_acts v_t_givenNow v_t_entered v_t_badAct v_t_badWhy v_t_firstAct v_t_firstHouse v_t_fitMany (120 * p1) (0 : Int32) g_t_kept g_t_wealth g_t_given g_t_chart g_t_relatives g_t_sightSet g_t_sightMany h4) gX10_restore_X10_passAll rfl ⟨rfl, rfl⟩ (by decide +kernel) ⟨Nat.le_of_ble_eq_true rfl, Nat.le_of_ble_eq_true rfl⟩ 0 rfl rfl [0, 2, 3, 4, 5, 6, 7, 8] rfl rfl [a_t, a_t_kept, a_t_wealth, a_t_given, a_t_chart, a_t_relatives, a_t_sightSet, a_t_sightMany] rfl rfl rfl hl.1 rfl (Nat.le_of_ble_eq_true rfl) ⟨Nat.zero_le _, Nat.zero_le _⟩ dX10_restore_39 (fun H locs hw => ?_)
      obtain ⟨z5, h6⟩ : ∃ z, (f_X10_passAll v_t_inside v_t_next v_t_years v_t_sights (120 * p1) (0 : Int32) g_t_kept g_t_wealth g_t_given g_t_chart g_t_relatives g_t_sightSet g_t_sightMany) = z := ⟨_, rfl⟩
      refine W.eq (g2 := F0 m 42 ls []) (by subst h6; rfl) ?_
      replace hw := kW_cast (ws' := [(a_t, .inr (10, [.ref a_t_wealth, .ref a_t_given, .ref a_t_chart, .ref a_t_relatives, .int z5.1, .int z5.2.1, .int z5.2.2.1, .ref a_t_sightSet, .ref a_t_sightMany, .int z5.2.2.2.1, .ref a_t_digits, .ref a_t_pad, .int v_t_padMany, .ref a_t_act, .ref a_t_who, .ref a_t_whom, .ref a_t_much, .int v_t_acts, .int v_t_givenNow, .int v_t_entered, .ref a_t_had, .int v_t_badAct, .int v_t_badWhy, .int v_t_firstAct, .int v_t_firstHouse, .ref a_t_dues, .ref a_t_groups, .ref a_t_ways, .ref a_t_fit, .int v_t_fitMany, .ref a_t_byMany, .ref a_t_kept, .ref a_t_isKept, .int z5.2.2.2.2.1, .int 0])), (a_t_isKept, .inl (cZ, 2, .inl g_t_isKept)), (a_t_kept, .inl (cI, 240, .inl z5.2.2.2.2.2.1)), (a_t_wealth, .inl (cI, 8, .inl z5.2.2.2.2.2.2.1)), (a_t_given, .inl (cI, 64, .inl z5.2.2.2.2.2.2.2.1)), (a_t_chart, .inl (cI, 8, .inl z5.2.2.2.2.2.2.2.2.1)), (a_t_relatives, .inl (cI, 8, .inl z5.2.2.2.2.2.2.2.2.2.1)), (a_t_sightSet, .inl (cI, 8, .inl z5.2.2.2.2.2.2.2.2.2.2.1)), (a_t_sightMany, .inl (cI, 8, .inl z5.2.2.2.2.2.2.2.2.2.2.2))]) (by subst h6; rfl) hw
      refine lv_iconst (v := 1) hx hb dX10_restore_42 (by decide) ?_
      rw [show f_X10_restore v_t_inside v_t_next v_t_years v_t_sights v_t_keptAt v_t_isWriting g_t_isKept g_t_kept g_t_wealth g_t_given g_t_chart g_t_relatives g_t_sightSet g_t_sightMany p1 = (1, z5.1, z5.2.1, z5.2.2.1, z5.2.2.2.1, z5.2.2.2.2.1, 0, z5.2.2.2.2.2.1, z5.2.2.2.2.2.2.1, z5.2.2.2.2.2.2.2.1, z5.2.2.2.2.2.2.2.2.1, z5.2.2.2.2.2.2.2.2.2.1, z5.2.2.2.2.2.2.2.2.2.2.1, z5.2.2.2.2.2.2.2.2.2.2.2) from by
          unfold f_X10_restore
          exact (if_neg c1).trans ((if_neg c3).trans ((lt_c h6).trans (rfl)))]
      exact k_iret C hr hw dX10_restore_43
    · refine lv_bipush (v := (-3)) hx hb dX10_restore_22 (by decide) ?_
      rw [show f_X10_restore v_t_inside v_t_next v_t_years v_t_sights v_t_keptAt v_t_isWriting g_t_isKept g_t_kept g_t_wealth g_t_given g_t_chart g_t_relatives g_t_sightSet g_t_sightMany p1 = ((-3), v_t_inside, v_t_next, v_t_years, v_t_sights, v_t_keptAt, v_t_isWriting, g_t_kept, g_t_wealth, g_t_given, g_t_chart, g_t_relatives, g_t_sightSet, g_t_sightMany) from by
          unfold f_X10_restore
          exact (if_neg c1).trans ((if_pos c3).trans (rfl))]
      exact k_iret C hr hw dX10_restore_24
  · refine lv_bipush (v := (-2)) hx hb dX10_restore_10 (by decide) ?_
    rw [show f_X10_restore v_t_inside v_t_next v_t_years v_t_sights v_t_keptAt v_t_isWriting g_t_isKept g_t_kept g_t_wealth g_t_given g_t_chart g_t_relatives g_t_sightSet g_t_sightMany p1 = ((-2), v_t_inside, v_t_next, v_t_years, v_t_sights, v_t_keptAt, v_t_isWriting, g_t_kept, g_t_wealth, g_t_given, g_t_chart, g_t_relatives, g_t_sightSet, g_t_sightMany) from by
        unfold f_X10_restore
        exact (if_pos c1).trans (rfl)]
    exact k_iret C hr hw dX10_restore_12

theorem nX10_told_X10 : ∀ w ∈ wsX100, w ∈ wsX10_told := fun _ h => List.mem_cons_of_mem _ (List.mem_append_right _ h)
def f_X10_told (v_t_inside : Int32) (v_t_next : Int32) (v_t_years : Int32) (v_t_sights : Int32) (v_t_padMany : Int32) (g_t_chart : (Nat → Int32)) (g_t_relatives : (Nat → Int32)) (g_t_wealth : (Nat → Int32)) (g_t_given : (Nat → Int32)) (p1 : Int32) : Int32 := (if (f_X10_in ((p1).toInt64) (100 : Int64) (179 : Int64)) = 0 then (if (f_X10_in ((p1).toInt64) (10 : Int64) (17 : Int64)) = 0 then (if (f_X10_in ((p1).toInt64) (20 : Int64) (27 : Int64)) = 0 then (if p1 = 0 then v_t_padMany else (if p1 = 1 then v_t_inside else (if p1 = 2 then (f_X10_chartRow g_t_chart) else (if p1 = 3 then v_t_next else (if p1 = 4 then v_t_years else (if p1 = 5 then v_t_sights else (-2))))))) else (g_t_relatives (p1 - 20).toNatClampNeg)) else (g_t_wealth (p1 - 10).toNatClampNeg)) else (if 8 ≤ (p1 - p1 / 10 * 10) then (-2) else (g_t_given ((8 * ((p1 - 100) / 10)) + (p1 - p1 / 10 * 10)).toNatClampNeg)))
def o_X10_told (p1 : Int32) : Prop := (if (f_X10_in ((p1).toInt64) (100 : Int64) (179 : Int64)) = 0 then (if (f_X10_in ((p1).toInt64) (10 : Int64) (17 : Int64)) = 0 then (if (f_X10_in ((p1).toInt64) (20 : Int64) (27 : Int64)) = 0 then True else ((vp_in (p1 - 20) 8) ∧ True)) else ((vp_in (p1 - 10) 8) ∧ True)) else (if 8 ≤ (p1 - p1 / 10 * 10) then True else ((vp_in ((8 * ((p1 - 100) / 10)) + (p1 - p1 / 10 * 10)) 64) ∧ True)))
set_option maxHeartbeats 4000000 in
set_option maxRecDepth 100000 in
theorem T_X10_told (l : Launch) (D : va_G) (cI cZ : ClassId) (a_t a_t_wealth a_t_given a_t_chart a_t_relatives a_t_sightSet a_t_sightMany a_t_digits a_t_pad a_t_act a_t_who a_t_whom a_t_much a_t_had a_t_dues a_t_groups a_t_ways a_t_fit a_t_byMany a_t_kept a_t_isKept : Nat) (v_t_inside : Int32) (v_t_next : Int32) (v_t_years : Int32) (v_t_sights : Int32) (v_t_padMany : Int32) (v_t_acts : Int32) (v_t_givenNow : Int32) (v_t_entered : Int32) (v_t_badAct : Int32) (v_t_badWhy : Int32) (v_t_firstAct : Int32) (v_t_firstHouse : Int32) (v_t_fitMany : Int32) (v_t_keptAt : Int32) (v_t_isWriting : Int32) (g_t_chart : (Nat → Int32)) (g_t_relatives : (Nat → Int32)) (g_t_wealth : (Nat → Int32)) (g_t_given : (Nat → Int32)) (p1 : Int32) (hok : o_X10_told p1) : CT l D cI cZ yX10_told wsX10_told ({ frames := 1, cells := 0, slots := 0, locals := 25 }) [.ref a_t, .int p1] [(a_t, .inr (10, [.ref a_t_wealth, .ref a_t_given, .ref a_t_chart, .ref a_t_relatives, .int v_t_inside, .int v_t_next, .int v_t_years, .ref a_t_sightSet, .ref a_t_sightMany, .int v_t_sights, .ref a_t_digits, .ref a_t_pad, .int v_t_padMany, .ref a_t_act, .ref a_t_who, .ref a_t_whom, .ref a_t_much, .int v_t_acts, .int v_t_givenNow, .int v_t_entered, .ref a_t_had, .int v_t_badAct, .int v_t_badWhy, .int v_t_firstAct, .int v_t_firstHouse, .ref a_t_dues, .ref a_t_groups, .ref a_t_ways, .ref a_t_fit, .int v_t_fitMany, .ref a_t_byMany, .ref a_t_kept, .ref a_t_isKept, .int v_t_keptAt, .int v_t_isWriting])), (a_t_chart, .inl (cI, 8, .inl g_t_chart)), (a_t_relatives, .inl (cI, 8, .inl g_t_relatives)), (a_t_wealth, .inl (cI, 8, .inl g_t_wealth)), (a_t_given, .inl (cI, 64, .inl g_t_given))] (some (.int (f_X10_told v_t_inside v_t_next v_t_years v_t_sights v_t_padMany g_t_chart g_t_relatives g_t_wealth g_t_given p1))) [(a_t, .inr (10, [.ref a_t_wealth, .ref a_t_given, .ref a_t_chart, .ref a_t_relatives, .int v_t_inside, .int v_t_next, .int v_t_years, .ref a_t_sightSet, .ref a_t_sightMany, .int v_t_sights, .ref a_t_digits, .ref a_t_pad, .int v_t_padMany, .ref a_t_act, .ref a_t_who, .ref a_t_whom, .ref a_t_much, .int v_t_acts, .int v_t_givenNow, .int v_t_entered, .ref a_t_had, .int v_t_badAct, .int v_t_badWhy, .int v_t_firstAct, .int v_t_firstHouse, .ref a_t_dues, .ref a_t_groups, .ref a_t_ways, .ref a_t_fit, .int v_t_fitMany, .ref a_t_byMany, .ref a_t_kept, .ref a_t_isKept, .int v_t_keptAt, .int v_t_isWriting])), (a_t_chart, .inl (cI, 8, .inl g_t_chart)), (a_t_relatives, .inl (cI, 8, .inl g_t_relatives)), (a_t_wealth, .inl (cI, 8, .inl g_t_wealth)), (a_t_given, .inl (cI, 64, .inl g_t_given))] := by
  refine CT.intro RX10 (by decide) rfl (Nat.le_of_ble_eq_true rfl) rfl ?_
  intro p e s m below meth c C hr hw ls hl
  have hx := C.hx
  have hb := C.hb
  replace hl : lv_has ls 2 [(0, .ref a_t), (1, .int p1)] := hl
  refine lv_iload_n hx hb dX10_told_0 rfl (lv_at hl 1 rfl) ?_
  refine lv_i2l (v := ((p1).toInt64)) hx hb dX10_told_1 rfl ?_
  refine lv_ldc2 (v := 100) hx hb C.hown (C.hts _ (List.mem_of_getElem? (i := 1) rfl)) dX10_told_2 ?_
  refine lv_ldc2 (v := 179) hx hb C.hown (C.hts _ (List.mem_of_getElem? (i := 2) rfl)) dX10_told_5 ?_
  refine k_callS (As := [.long ((p1).toInt64), .long 100, .long 179]) (rest := []) (n := 3) C hw (T_X10_in l D cI cZ ((p1).toInt64) (100 : Int64) (179 : Int64)) gX10_told_X10_in rfl ⟨rfl, rfl⟩ (by decide +kernel) ⟨Nat.le_of_ble_eq_true rfl, Nat.le_of_ble_eq_true rfl⟩ [] rfl rfl [] rfl rfl rfl hl.1 rfl (Nat.le_of_ble_eq_true rfl) ⟨Nat.zero_le _, Nat.zero_le _⟩ dX10_told_8 (fun H locs hw => ?_)
  refine W.eq (g2 := F0 m 11 ls [.int (f_X10_in ((p1).toInt64) (100 : Int64) (179 : Int64))]) rfl ?_
  replace hw : kW D _ s H locs [(a_t, .inr (10, [.ref a_t_wealth, .ref a_t_given, .ref a_t_chart, .ref a_t_relatives, .int v_t_inside, .int v_t_next, .int v_t_years, .ref a_t_sightSet, .ref a_t_sightMany, .int v_t_sights, .ref a_t_digits, .ref a_t_pad, .int v_t_padMany, .ref a_t_act, .ref a_t_who, .ref a_t_whom, .ref a_t_much, .int v_t_acts, .int v_t_givenNow, .int v_t_entered, .ref a_t_had, .int v_t_badAct, .int v_t_badWhy, .int v_t_firstAct, .int v_t_firstHouse, .ref a_t_dues, .ref a_t_groups, .ref a_t_ways, .ref a_t_fit, .int v_t_fitMany, .ref a_t_byMany, .ref a_t_kept, .ref a_t_isKept, .int v_t_keptAt, .int v_t_isWriting])), (a_t_chart, .inl (cI, 8, .inl g_t_chart)), (a_t_relatives, .inl (cI, 8, .inl g_t_relatives)), (a_t_wealth, .inl (cI, 8, .inl g_t_wealth)), (a_t_given, .inl (cI, 64, .inl g_t_given))] := hw
  refine lv_if_eq (tgt := 49) hx hb dX10_told_11 (by decide) (fun c1 => ?_) (fun c1 => ?_)
  · replace hok := Eq.mp (if_pos c1) hok
    refine lv_iload_n hx hb dX10_told_49 rfl (lv_at hl 1 rfl) ?_
    refine lv_i2l (v := ((p1).toInt64)) hx hb dX10_told_50 rfl ?_
    refine lv_ldc2 (v := 10) hx hb C.hown (C.hts _ (List.mem_of_getElem? (i := 4) rfl)) dX10_told_51 ?_
    refine lv_ldc2 (v := 17) hx hb C.hown (C.hts _ (List.mem_of_getElem? (i := 5) rfl)) dX10_told_54 ?_
    refine k_callS (As := [.long ((p1).toInt64), .long 10, .long 17]) (rest := []) (n := 3) C hw (T_X10_in l D cI cZ ((p1).toInt64) (10 : Int64) (17 : Int64)) gX10_told_X10_in rfl ⟨rfl, rfl⟩ (by decide +kernel) ⟨Nat.le_of_ble_eq_true rfl, Nat.le_of_ble_eq_true rfl⟩ [] rfl rfl [] rfl rfl rfl hl.1 rfl (Nat.le_of_ble_eq_true rfl) ⟨Nat.zero_le _, Nat.zero_le _⟩ dX10_told_57 (fun H locs hw => ?_)
    refine W.eq (g2 := F0 m 60 ls [.int (f_X10_in ((p1).toInt64) (10 : Int64) (17 : Int64))]) rfl ?_
    replace hw : kW D _ s H locs [(a_t, .inr (10, [.ref a_t_wealth, .ref a_t_given, .ref a_t_chart, .ref a_t_relatives, .int v_t_inside, .int v_t_next, .int v_t_years, .ref a_t_sightSet, .ref a_t_sightMany, .int v_t_sights, .ref a_t_digits, .ref a_t_pad, .int v_t_padMany, .ref a_t_act, .ref a_t_who, .ref a_t_whom, .ref a_t_much, .int v_t_acts, .int v_t_givenNow, .int v_t_entered, .ref a_t_had, .int v_t_badAct, .int v_t_badWhy, .int v_t_firstAct, .int v_t_firstHouse, .ref a_t_dues, .ref a_t_groups, .ref a_t_ways, .ref a_t_fit, .int v_t_fitMany, .ref a_t_byMany, .ref a_t_kept, .ref a_t_isKept, .int v_t_keptAt, .int v_t_isWriting])), (a_t_chart, .inl (cI, 8, .inl g_t_chart)), (a_t_relatives, .inl (cI, 8, .inl g_t_relatives)), (a_t_wealth, .inl (cI, 8, .inl g_t_wealth)), (a_t_given, .inl (cI, 64, .inl g_t_given))] := hw
    refine lv_if_eq (tgt := 73) hx hb dX10_told_60 (by decide) (fun c2 => ?_) (fun c2 => ?_)
    · replace hok := Eq.mp (if_pos c2) hok
      refine lv_iload_n hx hb dX10_told_73 rfl (lv_at hl 1 rfl) ?_
      refine lv_i2l (v := ((p1).toInt64)) hx hb dX10_told_74 rfl ?_
      refine lv_ldc2 (v := 20) hx hb C.hown (C.hts _ (List.mem_of_getElem? (i := 7) rfl)) dX10_told_75 ?_
      refine lv_ldc2 (v := 27) hx hb C.hown (C.hts _ (List.mem_of_getElem? (i := 8) rfl)) dX10_told_78 ?_
      refine k_callS (As := [.long ((p1).toInt64), .long 20, .long 27]) (rest := []) (n := 3) C hw (T_X10_in l D cI cZ ((p1).toInt64) (20 : Int64) (27 : Int64)) gX10_told_X10_in rfl ⟨rfl, rfl⟩ (by decide +kernel) ⟨Nat.le_of_ble_eq_true rfl, Nat.le_of_ble_eq_true rfl⟩ [] rfl rfl [] rfl rfl rfl hl.1 rfl (Nat.le_of_ble_eq_true rfl) ⟨Nat.zero_le _, Nat.zero_le _⟩ dX10_told_81 (fun H locs hw => ?_)
      refine W.eq (g2 := F0 m 84 ls [.int (f_X10_in ((p1).toInt64) (20 : Int64) (27 : Int64))]) rfl ?_
      replace hw : kW D _ s H locs [(a_t, .inr (10, [.ref a_t_wealth, .ref a_t_given, .ref a_t_chart, .ref a_t_relatives, .int v_t_inside, .int v_t_next, .int v_t_years, .ref a_t_sightSet, .ref a_t_sightMany, .int v_t_sights, .ref a_t_digits, .ref a_t_pad, .int v_t_padMany, .ref a_t_act, .ref a_t_who, .ref a_t_whom, .ref a_t_much, .int v_t_acts, .int v_t_givenNow, .int v_t_entered, .ref a_t_had, .int v_t_badAct, .int v_t_badWhy, .int v_t_firstAct, .int v_t_firstHouse, .ref a_t_dues, .ref a_t_groups, .ref a_t_ways, .ref a_t_fit, .int v_t_fitMany, .ref a_t_byMany, .ref a_t_kept, .ref a_t_isKept, .int v_t_keptAt, .int v_t_isWriting])), (a_t_chart, .inl (cI, 8, .inl g_t_chart)), (a_t_relatives, .inl (cI, 8, .inl g_t_relatives)), (a_t_wealth, .inl (cI, 8, .inl g_t_wealth)), (a_t_given, .inl (cI, 64, .inl g_t_given))] := hw
      refine lv_if_eq (tgt := 97) hx hb dX10_told_84 (by decide) (fun c3 => ?_) (fun c3 => ?_)
      · refine lv_iload_n hx hb dX10_told_97 rfl (lv_at hl 1 rfl) ?_
        by_cases c4 : p1 = 0
        · refine lv_tableIn (tgt := 136) hx hb dX10_told_98 (by rw [c4]; decide) (by rw [c4]; decide) (by rw [c4]; rfl) (by decide) ?_
          refine lv_aload_n hx hb dX10_told_136 rfl (lv_at hl 0 rfl) ?_
          refine k_get C hw (CC := RX10) (T := TX10) (N := 35) nX10_told_X10 0 rfl rfl 12 (by decide) (List.mem_of_getElem? (i := 10) rfl) rfl rfl dX10_told_137 ?_
          rw [show f_X10_told v_t_inside v_t_next v_t_years v_t_sights v_t_padMany g_t_chart g_t_relatives g_t_wealth g_t_given p1 = v_t_padMany from by
              unfold f_X10_told
              exact (if_pos c1).trans ((if_pos c2).trans ((if_pos c3).trans ((if_pos c4).trans (rfl))))]
          exact k_iret C hr hw dX10_told_140
        · by_cases c5 : p1 = 1
          · refine lv_tableIn (tgt := 141) hx hb dX10_told_98 (by rw [c5]; decide) (by rw [c5]; decide) (by rw [c5]; rfl) (by decide) ?_
            refine lv_aload_n hx hb dX10_told_141 rfl (lv_at hl 0 rfl) ?_
            refine k_get C hw (CC := RX10) (T := TX10) (N := 35) nX10_told_X10 0 rfl rfl 4 (by decide) (List.mem_of_getElem? (i := 11) rfl) rfl rfl dX10_told_142 ?_
            rw [show f_X10_told v_t_inside v_t_next v_t_years v_t_sights v_t_padMany g_t_chart g_t_relatives g_t_wealth g_t_given p1 = v_t_inside from by
                unfold f_X10_told
                exact (if_pos c1).trans ((if_pos c2).trans ((if_pos c3).trans ((if_neg c4).trans ((if_pos c5).trans (rfl)))))]
            exact k_iret C hr hw dX10_told_145
          · by_cases c6 : p1 = 2
            · refine lv_tableIn (tgt := 146) hx hb dX10_told_98 (by rw [c6]; decide) (by rw [c6]; decide) (by rw [c6]; rfl) (by decide) ?_
              refine lv_aload_n hx hb dX10_told_146 rfl (lv_at hl 0 rfl) ?_
              refine k_callV (As := []) (rest := []) (n := 0) (CC := RX10) (T := TX10) (N := 35) C hw (T_X10_chartRow l D cI cZ a_t a_t_wealth a_t_given a_t_chart a_t_relatives a_t_sightSet a_t_sightMany a_t_digits a_t_pad a_t_act a_t_who a_t_whom a_t_much a_t_had a_t_dues a_t_groups a_t_ways a_t_fit a_t_byMany a_t_kept a_t_isKept v_t_inside v_t_next v_t_years v_t_sights v_t_padMany v_t_acts v_t_givenNow v_t_entered v_t_badAct v_t_badWhy v_t_firstAct v_t_firstHouse v_t_fitMany v_t_keptAt v_t_isWriting g_t_chart) gX10_told_X10_chartRow rfl ⟨rfl, rfl⟩ (by decide +kernel) ⟨Nat.le_of_ble_eq_true rfl, Nat.le_of_ble_eq_true rfl⟩ 0 rfl rfl [0, 1] rfl rfl [a_t, a_t_chart] rfl rfl rfl hl.1 rfl (Nat.le_of_ble_eq_true rfl) ⟨Nat.zero_le _, Nat.zero_le _⟩ dX10_told_147 (fun H locs hw => ?_)
              refine W.eq (g2 := F0 m 150 ls [.int (f_X10_chartRow g_t_chart)]) rfl ?_
              replace hw : kW D _ s H locs [(a_t, .inr (10, [.ref a_t_wealth, .ref a_t_given, .ref a_t_chart, .ref a_t_relatives, .int v_t_inside, .int v_t_next, .int v_t_years, .ref a_t_sightSet, .ref a_t_sightMany, .int v_t_sights, .ref a_t_digits, .ref a_t_pad, .int v_t_padMany, .ref a_t_act, .ref a_t_who, .ref a_t_whom, .ref a_t_much, .int v_t_acts, .int v_t_givenNow, .int v_t_entered, .ref a_t_had, .int v_t_badAct, .int v_t_badWhy, .int v_t_firstAct, .int v_t_firstHouse, .ref a_t_dues, .ref a_t_groups, .ref a_t_ways, .ref a_t_fit, .int v_t_fitMany, .ref a_t_byMany, .ref a_t_kept, .ref a_t_isKept, .int v_t_keptAt, .int v_t_isWriting])), (a_t_chart, .inl (cI, 8, .inl g_t_chart)), (a_t_relatives, .inl (cI, 8, .inl g_t_relatives)), (a_t_wealth, .inl (cI, 8, .inl g_t_wealth)), (a_t_given, .inl (cI, 64, .inl g_t_given))] := hw
              rw [show f_X10_told v_t_inside v_t_next v_t_years v_t_sights v_t_padMany g_t_chart g_t_relatives g_t_wealth g_t_given p1 = (f_X10_chartRow g_t_chart) from by
                  unfold f_X10_told
                  exact (if_pos c1).trans ((if_pos c2).trans ((if_pos c3).trans ((if_neg c4).trans ((if_neg c5).trans ((if_pos c6).trans (rfl))))))]
              exact k_iret C hr hw dX10_told_150
            · by_cases c7 : p1 = 3
              · refine lv_tableIn (tgt := 151) hx hb dX10_told_98 (by rw [c7]; decide) (by rw [c7]; decide) (by rw [c7]; rfl) (by decide) ?_
                refine lv_aload_n hx hb dX10_told_151 rfl (lv_at hl 0 rfl) ?_
                refine k_get C hw (CC := RX10) (T := TX10) (N := 35) nX10_told_X10 0 rfl rfl 5 (by decide) (List.mem_of_getElem? (i := 12) rfl) rfl rfl dX10_told_152 ?_
                rw [show f_X10_told v_t_inside v_t_next v_t_years v_t_sights v_t_padMany g_t_chart g_t_relatives g_t_wealth g_t_given p1 = v_t_next from by
                    unfold f_X10_told
                    exact (if_pos c1).trans ((if_pos c2).trans ((if_pos c3).trans ((if_neg c4).trans ((if_neg c5).trans ((if_neg c6).trans ((if_pos c7).trans (rfl)))))))]
                exact k_iret C hr hw dX10_told_155
              · by_cases c8 : p1 = 4
                · refine lv_tableIn (tgt := 156) hx hb dX10_told_98 (by rw [c8]; decide) (by rw [c8]; decide) (by rw [c8]; rfl) (by decide) ?_
                  refine lv_aload_n hx hb dX10_told_156 rfl (lv_at hl 0 rfl) ?_
                  refine k_get C hw (CC := RX10) (T := TX10) (N := 35) nX10_told_X10 0 rfl rfl 6 (by decide) (List.mem_of_getElem? (i := 13) rfl) rfl rfl dX10_told_157 ?_
                  rw [show f_X10_told v_t_inside v_t_next v_t_years v_t_sights v_t_padMany g_t_chart g_t_relatives g_t_wealth g_t_given p1 = v_t_years from by
                      unfold f_X10_told
                      exact (if_pos c1).trans ((if_pos c2).trans ((if_pos c3).trans ((if_neg c4).trans ((if_neg c5).trans ((if_neg c6).trans ((if_neg c7).trans ((if_pos c8).trans (rfl))))))))]
                  exact k_iret C hr hw dX10_told_160
                · by_cases c9 : p1 = 5
                  · refine lv_tableIn (tgt := 161) hx hb dX10_told_98 (by rw [c9]; decide) (by rw [c9]; decide) (by rw [c9]; rfl) (by decide) ?_
                    refine lv_aload_n hx hb dX10_told_161 rfl (lv_at hl 0 rfl) ?_
                    refine k_get C hw (CC := RX10) (T := TX10) (N := 35) nX10_told_X10 0 rfl rfl 9 (by decide) (List.mem_of_getElem? (i := 14) rfl) rfl rfl dX10_told_162 ?_
                    rw [show f_X10_told v_t_inside v_t_next v_t_years v_t_sights v_t_padMany g_t_chart g_t_relatives g_t_wealth g_t_given p1 = v_t_sights from by
                        unfold f_X10_told
                        exact (if_pos c1).trans ((if_pos c2).trans ((if_pos c3).trans ((if_neg c4).trans ((if_neg c5).trans ((if_neg c6).trans ((if_neg c7).trans ((if_neg c8).trans ((if_pos c9).trans (rfl)))))))))]
                    exact k_iret C hr hw dX10_told_165
                  · refine lv_tableOut (tgt := 166) hx hb dX10_told_98 (tab_out6 c4 c5 c6 c7 c8 c9) (by decide) ?_
                    refine lv_bipush (v := (-2)) hx hb dX10_told_166 (by decide) ?_
                    rw [show f_X10_told v_t_inside v_t_next v_t_years v_t_sights v_t_padMany g_t_chart g_t_relatives g_t_wealth g_t_given p1 = (-2) from by
                        unfold f_X10_told
                        exact (if_pos c1).trans ((if_pos c2).trans ((if_pos c3).trans ((if_neg c4).trans ((if_neg c5).trans ((if_neg c6).trans ((if_neg c7).trans ((if_neg c8).trans ((if_neg c9).trans (rfl)))))))))]
                    exact k_iret C hr hw dX10_told_168
      · replace hok := Eq.mp (if_neg c3) hok
        refine lv_aload_n hx hb dX10_told_87 rfl (lv_at hl 0 rfl) ?_
        refine k_get C hw (CC := RX10) (T := TX10) (N := 35) nX10_told_X10 0 rfl rfl 3 (by decide) (List.mem_of_getElem? (i := 9) rfl) rfl rfl dX10_told_88 ?_
        refine lv_iload_n hx hb dX10_told_91 rfl (lv_at hl 1 rfl) ?_
        refine lv_bipush (v := 20) hx hb dX10_told_92 (by decide) ?_
        refine lv_isub hx hb dX10_told_94 ?_
        obtain ⟨h10, hok⟩ := hok
        refine k_iald C hw 2 rfl h10 dX10_told_95 ?_
        rw [show f_X10_told v_t_inside v_t_next v_t_years v_t_sights v_t_padMany g_t_chart g_t_relatives g_t_wealth g_t_given p1 = (g_t_relatives (p1 - 20).toNatClampNeg) from by
            unfold f_X10_told
            exact (if_pos c1).trans ((if_pos c2).trans ((if_neg c3).trans (rfl)))]
        exact k_iret C hr hw dX10_told_96
    · replace hok := Eq.mp (if_neg c2) hok
      refine lv_aload_n hx hb dX10_told_63 rfl (lv_at hl 0 rfl) ?_
      refine k_get C hw (CC := RX10) (T := TX10) (N := 35) nX10_told_X10 0 rfl rfl 0 (by decide) (List.mem_of_getElem? (i := 6) rfl) rfl rfl dX10_told_64 ?_
      refine lv_iload_n hx hb dX10_told_67 rfl (lv_at hl 1 rfl) ?_
      refine lv_bipush (v := 10) hx hb dX10_told_68 (by decide) ?_
      refine lv_isub hx hb dX10_told_70 ?_
      obtain ⟨h11, hok⟩ := hok
      refine k_iald C hw 3 rfl h11 dX10_told_71 ?_
      rw [show f_X10_told v_t_inside v_t_next v_t_years v_t_sights v_t_padMany g_t_chart g_t_relatives g_t_wealth g_t_given p1 = (g_t_wealth (p1 - 10).toNatClampNeg) from by
          unfold f_X10_told
          exact (if_pos c1).trans ((if_neg c2).trans (rfl))]
      exact k_iret C hr hw dX10_told_72
  · replace hok := Eq.mp (if_neg c1) hok
    refine lv_iload_n hx hb dX10_told_14 rfl (lv_at hl 1 rfl) ?_
    refine lv_bipush (v := 10) hx hb dX10_told_15 (by decide) ?_
    refine lv_irem hx hb dX10_told_17 (by decide) ?_
    refine lv_bipush (v := 8) hx hb dX10_told_18 (by decide) ?_
    refine lv_icmp_ge (tgt := 46) hx hb dX10_told_20 (by decide) (fun c12 => ?_) (fun c12 => ?_)
    · refine lv_bipush (v := (-2)) hx hb dX10_told_46 (by decide) ?_
      rw [show f_X10_told v_t_inside v_t_next v_t_years v_t_sights v_t_padMany g_t_chart g_t_relatives g_t_wealth g_t_given p1 = (-2) from by
          unfold f_X10_told
          exact (if_neg c1).trans ((if_pos c12).trans (rfl))]
      exact k_iret C hr hw dX10_told_48
    · replace hok := Eq.mp (if_neg c12) hok
      refine lv_aload_n hx hb dX10_told_23 rfl (lv_at hl 0 rfl) ?_
      refine k_get C hw (CC := RX10) (T := TX10) (N := 35) nX10_told_X10 0 rfl rfl 1 (by decide) (List.mem_of_getElem? (i := 3) rfl) rfl rfl dX10_told_24 ?_
      refine lv_bipush (v := 8) hx hb dX10_told_27 (by decide) ?_
      refine lv_iload_n hx hb dX10_told_29 rfl (lv_at hl 1 rfl) ?_
      refine lv_bipush (v := 100) hx hb dX10_told_30 (by decide) ?_
      refine lv_isub hx hb dX10_told_32 ?_
      refine lv_bipush (v := 10) hx hb dX10_told_33 (by decide) ?_
      refine lv_idiv hx hb dX10_told_35 (by decide) ?_
      refine lv_imul hx hb dX10_told_36 ?_
      refine lv_iload_n hx hb dX10_told_37 rfl (lv_at hl 1 rfl) ?_
      refine lv_bipush (v := 10) hx hb dX10_told_38 (by decide) ?_
      refine lv_irem hx hb dX10_told_40 (by decide) ?_
      refine lv_iadd hx hb dX10_told_41 ?_
      obtain ⟨h13, hok⟩ := hok
      refine k_iald C hw 4 rfl h13 dX10_told_42 ?_
      refine lv_goto (tgt := 48) hx hb dX10_told_43 (by decide) ?_
      rw [show f_X10_told v_t_inside v_t_next v_t_years v_t_sights v_t_padMany g_t_chart g_t_relatives g_t_wealth g_t_given p1 = (g_t_given ((8 * ((p1 - 100) / 10)) + (p1 - p1 / 10 * 10)).toNatClampNeg) from by
          unfold f_X10_told
          exact (if_neg c1).trans ((if_neg c12).trans (rfl))]
      exact k_iret C hr hw dX10_told_48

