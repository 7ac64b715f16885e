/-! ORDERS -/
theorem ohx0 : ∀ k, k < 8 → ((0 : Int32) ||| ((1 : Int32) <<< (nI k &&& 31))) = nI (0 ||| 2 ^ k) ∧ 0 ||| 2 ^ k < 256 := by
  intro k hk
  rw [Nat.zero_or]
  exact ⟨(o0_tab ⟨k, hk⟩).2.1, (o0_tab ⟨k, hk⟩).2.2.1⟩
theorem oA0 {A C : Nat → Int32} (ha : agO 1 A C) : ∀ k, k < 8 → True → A (8 * (0 ||| 2 ^ k) + k) = C (8 * (0 ||| 2 ^ k) + k) ∧ ∃ a, a ≤ 2097152 ∧ A (8 * (0 ||| 2 ^ k) + k) = nI a := by
  intro k hk _
  rw [Nat.zero_or]
  obtain ⟨_, _, t3, t4, _, _⟩ := o0_tab ⟨k, hk⟩
  obtain ⟨q1, q2⟩ := oms_1 ⟨k, hk⟩
  dsimp only at t3 t4 q1 q2
  obtain ⟨e, a, b, d⟩ := ha (2 ^ k) q2 t3 k hk t4
  rw [q1] at b
  exact ⟨e, a, b, d⟩
theorem ofst {A C kn : Nat → Int32} (ha : agO 1 A C) (hf : agFo kn 1 A) {b : Nat} (m0 : b = 0 ∨ ∃ k, k < 8 ∧ 0 < (A (8 * 2 ^ k + k)).toNatClampNeg) (mk : ∀ k, k < 8 → (A (8 * 2 ^ k + k)).toNatClampNeg ≤ b) :
    o_X6_least A kn ∧ (b = 0 → f_X6_least A kn = -6) ∧ (¬ b = 0 → f_X6_least A kn = f_X10_leastOrder C kn ∧ o_X10_leastOrder C kn) := by
  have h6 : ∀ k, k < 8 → ((((255 : Int32) >>> (nI k &&& 31)) &&& 1) = 1 ↔ (fun _ : Nat => True) k) := fun k hk => ⟨fun _ => trivial, fun _ => (o0_tab ⟨k, hk⟩).2.2.2.2.1⟩
  by_cases z : b = 0
  · have e1 : f_X6_leastThatGoesOn A 0 255 = -6 := by
      unfold f_X6_leastThatGoesOn
      rw [onone (fun k hk => (ol6 ohx0 h6 (fun k hk f => (oA0 ha k hk f).2) k hk).2 (fun p => by
        have p2 := p.2
        rw [Nat.zero_or] at p2
        have := mk k hk
        omega)) 8 0 (by decide)]
      rfl
    have e6 : B_X6_least_12 A kn 0 ((0 : Int32), (0 : Int32), (255 : Int32)) = Sum.inr (Sum.inr (-6)) := by
      unfold B_X6_least_12
      dsimp only
      rw [e1, if_pos rfl]
    refine ⟨⟨⟨⟨os6 ohx0 _ _, ?_⟩, ?_⟩, trivial⟩, fun _ => ?_, fun q => absurd z q⟩
    · dsimp only
      rw [e1, if_pos rfl]
      trivial
    · rw [e6]
      trivial
    · unfold f_X6_least
      rw [lp_b e6]
      rfl
  · have he : ∃ k, k < 8 ∧ oP (fun _ => True) A 0 k := by
      rcases m0 with q | ⟨k, hk, hp⟩
      · exact absurd q z
      · exact ⟨k, hk, trivial, by rw [Nat.zero_or]; exact hp⟩
    obtain ⟨c, c8, hc, e1, e6, e10⟩ := ostp (j := 0) (num := 0) (x3 := -6) (kn := kn) (C := C) ohx0 h6 (fun k hk => ⟨fun _ => ⟨(o0_tab ⟨k, hk⟩).2.2.2.2.2, Or.inl (by decide)⟩, fun _ => trivial⟩) (oA0 ha) he
    have hc2 := hc.2
    rw [Nat.zero_or] at e6 e10 hc2
    obtain ⟨_, _, t3, t4, _, _⟩ := o0_tab ⟨c, c8⟩
    obtain ⟨q1, q2⟩ := oms_1 ⟨c, c8⟩
    obtain ⟨R, x, f, r1, r2, r3, r4⟩ := olpS ha hf 7 1 (2 ^ c) c (0 * 10 + nI c) q2 t3 c8 t4 q1 hc2
    refine ⟨⟨⟨⟨os6 ohx0 _ _, ?_⟩, ?_⟩, trivial⟩, fun q => absurd q z, fun _ => ⟨?_, ⟨⟨os25 ohx0 (Or.inl (by decide)) _ _ rfl rfl _, ?_⟩, trivial⟩⟩⟩
    · dsimp only
      rw [e1, if_neg (m6ne (by omega))]
      exact ⟨vp_in_nI c8 (by decide), trivial⟩
    · rw [e6]
      exact r3
    · unfold f_X6_least f_X10_leastOrder
      rw [lp_c e6, r1, it_c e10]
      exact r2.symm
    · rw [e10]
      exact r4
theorem Q_orders (ww : Nat → Int32) (gg : Nat → Int32) (rr : Nat → Int32) (ii : Int32) (nx : Int32) (yr : Int32) (kn : Nat → Int32) (ss : Nat → Int32) (sc : Nat → Int32) (sn : Int32) (sg : Int32) (pd : Nat → Int32) (pk : Nat → Int32) (po : Nat → Int32) (pt : Nat → Int32) (pm : Nat → Int32) (pa : Int32) (wp : Int32) (ex : Int32) (on : Int32) (ot : Int32) (tw : Nat → Int32) (tg : Nat → Int32) (tr : Nat → Int32) (uw : Nat → Int32) (ug : Nat → Int32) (ur : Nat → Int32) (ui : Int32) (un : Int32) (uy : Int32) (uk : Nat → Int32) (us : Nat → Int32) (uc : Nat → Int32) (um : Int32) (uf : Int32) (zw : Nat → Int32) (zg : Nat → Int32) (zr : Nat → Int32) (zi : Int32) (zn : Int32) (zy : Int32) (zk : Nat → Int32) (zs : Nat → Int32) (zc : Nat → Int32) (zm : Int32) (zf : Int32) (kp : Nat → Int32) (ik : Nat → Int32) (rw : Nat → Int32) (mw : Nat → Int32) (a1 : Int32) (h : RA ww gg rr ii nx yr kn ss sc sn sg pd pk po pt pm pa wp ex on ot tw tg tr uw ug ur ui un uy uk us uc um uf zw zg zr zi zn zy zk zs zc zm zf kp ik) : o_X9_orders kn rw a1 ∧ o_X10_orders mw kn a1 ∧ (f_X9_orders kn rw a1).1 = (f_X10_orders mw kn a1).1 ∧ RA ww gg rr ii nx yr kn ss sc sn sg pd pk po pt pm pa wp ex on ot tw tg tr uw ug ur ui un uy uk us uc um uf zw zg zr zi zn zy zk zs zc zm zf kp ik := by
  obtain ⟨ha, hf, o1, o2⟩ := ostart kn rw mw
  obtain ⟨b, hb, m6, m10, m0, mk⟩ := omany ha
  obtain ⟨s1, s2, s3⟩ := ofst ha hf m0 mk
  have o74 : itA oB_X10_orders_74 (B_X10_orders_74 (itD (B_X10_orders_17 kn) 255 mw)) 0 8 (0 : Int32) := itA_of 8 0 _ (fun k v _ hk => by
    obtain ⟨t1, _, t3, _⟩ := o0_tab ⟨k, by omega⟩
    dsimp only at t1 t3
    unfold oB_X10_orders_74
    rw [t1]
    exact ⟨(oix t3 (by omega)).2.2.2, trivial⟩)
  refine ⟨?_, ?_, ?_, h⟩
  · unfold o_X9_orders
    split
    · trivial
    · refine ⟨o1, ?_⟩
      dsimp only [lt]
      split
      · exact ⟨⟨w6_ok (s := 0) (by decide) _ _, trivial⟩, trivial⟩
      · exact ⟨s1, trivial⟩
  · unfold o_X10_orders
    split
    · trivial
    · refine ⟨o2, o74, ?_⟩
      rw [lt_c m10]
      split
      · trivial
      · split
        · trivial
        · next n => exact ⟨(s3 (fun z => n (by rw [z]; rfl))).2, trivial⟩
  · unfold f_X9_orders f_X10_orders
    rw [in_0_1]
    by_cases q : f_X9_within a1 0 1 = 0
    · rw [if_pos q, if_pos q]
    · rw [if_neg q, if_neg q, lt_c m10]
      dsimp only [lt]
      by_cases a0 : a1 = 0
      · rw [if_pos a0, if_pos a0]
        exact m6
      · rw [if_neg a0, if_neg a0]
        by_cases b0 : b = 0
        · rw [if_pos (show nI b = 0 by rw [b0]; rfl)]
          exact s2 b0
        · rw [if_neg (nI_ne0 (by omega) (by omega))]
          exact (s3 b0).1
