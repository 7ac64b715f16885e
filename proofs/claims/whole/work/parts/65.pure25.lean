/-! ORDERS: the two rows agree -/
theorem hasb (x k : Int32) : ((x >>> (k &&& 31)) &&& 1) = 1 ↔ f_X10_has x k = 1 := by
  unfold f_X10_has
  by_cases h : ((x >>> (k &&& 31)) &&& 1) = 1
  · rw [if_pos h]
    exact ⟨fun _ => rfl, fun _ => h⟩
  · rw [if_neg h]
    exact ⟨fun q => absurd q h, fun q => absurd q (by decide)⟩
theorem ag_up {s j : Nat} (hj : j < 8) {v u : Nat → Int32} (x y : Int32) (h : agO (s + 1) v u) : agO (s + 1) (upd v (8 * s + j) x) (upd u (8 * s + j) y) := by
  intro S h1 h2 k hk hh
  have := h S h1 h2 k hk hh
  rw [pk_un (by omega), pk_un (by omega)]
  exact this
theorem ag_up2 {s j : Nat} (hj : j < 8) {v u : Nat → Int32} (y : Int32) (h : agO (s + 1) v u) : agO (s + 1) v (upd u (8 * s + j) y) := by
  intro S h1 h2 k hk hh
  have := h S h1 h2 k hk hh
  rw [pk_un (by omega)]
  exact this
def agI (s j : Nat) (v u : Nat → Int32) : Prop := ∀ k, k < j → f_X10_has (nI s) (nI k) = 1 → v (8 * s + k) = u (8 * s + k) ∧ ∃ a, a ≤ 8 ^ oms s ∧ v (8 * s + k) = nI a
theorem w6_ok {s : Nat} (hs : s < 256) (f : Int32) (A : Nat → Int32) : o_X6_waysOn A (nI s) f := by
  refine ⟨itA_of 8 0 _ (fun k v _ hk => ?_), trivial⟩
  unfold oB_X6_waysOn_5
  split
  · obtain ⟨t1, t2, _, _⟩ := oset (s := s) (k := k) hs (by omega)
    rw [t1]
    exact ⟨(oix t2 (by omega)).2.2.1, trivial⟩
  · trivial
theorem w10_ok {s j : Nat} (hs : s < 256) (hj : j < 8) (kn A : Nat → Int32) : o_X10_waysOn kn A (nI s) (nI j) := by
  have vj : vp_in (nI j) 8 := vp_in_nI hj (by decide)
  have q : itA (oB_X10_waysOn_5 (nI s) (nI j) kn) (B_X10_waysOn_5 (nI s) (nI j) kn A) 0 8 (0 : Int32) := by
    refine itA_of 8 0 _ (fun k v _ hk => ?_)
    unfold oB_X10_waysOn_5
    obtain ⟨t1, t2, _, _⟩ := oset (s := s) (k := k) hs (by omega)
    split
    · refine ⟨vj, ?_⟩
      split
      · rw [t1]
        exact ⟨(oix t2 (by omega)).2.2.2, trivial⟩
      · trivial
    · trivial
  unfold o_X10_waysOn
  first
    | exact ⟨q, trivial⟩
    | (split
       · trivial
       · exact ⟨q, trivial⟩)
theorem oin {s : Nat} (hs : s < 255) (kn : Nat → Int32) : ∀ (n j : Nat) (v u : Nat → Int32), j + n = 8 → agO (s + 1) v u → agI s j v u → agO s (it (B_X6_work_35 (nI s) kn) j n v) (it (B_X10_orders_23 (nI s) kn) j n u) ∧ itA (oB_X6_work_35 (nI s) kn) (B_X6_work_35 (nI s) kn) j n v ∧ itA (oB_X10_orders_23 (nI s) kn) (B_X10_orders_23 (nI s) kn) j n u
  | 0, j, v, u, hj, ha, hi => by
    refine ⟨fun S h1 h2 k hk hh => ?_, trivial, trivial⟩
    by_cases e : S = s
    · subst e
      exact hi k (by omega) hh
    · exact ha S (by omega) h2 k hk hh
  | n + 1, j, v, u, hj, ha, hi => by
    have j8 : j < 8 := by omega
    obtain ⟨i1, i2, i3, i4⟩ := oix (T := s) (k := j) (by omega) j8
    by_cases hb : f_X10_has (nI s) (nI j) = 1
    · obtain ⟨b, w1, w2, w3, _⟩ := owy (kn := kn) hs j8 ha
      have e6 : B_X6_work_35 (nI s) kn j v = upd v (8 * s + j) (nI b) := by
        unfold B_X6_work_35
        rw [if_pos ((hasb _ _).mpr hb), lt_c w1, i1]
      have e10 : B_X10_orders_23 (nI s) kn j u = upd u (8 * s + j) (nI b) := by
        unfold B_X10_orders_23
        rw [if_neg (by rw [hb]; decide), w2, i2]
      have r := oin hs kn n (j + 1) (upd v (8 * s + j) (nI b)) (upd u (8 * s + j) (nI b)) (by omega) (ag_up j8 _ _ ha) (fun k hk hh => by
        by_cases e : k = j
        · subst e
          rw [pk_us, pk_us]
          exact ⟨rfl, b, w3, rfl⟩
        · rw [pk_un (by omega), pk_un (by omega)]
          exact hi k (by omega) hh)
      refine ⟨?_, ⟨?_, ?_⟩, ⟨?_, ?_⟩⟩
      · rw [it_c e6, it_c e10]
        exact r.1
      · unfold oB_X6_work_35
        rw [if_pos ((hasb _ _).mpr hb)]
        exact ⟨w6_ok (by omega) _ _, i3, trivial⟩
      · rw [e6]
        exact r.2.1
      · unfold oB_X10_orders_23
        rw [if_neg (by rw [hb]; decide)]
        exact ⟨w10_ok (by omega) j8 _ _, i4, trivial⟩
      · rw [e10]
        exact r.2.2
    · have h0 : f_X10_has (nI s) (nI j) = 0 := by
        rcases has01 (nI s) (nI j) with q | q
        · exact q
        · exact absurd q hb
      have e6 : B_X6_work_35 (nI s) kn j v = v := by
        unfold B_X6_work_35
        rw [if_neg (fun q => hb ((hasb _ _).mp q))]
      have e10 : B_X10_orders_23 (nI s) kn j u = upd u (8 * s + j) 0 := by
        unfold B_X10_orders_23
        rw [if_pos h0, i2]
      have r := oin hs kn n (j + 1) v (upd u (8 * s + j) 0) (by omega) (ag_up2 j8 _ ha) (fun k hk hh => by
        by_cases e : k = j
        · subst e
          exact absurd hh hb
        · rw [pk_un (by omega)]
          exact hi k (by omega) hh)
      refine ⟨?_, ⟨?_, ?_⟩, ⟨?_, ?_⟩⟩
      · rw [it_c e6, it_c e10]
        exact r.1
      · unfold oB_X6_work_35
        rw [if_neg (fun q => hb ((hasb _ _).mp q))]
        trivial
      · rw [e6]
        exact r.2.1
      · unfold oB_X10_orders_23
        rw [if_pos h0]
        exact ⟨i4, trivial⟩
      · rw [e10]
        exact r.2.2
theorem oall (kn : Nat → Int32) : ∀ (n : Nat) (v u : Nat → Int32), n ≤ 254 → agO (n + 1) v u → agO 1 (itD (B_X6_work_29 kn) n v) (itD (B_X10_orders_17 kn) n u) ∧ itDA (oB_X6_work_29 kn) (B_X6_work_29 kn) n v ∧ itDA (oB_X10_orders_17 kn) (B_X10_orders_17 kn) n u
  | 0, v, u, _, ha => ⟨ha, trivial, trivial⟩
  | n + 1, v, u, hn, ha => by
    have q := oin (s := n + 1) (by omega) kn 8 0 v u (by decide) ha (fun k hk => absurd hk (Nat.not_lt_zero k))
    have r := oall kn n _ _ (by omega) q.1
    exact ⟨r.1, ⟨⟨q.2.1, trivial⟩, r.2.1⟩, ⟨⟨q.2.2, trivial⟩, r.2.2⟩⟩
