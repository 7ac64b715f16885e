/-! LOTS -/
theorem lbA_of {V : Type} {o : Nat → V → Prop} {f : Nat → V → V ⊕ V} (ho : ∀ j v, o j v) : ∀ (n j : Nat) (v : V), lbA o f j n v
  | 0, _, _ => trivial
  | n + 1, j, v => by
    refine ⟨ho j v, ?_⟩
    cases f j v with
    | inl w => exact lbA_of ho n (j + 1) w
    | inr w => trivial
theorem lots_tab : ∀ n : Fin 13, ∀ k : Fin 13, ∀ w : Fin 2, ∀ q : Fin 2, k.val ≤ n.val → f_X9_lots (nI n.val) (nI k.val) (nI w.val) (nI q.val) = f_X10_lots (nI n.val) (nI k.val) (nI w.val) (nI q.val) := by decide +kernel
theorem lots_tab2 : ∀ n : Fin 13, ∀ k : Fin 13, ∀ w : Fin 2, k.val ≤ n.val → lbSb B_X10_lowest_6 0 100 ((it (B_X10_lots_57 (nI n.val) (nI k.val) (nI w.val)) 0 (n.val + 1) ((0 : Int64), (0 : Int64))).2, (it (B_X10_lots_57 (nI n.val) (nI k.val) (nI w.val)) 0 (n.val + 1) ((0 : Int64), (0 : Int64))).1) = true ∧ ¬ (lb B_X10_lowest_6 0 100 ((it (B_X10_lots_57 (nI n.val) (nI k.val) (nI w.val)) 0 (n.val + 1) ((0 : Int64), (0 : Int64))).2, (it (B_X10_lots_57 (nI n.val) (nI k.val) (nI w.val)) 0 (n.val + 1) ((0 : Int64), (0 : Int64))).1)).1 = 0 := by decide +kernel
theorem fact_tab : ∀ n : Fin 13, ∀ j : Fin 13, j.val ≤ n.val → ¬ (factV j.val * factV (n.val - j.val)) = 0 := by decide +kernel
theorem wd_ok {n j : Nat} (hn : n ≤ 12) (hj : j ≤ n) : o_X9_waysToDraw (nI n) (nI j) := by
  unfold o_X9_waysToDraw
  have es : nI n - nI j = nI (n - j) := pk_sub hj
  have c1 : (nI n).toNatClampNeg = n := nI_clamp (by omega)
  have c2 : (nI j).toNatClampNeg = j := nI_clamp (by omega)
  have c3 : (nI (n - j)).toNatClampNeg = n - j := nI_clamp (by omega)
  split
  · trivial
  · split
    · trivial
    · rw [es, c2, c3]
      have v1 : vp_in (nI j) 13 := vp_in_nI (by omega) (by decide)
      have v2 : vp_in (nI (n - j)) 13 := vp_in_nI (by omega) (by decide)
      refine ⟨v1, v2, ?_⟩
      split
      · exact ⟨vp_in_nI (by omega) (by decide), fact_tab ⟨n, by omega⟩ ⟨j, by omega⟩ hj, v2, trivial⟩
      · trivial
theorem cd_ok (a b : Int64) : o_X9_commonDivisor a b := by
  refine ⟨lbA_of (fun j v => ?_) 1000 0 _, trivial⟩
  unfold oB_X9_commonDivisor_9
  split
  · trivial
  · rename_i h
    exact ⟨fun q => h ((lg_cmp_eq _ _).mpr q), trivial⟩
theorem lw_ob (j : Nat) (v : Int64 × Int64) : oB_X10_lowest_6 j v := by
  unfold oB_X10_lowest_6
  split
  · trivial
  · rename_i h
    exact ⟨fun q => h ((lg_cmp_eq _ _).mpr q), trivial⟩
theorem ch_ok {n j : Nat} (hj : j ≤ 12) : o_X10_choose (nI n) (nI j) := by
  refine ⟨nI_pos' (by omega), itA_of _ 0 _ (fun k v _ hk => ⟨?_, trivial⟩), trivial⟩
  rw [nI_clamp (show j < 2 ^ 31 by omega)] at hk
  rw [nI_1]
  intro q
  have q2 := congrArg Int64.toInt q
  rw [Int32.toInt_toInt64, nI_toInt (by omega)] at q2
  have q3 : (0 : Int64).toInt = 0 := by decide
  rw [q3] at q2
  omega
theorem st_ok {n : Nat} (hn : n ≤ 12) : o_X10_strangers (nI n) := by
  have h1 : (0 : Int32) ≤ nI n := nI_pos' (by omega)
  have h2 : (nI n).toNatClampNeg < 2147483647 := by rw [nI_clamp (by omega)]; omega
  unfold o_X10_strangers
  split
  · exact ⟨h1, h2, trivial⟩
  · exact ⟨h1, h2, trivial⟩
theorem gt_ne {a : Int64} (h : 0 < lg_cmp a 0) : ¬ a = 0 := by
  intro q
  subst q
  exact absurd h (by decide)
theorem Q_lots (ww : Nat → Int32) (gg : Nat → Int32) (rr : Nat → Int32) (ii : Int32) (nx : Int32) (yr : Int32) (kn : Nat → Int32) (ss : Nat → Int32) (sc : Nat → Int32) (sn : Int32) (sg : Int32) (pd : Nat → Int32) (pk : Nat → Int32) (po : Nat → Int32) (pt : Nat → Int32) (pm : Nat → Int32) (pa : Int32) (wp : Int32) (ex : Int32) (on : Int32) (ot : Int32) (tw : Nat → Int32) (tg : Nat → Int32) (tr : Nat → Int32) (uw : Nat → Int32) (ug : Nat → Int32) (ur : Nat → Int32) (ui : Int32) (un : Int32) (uy : Int32) (uk : Nat → Int32) (us : Nat → Int32) (uc : Nat → Int32) (um : Int32) (uf : Int32) (zw : Nat → Int32) (zg : Nat → Int32) (zr : Nat → Int32) (zi : Int32) (zn : Int32) (zy : Int32) (zk : Nat → Int32) (zs : Nat → Int32) (zc : Nat → Int32) (zm : Int32) (zf : Int32) (kp : Nat → Int32) (ik : Nat → Int32) (a1 : Int32) (a2 : Int32) (a3 : Int32) (a4 : Int32) (h : RA ww gg rr ii nx yr kn ss sc sn sg pd pk po pt pm pa wp ex on ot tw tg tr uw ug ur ui un uy uk us uc um uf zw zg zr zi zn zy zk zs zc zm zf kp ik) : o_X9_lots a1 a2 a3 a4 ∧ o_X10_lots a1 a2 a3 a4 ∧ (f_X9_lots a1 a2 a3 a4) = (f_X10_lots a1 a2 a3 a4) ∧ RA ww gg rr ii nx yr kn ss sc sn sg pd pk po pt pm pa wp ex on ot tw tg tr uw ug ur ui un uy uk us uc um uf zw zg zr zi zn zy zk zs zc zm zf kp ik := by
  have key : ∀ p1 p2 : Int32, ¬ f_X9_within p1 0 12 = 0 → ¬ f_X9_within p2 0 p1 = 0 → ∃ n k, n ≤ 12 ∧ k ≤ n ∧ p1 = nI n ∧ p2 = nI k := by
    intro p1 p2 h1 h2
    obtain ⟨n, _, x2, rfl⟩ := wi_nat (x := 0) (y := 12) (by decide) (by decide) h1
    obtain ⟨k, _, y2, rfl⟩ := wi_nat (x := 0) (y := n) (by decide) (nI_toInt (by omega)) h2
    exact ⟨n, k, x2, y2, rfl, rfl⟩
  refine ⟨?_, ?_, ?_, h⟩
  · unfold o_X9_lots
    split
    · trivial
    · rename_i g1
      split
      · trivial
      · rename_i g2
        split
        · trivial
        · split
          · trivial
          · obtain ⟨n, k, hn, hk, rfl, rfl⟩ := key a1 a2 g1 g2
            have c1 : (nI n).toNatClampNeg = n := nI_clamp (by omega)
            have c2 : (nI k).toNatClampNeg = k := nI_clamp (by omega)
            have p1 : (0 : Int32) ≤ nI n := nI_pos' (by omega)
            have p2 : (0 : Int32) ≤ nI k := nI_pos' (by omega)
            rw [c1, c2]
            have fin : ∀ z : Int64, ((vp_in (nI n) 13) ∧ ((o_X9_commonDivisor (factV n) z) ∧ (if 0 < (lg_cmp (f_X9_commonDivisor (factV n) z) 0) then (if a4 = 0 then ((¬ (f_X9_commonDivisor (factV n) z) = 0) ∧ True) else ((¬ (f_X9_commonDivisor (factV n) z) = 0) ∧ True)) else True))) := by
              intro z
              refine ⟨vp_in_nI (by omega) (by decide), cd_ok _ _, ?_⟩
              split
              · rename_i hgt
                split
                · exact ⟨gt_ne hgt, trivial⟩
                · exact ⟨gt_ne hgt, trivial⟩
              · trivial
            split
            · exact ⟨p2, p2, by omega, itA_of _ _ _ (fun j v h1 h2 => ⟨wd_ok hn (by omega), trivial⟩), fin _⟩
            · exact ⟨p2, p1, by omega, itA_of _ _ _ (fun j v h1 h2 => ⟨wd_ok hn (by omega), trivial⟩), fin _⟩
  · unfold o_X10_lots
    rw [in_0_12, px_in a2 0 a1 (by decide) rfl, in_0_1]
    split
    · trivial
    · rename_i g1
      split
      · trivial
      · rename_i g2
        split
        · trivial
        · rename_i g3
          split
          · trivial
          · obtain ⟨n, k, hn, hk, rfl, rfl⟩ := key a1 a2 g1 g2
            obtain ⟨w, _, w2, rfl⟩ := wi_nat (x := 0) (y := 1) (by decide) (by decide) g3
            have c1 : (nI n).toNatClampNeg = n := nI_clamp (by omega)
            rw [c1]
            obtain ⟨t1, t2⟩ := lots_tab2 ⟨n, by omega⟩ ⟨k, by omega⟩ ⟨w, by omega⟩ hk
            refine ⟨nI_pos' (by omega), by omega, itA_of _ _ _ (fun j v h1 h2 => ?_), ⟨lbS_of lw_ob 100 0 _ t1, ?_⟩, trivial⟩
            · refine ⟨ch_ok (by omega), ?_, trivial⟩
              rw [pk_sub (show j ≤ n by omega)]
              exact st_ok (by omega)
            · split
              · exact ⟨t2, trivial⟩
              · exact ⟨t2, trivial⟩
  · by_cases g1 : f_X9_within a1 0 12 = 0
    · unfold f_X9_lots f_X10_lots
      rw [in_0_12, if_pos g1, if_pos g1]
    · by_cases g2 : f_X9_within a2 0 a1 = 0
      · unfold f_X9_lots f_X10_lots
        rw [in_0_12, px_in a2 0 a1 (by decide) rfl, if_neg g1, if_neg g1, if_pos g2, if_pos g2]
      · by_cases g3 : f_X9_within a3 0 1 = 0
        · unfold f_X9_lots f_X10_lots
          rw [in_0_12, px_in a2 0 a1 (by decide) rfl, in_0_1, if_neg g1, if_neg g1, if_neg g2, if_neg g2, if_pos g3, if_pos g3]
        · by_cases g4 : f_X9_within a4 0 1 = 0
          · unfold f_X9_lots f_X10_lots
            rw [in_0_12, px_in a2 0 a1 (by decide) rfl, in_0_1, in_0_1, if_neg g1, if_neg g1, if_neg g2, if_neg g2, if_neg g3, if_neg g3, if_pos g4, if_pos g4]
          · obtain ⟨n, k, hn, hk, rfl, rfl⟩ := key a1 a2 g1 g2
            obtain ⟨w, _, w2, rfl⟩ := wi_nat (x := 0) (y := 1) (by decide) (by decide) g3
            obtain ⟨q, _, q2, rfl⟩ := wi_nat (x := 0) (y := 1) (by decide) (by decide) g4
            exact lots_tab ⟨n, by omega⟩ ⟨k, by omega⟩ ⟨w, by omega⟩ ⟨q, by omega⟩ hk
