theorem it_fun {V : Type} {f g : Nat → V → V} (h : ∀ j v, f j v = g j v) : it f = it g := by
  have : f = g := funext (fun j => funext (fun v => h j v))
  rw [this]
theorem itA_of {V : Type} {o : Nat → V → Prop} {f : Nat → V → V} : ∀ (n j : Nat) (v : V), (∀ k v, j ≤ k → k < j + n → o k v) → itA o f j n v
  | 0, _, _, _ => trivial
  | n + 1, j, v, h => ⟨h j v (Nat.le_refl j) (by omega), itA_of n (j + 1) (f j v) (fun k v h1 h2 => h k v (by omega) (by omega))⟩
theorem due_eq (g : Nat → Int32) (p : Int32) : f_X5_dueOf g p = f_X10_dueOf g p := by
  unfold f_X5_dueOf f_X10_dueOf
  rw [it_fun (f := B_X5_dueOf_4 p g) (g := B_X10_dueOf_4 p g) (fun j v => by unfold B_X5_dueOf_4 B_X10_dueOf_4; rw [Int32.mul_comm p 8, Int32.mul_comm (nI j) 8])]
theorem due_ok1 (g : Nat → Int32) {a : Nat} (ha : a < 8) : o_X5_dueOf g (nI a) := by
  refine ⟨itA_of 8 0 0 (fun k v _ h => ?_), trivial⟩
  have h2 := ix64 ha (show k < 8 by omega)
  have h3 := ix64 (show k < 8 by omega) ha
  exact ⟨h2.1, h3.1, trivial⟩
theorem due_ok2 (g : Nat → Int32) {a : Nat} (ha : a < 8) : o_X10_dueOf g (nI a) := by
  refine ⟨itA_of 8 0 0 (fun k v _ h => ?_), trivial⟩
  have h2 := ix64 ha (show k < 8 by omega)
  have h3 := ix64 (show k < 8 by omega) ha
  exact ⟨h2.2.1, h3.2.1, trivial⟩
theorem Q_due (ww : Nat → Int32) (gg : Nat → Int32) (rr : Nat → Int32) (ii : Int32) (nx : Int32) (yr : Int32) (kn : Nat → Int32) (ss : Nat → Int32) (sc : Nat → Int32) (sn : Int32) (sg : Int32) (pd : Nat → Int32) (pk : Nat → Int32) (po : Nat → Int32) (pt : Nat → Int32) (pm : Nat → Int32) (pa : Int32) (wp : Int32) (ex : Int32) (on : Int32) (ot : Int32) (tw : Nat → Int32) (tg : Nat → Int32) (tr : Nat → Int32) (uw : Nat → Int32) (ug : Nat → Int32) (ur : Nat → Int32) (ui : Int32) (un : Int32) (uy : Int32) (uk : Nat → Int32) (us : Nat → Int32) (uc : Nat → Int32) (um : Int32) (uf : Int32) (zw : Nat → Int32) (zg : Nat → Int32) (zr : Nat → Int32) (zi : Int32) (zn : Int32) (zy : Int32) (zk : Nat → Int32) (zs : Nat → Int32) (zc : Nat → Int32) (zm : Int32) (zf : Int32) (kp : Nat → Int32) (ik : Nat → Int32) (a1 : Int32) (h : RA ww gg rr ii nx yr kn ss sc sn sg pd pk po pt pm pa wp ex on ot tw tg tr uw ug ur ui un uy uk us uc um uf zw zg zr zi zn zy zk zs zc zm zf kp ik) : o_X9_due gg a1 ∧ o_X10_due gg a1 ∧ (f_X9_due gg a1) = (f_X10_due gg a1) ∧ RA ww gg rr ii nx yr kn ss sc sn sg pd pk po pt pm pa wp ex on ot tw tg tr uw ug ur ui un uy uk us uc um uf zw zg zr zi zn zy zk zs zc zm zf kp ik := by
  refine ⟨?_, ?_, ?_, h⟩
  · unfold o_X9_due
    split
    · trivial
    · rename_i h1
      obtain ⟨a, ha, rfl⟩ := hs_nat h1
      exact ⟨due_ok1 gg ha, trivial⟩
  · unfold o_X10_due
    rw [isH]
    refine ⟨oIsH a1, ?_⟩
    split
    · trivial
    · rename_i h1
      obtain ⟨a, ha, rfl⟩ := hs_nat h1
      exact ⟨due_ok2 gg ha, trivial⟩
  · unfold f_X9_due f_X10_due
    rw [isH, due_eq, Int32.add_comm]
theorem toInt_sub1 {a : Nat} (h : 1 ≤ a) (h2 : a < 1000000) : (nI a - 1).toInt = ((a - 1 : Nat) : Int) := by
  rw [show nI a - 1 = nI (a - 1) from pk_sub (a := a) (b := 1) h, nI_toInt (by omega)]
theorem Q_ring (ww : Nat → Int32) (gg : Nat → Int32) (rr : Nat → Int32) (ii : Int32) (nx : Int32) (yr : Int32) (kn : Nat → Int32) (ss : Nat → Int32) (sc : Nat → Int32) (sn : Int32) (sg : Int32) (pd : Nat → Int32) (pk : Nat → Int32) (po : Nat → Int32) (pt : Nat → Int32) (pm : Nat → Int32) (pa : Int32) (wp : Int32) (ex : Int32) (on : Int32) (ot : Int32) (tw : Nat → Int32) (tg : Nat → Int32) (tr : Nat → Int32) (uw : Nat → Int32) (ug : Nat → Int32) (ur : Nat → Int32) (ui : Int32) (un : Int32) (uy : Int32) (uk : Nat → Int32) (us : Nat → Int32) (uc : Nat → Int32) (um : Int32) (uf : Int32) (zw : Nat → Int32) (zg : Nat → Int32) (zr : Nat → Int32) (zi : Int32) (zn : Int32) (zy : Int32) (zk : Nat → Int32) (zs : Nat → Int32) (zc : Nat → Int32) (zm : Int32) (zf : Int32) (kp : Nat → Int32) (ik : Nat → Int32) (a1 : Int32) (a2 : Int32) (a3 : Int32) (h : RA ww gg rr ii nx yr kn ss sc sn sg pd pk po pt pm pa wp ex on ot tw tg tr uw ug ur ui un uy uk us uc um uf zw zg zr zi zn zy zk zs zc zm zf kp ik) : o_X9_ring a1 a2 a3 ∧ o_X10_ring a1 a2 a3 ∧ (f_X9_ring a1 a2 a3) = (f_X10_ring a1 a2 a3) ∧ RA ww gg rr ii nx yr kn ss sc sn sg pd pk po pt pm pa wp ex on ot tw tg tr uw ug ur ui un uy uk us uc um uf zw zg zr zi zn zy zk zs zc zm zf kp ik := by
  have key : ∀ (a b k : Nat), 1 ≤ a → a ≤ 999 → b ≤ a - 1 → 1 ≤ k → k ≤ 99 → (¬ (nI a - nI b) = 0 ∧ 0 ≤ (nI a - nI b) + 1 ∧ 0 ≤ nI a ∧ (nI a).toNatClampNeg < 2147483647 ∧ 1 ≤ nI a - nI b ∧ nI a - nI b + 1 = nI (a - b + 1)) := by
    intro a b k h1 h2 h3 h4 h5
    rw [pk_sub (a := a) (b := b) (by omega), nI_1, nI_clamp (by omega)]
    exact ⟨nI_ne0 (by omega) (by omega), nI_pos' (by omega), nI_pos' (by omega), by omega, nI_le (a := 1) (by omega) (by omega), rfl⟩
  have ob : ∀ (f : Nat → Int32 → Int32) (o : Nat → Int32 → Prop) (a n : Nat) (v : Int32), 1 ≤ a → a + n < 2147483648 → (∀ k v, ¬ nI k = 0 → o k v) → itA o f a n v := by
    intro f o a n v h1 h2 h3
    exact itA_of n a v (fun k v h4 h5 => h3 k v (nI_ne0 (by omega) (by omega)))
  refine ⟨?_, ?_, ?_, h⟩
  · unfold o_X9_ring
    split
    · trivial
    · rename_i g1
      split
      · trivial
      · rename_i g2
        split
        · trivial
        · rename_i g3
          obtain ⟨a, x1, x2, rfl⟩ := wi_nat (x := 1) (y := 999) (by decide) (by decide) g1
          obtain ⟨k, x3, x4, rfl⟩ := wi_nat (x := 1) (y := 99) (by decide) (by decide) g2
          obtain ⟨b, x5, x6, rfl⟩ := wi_nat (x := 0) (y := a - 1) (by decide) (toInt_sub1 x1 (by omega)) g3
          obtain ⟨y1, y2, y3, y4, y5, y6⟩ := key a b k x1 x2 x6 x3 x4
          refine ⟨?_, trivial⟩
          unfold o_X9_placeOfLeaver
          rw [if_pos y5]
          refine ⟨y1, y2, y3, y4, ?_, trivial⟩
          rw [y6, nI_clamp (show a - b + 1 < 2147483648 by omega), nI_clamp (show a < 2147483648 by omega)]
          exact ob _ _ _ _ _ (by omega) (by omega) (fun k v q => ⟨q, trivial⟩)
  · unfold o_X10_ring
    rw [in_1_999, in_1_99, px_in a3 0 (a1 - 1) (by decide) rfl]
    split
    · trivial
    · rename_i g1
      split
      · trivial
      · rename_i g2
        split
        · trivial
        · rename_i g3
          obtain ⟨a, x1, x2, rfl⟩ := wi_nat (x := 1) (y := 999) (by decide) (by decide) g1
          obtain ⟨k, x3, x4, rfl⟩ := wi_nat (x := 1) (y := 99) (by decide) (by decide) g2
          obtain ⟨b, x5, x6, rfl⟩ := wi_nat (x := 0) (y := a - 1) (by decide) (toInt_sub1 x1 (by omega)) g3
          obtain ⟨y1, y2, y3, y4, y5, y6⟩ := key a b k x1 x2 x6 x3 x4
          refine ⟨y1, y2, y3, y4, ?_, trivial⟩
          rw [y6, nI_clamp (show a - b + 1 < 2147483648 by omega), nI_clamp (show a < 2147483648 by omega)]
          exact ob _ _ _ _ _ (by omega) (by omega) (fun k v q => ⟨q, trivial⟩)
  · unfold f_X9_ring f_X10_ring
    rw [in_1_999, in_1_99, px_in a3 0 (a1 - 1) (by decide) rfl]
    split
    · rfl
    · rename_i g1
      split
      · rfl
      · rename_i g2
        split
        · rfl
        · rename_i g3
          obtain ⟨a, x1, x2, rfl⟩ := wi_nat (x := 1) (y := 999) (by decide) (by decide) g1
          obtain ⟨k, x3, x4, rfl⟩ := wi_nat (x := 1) (y := 99) (by decide) (by decide) g2
          obtain ⟨b, x5, x6, rfl⟩ := wi_nat (x := 0) (y := a - 1) (by decide) (toInt_sub1 x1 (by omega)) g3
          obtain ⟨y1, y2, y3, y4, y5, y6⟩ := key a b k x1 x2 x6 x3 x4
          unfold f_X9_placeOfLeaver
          rw [if_pos y5]
          rfl
theorem row_eq (r : Nat → Int32) : f_X5_rowNumber r = f_X10_chartRow r := by
  unfold f_X5_rowNumber f_X10_chartRow
  rw [it_fun (f := B_X5_rowNumber_4 r) (g := B_X10_chartRow_4 r) (fun j v => by unfold B_X5_rowNumber_4 B_X10_chartRow_4; rw [Int32.mul_comm v 10])]
theorem wi_0 (p a b : Int32) : f_X9_within p a b = 0 ↔ ¬ (a.toInt ≤ p.toInt ∧ p.toInt ≤ b.toInt) := by
  rw [← wi_iff]
  exact ⟨fun h q => q h, fun h => Classical.byContradiction h⟩
theorem lit_toInt : (0 : Int32).toInt = 0 ∧ (1 : Int32).toInt = 1 ∧ (2 : Int32).toInt = 2 ∧ (3 : Int32).toInt = 3 ∧ (4 : Int32).toInt = 4 ∧ (5 : Int32).toInt = 5 ∧ (10 : Int32).toInt = 10 ∧ (17 : Int32).toInt = 17 ∧ (20 : Int32).toInt = 20 ∧ (27 : Int32).toInt = 27 ∧ (100 : Int32).toInt = 100 ∧ (177 : Int32).toInt = 177 ∧ (179 : Int32).toInt = 179 := by decide
theorem told_row : ∀ j : Fin 78, (¬ (8 : Int32) ≤ (nI (100 + j.val) - nI (100 + j.val) / 10 * 10)) → ¬ ((((nI (100 + j.val) - 100) / 10) * 8 + (nI (100 + j.val) - nI (100 + j.val) / 10 * 10) : Int32) < 0 ∨ 64 ≤ (((nI (100 + j.val) - 100) / 10) * 8 + (nI (100 + j.val) - nI (100 + j.val) / 10 * 10) : Int32).toNatClampNeg) := by decide +kernel
theorem sub_in {p : Int32} {lo : Nat} (j : Nat) (hj : j < 8) (hlo : lo < 1000) (hp : p = nI (lo + j)) : vp_in (p - nI lo) 8 := by
  subst hp
  rw [pk_sub (by omega), Nat.add_sub_cancel_left]
  exact vp_in_nI hj (by decide)
theorem Q_told (ww : Nat → Int32) (gg : Nat → Int32) (rr : Nat → Int32) (ii : Int32) (nx : Int32) (yr : Int32) (kn : Nat → Int32) (ss : Nat → Int32) (sc : Nat → Int32) (sn : Int32) (sg : Int32) (pd : Nat → Int32) (pk : Nat → Int32) (po : Nat → Int32) (pt : Nat → Int32) (pm : Nat → Int32) (pa : Int32) (wp : Int32) (ex : Int32) (on : Int32) (ot : Int32) (tw : Nat → Int32) (tg : Nat → Int32) (tr : Nat → Int32) (uw : Nat → Int32) (ug : Nat → Int32) (ur : Nat → Int32) (ui : Int32) (un : Int32) (uy : Int32) (uk : Nat → Int32) (us : Nat → Int32) (uc : Nat → Int32) (um : Int32) (uf : Int32) (zw : Nat → Int32) (zg : Nat → Int32) (zr : Nat → Int32) (zi : Int32) (zn : Int32) (zy : Int32) (zk : Nat → Int32) (zs : Nat → Int32) (zc : Nat → Int32) (zm : Int32) (zf : Int32) (kp : Nat → Int32) (ik : Nat → Int32) (a1 : Int32) (h : RA ww gg rr ii nx yr kn ss sc sn sg pd pk po pt pm pa wp ex on ot tw tg tr uw ug ur ui un uy uk us uc um uf zw zg zr zi zn zy zk zs zc zm zf kp ik) : o_X9_told a1 ∧ o_X10_told a1 ∧ (f_X9_told ii nx yr gg kn ww sn sg rr a1) = (f_X10_told ii nx yr sn sg rr kn ww gg a1) ∧ RA ww gg rr ii nx yr kn ss sc sn sg pd pk po pt pm pa wp ex on ot tw tg tr uw ug ur ui un uy uk us uc um uf zw zg zr zi zn zy zk zs zc zm zf kp ik := by
  obtain ⟨l0, l1, l2, l3, l4, l5, l10, l17, l20, l27, l100, l177, l179⟩ := lit_toInt
  have hD : ∀ p : Int32, (100 ≤ p.toInt ∧ p.toInt ≤ 177) → (¬ (8 : Int32) ≤ (p - p / 10 * 10)) → vp_in ((((p - 100) / 10) * 8) + (p - p / 10 * 10)) 64 := by
    intro p hp hq
    have h1 : p = nI (100 + (p.toInt.toNat - 100)) := of_toInt (by omega)
    have h2 : p.toInt.toNat - 100 < 78 := by omega
    generalize p.toInt.toNat - 100 = z at h1 h2
    subst h1
    exact told_row ⟨z, h2⟩ hq
  have h89 : ∀ p : Int32, (178 ≤ p.toInt ∧ p.toInt ≤ 179) → (8 : Int32) ≤ (p - p / 10 * 10) := by
    intro p hp
    rcases (show p.toInt = 178 ∨ p.toInt = 179 by omega) with q | q
    · have : p = nI 178 := of_toInt q
      subst this
      decide
    · have : p = nI 179 := of_toInt q
      subst this
      decide
  have hB : ∀ p : Int32, (10 ≤ p.toInt ∧ p.toInt ≤ 17) → vp_in (p - 10) 8 := by
    intro p hp
    exact sub_in (lo := 10) (p.toInt.toNat - 10) (by omega) (by decide) (of_toInt (by omega))
  have hC : ∀ p : Int32, (20 ≤ p.toInt ∧ p.toInt ≤ 27) → vp_in (p - 20) 8 := by
    intro p hp
    exact sub_in (lo := 20) (p.toInt.toNat - 20) (by omega) (by decide) (of_toInt (by omega))
  refine ⟨?_, ?_, ?_, h⟩
  · unfold o_X9_told
    simp only [wi_0, l0, l5, l10, l17, l20, l27, l100, l177]
    split
    · split
      · split
        · split
          · trivial
          · split
            · trivial
            · exact ⟨hD a1 (by omega) (by assumption), trivial⟩
        · exact ⟨hC a1 (by omega), trivial⟩
      · exact ⟨hB a1 (by omega), trivial⟩
    · trivial
  · unfold o_X10_told
    rw [in_100_179, in_10_17, in_20_27]
    simp only [wi_0, l10, l17, l20, l27, l100, l179]
    split
    · split
      · split
        · trivial
        · exact ⟨hC a1 (by omega), trivial⟩
      · exact ⟨hB a1 (by omega), trivial⟩
    · rename_i g1
      split
      · trivial
      · rename_i g2
        refine ⟨?_, trivial⟩
        rw [Int32.mul_comm 8]
        refine hD a1 ?_ g2
        rcases (show a1.toInt ≤ 177 ∨ 178 ≤ a1.toInt by omega) with q | q
        · omega
        · exact absurd (h89 a1 (by omega)) g2
  · unfold f_X9_told f_X10_told
    rw [in_100_179, in_10_17, in_20_27]
    simp only [wi_0, l0, l5, l10, l17, l20, l27, l100, l177, l179]
    by_cases c1 : 0 ≤ a1.toInt ∧ a1.toInt ≤ 5
    · rw [if_neg (by omega), if_pos (by omega), if_pos (by omega), if_pos (by omega)]
      unfold lt f_X9_toldInAll
      by_cases d0 : a1 = 0
      · rw [if_pos d0, if_pos d0]
      · rw [if_neg d0, if_neg d0]
        by_cases d1 : a1 = 1
        · rw [if_pos d1, if_pos d1]
        · rw [if_neg d1, if_neg d1]
          by_cases d2 : a1 = 2
          · rw [if_pos d2, if_pos d2, row_eq]
          · rw [if_neg d2, if_neg d2]
            by_cases d3 : a1 = 3
            · rw [if_pos d3, if_pos d3]
            · rw [if_neg d3, if_neg d3]
              by_cases d4 : a1 = 4
              · rw [if_pos d4, if_pos d4]
              · rw [if_neg d4, if_neg d4]
                have d5 : a1 = 5 := by
                  have n0 := lv_neT (a := 0) d0 (by decide)
                  have n1 := lv_neT (a := 1) d1 (by decide)
                  have n2 := lv_neT (a := 2) d2 (by decide)
                  have n3 := lv_neT (a := 3) d3 (by decide)
                  have n4 := lv_neT (a := 4) d4 (by decide)
                  exact of_toInt (j := 5) (by omega)
                rw [if_pos d5]
    · rw [if_pos c1]
      have nc : ∀ z : Int32, (0 ≤ z.toInt ∧ z.toInt ≤ 5) → ¬ a1 = z := by
        intro z hz q
        rw [q] at c1
        exact c1 hz
      by_cases c2 : 10 ≤ a1.toInt ∧ a1.toInt ≤ 17
      · rw [if_neg (by omega), if_pos (by omega), if_neg (by omega)]
      · rw [if_pos c2]
        by_cases c3 : 20 ≤ a1.toInt ∧ a1.toInt ≤ 27
        · rw [if_neg (by omega), if_pos (by omega), if_pos c2, if_neg (by omega)]
        · rw [if_pos c3]
          by_cases c4 : 100 ≤ a1.toInt ∧ a1.toInt ≤ 177
          · rw [if_neg (show ¬ ¬ (100 ≤ a1.toInt ∧ a1.toInt ≤ 177) by omega), if_neg (show ¬ ¬ (100 ≤ a1.toInt ∧ a1.toInt ≤ 179) by omega), Int32.mul_comm 8]
          · rw [if_pos c4]
            by_cases c5 : 100 ≤ a1.toInt ∧ a1.toInt ≤ 179
            · rw [if_neg (by omega), if_pos (h89 a1 (by omega))]
            · rw [if_pos c5, if_pos c2, if_pos c3, if_neg (nc 0 (by decide)), if_neg (nc 1 (by decide)), if_neg (nc 2 (by decide)), if_neg (nc 3 (by decide)), if_neg (nc 4 (by decide)), if_neg (nc 5 (by decide))]
theorem Q_wipe (ww : Nat → Int32) (gg : Nat → Int32) (rr : Nat → Int32) (ii : Int32) (nx : Int32) (yr : Int32) (kn : Nat → Int32) (ss : Nat → Int32) (sc : Nat → Int32) (sn : Int32) (sg : Int32) (pd : Nat → Int32) (pk : Nat → Int32) (po : Nat → Int32) (pt : Nat → Int32) (pm : Nat → Int32) (pa : Int32) (wp : Int32) (ex : Int32) (on : Int32) (ot : Int32) (tw : Nat → Int32) (tg : Nat → Int32) (tr : Nat → Int32) (uw : Nat → Int32) (ug : Nat → Int32) (ur : Nat → Int32) (ui : Int32) (un : Int32) (uy : Int32) (uk : Nat → Int32) (us : Nat → Int32) (uc : Nat → Int32) (um : Int32) (uf : Int32) (zw : Nat → Int32) (zg : Nat → Int32) (zr : Nat → Int32) (zi : Int32) (zn : Int32) (zy : Int32) (zk : Nat → Int32) (zs : Nat → Int32) (zc : Nat → Int32) (zm : Int32) (zf : Int32) (kp : Nat → Int32) (ik : Nat → Int32) (h : RA ww gg rr ii nx yr kn ss sc sn sg pd pk po pt pm pa wp ex on ot tw tg tr uw ug ur ui un uy uk us uc um uf zw zg zr zi zn zy zk zs zc zm zf kp ik) : (f_X9_wipe sg).1 = (f_X10_wipe sg).1 ∧ (f_X10_wipe sg).2 = (f_X9_wipe sg).2.2.1 ∧ RA ww gg rr ii nx yr kn ss sc sn ((f_X9_wipe sg).2.2.1) pd pk po pt pm ((f_X9_wipe sg).2.1) ((f_X9_wipe sg).2.2.2.1) ((f_X9_wipe sg).2.2.2.2) on ot tw tg tr uw ug ur ui un uy uk us uc um uf zw zg zr zi zn zy zk zs zc zm zf kp ik := by
  obtain ⟨hP, hK, hPd, hT, hI0, hI1⟩ := h
  refine ⟨rfl, rfl, hP, hK, ?_, hT, hI0, hI1⟩
  rw [show f_X9_wipe sg = (sg, 0, 0, -6, 0) from rfl]
  show RelPad 0 pd pk po pt pm 0 (-6) 0 on ot
  refine ⟨0, 0, by decide, rfl, by decide, rfl, Or.inl rfl, Or.inl rfl, fun mo ma mh mu => ⟨fun _ => ⟨mo, ma, mh, mu, rfl, fun k hk => absurd hk (Nat.not_lt_zero k), Or.inl rfl, fun q => ?_, fun q => absurd q (by decide), fun q => absurd rfl q⟩, fun q => absurd rfl q⟩⟩
  rcases q with q | q | q | q <;> exact absurd q (by decide)
