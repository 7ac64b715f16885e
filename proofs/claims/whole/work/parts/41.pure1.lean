/-! plain facts: ranges, houses, tails -/
theorem of_toInt {x : Int32} {j : Nat} (h : x.toInt = (j : Int)) : x = nI j := by
  have h1 := x.toInt_lt
  apply Int32.toInt_inj.mp
  rw [h, nI_toInt (by omega)]
theorem px_in (p a b : Int32) {A B : Int64} (hA : A = a.toInt64) (hB : B = b.toInt64) : f_X10_in p.toInt64 A B = f_X9_within p a b := by
  subst hA hB
  unfold f_X10_in f_X9_within
  simp only [lg_cmp_lt, lg_cmp_gt]
  simp only [Int64.lt_iff_toInt_lt, Int32.lt_iff_toInt_lt, Int32.toInt_toInt64]
theorem in_0_999 (p : Int32) : f_X10_in p.toInt64 (0 : Int64) (999 : Int64) = f_X9_within p (0 : Int32) (999 : Int32) := px_in p 0 999 (by decide) (by decide)
theorem in_0_1 (p : Int32) : f_X10_in p.toInt64 (0 : Int64) (1 : Int64) = f_X9_within p (0 : Int32) (1 : Int32) := px_in p 0 1 (by decide) (by decide)
theorem in_0_7 (p : Int32) : f_X10_in p.toInt64 (0 : Int64) (7 : Int64) = f_X9_within p (0 : Int32) (7 : Int32) := px_in p 0 7 (by decide) (by decide)
theorem in_0_76543210 (p : Int32) : f_X10_in p.toInt64 (0 : Int64) (76543210 : Int64) = f_X9_within p (0 : Int32) (76543210 : Int32) := px_in p 0 76543210 (by decide) (by decide)
theorem in_33_126 (p : Int32) : f_X10_in p.toInt64 (33 : Int64) (126 : Int64) = f_X9_within p (33 : Int32) (126 : Int32) := px_in p 33 126 (by decide) (by decide)
theorem in_65_72 (p : Int32) : f_X10_in p.toInt64 (65 : Int64) (72 : Int64) = f_X9_within p (65 : Int32) (72 : Int32) := px_in p 65 72 (by decide) (by decide)
theorem in_49_57 (p : Int32) : f_X10_in p.toInt64 (49 : Int64) (57 : Int64) = f_X9_within p (49 : Int32) (57 : Int32) := px_in p 49 57 (by decide) (by decide)
theorem in_0_2 (p : Int32) : f_X10_in p.toInt64 (0 : Int64) (2 : Int64) = f_X9_within p (0 : Int32) (2 : Int32) := px_in p 0 2 (by decide) (by decide)
theorem in_0_4 (p : Int32) : f_X10_in p.toInt64 (0 : Int64) (4 : Int64) = f_X9_within p (0 : Int32) (4 : Int32) := px_in p 0 4 (by decide) (by decide)
theorem in_1_999 (p : Int32) : f_X10_in p.toInt64 (1 : Int64) (999 : Int64) = f_X9_within p (1 : Int32) (999 : Int32) := px_in p 1 999 (by decide) (by decide)
theorem in_1_99 (p : Int32) : f_X10_in p.toInt64 (1 : Int64) (99 : Int64) = f_X9_within p (1 : Int32) (99 : Int32) := px_in p 1 99 (by decide) (by decide)
theorem in_0_255 (p : Int32) : f_X10_in p.toInt64 (0 : Int64) (255 : Int64) = f_X9_within p (0 : Int32) (255 : Int32) := px_in p 0 255 (by decide) (by decide)
theorem in_0_8 (p : Int32) : f_X10_in p.toInt64 (0 : Int64) (8 : Int64) = f_X9_within p (0 : Int32) (8 : Int32) := px_in p 0 8 (by decide) (by decide)
theorem in_0_12 (p : Int32) : f_X10_in p.toInt64 (0 : Int64) (12 : Int64) = f_X9_within p (0 : Int32) (12 : Int32) := px_in p 0 12 (by decide) (by decide)
theorem in_0_9999 (p : Int32) : f_X10_in p.toInt64 (0 : Int64) (9999 : Int64) = f_X9_within p (0 : Int32) (9999 : Int32) := px_in p 0 9999 (by decide) (by decide)
theorem in_100_179 (p : Int32) : f_X10_in p.toInt64 (100 : Int64) (179 : Int64) = f_X9_within p (100 : Int32) (179 : Int32) := px_in p 100 179 (by decide) (by decide)
theorem in_10_17 (p : Int32) : f_X10_in p.toInt64 (10 : Int64) (17 : Int64) = f_X9_within p (10 : Int32) (17 : Int32) := px_in p 10 17 (by decide) (by decide)
theorem in_20_27 (p : Int32) : f_X10_in p.toInt64 (20 : Int64) (27 : Int64) = f_X9_within p (20 : Int32) (27 : Int32) := px_in p 20 27 (by decide) (by decide)
theorem wi_iff (p a b : Int32) : ¬ f_X9_within p a b = 0 ↔ a.toInt ≤ p.toInt ∧ p.toInt ≤ b.toInt := by
  unfold f_X9_within
  simp only [Int32.lt_iff_toInt_lt]
  by_cases h1 : p.toInt < a.toInt
  · rw [if_pos h1]
    exact ⟨fun h => absurd rfl h, fun h => by omega⟩
  · rw [if_neg h1]
    by_cases h2 : b.toInt < p.toInt
    · rw [if_pos h2]
      exact ⟨fun h => absurd rfl h, fun h => by omega⟩
    · rw [if_neg h2]
      exact ⟨fun _ => by omega, fun _ => by decide⟩
theorem wi_01 (p a b : Int32) : f_X9_within p a b = 0 ∨ f_X9_within p a b = 1 := by
  unfold f_X9_within
  split
  · exact Or.inl rfl
  · split
    · exact Or.inl rfl
    · exact Or.inr rfl
theorem wi_nat {p a b : Int32} {x y : Nat} (hx : a.toInt = (x : Int)) (hy : b.toInt = (y : Int)) (h : ¬ f_X9_within p a b = 0) : ∃ j, x ≤ j ∧ j ≤ y ∧ p = nI j := by
  obtain ⟨h1, h2⟩ := (wi_iff p a b).mp h
  rw [hx] at h1
  rw [hy] at h2
  have h3 : p.toInt = ((p.toInt.toNat : Nat) : Int) := by omega
  exact ⟨p.toInt.toNat, by omega, by omega, of_toInt h3⟩
theorem hs_wi (p : Int32) : f_X9_isHouse p = f_X9_within p 0 7 := by
  unfold f_X9_isHouse f_X9_within
  simp only [Int32.lt_iff_toInt_lt, Int32.le_iff_toInt_le]
  have e0 : (0 : Int32).toInt = 0 := by decide
  have e7 : (7 : Int32).toInt = 7 := by decide
  have e8 : (8 : Int32).toInt = 8 := by decide
  rw [e0, e7, e8]
  by_cases h1 : p.toInt < 0
  · rw [if_pos h1, if_pos h1]
  · rw [if_neg h1, if_neg h1]
    by_cases h2 : 8 ≤ p.toInt
    · rw [if_pos h2, if_pos (by omega)]
    · rw [if_neg h2, if_neg (by omega)]
theorem hs_nat {p : Int32} (h : ¬ f_X9_isHouse p = 0) : ∃ j, j < 8 ∧ p = nI j := by
  rw [hs_wi] at h
  obtain ⟨j, _, h2, h3⟩ := wi_nat (x := 0) (y := 7) (by decide) (by decide) h
  exact ⟨j, by omega, h3⟩
theorem hs_in {p : Int32} (h : ¬ f_X9_isHouse p = 0) : vp_in p 8 := by
  obtain ⟨j, hj, rfl⟩ := hs_nat h
  exact vp_in_nI hj (by decide)
theorem isH (p : Int32) : f_X10_isHouse p = f_X9_isHouse p := by
  rw [hs_wi]
  exact in_0_7 p
theorem nb01 {x : Int32} (h : x = 0 ∨ x = 1) : narrow .boolean (.int x) = .int x := by
  rcases h with rfl | rfl
  · exact nz0
  · exact nz1
theorem oIsH (p : Int32) : o_X10_isHouse p := by
  unfold o_X10_isHouse
  refine ⟨nb01 ?_, trivial⟩
  rw [in_0_7]
  exact wi_01 p 0 7
theorem setIn_with (v p q : Int32) : f_X5_setIn v p q = f_X10_with v p q := rfl
theorem isIn_has (v p : Int32) : f_X5_isIn v p = f_X10_has v p := rfl
theorem tl_upd {n k : Nat} {f : Nat → Int32} {x : Int32} (h : tl n f) (hk : k < n) : tl n (upd f k x) := by
  intro j hj
  rw [pk_un (by omega)]
  exact h j hj
theorem cl_lt {j n : Nat} (h : j < n) (hn : n < 2147483648) : (nI j).toNatClampNeg < n := by
  rw [nI_clamp (by omega)]
  exact h
theorem cpy_tl {n : Nat} {f g : Nat → Int32} (hf : tl n f) (hg : tl n g) : va_cpy f g 0 0 n = f := by
  funext k
  by_cases h : k < n
  · rw [pk_cpy_in (Nat.zero_le k) (by omega)]
    congr 1
    omega
  · rw [pk_cpy_out (Or.inr (by omega)), hg k (by omega), hf k (by omega)]
theorem i8 (a : Nat) : nI a * 8 = nI (a * 8) := pk_mul a 8
theorem i8' (a : Nat) : 8 * nI a = nI (8 * a) := pk_mul 8 a
theorem two_areH (p q : Int32) : f_X9_areTwoHouses p q = 0 ↔ (f_X9_isHouse p = 0 ∨ f_X9_isHouse q = 0 ∨ p = q) := by
  unfold f_X9_areTwoHouses
  by_cases h1 : f_X9_isHouse p = 0
  · rw [if_pos h1]; exact ⟨fun _ => Or.inl h1, fun _ => rfl⟩
  · rw [if_neg h1]
    by_cases h2 : f_X9_isHouse q = 0
    · rw [if_pos h2]; exact ⟨fun _ => Or.inr (Or.inl h2), fun _ => rfl⟩
    · rw [if_neg h2]
      by_cases h3 : p = q
      · rw [if_pos h3]; exact ⟨fun _ => Or.inr (Or.inr h3), fun _ => rfl⟩
      · rw [if_neg h3]
        exact ⟨fun h => absurd h (by decide), fun h => by rcases h with h | h | h <;> contradiction⟩
theorem ix64 {a b : Nat} (ha : a < 8) (hb : b < 8) : vp_in (nI a * 8 + nI b) 64 ∧ vp_in (8 * nI a + nI b) 64 ∧ nI a * 8 + nI b = nI (8 * a + b) ∧ 8 * nI a + nI b = nI (8 * a + b) := by
  rw [i8, i8', nI_add, nI_add, Nat.mul_comm a 8]
  exact ⟨vp_in_nI (by omega) (by decide), vp_in_nI (by omega) (by decide), rfl, rfl⟩
theorem Q_house (ww : Nat → Int32) (gg : Nat → Int32) (rr : Nat → Int32) (ii : Int32) (nx : Int32) (yr : Int32) (kn : Nat → Int32) (ss : Nat → Int32) (sc : Nat → Int32) (sn : Int32) (sg : Int32) (pd : Nat → Int32) (pk : Nat → Int32) (po : Nat → Int32) (pt : Nat → Int32) (pm : Nat → Int32) (pa : Int32) (wp : Int32) (ex : Int32) (on : Int32) (ot : Int32) (tw : Nat → Int32) (tg : Nat → Int32) (tr : Nat → Int32) (uw : Nat → Int32) (ug : Nat → Int32) (ur : Nat → Int32) (ui : Int32) (un : Int32) (uy : Int32) (uk : Nat → Int32) (us : Nat → Int32) (uc : Nat → Int32) (um : Int32) (uf : Int32) (zw : Nat → Int32) (zg : Nat → Int32) (zr : Nat → Int32) (zi : Int32) (zn : Int32) (zy : Int32) (zk : Nat → Int32) (zs : Nat → Int32) (zc : Nat → Int32) (zm : Int32) (zf : Int32) (kp : Nat → Int32) (ik : Nat → Int32) (a1 : Int32) (a2 : Int32) (a3 : Int32) (h : RA ww gg rr ii nx yr kn ss sc sn sg pd pk po pt pm pa wp ex on ot tw tg tr uw ug ur ui un uy uk us uc um uf zw zg zr zi zn zy zk zs zc zm zf kp ik) : o_X9_house a1 a2 a3 ∧ o_X10_house a1 a2 a3 ∧ (f_X9_house ii ww a1 a2 a3).1 = (f_X10_house ii ww a1 a2 a3).1 ∧ (f_X10_house ii ww a1 a2 a3).2.2 = (f_X9_house ii ww a1 a2 a3).2.2 ∧ (f_X10_house ii ww a1 a2 a3).2.1 = (f_X9_house ii ww a1 a2 a3).2.1 ∧ RA ((f_X9_house ii ww a1 a2 a3).2.2) gg rr ((f_X9_house ii ww a1 a2 a3).2.1) nx yr kn ss sc sn sg pd pk po pt pm pa wp ex on ot tw tg tr uw ug ur ui un uy uk us uc um uf zw zg zr zi zn zy zk zs zc zm zf kp ik := by
  obtain ⟨hP, hK, hPd, hT, hI0, hI1⟩ := h
  have e : f_X9_house ii ww a1 a2 a3 = f_X10_house ii ww a1 a2 a3 := by
    unfold f_X9_house f_X10_house
    rw [isH, in_0_999, in_0_1]
    rfl
  refine ⟨?_, ?_, by rw [e], by rw [e], by rw [e], ?_, hK, hPd, hT, hI0, hI1⟩
  · unfold o_X9_house
    split
    · trivial
    · split
      · trivial
      · split
        · trivial
        · exact ⟨hs_in (by assumption), hs_in (by assumption), trivial⟩
  · unfold o_X10_house
    rw [isH]
    refine ⟨oIsH a1, ?_⟩
    split
    · trivial
    · split
      · trivial
      · split
        · trivial
        · exact ⟨hs_in (by assumption), hs_in (by assumption), trivial⟩
  · obtain ⟨hw, hg, hr, hp, hn, hy⟩ := hP
    refine ⟨?_, hg, hr, hp, hn, hy⟩
    rw [e]
    unfold f_X10_house
    rw [isH]
    split
    · exact hw
    · rename_i hh
      obtain ⟨j, hj, rfl⟩ := hs_nat hh
      have ht : tl 8 (upd ww (nI j).toNatClampNeg a2) := tl_upd hw (cl_lt hj (by decide))
      split
      · exact hw
      · split
        · exact hw
        · split
          · exact ht
          · exact ht
theorem Q_gave (ww : Nat → Int32) (gg : Nat → Int32) (rr : Nat → Int32) (ii : Int32) (nx : Int32) (yr : Int32) (kn : Nat → Int32) (ss : Nat → Int32) (sc : Nat → Int32) (sn : Int32) (sg : Int32) (pd : Nat → Int32) (pk : Nat → Int32) (po : Nat → Int32) (pt : Nat → Int32) (pm : Nat → Int32) (pa : Int32) (wp : Int32) (ex : Int32) (on : Int32) (ot : Int32) (tw : Nat → Int32) (tg : Nat → Int32) (tr : Nat → Int32) (uw : Nat → Int32) (ug : Nat → Int32) (ur : Nat → Int32) (ui : Int32) (un : Int32) (uy : Int32) (uk : Nat → Int32) (us : Nat → Int32) (uc : Nat → Int32) (um : Int32) (uf : Int32) (zw : Nat → Int32) (zg : Nat → Int32) (zr : Nat → Int32) (zi : Int32) (zn : Int32) (zy : Int32) (zk : Nat → Int32) (zs : Nat → Int32) (zc : Nat → Int32) (zm : Int32) (zf : Int32) (kp : Nat → Int32) (ik : Nat → Int32) (a1 : Int32) (a2 : Int32) (a3 : Int32) (h : RA ww gg rr ii nx yr kn ss sc sn sg pd pk po pt pm pa wp ex on ot tw tg tr uw ug ur ui un uy uk us uc um uf zw zg zr zi zn zy zk zs zc zm zf kp ik) : o_X9_gave a1 a2 a3 ∧ o_X10_gave a1 a2 a3 ∧ (f_X9_gave gg a1 a2 a3).1 = (f_X10_gave gg a1 a2 a3).1 ∧ (f_X10_gave gg a1 a2 a3).2 = (f_X9_gave gg a1 a2 a3).2 ∧ RA ww ((f_X9_gave gg a1 a2 a3).2) rr ii nx yr kn ss sc sn sg pd pk po pt pm pa wp ex on ot tw tg tr uw ug ur ui un uy uk us uc um uf zw zg zr zi zn zy zk zs zc zm zf kp ik := by
  obtain ⟨hP, hK, hPd, hT, hI0, hI1⟩ := h
  have e : f_X9_gave gg a1 a2 a3 = f_X10_gave gg a1 a2 a3 := by
    unfold f_X9_gave f_X10_gave
    rw [isH, isH, in_0_999]
    by_cases h0 : f_X9_areTwoHouses a1 a2 = 0
    · rw [if_pos h0]
      rcases (two_areH a1 a2).mp h0 with h1 | h1 | h1
      · rw [if_pos h1]
      · by_cases h2 : f_X9_isHouse a1 = 0
        · rw [if_pos h2]
        · rw [if_neg h2, if_pos h1]
      · by_cases h2 : f_X9_isHouse a1 = 0
        · rw [if_pos h2]
        · rw [if_neg h2]
          by_cases h3 : f_X9_isHouse a2 = 0
          · rw [if_pos h3]
          · rw [if_neg h3, if_pos h1]
    · have h1 := fun q => h0 ((two_areH a1 a2).mpr (Or.inl q))
      have h2 := fun q => h0 ((two_areH a1 a2).mpr (Or.inr (Or.inl q)))
      have h3 := fun q => h0 ((two_areH a1 a2).mpr (Or.inr (Or.inr q)))
      rw [if_neg h0, if_neg h1, if_neg h2, if_neg h3]
      obtain ⟨x, hx, rfl⟩ := hs_nat h1
      obtain ⟨y, hy, rfl⟩ := hs_nat h2
      obtain ⟨_, _, e1, e2⟩ := ix64 hx hy
      rw [e1, e2]
  refine ⟨?_, ?_, by rw [e], by rw [e], ?_, hK, hPd, hT, hI0, hI1⟩
  · unfold o_X9_gave
    split
    · trivial
    · rename_i h0
      split
      · trivial
      · obtain ⟨x, hx, rfl⟩ := hs_nat (fun q => h0 ((two_areH a1 a2).mpr (Or.inl q)))
        obtain ⟨y, hy, rfl⟩ := hs_nat (fun q => h0 ((two_areH (nI x) a2).mpr (Or.inr (Or.inl q))))
        exact ⟨(ix64 hx hy).1, (ix64 hx hy).1, trivial⟩
  · unfold o_X10_gave
    rw [isH, isH]
    refine ⟨oIsH a1, ?_⟩
    split
    · trivial
    · rename_i h1
      refine ⟨oIsH a2, ?_⟩
      split
      · trivial
      · rename_i h2
        split
        · trivial
        · split
          · trivial
          · obtain ⟨x, hx, rfl⟩ := hs_nat h1
            obtain ⟨y, hy, rfl⟩ := hs_nat h2
            exact ⟨(ix64 hx hy).2.1, (ix64 hx hy).2.1, trivial⟩
  · obtain ⟨hw, hg, hr, hp, hn, hy⟩ := hP
    refine ⟨hw, ?_, hr, hp, hn, hy⟩
    unfold f_X9_gave
    split
    · exact hg
    · rename_i h0
      split
      · exact hg
      · obtain ⟨x, hx, rfl⟩ := hs_nat (fun q => h0 ((two_areH a1 a2).mpr (Or.inl q)))
        obtain ⟨y, hy, rfl⟩ := hs_nat (fun q => h0 ((two_areH (nI x) a2).mpr (Or.inr (Or.inl q))))
        show tl 64 (upd gg (nI x * 8 + nI y).toNatClampNeg a3)
        rw [(ix64 hx hy).2.2.1]
        exact tl_upd hg (cl_lt (by omega) (by decide))
theorem Q_forget (ww : Nat → Int32) (gg : Nat → Int32) (rr : Nat → Int32) (ii : Int32) (nx : Int32) (yr : Int32) (kn : Nat → Int32) (ss : Nat → Int32) (sc : Nat → Int32) (sn : Int32) (sg : Int32) (pd : Nat → Int32) (pk : Nat → Int32) (po : Nat → Int32) (pt : Nat → Int32) (pm : Nat → Int32) (pa : Int32) (wp : Int32) (ex : Int32) (on : Int32) (ot : Int32) (tw : Nat → Int32) (tg : Nat → Int32) (tr : Nat → Int32) (uw : Nat → Int32) (ug : Nat → Int32) (ur : Nat → Int32) (ui : Int32) (un : Int32) (uy : Int32) (uk : Nat → Int32) (us : Nat → Int32) (uc : Nat → Int32) (um : Int32) (uf : Int32) (zw : Nat → Int32) (zg : Nat → Int32) (zr : Nat → Int32) (zi : Int32) (zn : Int32) (zy : Int32) (zk : Nat → Int32) (zs : Nat → Int32) (zc : Nat → Int32) (zm : Int32) (zf : Int32) (kp : Nat → Int32) (ik : Nat → Int32) (h : RA ww gg rr ii nx yr kn ss sc sn sg pd pk po pt pm pa wp ex on ot tw tg tr uw ug ur ui un uy uk us uc um uf zw zg zr zi zn zy zk zs zc zm zf kp ik) : (f_X9_forget sn).1 = (f_X10_forget sn).1 ∧ (f_X10_forget sn).2 = (f_X9_forget sn).2 ∧ RA ww gg rr ii nx yr kn ss sc ((f_X9_forget sn).2) sg pd pk po pt pm pa wp ex on ot tw tg tr uw ug ur ui un uy uk us uc um uf zw zg zr zi zn zy zk zs zc zm zf kp ik := by
  obtain ⟨hP, hK, hPd, hT, hI0, hI1⟩ := h
  refine ⟨rfl, rfl, hP, ?_, hPd, hT, hI0, hI1⟩
  obtain ⟨k1, k2, k3, k4, k5, k6⟩ := hK
  exact ⟨k1, k2, k3, k4, k5, 0, by decide, rfl⟩
theorem Q_count (ww : Nat → Int32) (gg : Nat → Int32) (rr : Nat → Int32) (ii : Int32) (nx : Int32) (yr : Int32) (kn : Nat → Int32) (ss : Nat → Int32) (sc : Nat → Int32) (sn : Int32) (sg : Int32) (pd : Nat → Int32) (pk : Nat → Int32) (po : Nat → Int32) (pt : Nat → Int32) (pm : Nat → Int32) (pa : Int32) (wp : Int32) (ex : Int32) (on : Int32) (ot : Int32) (tw : Nat → Int32) (tg : Nat → Int32) (tr : Nat → Int32) (uw : Nat → Int32) (ug : Nat → Int32) (ur : Nat → Int32) (ui : Int32) (un : Int32) (uy : Int32) (uk : Nat → Int32) (us : Nat → Int32) (uc : Nat → Int32) (um : Int32) (uf : Int32) (zw : Nat → Int32) (zg : Nat → Int32) (zr : Nat → Int32) (zi : Int32) (zn : Int32) (zy : Int32) (zk : Nat → Int32) (zs : Nat → Int32) (zc : Nat → Int32) (zm : Int32) (zf : Int32) (kp : Nat → Int32) (ik : Nat → Int32) (a1 : Int32) (a2 : Int32) (h : RA ww gg rr ii nx yr kn ss sc sn sg pd pk po pt pm pa wp ex on ot tw tg tr uw ug ur ui un uy uk us uc um uf zw zg zr zi zn zy zk zs zc zm zf kp ik) : o_X9_count sn a1 a2 ∧ o_X10_count sn a1 a2 ∧ (f_X9_count sn ss sc a1 a2).1 = (f_X10_count sn ss sc a1 a2).1 ∧ (f_X10_count sn ss sc a1 a2).2.2.1 = (f_X9_count sn ss sc a1 a2).2.2.1 ∧ (f_X10_count sn ss sc a1 a2).2.2.2 = (f_X9_count sn ss sc a1 a2).2.2.2 ∧ (f_X10_count sn ss sc a1 a2).2.1 = (f_X9_count sn ss sc a1 a2).2.1 ∧ RA ww gg rr ii nx yr kn ((f_X9_count sn ss sc a1 a2).2.2.1) ((f_X9_count sn ss sc a1 a2).2.2.2) ((f_X9_count sn ss sc a1 a2).2.1) sg pd pk po pt pm pa wp ex on ot tw tg tr uw ug ur ui un uy uk us uc um uf zw zg zr zi zn zy zk zs zc zm zf kp ik := by
  obtain ⟨hP, hK, hPd, hT, hI0, hI1⟩ := h
  obtain ⟨k1, k2, k3, k4, k5, x, hx, rfl⟩ := hK
  have e8 : (nI x = 8) ↔ x = 8 := by
    have := nI_eq (a := x) (b := 8) (by omega) (by decide)
    exact this
  have l8 : (nI x < 8) ↔ x < 8 := nI_ltI (a := x) (b := 8) (by omega) (by decide)
  have g8 : (8 ≤ nI x) ↔ 8 ≤ x := nI_leI (a := 8) (b := x) (by decide) (by omega)
  have e : f_X9_count (nI x) ss sc a1 a2 = f_X10_count (nI x) ss sc a1 a2 := by
    unfold f_X9_count f_X10_count
    rw [in_0_255, in_0_8]
    split
    · rfl
    · split
      · rfl
      · by_cases h0 : x = 8
        · rw [if_neg (by rw [l8]; omega), if_pos (e8.mpr h0)]
        · rw [if_pos (l8.mpr (by omega)), if_neg (fun q => h0 (e8.mp q))]
          unfold f_X7_add
          rw [if_neg (by rw [g8]; omega)]
          rfl
  refine ⟨?_, ?_, by rw [e], by rw [e], by rw [e], by rw [e], hP, ?_, hPd, hT, hI0, hI1⟩
  · unfold o_X9_count
    split
    · trivial
    · split
      · trivial
      · split
        · rename_i h0
          refine ⟨?_, trivial⟩
          unfold o_X7_add
          split
          · trivial
          · exact ⟨vp_in_nI (l8.mp h0) (by decide), vp_in_nI (l8.mp h0) (by decide), trivial⟩
        · trivial
  · unfold o_X10_count
    split
    · trivial
    · split
      · trivial
      · split
        · trivial
        · rename_i h0
          have h1 : x < 8 := by
            have : ¬ x = 8 := fun q => h0 (e8.mpr q)
            omega
          exact ⟨vp_in_nI h1 (by decide), vp_in_nI h1 (by decide), trivial⟩
  · rw [e]
    unfold f_X10_count
    rw [in_0_255, in_0_8]
    split
    · exact ⟨k1, k2, k3, k4, k5, x, hx, rfl⟩
    · rename_i hs
      split
      · exact ⟨k1, k2, k3, k4, k5, x, hx, rfl⟩
      · split
        · exact ⟨k1, k2, k3, k4, k5, x, hx, rfl⟩
        · rename_i h0
          have h1 : x < 8 := by
            have : ¬ x = 8 := fun q => h0 (e8.mpr q)
            omega
          obtain ⟨z, _, hz, rfl⟩ := wi_nat (x := 0) (y := 255) (by decide) (by decide) hs
          have hc : (nI x).toNatClampNeg = x := nI_clamp (by omega)
          refine ⟨k1, k2, ?_, ?_, ?_, x + 1, by omega, nI_1 x⟩
          · rw [hc]; exact tl_upd k3 h1
          · intro k hk
            rw [hc]
            by_cases hkx : k = x
            · subst hkx
              exact ⟨z, by omega, pk_us⟩
            · obtain ⟨j, hj, ej⟩ := k4 k hk
              exact ⟨j, hj, (pk_un hkx).trans ej⟩
          · rw [hc]; exact tl_upd k5 h1
