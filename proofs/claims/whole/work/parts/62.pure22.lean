/-! CENTURY -/
set_option maxHeartbeats 4000000 in
theorem Q_century (ww : Nat → Int32) (gg : Nat → Int32) (rr : Nat → Int32) (ii : Int32) (nx : Int32) (yr : Int32) (kn : Nat → Int32) (ss : Nat → Int32) (sc : Nat → Int32) (sn : Int32) (sg : Int32) (pd : Nat → Int32) (pk : Nat → Int32) (po : Nat → Int32) (pt : Nat → Int32) (pm : Nat → Int32) (pa : Int32) (wp : Int32) (ex : Int32) (on : Int32) (ot : Int32) (tw : Nat → Int32) (tg : Nat → Int32) (tr : Nat → Int32) (uw : Nat → Int32) (ug : Nat → Int32) (ur : Nat → Int32) (ui : Int32) (un : Int32) (uy : Int32) (uk : Nat → Int32) (us : Nat → Int32) (uc : Nat → Int32) (um : Int32) (uf : Int32) (zw : Nat → Int32) (zg : Nat → Int32) (zr : Nat → Int32) (zi : Int32) (zn : Int32) (zy : Int32) (zk : Nat → Int32) (zs : Nat → Int32) (zc : Nat → Int32) (zm : Int32) (zf : Int32) (kp : Nat → Int32) (ik : Nat → Int32) (t1 : Int32) (t2 : Int32) (t3 : Int32) (t4 : Int32) (t5 : Int32) (ti : Int32) (tn : Int32) (ty : Int32) (mn : Int32) (me : Int32) (mq : Nat → Int32) (a1 : Int32) (a2 : Int32) (a3 : Int32) (h : RA ww gg rr ii nx yr kn ss sc sn sg pd pk po pt pm pa wp ex on ot tw tg tr uw ug ur ui un uy uk us uc um uf zw zg zr zi zn zy zk zs zc zm zf kp ik) : o_X9_century ii nx yr ww tw gg tg rr tr a1 a2 a3 ∧ o_X10_century ii nx yr me mq gg ww rr a1 a2 a3 ∧ (f_X9_century t1 t2 t3 t4 t5 ti tn ty ii nx yr ww tw gg tg rr tr a1 a2 a3).1 = (f_X10_century ii nx yr mn me mq gg ww rr a1 a2 a3).1 ∧ (f_X10_century ii nx yr mn me mq gg ww rr a1 a2 a3).2.2.2.2.2.2.2.2.1 = ww ∧ (f_X10_century ii nx yr mn me mq gg ww rr a1 a2 a3).2.2.2.2.2.2.2.1 = gg ∧ (f_X10_century ii nx yr mn me mq gg ww rr a1 a2 a3).2.2.2.2.2.2.2.2.2 = rr ∧ (f_X10_century ii nx yr mn me mq gg ww rr a1 a2 a3).2.1 = ii ∧ (f_X10_century ii nx yr mn me mq gg ww rr a1 a2 a3).2.2.1 = nx ∧ (f_X10_century ii nx yr mn me mq gg ww rr a1 a2 a3).2.2.2.1 = yr ∧ RA ww gg rr ii nx yr kn ss sc sn sg pd pk po pt pm pa wp ex on ot ((f_X9_century t1 t2 t3 t4 t5 ti tn ty ii nx yr ww tw gg tg rr tr a1 a2 a3).2.2.2.2.2.2.2.2.2.1) ((f_X9_century t1 t2 t3 t4 t5 ti tn ty ii nx yr ww tw gg tg rr tr a1 a2 a3).2.2.2.2.2.2.2.2.2.2.1) ((f_X9_century t1 t2 t3 t4 t5 ti tn ty ii nx yr ww tw gg tg rr tr a1 a2 a3).2.2.2.2.2.2.2.2.2.2.2) uw ug ur ui un uy uk us uc um uf zw zg zr zi zn zy zk zs zc zm zf kp ik := by
  obtain ⟨hP, hK, hp, ht, hu, hz⟩ := h
  have hP0 := hP
  have ht0 := ht
  obtain ⟨p1, p2, p3, p4⟩ := hP
  by_cases q1 : f_X9_within a1 0 9999 = 0
  · have ex : (f_X9_century t1 t2 t3 t4 t5 ti tn ty ii nx yr ww tw gg tg rr tr a1 a2 a3) = ((-2 : Int32), t1, t2, t3, t4, t5, ti, tn, ty, tw, tg, tr) := by
      unfold f_X9_century
      rw [if_pos q1]
    have em : (f_X10_century ii nx yr mn me mq gg ww rr a1 a2 a3) = ((-2 : Int32), ii, nx, yr, mn, me, mq, gg, ww, rr) := by
      unfold f_X10_century
      rw [in_0_9999, if_pos q1]
    rw [ex, em]
    refine ⟨?_, ?_, rfl, rfl, rfl, rfl, rfl, rfl, rfl, hP0, hK, hp, ht0, hu, hz⟩
    · unfold o_X9_century
      rw [if_pos q1]
      trivial
    · unfold o_X10_century
      rw [in_0_9999, if_pos q1]
      trivial
  · by_cases q2 : f_X9_within a2 1 99 = 0
    · have ex : (f_X9_century t1 t2 t3 t4 t5 ti tn ty ii nx yr ww tw gg tg rr tr a1 a2 a3) = ((-2 : Int32), t1, t2, t3, t4, t5, ti, tn, ty, tw, tg, tr) := by
        unfold f_X9_century
        rw [if_neg q1, if_pos q2]
      have em : (f_X10_century ii nx yr mn me mq gg ww rr a1 a2 a3) = ((-2 : Int32), ii, nx, yr, mn, me, mq, gg, ww, rr) := by
        unfold f_X10_century
        rw [in_0_9999, if_neg q1, in_1_99, if_pos q2]
      rw [ex, em]
      refine ⟨?_, ?_, rfl, rfl, rfl, rfl, rfl, rfl, rfl, hP0, hK, hp, ht0, hu, hz⟩
      · unfold o_X9_century
        rw [if_neg q1, if_pos q2]
        trivial
      · unfold o_X10_century
        rw [in_0_9999, if_neg q1, in_1_99, if_pos q2]
        trivial
    · by_cases q3 : f_X9_within a3 0 2 = 0
      · have ex : (f_X9_century t1 t2 t3 t4 t5 ti tn ty ii nx yr ww tw gg tg rr tr a1 a2 a3) = ((-2 : Int32), t1, t2, t3, t4, t5, ti, tn, ty, tw, tg, tr) := by
          unfold f_X9_century
          rw [if_neg q1, if_neg q2, if_pos q3]
        have em : (f_X10_century ii nx yr mn me mq gg ww rr a1 a2 a3) = ((-2 : Int32), ii, nx, yr, mn, me, mq, gg, ww, rr) := by
          unfold f_X10_century
          rw [in_0_9999, if_neg q1, in_1_99, if_neg q2, in_0_2, if_pos q3]
        rw [ex, em]
        refine ⟨?_, ?_, rfl, rfl, rfl, rfl, rfl, rfl, rfl, hP0, hK, hp, ht0, hu, hz⟩
        · unfold o_X9_century
          rw [if_neg q1, if_neg q2, if_pos q3]
          trivial
        · unfold o_X10_century
          rw [in_0_9999, if_neg q1, in_1_99, if_neg q2, in_0_2, if_pos q3]
          trivial
      · obtain ⟨x, _, xl, rfl⟩ := wi_nat (x := 0) (y := 9999) (by decide) (by decide) q1
        obtain ⟨c, _, cl, rfl⟩ := wi_nat (x := 1) (y := 99) (by decide) (by decide) q2
        obtain ⟨z, _, zl, rfl⟩ := wi_nat (x := 0) (y := 2) (by decide) (by decide) q3
        have ec : (nI c).toNatClampNeg - 0 = c := nI_clamp (by omega)
        obtain ⟨t1', t2', t3'⟩ := ht
        have eb : f_X8_begin ii nx yr ww tw gg tg rr tr = (-6, -6, 0, -6, -6, ii, nx, yr, ww, gg, rr) := by
          unfold f_X8_begin f_X5_copyFrom
          dsimp only [lt]
          rw [cpy_tl p1 t1', cpy_tl p2 t2', cpy_tl p3 t3']
        obtain ⟨X', gf, en, I, N, Y, W, G, R, c1, c2, hP1, c4, c5⟩ := cen_all c 0 x (by omega) 0 ii nx yr me ww gg rr hP0
        have hzz : z = 0 ∨ z = 1 ∨ z = 2 := by omega
        rcases hzz with rfl | rfl | rfl
        · have ex : (f_X9_century t1 t2 t3 t4 t5 ti tn ty ii nx yr ww tw gg tg rr tr (nI x) (nI c) (nI 0)) = ((W 0), -6, -6, gf, -6, -6, I, N, Y, W, G, R) := by
            unfold f_X9_century
            rw [if_neg q1, if_neg q2, if_neg q3, lt_c eb, ec, lt_c c1, if_pos (show nI 0 = 0 from rfl)]
          have em : (f_X10_century ii nx yr mn me mq gg ww rr (nI x) (nI c) (nI 0)) = ((W 0), ii, nx, yr, gf, en, f_X10_keepNow ii nx yr mq gg ww rr, gg, ww, rr) := by
            unfold f_X10_century
            rw [in_0_9999, if_neg q1, in_1_99, if_neg q2, in_0_2, if_neg q3, lt_c (show f_X10_keepNow ii nx yr mq gg ww rr = _ from rfl), ec, lt_c c2, if_pos (show nI 0 = 0 from rfl), lt_c (bk_ p2 p1 p3 hP1.2.1 hP1.1 hP1.2.2.1 _)]
          rw [ex, em]
          refine ⟨?_, ?_, rfl, rfl, rfl, rfl, rfl, rfl, rfl, hP0, hK, hp, ⟨hP1.1, hP1.2.1, hP1.2.2.1⟩, hu, hz⟩
          · unfold o_X9_century
            rw [if_neg q1, if_neg q2, if_neg q3, lt_c eb, ec]
            exact ⟨nI_pos' (by omega), c4, trivial⟩
          · unfold o_X10_century
            rw [in_0_9999, if_neg q1, in_1_99, if_neg q2, in_0_2, if_neg q3]
            refine ⟨kn_ok _ _ _ _, ?_⟩
            rw [lt_c (show f_X10_keepNow ii nx yr mq gg ww rr = _ from rfl), ec]
            refine ⟨nI_pos' (by omega), c5, ?_⟩
            rw [lt_c c2, if_pos (show nI 0 = 0 from rfl)]
            exact ⟨bk_ok _ _ _ _, trivial⟩
        · have ex : (f_X9_century t1 t2 t3 t4 t5 ti tn ty ii nx yr ww tw gg tg rr tr (nI x) (nI c) (nI 1)) = (I, -6, -6, gf, -6, -6, I, N, Y, W, G, R) := by
            unfold f_X9_century
            rw [if_neg q1, if_neg q2, if_neg q3, lt_c eb, ec, lt_c c1, if_neg (show ¬ nI 1 = 0 by decide), if_pos (show nI 1 = 1 from rfl)]
          have em : (f_X10_century ii nx yr mn me mq gg ww rr (nI x) (nI c) (nI 1)) = (I, ii, nx, yr, gf, en, f_X10_keepNow ii nx yr mq gg ww rr, gg, ww, rr) := by
            unfold f_X10_century
            rw [in_0_9999, if_neg q1, in_1_99, if_neg q2, in_0_2, if_neg q3, lt_c (show f_X10_keepNow ii nx yr mq gg ww rr = _ from rfl), ec, lt_c c2, if_neg (show ¬ nI 1 = 0 by decide), if_pos (show nI 1 = 1 from rfl), lt_c (bk_ p2 p1 p3 hP1.2.1 hP1.1 hP1.2.2.1 _)]
          rw [ex, em]
          refine ⟨?_, ?_, rfl, rfl, rfl, rfl, rfl, rfl, rfl, hP0, hK, hp, ⟨hP1.1, hP1.2.1, hP1.2.2.1⟩, hu, hz⟩
          · unfold o_X9_century
            rw [if_neg q1, if_neg q2, if_neg q3, lt_c eb, ec]
            exact ⟨nI_pos' (by omega), c4, trivial⟩
          · unfold o_X10_century
            rw [in_0_9999, if_neg q1, in_1_99, if_neg q2, in_0_2, if_neg q3]
            refine ⟨kn_ok _ _ _ _, ?_⟩
            rw [lt_c (show f_X10_keepNow ii nx yr mq gg ww rr = _ from rfl), ec]
            refine ⟨nI_pos' (by omega), c5, ?_⟩
            rw [lt_c c2, if_neg (show ¬ nI 1 = 0 by decide), if_pos (show nI 1 = 1 from rfl)]
            exact ⟨bk_ok _ _ _ _, trivial⟩
        · have ex : (f_X9_century t1 t2 t3 t4 t5 ti tn ty ii nx yr ww tw gg tg rr tr (nI x) (nI c) (nI 2)) = (gf, -6, -6, gf, -6, -6, I, N, Y, W, G, R) := by
            unfold f_X9_century
            rw [if_neg q1, if_neg q2, if_neg q3, lt_c eb, ec, lt_c c1, if_neg (show ¬ nI 2 = 0 by decide), if_neg (show ¬ nI 2 = 1 by decide)]
          have em : (f_X10_century ii nx yr mn me mq gg ww rr (nI x) (nI c) (nI 2)) = (gf, ii, nx, yr, gf, en, f_X10_keepNow ii nx yr mq gg ww rr, gg, ww, rr) := by
            unfold f_X10_century
            rw [in_0_9999, if_neg q1, in_1_99, if_neg q2, in_0_2, if_neg q3, lt_c (show f_X10_keepNow ii nx yr mq gg ww rr = _ from rfl), ec, lt_c c2, if_neg (show ¬ nI 2 = 0 by decide), if_neg (show ¬ nI 2 = 1 by decide), lt_c (bk_ p2 p1 p3 hP1.2.1 hP1.1 hP1.2.2.1 _)]
          rw [ex, em]
          refine ⟨?_, ?_, rfl, rfl, rfl, rfl, rfl, rfl, rfl, hP0, hK, hp, ⟨hP1.1, hP1.2.1, hP1.2.2.1⟩, hu, hz⟩
          · unfold o_X9_century
            rw [if_neg q1, if_neg q2, if_neg q3, lt_c eb, ec]
            exact ⟨nI_pos' (by omega), c4, trivial⟩
          · unfold o_X10_century
            rw [in_0_9999, if_neg q1, in_1_99, if_neg q2, in_0_2, if_neg q3]
            refine ⟨kn_ok _ _ _ _, ?_⟩
            rw [lt_c (show f_X10_keepNow ii nx yr mq gg ww rr = _ from rfl), ec]
            refine ⟨nI_pos' (by omega), c5, ?_⟩
            rw [lt_c c2, if_neg (show ¬ nI 2 = 0 by decide), if_neg (show ¬ nI 2 = 1 by decide)]
            exact ⟨bk_ok _ _ _ _, trivial⟩
