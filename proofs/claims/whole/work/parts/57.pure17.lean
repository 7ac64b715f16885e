/-! JUDGE, FIRST, BEHIND -/
set_option maxHeartbeats 4000000 in
theorem Q_judge (ww : Nat → Int32) (gg : Nat → Int32) (rr : Nat → Int32) (ii : Int32) (nx : Int32) (yr : Int32) (kn : Nat → Int32) (ss : Nat → Int32) (sc : Nat → Int32) (sn : Int32) (sg : Int32) (pd : Nat → Int32) (pk : Nat → Int32) (po : Nat → Int32) (pt : Nat → Int32) (pm : Nat → Int32) (pa : Int32) (wp : Int32) (ex : Int32) (on : Int32) (ot : Int32) (tw : Nat → Int32) (tg : Nat → Int32) (tr : Nat → Int32) (uw : Nat → Int32) (ug : Nat → Int32) (ur : Nat → Int32) (ui : Int32) (un : Int32) (uy : Int32) (uk : Nat → Int32) (us : Nat → Int32) (uc : Nat → Int32) (um : Int32) (uf : Int32) (zw : Nat → Int32) (zg : Nat → Int32) (zr : Nat → Int32) (zi : Int32) (zn : Int32) (zy : Int32) (zk : Nat → Int32) (zs : Nat → Int32) (zc : Nat → Int32) (zm : Int32) (zf : Int32) (kp : Nat → Int32) (ik : Nat → Int32) (t1 : Int32) (t2 : Int32) (t3 : Int32) (t4 : Int32) (t5 : Int32) (ti : Int32) (tn : Int32) (ty : Int32) (mc : Int32) (mn : Int32) (me : Int32) (m1 : Int32) (m2 : Int32) (m3 : Int32) (m4 : Int32) (ma : Nat → Int32) (mh : Nat → Int32) (mo : Nat → Int32) (mu : Nat → Int32) (mq : Nat → Int32) (a1 : Int32) (h : RA ww gg rr ii nx yr kn ss sc sn sg pd pk po pt pm pa wp ex on ot tw tg tr uw ug ur ui un uy uk us uc um uf zw zg zr zi zn zy zk zs zc zm zf kp ik) : o_X9_judge pa sg wp ex ii nx yr ww tw gg tg rr tr pk po pt pm a1 ∧ o_X10_judge ii nx yr sg mn me m1 m2 m3 m4 mq gg ww rr pd mo ma mh mu a1 ∧ (f_X9_judge pa sg wp ex t1 t2 t3 t4 t5 ti tn ty ii nx yr ww tw gg tg rr tr pk po pt pm a1).1 = (f_X10_judge ii nx yr sg mc mn me m1 m2 m3 m4 mq gg ww rr pd mo ma mh mu a1).1 ∧ (f_X10_judge ii nx yr sg mc mn me m1 m2 m3 m4 mq gg ww rr pd mo ma mh mu a1).2.2.2.2.2.2.2.2.2.2.2.2.2.1 = ww ∧ (f_X10_judge ii nx yr sg mc mn me m1 m2 m3 m4 mq gg ww rr pd mo ma mh mu a1).2.2.2.2.2.2.2.2.2.2.2.2.1 = gg ∧ (f_X10_judge ii nx yr sg mc mn me m1 m2 m3 m4 mq gg ww rr pd mo ma mh mu a1).2.2.2.2.2.2.2.2.2.2.2.2.2.2.1 = rr ∧ (f_X10_judge ii nx yr sg mc mn me m1 m2 m3 m4 mq gg ww rr pd mo ma mh mu a1).2.1 = ii ∧ (f_X10_judge ii nx yr sg mc mn me m1 m2 m3 m4 mq gg ww rr pd mo ma mh mu a1).2.2.1 = nx ∧ (f_X10_judge ii nx yr sg mc mn me m1 m2 m3 m4 mq gg ww rr pd mo ma mh mu a1).2.2.2.1 = yr ∧ RA ww gg rr ii nx yr kn ss sc sn sg pd pk po pt pm pa wp ex on ot ((f_X9_judge pa sg wp ex t1 t2 t3 t4 t5 ti tn ty ii nx yr ww tw gg tg rr tr pk po pt pm a1).2.2.2.2.2.2.2.2.2.1) ((f_X9_judge pa sg wp ex t1 t2 t3 t4 t5 ti tn ty ii nx yr ww tw gg tg rr tr pk po pt pm a1).2.2.2.2.2.2.2.2.2.2.1) ((f_X9_judge pa sg wp ex t1 t2 t3 t4 t5 ti tn ty ii nx yr ww tw gg tg rr tr pk po pt pm a1).2.2.2.2.2.2.2.2.2.2.2) uw ug ur ui un uy uk us uc um uf zw zg zr zi zn zy zk zs zc zm zf kp ik := by
  obtain ⟨hP, hK, hp, ht, hu, hz⟩ := h
  have hP0 := hP
  have ht0 := ht
  obtain ⟨p1, p2, p3, p4⟩ := hP
  by_cases q : f_X9_within a1 0 2 = 0
  · have ex : (f_X9_judge pa sg wp ex t1 t2 t3 t4 t5 ti tn ty ii nx yr ww tw gg tg rr tr pk po pt pm a1) = ((-2 : Int32), t1, t2, t3, t4, t5, ti, tn, ty, tw, tg, tr) := by
      unfold f_X9_judge
      rw [if_pos q]
    have em : (f_X10_judge ii nx yr sg mc mn me m1 m2 m3 m4 mq gg ww rr pd mo ma mh mu a1) = ((-2 : Int32), ii, nx, yr, mc, mn, me, m1, m2, m3, m4, mq, gg, ww, rr, mo, ma, mh, mu) := by
      unfold f_X10_judge
      rw [in_0_2, if_pos q]
    rw [ex, em]
    refine ⟨?_, ?_, rfl, rfl, rfl, rfl, rfl, rfl, rfl, hP0, hK, hp, ht0, hu, hz⟩
    · unfold o_X9_judge
      rw [if_pos q]
      trivial
    · unfold o_X10_judge
      rw [in_0_2, if_pos q]
      trivial
  · obtain ⟨z, _, zl, rfl⟩ := wi_nat (x := 0) (y := 2) (by decide) (by decide) q
    rcases tt_ ii hP0 hp ht t1 t2 t3 t4 t5 ti tn ty mn me m1 m2 m3 m4 mq mo ma mh mu with ⟨⟨o1, o2⟩, ⟨ac, mo', ma', mh', mu', eT, eM⟩ | ⟨wa, re, gf, fa, fh, en, I, N, Y, W, G, R, mo', ma', mh', mu', eT, eM, hP1⟩⟩
    · have ex : (f_X9_judge pa sg wp ex t1 t2 t3 t4 t5 ti tn ty ii nx yr ww tw gg tg rr tr pk po pt pm (nI z)) = ((-5 : Int32), t1, t2, t3, t4, t5, ti, tn, ty, tw, tg, tr) := by
        unfold f_X9_judge
        rw [if_neg q, lt_c eT] <;> rfl
      have em : (f_X10_judge ii nx yr sg mc mn me m1 m2 m3 m4 mq gg ww rr pd mo ma mh mu (nI z)) = ((-5 : Int32), ii, nx, yr, ac, mn, me, m1, m2, m3, m4, f_X10_keepNow ii nx yr mq gg ww rr, gg, ww, rr, mo', ma', mh', mu') := by
        unfold f_X10_judge
        rw [in_0_2, if_neg q, lt_c eM]
        dsimp only
        rw [lt_c (bk_ p2 p1 p3 p2 p1 p3 _)] <;> rfl
      rw [ex, em]
      refine ⟨?_, ?_, rfl, rfl, rfl, rfl, rfl, rfl, rfl, hP0, hK, hp, ht0, hu, hz⟩
      · unfold o_X9_judge
        rw [if_neg q]
        exact ⟨o1, trivial⟩
      · unfold o_X10_judge
        rw [in_0_2, if_neg q]
        refine ⟨o2, ?_⟩
        rw [lt_c eM]
        exact ⟨bk_ok _ _ _ _, trivial⟩
    · have hzz : z = 0 ∨ z = 1 ∨ z = 2 := by omega
      by_cases w6 : wa = -6
      · rw [if_pos w6] at eT eM
        rcases hzz with rfl | rfl | rfl
        · have ex : (f_X9_judge pa sg wp ex t1 t2 t3 t4 t5 ti tn ty ii nx yr ww tw gg tg rr tr pk po pt pm (nI 0)) = (wa, wa, re, gf, fa, fh, I, N, Y, W, G, R) := by
            unfold f_X9_judge
            rw [if_neg q, lt_c eT] <;> rfl
          have em : (f_X10_judge ii nx yr sg mc mn me m1 m2 m3 m4 mq gg ww rr pd mo ma mh mu (nI 0)) = (wa, ii, nx, yr, pa, gf, en, wa, re, fa, fh, f_X10_keepNow ii nx yr mq gg ww rr, gg, ww, rr, mo', ma', mh', mu') := by
            unfold f_X10_judge
            rw [in_0_2, if_neg q, lt_c eM]
            dsimp only
            rw [lt_c (bk_ p2 p1 p3 hP1.2.1 hP1.1 hP1.2.2.1 _)] <;> rfl
          rw [ex, em]
          refine ⟨?_, ?_, rfl, rfl, rfl, rfl, rfl, rfl, rfl, hP0, hK, hp, ⟨hP1.1, hP1.2.1, hP1.2.2.1⟩, hu, hz⟩
          · unfold o_X9_judge
            rw [if_neg q]
            exact ⟨o1, trivial⟩
          · unfold o_X10_judge
            rw [in_0_2, if_neg q]
            refine ⟨o2, ?_⟩
            rw [lt_c eM]
            exact ⟨bk_ok _ _ _ _, trivial⟩
        · have ex : (f_X9_judge pa sg wp ex t1 t2 t3 t4 t5 ti tn ty ii nx yr ww tw gg tg rr tr pk po pt pm (nI 1)) = (re, wa, re, gf, fa, fh, I, N, Y, W, G, R) := by
            unfold f_X9_judge
            rw [if_neg q, lt_c eT] <;> rfl
          have em : (f_X10_judge ii nx yr sg mc mn me m1 m2 m3 m4 mq gg ww rr pd mo ma mh mu (nI 1)) = (re, ii, nx, yr, pa, gf, en, wa, re, fa, fh, f_X10_keepNow ii nx yr mq gg ww rr, gg, ww, rr, mo', ma', mh', mu') := by
            unfold f_X10_judge
            rw [in_0_2, if_neg q, lt_c eM]
            dsimp only
            rw [lt_c (bk_ p2 p1 p3 hP1.2.1 hP1.1 hP1.2.2.1 _)] <;> rfl
          rw [ex, em]
          refine ⟨?_, ?_, rfl, rfl, rfl, rfl, rfl, rfl, rfl, hP0, hK, hp, ⟨hP1.1, hP1.2.1, hP1.2.2.1⟩, hu, hz⟩
          · unfold o_X9_judge
            rw [if_neg q]
            exact ⟨o1, trivial⟩
          · unfold o_X10_judge
            rw [in_0_2, if_neg q]
            refine ⟨o2, ?_⟩
            rw [lt_c eM]
            exact ⟨bk_ok _ _ _ _, trivial⟩
        · have ex : (f_X9_judge pa sg wp ex t1 t2 t3 t4 t5 ti tn ty ii nx yr ww tw gg tg rr tr pk po pt pm (nI 2)) = (gf, wa, re, gf, fa, fh, I, N, Y, W, G, R) := by
            unfold f_X9_judge
            rw [if_neg q, lt_c eT] <;> rfl
          have em : (f_X10_judge ii nx yr sg mc mn me m1 m2 m3 m4 mq gg ww rr pd mo ma mh mu (nI 2)) = (gf, ii, nx, yr, pa, gf, en, wa, re, fa, fh, f_X10_keepNow ii nx yr mq gg ww rr, gg, ww, rr, mo', ma', mh', mu') := by
            unfold f_X10_judge
            rw [in_0_2, if_neg q, lt_c eM]
            dsimp only
            rw [lt_c (bk_ p2 p1 p3 hP1.2.1 hP1.1 hP1.2.2.1 _)] <;> rfl
          rw [ex, em]
          refine ⟨?_, ?_, rfl, rfl, rfl, rfl, rfl, rfl, rfl, hP0, hK, hp, ⟨hP1.1, hP1.2.1, hP1.2.2.1⟩, hu, hz⟩
          · unfold o_X9_judge
            rw [if_neg q]
            exact ⟨o1, trivial⟩
          · unfold o_X10_judge
            rw [in_0_2, if_neg q]
            refine ⟨o2, ?_⟩
            rw [lt_c eM]
            exact ⟨bk_ok _ _ _ _, trivial⟩
      · rw [if_neg w6] at eT eM
        rcases hzz with rfl | rfl | rfl
        · have ex : (f_X9_judge pa sg wp ex t1 t2 t3 t4 t5 ti tn ty ii nx yr ww tw gg tg rr tr pk po pt pm (nI 0)) = (wa, wa, re, gf, fa, fh, I, N, Y, W, G, R) := by
            unfold f_X9_judge
            rw [if_neg q, lt_c eT] <;> rfl
          have em : (f_X10_judge ii nx yr sg mc mn me m1 m2 m3 m4 mq gg ww rr pd mo ma mh mu (nI 0)) = (wa, ii, nx, yr, pa, gf, en, wa, re, fa, fh, f_X10_keepNow ii nx yr mq gg ww rr, gg, ww, rr, mo', ma', mh', mu') := by
            unfold f_X10_judge
            rw [in_0_2, if_neg q, lt_c eM]
            dsimp only
            rw [lt_c (bk_ p2 p1 p3 hP1.2.1 hP1.1 hP1.2.2.1 _)] <;> rfl
          rw [ex, em]
          refine ⟨?_, ?_, rfl, rfl, rfl, rfl, rfl, rfl, rfl, hP0, hK, hp, ⟨hP1.1, hP1.2.1, hP1.2.2.1⟩, hu, hz⟩
          · unfold o_X9_judge
            rw [if_neg q]
            exact ⟨o1, trivial⟩
          · unfold o_X10_judge
            rw [in_0_2, if_neg q]
            refine ⟨o2, ?_⟩
            rw [lt_c eM]
            exact ⟨bk_ok _ _ _ _, trivial⟩
        · have ex : (f_X9_judge pa sg wp ex t1 t2 t3 t4 t5 ti tn ty ii nx yr ww tw gg tg rr tr pk po pt pm (nI 1)) = (re, wa, re, gf, fa, fh, I, N, Y, W, G, R) := by
            unfold f_X9_judge
            rw [if_neg q, lt_c eT] <;> rfl
          have em : (f_X10_judge ii nx yr sg mc mn me m1 m2 m3 m4 mq gg ww rr pd mo ma mh mu (nI 1)) = (re, ii, nx, yr, pa, gf, en, wa, re, fa, fh, f_X10_keepNow ii nx yr mq gg ww rr, gg, ww, rr, mo', ma', mh', mu') := by
            unfold f_X10_judge
            rw [in_0_2, if_neg q, lt_c eM]
            dsimp only
            rw [lt_c (bk_ p2 p1 p3 hP1.2.1 hP1.1 hP1.2.2.1 _)] <;> rfl
          rw [ex, em]
          refine ⟨?_, ?_, rfl, rfl, rfl, rfl, rfl, rfl, rfl, hP0, hK, hp, ⟨hP1.1, hP1.2.1, hP1.2.2.1⟩, hu, hz⟩
          · unfold o_X9_judge
            rw [if_neg q]
            exact ⟨o1, trivial⟩
          · unfold o_X10_judge
            rw [in_0_2, if_neg q]
            refine ⟨o2, ?_⟩
            rw [lt_c eM]
            exact ⟨bk_ok _ _ _ _, trivial⟩
        · have ex : (f_X9_judge pa sg wp ex t1 t2 t3 t4 t5 ti tn ty ii nx yr ww tw gg tg rr tr pk po pt pm (nI 2)) = ((-3 : Int32), wa, re, gf, fa, fh, I, N, Y, W, G, R) := by
            unfold f_X9_judge
            rw [if_neg q, lt_c eT] <;> rfl
          have em : (f_X10_judge ii nx yr sg mc mn me m1 m2 m3 m4 mq gg ww rr pd mo ma mh mu (nI 2)) = ((-3 : Int32), ii, nx, yr, pa, gf, en, wa, re, fa, fh, f_X10_keepNow ii nx yr mq gg ww rr, gg, ww, rr, mo', ma', mh', mu') := by
            unfold f_X10_judge
            rw [in_0_2, if_neg q, lt_c eM]
            dsimp only
            rw [lt_c (bk_ p2 p1 p3 hP1.2.1 hP1.1 hP1.2.2.1 _)] <;> rfl
          rw [ex, em]
          refine ⟨?_, ?_, rfl, rfl, rfl, rfl, rfl, rfl, rfl, hP0, hK, hp, ⟨hP1.1, hP1.2.1, hP1.2.2.1⟩, hu, hz⟩
          · unfold o_X9_judge
            rw [if_neg q]
            exact ⟨o1, trivial⟩
          · unfold o_X10_judge
            rw [in_0_2, if_neg q]
            refine ⟨o2, ?_⟩
            rw [lt_c eM]
            exact ⟨bk_ok _ _ _ _, trivial⟩
set_option maxHeartbeats 4000000 in
theorem Q_first (ww : Nat → Int32) (gg : Nat → Int32) (rr : Nat → Int32) (ii : Int32) (nx : Int32) (yr : Int32) (kn : Nat → Int32) (ss : Nat → Int32) (sc : Nat → Int32) (sn : Int32) (sg : Int32) (pd : Nat → Int32) (pk : Nat → Int32) (po : Nat → Int32) (pt : Nat → Int32) (pm : Nat → Int32) (pa : Int32) (wp : Int32) (ex : Int32) (on : Int32) (ot : Int32) (tw : Nat → Int32) (tg : Nat → Int32) (tr : Nat → Int32) (uw : Nat → Int32) (ug : Nat → Int32) (ur : Nat → Int32) (ui : Int32) (un : Int32) (uy : Int32) (uk : Nat → Int32) (us : Nat → Int32) (uc : Nat → Int32) (um : Int32) (uf : Int32) (zw : Nat → Int32) (zg : Nat → Int32) (zr : Nat → Int32) (zi : Int32) (zn : Int32) (zy : Int32) (zk : Nat → Int32) (zs : Nat → Int32) (zc : Nat → Int32) (zm : Int32) (zf : Int32) (kp : Nat → Int32) (ik : Nat → Int32) (t1 : Int32) (t2 : Int32) (t3 : Int32) (t4 : Int32) (t5 : Int32) (ti : Int32) (tn : Int32) (ty : Int32) (mc : Int32) (mn : Int32) (me : Int32) (m1 : Int32) (m2 : Int32) (m3 : Int32) (m4 : Int32) (ma : Nat → Int32) (mh : Nat → Int32) (mo : Nat → Int32) (mu : Nat → Int32) (mq : Nat → Int32) (a1 : Int32) (h : RA ww gg rr ii nx yr kn ss sc sn sg pd pk po pt pm pa wp ex on ot tw tg tr uw ug ur ui un uy uk us uc um uf zw zg zr zi zn zy zk zs zc zm zf kp ik) : o_X9_first pa sg wp ex ii nx yr ww tw gg tg rr tr pk po pt pm a1 ∧ o_X10_first ii nx yr sg mn me m1 m2 m3 m4 mq gg ww rr pd mo ma mh mu a1 ∧ (f_X9_first pa sg wp ex t1 t2 t3 t4 t5 ti tn ty ii nx yr ww tw gg tg rr tr pk po pt pm a1).1 = (f_X10_first ii nx yr sg mc mn me m1 m2 m3 m4 mq gg ww rr pd mo ma mh mu a1).1 ∧ (f_X10_first ii nx yr sg mc mn me m1 m2 m3 m4 mq gg ww rr pd mo ma mh mu a1).2.2.2.2.2.2.2.2.2.2.2.2.2.1 = ww ∧ (f_X10_first ii nx yr sg mc mn me m1 m2 m3 m4 mq gg ww rr pd mo ma mh mu a1).2.2.2.2.2.2.2.2.2.2.2.2.1 = gg ∧ (f_X10_first ii nx yr sg mc mn me m1 m2 m3 m4 mq gg ww rr pd mo ma mh mu a1).2.2.2.2.2.2.2.2.2.2.2.2.2.2.1 = rr ∧ (f_X10_first ii nx yr sg mc mn me m1 m2 m3 m4 mq gg ww rr pd mo ma mh mu a1).2.1 = ii ∧ (f_X10_first ii nx yr sg mc mn me m1 m2 m3 m4 mq gg ww rr pd mo ma mh mu a1).2.2.1 = nx ∧ (f_X10_first ii nx yr sg mc mn me m1 m2 m3 m4 mq gg ww rr pd mo ma mh mu a1).2.2.2.1 = yr ∧ RA ww gg rr ii nx yr kn ss sc sn sg pd pk po pt pm pa wp ex on ot ((f_X9_first pa sg wp ex t1 t2 t3 t4 t5 ti tn ty ii nx yr ww tw gg tg rr tr pk po pt pm a1).2.2.2.2.2.2.2.2.2.1) ((f_X9_first pa sg wp ex t1 t2 t3 t4 t5 ti tn ty ii nx yr ww tw gg tg rr tr pk po pt pm a1).2.2.2.2.2.2.2.2.2.2.1) ((f_X9_first pa sg wp ex t1 t2 t3 t4 t5 ti tn ty ii nx yr ww tw gg tg rr tr pk po pt pm a1).2.2.2.2.2.2.2.2.2.2.2) uw ug ur ui un uy uk us uc um uf zw zg zr zi zn zy zk zs zc zm zf kp ik := by
  obtain ⟨hP, hK, hp, ht, hu, hz⟩ := h
  have hP0 := hP
  have ht0 := ht
  obtain ⟨p1, p2, p3, p4⟩ := hP
  by_cases q : f_X9_within a1 0 1 = 0
  · have ex : (f_X9_first pa sg wp ex t1 t2 t3 t4 t5 ti tn ty ii nx yr ww tw gg tg rr tr pk po pt pm a1) = ((-2 : Int32), t1, t2, t3, t4, t5, ti, tn, ty, tw, tg, tr) := by
      unfold f_X9_first
      rw [if_pos q]
    have em : (f_X10_first ii nx yr sg mc mn me m1 m2 m3 m4 mq gg ww rr pd mo ma mh mu a1) = ((-2 : Int32), ii, nx, yr, mc, mn, me, m1, m2, m3, m4, mq, gg, ww, rr, mo, ma, mh, mu) := by
      unfold f_X10_first
      rw [in_0_1, if_pos q]
    rw [ex, em]
    refine ⟨?_, ?_, rfl, rfl, rfl, rfl, rfl, rfl, rfl, hP0, hK, hp, ht0, hu, hz⟩
    · unfold o_X9_first
      rw [if_pos q]
      trivial
    · unfold o_X10_first
      rw [in_0_1, if_pos q]
      trivial
  · obtain ⟨z, _, zl, rfl⟩ := wi_nat (x := 0) (y := 1) (by decide) (by decide) q
    rcases tt_ ii hP0 hp ht t1 t2 t3 t4 t5 ti tn ty mn me m1 m2 m3 m4 mq mo ma mh mu with ⟨⟨o1, o2⟩, ⟨ac, mo', ma', mh', mu', eT, eM⟩ | ⟨wa, re, gf, fa, fh, en, I, N, Y, W, G, R, mo', ma', mh', mu', eT, eM, hP1⟩⟩
    · have ex : (f_X9_first pa sg wp ex t1 t2 t3 t4 t5 ti tn ty ii nx yr ww tw gg tg rr tr pk po pt pm (nI z)) = ((-5 : Int32), t1, t2, t3, t4, t5, ti, tn, ty, tw, tg, tr) := by
        unfold f_X9_first
        rw [if_neg q, lt_c eT] <;> rfl
      have em : (f_X10_first ii nx yr sg mc mn me m1 m2 m3 m4 mq gg ww rr pd mo ma mh mu (nI z)) = ((-5 : Int32), ii, nx, yr, ac, mn, me, m1, m2, m3, m4, f_X10_keepNow ii nx yr mq gg ww rr, gg, ww, rr, mo', ma', mh', mu') := by
        unfold f_X10_first
        rw [in_0_1, if_neg q, lt_c eM]
        dsimp only
        rw [lt_c (bk_ p2 p1 p3 p2 p1 p3 _)] <;> rfl
      rw [ex, em]
      refine ⟨?_, ?_, rfl, rfl, rfl, rfl, rfl, rfl, rfl, hP0, hK, hp, ht0, hu, hz⟩
      · unfold o_X9_first
        rw [if_neg q]
        exact ⟨o1, trivial⟩
      · unfold o_X10_first
        rw [in_0_1, if_neg q]
        refine ⟨o2, ?_⟩
        rw [lt_c eM]
        exact ⟨bk_ok _ _ _ _, trivial⟩
    · have hzz : z = 0 ∨ z = 1 := by omega
      by_cases w6 : wa = -6
      · rw [if_pos w6] at eT eM
        rcases hzz with rfl | rfl
        · have ex : (f_X9_first pa sg wp ex t1 t2 t3 t4 t5 ti tn ty ii nx yr ww tw gg tg rr tr pk po pt pm (nI 0)) = (fa, wa, re, gf, fa, fh, I, N, Y, W, G, R) := by
            unfold f_X9_first
            rw [if_neg q, lt_c eT] <;> rfl
          have em : (f_X10_first ii nx yr sg mc mn me m1 m2 m3 m4 mq gg ww rr pd mo ma mh mu (nI 0)) = (fa, ii, nx, yr, pa, gf, en, wa, re, fa, fh, f_X10_keepNow ii nx yr mq gg ww rr, gg, ww, rr, mo', ma', mh', mu') := by
            unfold f_X10_first
            rw [in_0_1, if_neg q, lt_c eM]
            dsimp only
            rw [lt_c (bk_ p2 p1 p3 hP1.2.1 hP1.1 hP1.2.2.1 _)] <;> rfl
          rw [ex, em]
          refine ⟨?_, ?_, rfl, rfl, rfl, rfl, rfl, rfl, rfl, hP0, hK, hp, ⟨hP1.1, hP1.2.1, hP1.2.2.1⟩, hu, hz⟩
          · unfold o_X9_first
            rw [if_neg q]
            exact ⟨o1, trivial⟩
          · unfold o_X10_first
            rw [in_0_1, if_neg q]
            refine ⟨o2, ?_⟩
            rw [lt_c eM]
            exact ⟨bk_ok _ _ _ _, trivial⟩
        · have ex : (f_X9_first pa sg wp ex t1 t2 t3 t4 t5 ti tn ty ii nx yr ww tw gg tg rr tr pk po pt pm (nI 1)) = (fh, wa, re, gf, fa, fh, I, N, Y, W, G, R) := by
            unfold f_X9_first
            rw [if_neg q, lt_c eT] <;> rfl
          have em : (f_X10_first ii nx yr sg mc mn me m1 m2 m3 m4 mq gg ww rr pd mo ma mh mu (nI 1)) = (fh, ii, nx, yr, pa, gf, en, wa, re, fa, fh, f_X10_keepNow ii nx yr mq gg ww rr, gg, ww, rr, mo', ma', mh', mu') := by
            unfold f_X10_first
            rw [in_0_1, if_neg q, lt_c eM]
            dsimp only
            rw [lt_c (bk_ p2 p1 p3 hP1.2.1 hP1.1 hP1.2.2.1 _)] <;> rfl
          rw [ex, em]
          refine ⟨?_, ?_, rfl, rfl, rfl, rfl, rfl, rfl, rfl, hP0, hK, hp, ⟨hP1.1, hP1.2.1, hP1.2.2.1⟩, hu, hz⟩
          · unfold o_X9_first
            rw [if_neg q]
            exact ⟨o1, trivial⟩
          · unfold o_X10_first
            rw [in_0_1, if_neg q]
            refine ⟨o2, ?_⟩
            rw [lt_c eM]
            exact ⟨bk_ok _ _ _ _, trivial⟩
      · rw [if_neg w6] at eT eM
        rcases hzz with rfl | rfl
        · have ex : (f_X9_first pa sg wp ex t1 t2 t3 t4 t5 ti tn ty ii nx yr ww tw gg tg rr tr pk po pt pm (nI 0)) = ((-3 : Int32), wa, re, gf, fa, fh, I, N, Y, W, G, R) := by
            unfold f_X9_first
            rw [if_neg q, lt_c eT] <;> rfl
          have em : (f_X10_first ii nx yr sg mc mn me m1 m2 m3 m4 mq gg ww rr pd mo ma mh mu (nI 0)) = ((-3 : Int32), ii, nx, yr, pa, gf, en, wa, re, fa, fh, f_X10_keepNow ii nx yr mq gg ww rr, gg, ww, rr, mo', ma', mh', mu') := by
            unfold f_X10_first
            rw [in_0_1, if_neg q, lt_c eM]
            dsimp only
            rw [lt_c (bk_ p2 p1 p3 hP1.2.1 hP1.1 hP1.2.2.1 _)] <;> rfl
          rw [ex, em]
          refine ⟨?_, ?_, rfl, rfl, rfl, rfl, rfl, rfl, rfl, hP0, hK, hp, ⟨hP1.1, hP1.2.1, hP1.2.2.1⟩, hu, hz⟩
          · unfold o_X9_first
            rw [if_neg q]
            exact ⟨o1, trivial⟩
          · unfold o_X10_first
            rw [in_0_1, if_neg q]
            refine ⟨o2, ?_⟩
            rw [lt_c eM]
            exact ⟨bk_ok _ _ _ _, trivial⟩
        · have ex : (f_X9_first pa sg wp ex t1 t2 t3 t4 t5 ti tn ty ii nx yr ww tw gg tg rr tr pk po pt pm (nI 1)) = ((-3 : Int32), wa, re, gf, fa, fh, I, N, Y, W, G, R) := by
            unfold f_X9_first
            rw [if_neg q, lt_c eT] <;> rfl
          have em : (f_X10_first ii nx yr sg mc mn me m1 m2 m3 m4 mq gg ww rr pd mo ma mh mu (nI 1)) = ((-3 : Int32), ii, nx, yr, pa, gf, en, wa, re, fa, fh, f_X10_keepNow ii nx yr mq gg ww rr, gg, ww, rr, mo', ma', mh', mu') := by
            unfold f_X10_first
            rw [in_0_1, if_neg q, lt_c eM]
            dsimp only
            rw [lt_c (bk_ p2 p1 p3 hP1.2.1 hP1.1 hP1.2.2.1 _)] <;> rfl
          rw [ex, em]
          refine ⟨?_, ?_, rfl, rfl, rfl, rfl, rfl, rfl, rfl, hP0, hK, hp, ⟨hP1.1, hP1.2.1, hP1.2.2.1⟩, hu, hz⟩
          · unfold o_X9_first
            rw [if_neg q]
            exact ⟨o1, trivial⟩
          · unfold o_X10_first
            rw [in_0_1, if_neg q]
            refine ⟨o2, ?_⟩
            rw [lt_c eM]
            exact ⟨bk_ok _ _ _ _, trivial⟩
