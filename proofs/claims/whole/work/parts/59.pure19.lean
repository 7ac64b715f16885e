/-! DONE -/
theorem rp_nil (pd pk po pt pm : Nat → Int32) (on ot : Int32) : RelPad 0 pd pk po pt pm 0 (-6) 0 on ot := by
  refine ⟨0, 0, by decide, rfl, by decide, rfl, Or.inl rfl, Or.inl rfl, fun mo ma mh mu => ⟨fun _ => ⟨mo, ma, mh, mu, rfl, fun k hk => absurd hk (Nat.not_lt_zero k), Or.inl rfl, fun q => ?_, fun q => absurd q (by decide), fun q => absurd rfl q⟩, fun q => absurd rfl q⟩⟩
  rcases q with q | q | q | q <;> exact absurd q (by decide)
set_option maxHeartbeats 4000000 in
theorem Q_done (ww : Nat → Int32) (gg : Nat → Int32) (rr : Nat → Int32) (ii : Int32) (nx : Int32) (yr : Int32) (kn : Nat → Int32) (ss : Nat → Int32) (sc : Nat → Int32) (sn : Int32) (sg : Int32) (pd : Nat → Int32) (pk : Nat → Int32) (po : Nat → Int32) (pt : Nat → Int32) (pm : Nat → Int32) (pa : Int32) (wp : Int32) (ex : Int32) (on : Int32) (ot : Int32) (tw : Nat → Int32) (tg : Nat → Int32) (tr : Nat → Int32) (uw : Nat → Int32) (ug : Nat → Int32) (ur : Nat → Int32) (ui : Int32) (un : Int32) (uy : Int32) (uk : Nat → Int32) (us : Nat → Int32) (uc : Nat → Int32) (um : Int32) (uf : Int32) (zw : Nat → Int32) (zg : Nat → Int32) (zr : Nat → Int32) (zi : Int32) (zn : Int32) (zy : Int32) (zk : Nat → Int32) (zs : Nat → Int32) (zc : Nat → Int32) (zm : Int32) (zf : Int32) (kp : Nat → Int32) (ik : Nat → Int32) (t1 : Int32) (t2 : Int32) (t3 : Int32) (t4 : Int32) (t5 : Int32) (ti : Int32) (tn : Int32) (ty : Int32) (mn : Int32) (me : Int32) (m1 : Int32) (m2 : Int32) (m3 : Int32) (m4 : Int32) (ma : Nat → Int32) (mh : Nat → Int32) (mo : Nat → Int32) (mu : Nat → Int32) (mq : Nat → Int32) (h : RA ww gg rr ii nx yr kn ss sc sn sg pd pk po pt pm pa wp ex on ot tw tg tr uw ug ur ui un uy uk us uc um uf zw zg zr zi zn zy zk zs zc zm zf kp ik) : o_X9_done pa sg wp ex ii nx yr ww tw gg tg rr tr pk po pt pm ∧ o_X10_done ii nx yr sg mn me m1 m2 m3 m4 mq gg ww rr pd mo ma mh mu ∧ (f_X9_done pa sg wp ex t1 t2 t3 t4 t5 ti tn ty ii nx yr ww tw gg tg rr tr pk po pt pm).1 = (f_X10_done ii nx yr sg mn me m1 m2 m3 m4 mq gg ww rr pd mo ma mh mu).1 ∧ (f_X10_done ii nx yr sg mn me m1 m2 m3 m4 mq gg ww rr pd mo ma mh mu).2.2.2.2.2.2.2.2.2.2.2.2.2.2.1 = (f_X9_done pa sg wp ex t1 t2 t3 t4 t5 ti tn ty ii nx yr ww tw gg tg rr tr pk po pt pm).2.2.2.2.2.2.2.2.2.2.2.2.2.2.2.2.1 ∧ (f_X10_done ii nx yr sg mn me m1 m2 m3 m4 mq gg ww rr pd mo ma mh mu).2.2.2.2.2.2.2.2.2.2.2.2.2.1 = (f_X9_done pa sg wp ex t1 t2 t3 t4 t5 ti tn ty ii nx yr ww tw gg tg rr tr pk po pt pm).2.2.2.2.2.2.2.2.2.2.2.2.2.2.2.2.2.2.1 ∧ (f_X10_done ii nx yr sg mn me m1 m2 m3 m4 mq gg ww rr pd mo ma mh mu).2.2.2.2.2.2.2.2.2.2.2.2.2.2.2.1 = (f_X9_done pa sg wp ex t1 t2 t3 t4 t5 ti tn ty ii nx yr ww tw gg tg rr tr pk po pt pm).2.2.2.2.2.2.2.2.2.2.2.2.2.2.2.2.2.2.2.2.1 ∧ (f_X10_done ii nx yr sg mn me m1 m2 m3 m4 mq gg ww rr pd mo ma mh mu).2.1 = (f_X9_done pa sg wp ex t1 t2 t3 t4 t5 ti tn ty ii nx yr ww tw gg tg rr tr pk po pt pm).2.2.2.2.2.2.2.2.2.2.2.2.2.1 ∧ (f_X10_done ii nx yr sg mn me m1 m2 m3 m4 mq gg ww rr pd mo ma mh mu).2.2.1 = (f_X9_done pa sg wp ex t1 t2 t3 t4 t5 ti tn ty ii nx yr ww tw gg tg rr tr pk po pt pm).2.2.2.2.2.2.2.2.2.2.2.2.2.2.1 ∧ (f_X10_done ii nx yr sg mn me m1 m2 m3 m4 mq gg ww rr pd mo ma mh mu).2.2.2.1 = (f_X9_done pa sg wp ex t1 t2 t3 t4 t5 ti tn ty ii nx yr ww tw gg tg rr tr pk po pt pm).2.2.2.2.2.2.2.2.2.2.2.2.2.2.2.1 ∧ (f_X10_done ii nx yr sg mn me m1 m2 m3 m4 mq gg ww rr pd mo ma mh mu).2.2.2.2.1 = (f_X9_done pa sg wp ex t1 t2 t3 t4 t5 ti tn ty ii nx yr ww tw gg tg rr tr pk po pt pm).2.2.1 ∧ RA ((f_X9_done pa sg wp ex t1 t2 t3 t4 t5 ti tn ty ii nx yr ww tw gg tg rr tr pk po pt pm).2.2.2.2.2.2.2.2.2.2.2.2.2.2.2.2.1) ((f_X9_done pa sg wp ex t1 t2 t3 t4 t5 ti tn ty ii nx yr ww tw gg tg rr tr pk po pt pm).2.2.2.2.2.2.2.2.2.2.2.2.2.2.2.2.2.2.1) ((f_X9_done pa sg wp ex t1 t2 t3 t4 t5 ti tn ty ii nx yr ww tw gg tg rr tr pk po pt pm).2.2.2.2.2.2.2.2.2.2.2.2.2.2.2.2.2.2.2.2.1) ((f_X9_done pa sg wp ex t1 t2 t3 t4 t5 ti tn ty ii nx yr ww tw gg tg rr tr pk po pt pm).2.2.2.2.2.2.2.2.2.2.2.2.2.1) ((f_X9_done pa sg wp ex t1 t2 t3 t4 t5 ti tn ty ii nx yr ww tw gg tg rr tr pk po pt pm).2.2.2.2.2.2.2.2.2.2.2.2.2.2.1) ((f_X9_done pa sg wp ex t1 t2 t3 t4 t5 ti tn ty ii nx yr ww tw gg tg rr tr pk po pt pm).2.2.2.2.2.2.2.2.2.2.2.2.2.2.2.1) kn ss sc sn ((f_X9_done pa sg wp ex t1 t2 t3 t4 t5 ti tn ty ii nx yr ww tw gg tg rr tr pk po pt pm).2.2.1) pd pk po pt pm ((f_X9_done pa sg wp ex t1 t2 t3 t4 t5 ti tn ty ii nx yr ww tw gg tg rr tr pk po pt pm).2.1) ((f_X9_done pa sg wp ex t1 t2 t3 t4 t5 ti tn ty ii nx yr ww tw gg tg rr tr pk po pt pm).2.2.2.1) ((f_X9_done pa sg wp ex t1 t2 t3 t4 t5 ti tn ty ii nx yr ww tw gg tg rr tr pk po pt pm).2.2.2.2.1) on ot ((f_X9_done pa sg wp ex t1 t2 t3 t4 t5 ti tn ty ii nx yr ww tw gg tg rr tr pk po pt pm).2.2.2.2.2.2.2.2.2.2.2.2.2.2.2.2.2.1) ((f_X9_done pa sg wp ex t1 t2 t3 t4 t5 ti tn ty ii nx yr ww tw gg tg rr tr pk po pt pm).2.2.2.2.2.2.2.2.2.2.2.2.2.2.2.2.2.2.2.1) ((f_X9_done pa sg wp ex t1 t2 t3 t4 t5 ti tn ty ii nx yr ww tw gg tg rr tr pk po pt pm).2.2.2.2.2.2.2.2.2.2.2.2.2.2.2.2.2.2.2.2.2) uw ug ur ui un uy uk us uc um uf zw zg zr zi zn zy zk zs zc zm zf kp ik := by
  obtain ⟨hP, hK, hp, ht, hu, hz⟩ := h
  have hP0 := hP
  have ht0 := ht
  obtain ⟨p1, p2, p3, p4⟩ := hP
  rcases tt_ ii hP0 hp ht t1 t2 t3 t4 t5 ti tn ty mn me m1 m2 m3 m4 mq mo ma mh mu with ⟨⟨o1, o2⟩, ⟨ac, mo', ma', mh', mu', eT, eM⟩ | ⟨wa, re, gf, fa, fh, en, I, N, Y, W, G, R, mo', ma', mh', mu', eT, eM, hP1⟩⟩
  · have ex1 : (f_X9_done pa sg wp ex t1 t2 t3 t4 t5 ti tn ty ii nx yr ww tw gg tg rr tr pk po pt pm) = ((-5 : Int32), pa, sg, wp, ex, t1, t2, t3, t4, t5, ti, tn, ty, ii, nx, yr, ww, tw, gg, tg, rr, tr) := by
      unfold f_X9_done
      rw [lt_c eT] <;> rfl
    have em1 : (f_X10_done ii nx yr sg mn me m1 m2 m3 m4 mq gg ww rr pd mo ma mh mu) = ((-5 : Int32), ii, nx, yr, sg, ac, mn, me, m1, m2, m3, m4, f_X10_keepNow ii nx yr mq gg ww rr, gg, ww, rr, mo', ma', mh', mu') := by
      unfold f_X10_done
      rw [lt_c eM]
      dsimp only
      rw [if_neg (by decide), lt_c (bk_ p2 p1 p3 p2 p1 p3 _)] <;> rfl
    rw [ex1, em1]
    refine ⟨⟨o1, trivial⟩, ?_, rfl, rfl, rfl, rfl, rfl, rfl, rfl, rfl, hP0, hK, hp, ht0, hu, hz⟩
    refine ⟨o2, ?_⟩
    rw [lt_c eM]
    exact ⟨bk_ok _ _ _ _, trivial⟩
  · by_cases w6 : wa = -6
    · rw [if_pos w6] at eT eM
      have ex1 : (f_X9_done pa sg wp ex t1 t2 t3 t4 t5 ti tn ty ii nx yr ww tw gg tg rr tr pk po pt pm) = (pa, 0, 0, -6, 0, wa, re, gf, fa, fh, I, N, Y, I, N, Y, W, W, G, G, R, R) := by
        unfold f_X9_done
        rw [lt_c eT]
        dsimp only
        rw [if_pos rfl]
        dsimp only [lt, f_X5_copyFrom, f_X4_clear]
        rw [cpy_tl hP1.1 p1, cpy_tl hP1.2.1 p2, cpy_tl hP1.2.2.1 p3]
      have em1 : (f_X10_done ii nx yr sg mn me m1 m2 m3 m4 mq gg ww rr pd mo ma mh mu) = (pa, I, N, Y, 0, pa, gf, en, wa, re, fa, fh, f_X10_keepNow ii nx yr mq gg ww rr, G, W, R, mo', ma', mh', mu') := by
        unfold f_X10_done
        rw [lt_c eM] <;> rfl
      rw [ex1, em1]
      refine ⟨⟨o1, trivial⟩, ?_, rfl, rfl, rfl, rfl, rfl, rfl, rfl, rfl, hP1, hK, rp_nil _ _ _ _ _ _ _, ⟨hP1.1, hP1.2.1, hP1.2.2.1⟩, hu, hz⟩
      refine ⟨o2, ?_⟩
      rw [lt_c eM]
      trivial
    · rw [if_neg w6] at eT eM
      have ex1 : (f_X9_done pa sg wp ex t1 t2 t3 t4 t5 ti tn ty ii nx yr ww tw gg tg rr tr pk po pt pm) = ((-3 : Int32), pa, sg, wp, ex, wa, re, gf, fa, fh, I, N, Y, ii, nx, yr, ww, W, gg, G, rr, R) := by
        unfold f_X9_done
        rw [lt_c eT] <;> rfl
      have em1 : (f_X10_done ii nx yr sg mn me m1 m2 m3 m4 mq gg ww rr pd mo ma mh mu) = ((-3 : Int32), ii, nx, yr, sg, pa, gf, en, wa, re, fa, fh, f_X10_keepNow ii nx yr mq gg ww rr, gg, ww, rr, mo', ma', mh', mu') := by
        unfold f_X10_done
        rw [lt_c eM]
        dsimp only
        rw [if_neg (by decide), lt_c (bk_ p2 p1 p3 hP1.2.1 hP1.1 hP1.2.2.1 _)] <;> rfl
      rw [ex1, em1]
      refine ⟨⟨o1, trivial⟩, ?_, rfl, rfl, rfl, rfl, rfl, rfl, rfl, rfl, hP0, hK, hp, ⟨hP1.1, hP1.2.1, hP1.2.2.1⟩, hu, hz⟩
      refine ⟨o2, ?_⟩
      rw [lt_c eM]
      exact ⟨bk_ok _ _ _ _, trivial⟩
