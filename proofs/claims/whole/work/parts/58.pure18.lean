/-! BEHIND, PARISH, DONE -/
theorem bit_01 (x : Int32) : (x &&& 1) = 0 ∨ (x &&& 1) = 1 := by
  obtain ⟨j, hj, e⟩ := pk_andE x (m := 1) 1 (by decide)
  rw [e]
  rcases (show j = 0 ∨ j = 1 by omega) with rfl | rfl
  · exact Or.inl rfl
  · exact Or.inr rfl
theorem isin_v {x p : Int32} (h : f_X5_isIn x p = 0) : ((x >>> (p &&& 31)) &&& 1) = 0 := by
  unfold f_X5_isIn at h
  rcases bit_01 (x >>> (p &&& 31)) with e | e
  · exact e
  · rw [if_pos e] at h
    exact absurd h (by decide)
theorem isin_w {x p : Int32} (h : ¬ f_X5_isIn x p = 0) : ((x >>> (p &&& 31)) &&& 1) = 1 := by
  unfold f_X5_isIn at h
  rcases bit_01 (x >>> (p &&& 31)) with e | e
  · rw [if_neg (by rw [e]; decide)] at h
    exact absurd rfl h
  · exact e
theorem wl_eq (w : Nat → Int32) : f_X5_wealthInAll w = f_X10_allWealth w := rfl
theorem po_b {r : Nat → Int32} (h : perm8 r) (w : Nat → Int32) {j : Nat} {v : Int32} (hj : j < 8) (hv : ∃ c, c < 8 ∧ v = nI c) : B_X5_poorest_9 r w j v = B_X10_poorest_9 r w j v := by
  obtain ⟨c, hc, e⟩ := hv
  obtain ⟨d, hd, f⟩ := h.1 j hj
  unfold B_X5_poorest_9 B_X10_poorest_9
  rw [e, f, wo_v w hc, wo_v w hd]
theorem po_z (f : Nat → Int32 → Int32) (j : Nat) (v : Int32) : it f j 0 v = v := rfl
theorem po_lp {r : Nat → Int32} (h : perm8 r) (w : Nat → Int32) : ∀ (n j : Nat) (v : Int32), j + n ≤ 8 → (∃ c, c < 8 ∧ v = nI c) → it (B_X5_poorest_9 r w) j n v = it (B_X10_poorest_9 r w) j n v
  | 0, j, v, _, _ => (po_z _ j v).trans (po_z _ j v).symm
  | n + 1, j, v, hn, hv => by
    have hc : ∃ c, c < 8 ∧ B_X10_poorest_9 r w j v = nI c := by
      unfold B_X10_poorest_9
      split
      · exact hv
      · exact h.1 j (by omega)
    have s1 : it (B_X5_poorest_9 r w) j (n + 1) v = it (B_X5_poorest_9 r w) (j + 1) n (B_X10_poorest_9 r w j v) := it_c (po_b h w (by omega) hv)
    have s2 : it (B_X10_poorest_9 r w) j (n + 1) v = it (B_X10_poorest_9 r w) (j + 1) n (B_X10_poorest_9 r w j v) := it_c rfl
    rw [s1, s2]
    exact po_lp h w n (j + 1) _ (by omega) hc
theorem po_eq {r : Nat → Int32} (h : perm8 r) (w : Nat → Int32) : f_X5_poorest r w = f_X10_poorest r w := po_lp h w 7 1 (r 0) (by decide) (h.1 0 (by decide))
theorem po_ok {r : Nat → Int32} (h : perm8 r) (w : Nat → Int32) : ∀ (n j : Nat) (v : Int32), j + n ≤ 8 → (∃ c, c < 8 ∧ v = nI c) → itA (oB_X5_poorest_9 r) (B_X5_poorest_9 r w) j n v ∧ itA (oB_X10_poorest_9 r) (B_X10_poorest_9 r w) j n v
  | 0, _, _, _, _ => ⟨trivial, trivial⟩
  | n + 1, j, v, hn, hv => by
    have hb : ∃ c, c < 8 ∧ B_X5_poorest_9 r w j v = nI c := by
      unfold B_X5_poorest_9
      split
      · exact hv
      · exact h.1 j (by omega)
    have ih := po_ok h w n (j + 1) _ (by omega) hb
    have v1 : vp_in (r j) 8 := by
      obtain ⟨c, hc, e⟩ := h.1 j (by omega)
      rw [e]
      exact vp_in_nI hc (by decide)
    have v2 : vp_in v 8 := by
      obtain ⟨c, hc, e⟩ := hv
      rw [e]
      exact vp_in_nI hc (by decide)
    have u1 : o_X5_wealthOf (r j) := by
      obtain ⟨c, hc, e⟩ := h.1 j (by omega)
      rw [e]
      exact wo_ok hc
    have u2 : o_X5_wealthOf v := by
      obtain ⟨c, hc, e⟩ := hv
      rw [e]
      exact wo_ok hc
    have ih2 : itA (oB_X10_poorest_9 r) (B_X10_poorest_9 r w) (j + 1) n (B_X10_poorest_9 r w j v) := by
      rw [← po_b h w (by omega) hv]
      exact ih.2
    exact ⟨⟨⟨u1, u2, trivial⟩, ih.1⟩, ⟨by first | exact ⟨v1, v2, trivial⟩ | exact ⟨v2, v1, trivial⟩, ih2⟩⟩
set_option maxHeartbeats 4000000 in
theorem Q_behind (ww : Nat → Int32) (gg : Nat → Int32) (rr : Nat → Int32) (ii : Int32) (nx : Int32) (yr : Int32) (kn : Nat → Int32) (ss : Nat → Int32) (sc : Nat → Int32) (sn : Int32) (sg : Int32) (pd : Nat → Int32) (pk : Nat → Int32) (po : Nat → Int32) (pt : Nat → Int32) (pm : Nat → Int32) (pa : Int32) (wp : Int32) (ex : Int32) (on : Int32) (ot : Int32) (tw : Nat → Int32) (tg : Nat → Int32) (tr : Nat → Int32) (uw : Nat → Int32) (ug : Nat → Int32) (ur : Nat → Int32) (ui : Int32) (un : Int32) (uy : Int32) (uk : Nat → Int32) (us : Nat → Int32) (uc : Nat → Int32) (um : Int32) (uf : Int32) (zw : Nat → Int32) (zg : Nat → Int32) (zr : Nat → Int32) (zi : Int32) (zn : Int32) (zy : Int32) (zk : Nat → Int32) (zs : Nat → Int32) (zc : Nat → Int32) (zm : Int32) (zf : Int32) (kp : Nat → Int32) (ik : Nat → Int32) (t1 : Int32) (t2 : Int32) (t3 : Int32) (t4 : Int32) (t5 : Int32) (ti : Int32) (tn : Int32) (ty : Int32) (mc : Int32) (mn : Int32) (me : Int32) (m1 : Int32) (m2 : Int32) (m3 : Int32) (m4 : Int32) (ma : Nat → Int32) (mh : Nat → Int32) (mo : Nat → Int32) (mu : Nat → Int32) (mq : Nat → Int32) (a1 : Int32) (a2 : Int32) (h : RA ww gg rr ii nx yr kn ss sc sn sg pd pk po pt pm pa wp ex on ot tw tg tr uw ug ur ui un uy uk us uc um uf zw zg zr zi zn zy zk zs zc zm zf kp ik) : o_X9_behind pa sg wp ex t1 t2 t3 t4 t5 ti tn ty ii nx yr ww tw gg tg rr tr pk po pt pm a1 a2 ∧ o_X10_behind ii nx yr sg mn me m1 m2 m3 m4 mq gg ww rr pd mo ma mh mu a1 a2 ∧ (f_X9_behind pa sg wp ex t1 t2 t3 t4 t5 ti tn ty ii nx yr ww tw gg tg rr tr pk po pt pm a1 a2).1 = (f_X10_behind ii nx yr sg mc mn me m1 m2 m3 m4 mq gg ww rr pd mo ma mh mu a1 a2).1 ∧ (f_X10_behind ii nx yr sg mc mn me m1 m2 m3 m4 mq gg ww rr pd mo ma mh mu a1 a2).2.2.2.2.2.2.2.2.2.2.2.2.2.1 = ww ∧ (f_X10_behind ii nx yr sg mc mn me m1 m2 m3 m4 mq gg ww rr pd mo ma mh mu a1 a2).2.2.2.2.2.2.2.2.2.2.2.2.1 = gg ∧ (f_X10_behind ii nx yr sg mc mn me m1 m2 m3 m4 mq gg ww rr pd mo ma mh mu a1 a2).2.2.2.2.2.2.2.2.2.2.2.2.2.2.1 = rr ∧ (f_X10_behind ii nx yr sg mc mn me m1 m2 m3 m4 mq gg ww rr pd mo ma mh mu a1 a2).2.1 = ii ∧ (f_X10_behind ii nx yr sg mc mn me m1 m2 m3 m4 mq gg ww rr pd mo ma mh mu a1 a2).2.2.1 = nx ∧ (f_X10_behind ii nx yr sg mc mn me m1 m2 m3 m4 mq gg ww rr pd mo ma mh mu a1 a2).2.2.2.1 = yr ∧ RA ww gg rr ii nx yr kn ss sc sn sg pd pk po pt pm pa wp ex on ot ((f_X9_behind pa sg wp ex t1 t2 t3 t4 t5 ti tn ty ii nx yr ww tw gg tg rr tr pk po pt pm a1 a2).2.2.2.2.2.2.2.2.2.1) ((f_X9_behind pa sg wp ex t1 t2 t3 t4 t5 ti tn ty ii nx yr ww tw gg tg rr tr pk po pt pm a1 a2).2.2.2.2.2.2.2.2.2.2.1) ((f_X9_behind pa sg wp ex t1 t2 t3 t4 t5 ti tn ty ii nx yr ww tw gg tg rr tr pk po pt pm a1 a2).2.2.2.2.2.2.2.2.2.2.2) uw ug ur ui un uy uk us uc um uf zw zg zr zi zn zy zk zs zc zm zf kp ik := by
  obtain ⟨hP, hK, hp, ht, hu, hz⟩ := h
  have hP0 := hP
  have ht0 := ht
  obtain ⟨p1, p2, p3, p4⟩ := hP
  have hh := isH a1
  by_cases q0 : f_X9_isHouse a1 = 0
  · have ex : (f_X9_behind pa sg wp ex t1 t2 t3 t4 t5 ti tn ty ii nx yr ww tw gg tg rr tr pk po pt pm a1 a2) = ((-1 : Int32), t1, t2, t3, t4, t5, ti, tn, ty, tw, tg, tr) := by
      unfold f_X9_behind
      rw [if_pos q0]
    have em : (f_X10_behind ii nx yr sg mc mn me m1 m2 m3 m4 mq gg ww rr pd mo ma mh mu a1 a2) = ((-1 : Int32), ii, nx, yr, mc, mn, me, m1, m2, m3, m4, mq, gg, ww, rr, mo, ma, mh, mu) := by
      unfold f_X10_behind
      rw [hh, if_pos q0]
    rw [ex, em]
    refine ⟨?_, ?_, rfl, rfl, rfl, rfl, rfl, rfl, rfl, hP0, hK, hp, ht0, hu, hz⟩
    · unfold o_X9_behind
      rw [if_pos q0]
      trivial
    · unfold o_X10_behind
      refine ⟨oIsH a1, ?_⟩
      rw [hh, if_pos q0]
      trivial
  · by_cases q : f_X9_within a2 0 2 = 0
    · have ex : (f_X9_behind pa sg wp ex t1 t2 t3 t4 t5 ti tn ty ii nx yr ww tw gg tg rr tr pk po pt pm a1 a2) = ((-2 : Int32), t1, t2, t3, t4, t5, ti, tn, ty, tw, tg, tr) := by
        unfold f_X9_behind
        rw [if_neg q0, if_pos q]
      have em : (f_X10_behind ii nx yr sg mc mn me m1 m2 m3 m4 mq gg ww rr pd mo ma mh mu a1 a2) = ((-2 : Int32), ii, nx, yr, mc, mn, me, m1, m2, m3, m4, mq, gg, ww, rr, mo, ma, mh, mu) := by
        unfold f_X10_behind
        rw [hh, if_neg q0, in_0_2, if_pos q]
      rw [ex, em]
      refine ⟨?_, ?_, rfl, rfl, rfl, rfl, rfl, rfl, rfl, hP0, hK, hp, ht0, hu, hz⟩
      · unfold o_X9_behind
        rw [if_neg q0, if_pos q]
        trivial
      · unfold o_X10_behind
        refine ⟨oIsH a1, ?_⟩
        rw [hh, if_neg q0, in_0_2, if_pos q]
        trivial
    · have vh := hs_in q0
      obtain ⟨hn, hhn, e1⟩ := hs_nat q0
      obtain ⟨z, _, zl, rfl⟩ := wi_nat (x := 0) (y := 2) (by decide) (by decide) q
      rcases tt_ ii hP0 hp ht t1 t2 t3 t4 t5 ti tn ty mn me m1 m2 m3 m4 mq mo ma mh mu with ⟨⟨o1, o2⟩, ⟨ac, mo', ma', mh', mu', eT, eM⟩ | ⟨wa, re, gf, fa, fh, en, I, N, Y, W, G, R, mo', ma', mh', mu', eT, eM, hP1⟩⟩
      · have ex : (f_X9_behind pa sg wp ex t1 t2 t3 t4 t5 ti tn ty ii nx yr ww tw gg tg rr tr pk po pt pm a1 (nI z)) = ((-5 : Int32), t1, t2, t3, t4, t5, ti, tn, ty, tw, tg, tr) := by
          unfold f_X9_behind
          rw [if_neg q0, if_neg q, lt_c eT] <;> rfl
        have em : (f_X10_behind ii nx yr sg mc mn me m1 m2 m3 m4 mq gg ww rr pd mo ma mh mu a1 (nI z)) = ((-5 : Int32), ii, nx, yr, ac, mn, me, m1, m2, m3, m4, f_X10_keepNow ii nx yr mq gg ww rr, gg, ww, rr, mo', ma', mh', mu') := by
          unfold f_X10_behind
          rw [hh, if_neg q0, in_0_2, if_neg q, lt_c eM]
          dsimp only
          rw [if_neg (by decide), lt_c (bk_ p2 p1 p3 p2 p1 p3 _)] <;> rfl
        rw [ex, em]
        refine ⟨?_, ?_, rfl, rfl, rfl, rfl, rfl, rfl, rfl, hP0, hK, hp, ht0, hu, hz⟩
        · unfold o_X9_behind
          rw [if_neg q0, if_neg q]
          refine ⟨o1, ?_⟩
          rw [lt_c eT]
          trivial
        · unfold o_X10_behind
          refine ⟨oIsH a1, ?_⟩
          rw [hh, if_neg q0, in_0_2, if_neg q]
          refine ⟨o2, ?_⟩
          rw [lt_c eM]
          exact ⟨bk_ok _ _ _ _, trivial⟩
      · by_cases w6 : wa = -6
        · rw [if_pos w6] at eT eM
          have hzz : z = 0 ∨ z = 1 ∨ z = 2 := by omega
          rcases hzz with rfl | rfl | rfl
          · have ex : (f_X9_behind pa sg wp ex t1 t2 t3 t4 t5 ti tn ty ii nx yr ww tw gg tg rr tr pk po pt pm a1 (nI 0)) = ((W a1.toNatClampNeg), wa, re, gf, fa, fh, I, N, Y, W, G, R) := by
              unfold f_X9_behind
              rw [if_neg q0, if_neg q, lt_c eT] <;> rfl
            have em : (f_X10_behind ii nx yr sg mc mn me m1 m2 m3 m4 mq gg ww rr pd mo ma mh mu a1 (nI 0)) = ((W a1.toNatClampNeg), ii, nx, yr, pa, gf, en, wa, re, fa, fh, f_X10_keepNow ii nx yr mq gg ww rr, gg, ww, rr, mo', ma', mh', mu') := by
              unfold f_X10_behind
              rw [hh, if_neg q0, in_0_2, if_neg q, lt_c eM]
              dsimp only
              rw [if_pos rfl, if_pos (show nI 0 = 0 from rfl), lt_c (bk_ p2 p1 p3 hP1.2.1 hP1.1 hP1.2.2.1 _)] <;> rfl
            rw [ex, em]
            refine ⟨?_, ?_, rfl, rfl, rfl, rfl, rfl, rfl, rfl, hP0, hK, hp, ⟨hP1.1, hP1.2.1, hP1.2.2.1⟩, hu, hz⟩
            · unfold o_X9_behind
              rw [if_neg q0, if_neg q]
              refine ⟨o1, ?_⟩
              rw [lt_c eT]
              exact ⟨vh, trivial⟩
            · unfold o_X10_behind
              refine ⟨oIsH a1, ?_⟩
              rw [hh, if_neg q0, in_0_2, if_neg q]
              refine ⟨o2, ?_⟩
              rw [lt_c eM]
              exact ⟨vh, bk_ok _ _ _ _, trivial⟩
          · by_cases bi : f_X5_isIn I a1 = 0
            · have ex : (f_X9_behind pa sg wp ex t1 t2 t3 t4 t5 ti tn ty ii nx yr ww tw gg tg rr tr pk po pt pm a1 (nI 1)) = ((0 : Int32), wa, re, gf, fa, fh, I, N, Y, W, G, R) := by
                unfold f_X9_behind
                rw [if_neg q0, if_neg q, lt_c eT]
                dsimp only
                rw [if_pos rfl, if_neg (show ¬ nI 1 = 0 by decide), if_pos (show nI 1 = 1 from rfl), if_pos bi]
              have em : (f_X10_behind ii nx yr sg mc mn me m1 m2 m3 m4 mq gg ww rr pd mo ma mh mu a1 (nI 1)) = ((0 : Int32), ii, nx, yr, pa, gf, en, wa, re, fa, fh, f_X10_keepNow ii nx yr mq gg ww rr, gg, ww, rr, mo', ma', mh', mu') := by
                unfold f_X10_behind
                rw [hh, if_neg q0, in_0_2, if_neg q, lt_c eM]
                dsimp only
                rw [if_pos rfl, if_neg (show ¬ nI 1 = 0 by decide), if_pos (show nI 1 = 1 from rfl), isin_v bi, lt_c (bk_ p2 p1 p3 hP1.2.1 hP1.1 hP1.2.2.1 _)] <;> rfl
              rw [ex, em]
              refine ⟨?_, ?_, rfl, rfl, rfl, rfl, rfl, rfl, rfl, hP0, hK, hp, ⟨hP1.1, hP1.2.1, hP1.2.2.1⟩, hu, hz⟩
              · unfold o_X9_behind
                rw [if_neg q0, if_neg q]
                refine ⟨o1, ?_⟩
                rw [lt_c eT]
                trivial
              · unfold o_X10_behind
                refine ⟨oIsH a1, ?_⟩
                rw [hh, if_neg q0, in_0_2, if_neg q]
                refine ⟨o2, ?_⟩
                rw [lt_c eM]
                exact ⟨bk_ok _ _ _ _, trivial⟩
            · have ex : (f_X9_behind pa sg wp ex t1 t2 t3 t4 t5 ti tn ty ii nx yr ww tw gg tg rr tr pk po pt pm a1 (nI 1)) = ((1 : Int32), wa, re, gf, fa, fh, I, N, Y, W, G, R) := by
                unfold f_X9_behind
                rw [if_neg q0, if_neg q, lt_c eT]
                dsimp only
                rw [if_pos rfl, if_neg (show ¬ nI 1 = 0 by decide), if_pos (show nI 1 = 1 from rfl), if_neg bi]
              have em : (f_X10_behind ii nx yr sg mc mn me m1 m2 m3 m4 mq gg ww rr pd mo ma mh mu a1 (nI 1)) = ((1 : Int32), ii, nx, yr, pa, gf, en, wa, re, fa, fh, f_X10_keepNow ii nx yr mq gg ww rr, gg, ww, rr, mo', ma', mh', mu') := by
                unfold f_X10_behind
                rw [hh, if_neg q0, in_0_2, if_neg q, lt_c eM]
                dsimp only
                rw [if_pos rfl, if_neg (show ¬ nI 1 = 0 by decide), if_pos (show nI 1 = 1 from rfl), isin_w bi, lt_c (bk_ p2 p1 p3 hP1.2.1 hP1.1 hP1.2.2.1 _)] <;> rfl
              rw [ex, em]
              refine ⟨?_, ?_, rfl, rfl, rfl, rfl, rfl, rfl, rfl, hP0, hK, hp, ⟨hP1.1, hP1.2.1, hP1.2.2.1⟩, hu, hz⟩
              · unfold o_X9_behind
                rw [if_neg q0, if_neg q]
                refine ⟨o1, ?_⟩
                rw [lt_c eT]
                trivial
              · unfold o_X10_behind
                refine ⟨oIsH a1, ?_⟩
                rw [hh, if_neg q0, in_0_2, if_neg q]
                refine ⟨o2, ?_⟩
                rw [lt_c eM]
                exact ⟨bk_ok _ _ _ _, trivial⟩
          · have ex : (f_X9_behind pa sg wp ex t1 t2 t3 t4 t5 ti tn ty ii nx yr ww tw gg tg rr tr pk po pt pm a1 (nI 2)) = ((f_X5_placeOf R a1), wa, re, gf, fa, fh, I, N, Y, W, G, R) := by
              unfold f_X9_behind
              rw [if_neg q0, if_neg q, lt_c eT] <;> rfl
            have em : (f_X10_behind ii nx yr sg mc mn me m1 m2 m3 m4 mq gg ww rr pd mo ma mh mu a1 (nI 2)) = ((f_X5_placeOf R a1), ii, nx, yr, pa, gf, en, wa, re, fa, fh, f_X10_keepNow ii nx yr mq gg ww rr, gg, ww, rr, mo', ma', mh', mu') := by
              unfold f_X10_behind
              have ep : f_X10_placeOf R a1 = f_X5_placeOf R a1 := by
                rw [e1]
                exact (pl_eq hP1.2.2.2.1 hhn).symm
              rw [hh, if_neg q0, in_0_2, if_neg q, lt_c eM]
              dsimp only
              rw [if_pos rfl, if_neg (show ¬ nI 2 = 0 by decide), if_neg (show ¬ nI 2 = 1 by decide), ep, lt_c (bk_ p2 p1 p3 hP1.2.1 hP1.1 hP1.2.2.1 _)] <;> rfl
            rw [ex, em]
            refine ⟨?_, ?_, rfl, rfl, rfl, rfl, rfl, rfl, rfl, hP0, hK, hp, ⟨hP1.1, hP1.2.1, hP1.2.2.1⟩, hu, hz⟩
            · unfold o_X9_behind
              rw [if_neg q0, if_neg q]
              refine ⟨o1, ?_⟩
              rw [lt_c eT]
              trivial
            · unfold o_X10_behind
              refine ⟨oIsH a1, ?_⟩
              rw [hh, if_neg q0, in_0_2, if_neg q]
              refine ⟨o2, ?_⟩
              rw [lt_c eM]
              exact ⟨bk_ok _ _ _ _, trivial⟩
        · rw [if_neg w6] at eT eM
          have ex : (f_X9_behind pa sg wp ex t1 t2 t3 t4 t5 ti tn ty ii nx yr ww tw gg tg rr tr pk po pt pm a1 (nI z)) = ((-3 : Int32), wa, re, gf, fa, fh, I, N, Y, W, G, R) := by
            unfold f_X9_behind
            rw [if_neg q0, if_neg q, lt_c eT] <;> rfl
          have em : (f_X10_behind ii nx yr sg mc mn me m1 m2 m3 m4 mq gg ww rr pd mo ma mh mu a1 (nI z)) = ((-3 : Int32), ii, nx, yr, pa, gf, en, wa, re, fa, fh, f_X10_keepNow ii nx yr mq gg ww rr, gg, ww, rr, mo', ma', mh', mu') := by
            unfold f_X10_behind
            rw [hh, if_neg q0, in_0_2, if_neg q, lt_c eM]
            dsimp only
            rw [if_neg (by decide), lt_c (bk_ p2 p1 p3 hP1.2.1 hP1.1 hP1.2.2.1 _)] <;> rfl
          rw [ex, em]
          refine ⟨?_, ?_, rfl, rfl, rfl, rfl, rfl, rfl, rfl, hP0, hK, hp, ⟨hP1.1, hP1.2.1, hP1.2.2.1⟩, hu, hz⟩
          · unfold o_X9_behind
            rw [if_neg q0, if_neg q]
            refine ⟨o1, ?_⟩
            rw [lt_c eT]
            trivial
          · unfold o_X10_behind
            refine ⟨oIsH a1, ?_⟩
            rw [hh, if_neg q0, in_0_2, if_neg q]
            refine ⟨o2, ?_⟩
            rw [lt_c eM]
            exact ⟨bk_ok _ _ _ _, trivial⟩
set_option maxHeartbeats 4000000 in
theorem Q_parish (ww : Nat → Int32) (gg : Nat → Int32) (rr : Nat → Int32) (ii : Int32) (nx : Int32) (yr : Int32) (kn : Nat → Int32) (ss : Nat → Int32) (sc : Nat → Int32) (sn : Int32) (sg : Int32) (pd : Nat → Int32) (pk : Nat → Int32) (po : Nat → Int32) (pt : Nat → Int32) (pm : Nat → Int32) (pa : Int32) (wp : Int32) (ex : Int32) (on : Int32) (ot : Int32) (tw : Nat → Int32) (tg : Nat → Int32) (tr : Nat → Int32) (uw : Nat → Int32) (ug : Nat → Int32) (ur : Nat → Int32) (ui : Int32) (un : Int32) (uy : Int32) (uk : Nat → Int32) (us : Nat → Int32) (uc : Nat → Int32) (um : Int32) (uf : Int32) (zw : Nat → Int32) (zg : Nat → Int32) (zr : Nat → Int32) (zi : Int32) (zn : Int32) (zy : Int32) (zk : Nat → Int32) (zs : Nat → Int32) (zc : Nat → Int32) (zm : Int32) (zf : Int32) (kp : Nat → Int32) (ik : Nat → Int32) (t1 : Int32) (t2 : Int32) (t3 : Int32) (t4 : Int32) (t5 : Int32) (ti : Int32) (tn : Int32) (ty : Int32) (mc : Int32) (mn : Int32) (me : Int32) (m1 : Int32) (m2 : Int32) (m3 : Int32) (m4 : Int32) (ma : Nat → Int32) (mh : Nat → Int32) (mo : Nat → Int32) (mu : Nat → Int32) (mq : Nat → Int32) (a1 : Int32) (h : RA ww gg rr ii nx yr kn ss sc sn sg pd pk po pt pm pa wp ex on ot tw tg tr uw ug ur ui un uy uk us uc um uf zw zg zr zi zn zy zk zs zc zm zf kp ik) : o_X9_parish pa sg wp ex t1 t2 t3 t4 t5 ti tn ty ii nx yr ww tw gg tg rr tr pk po pt pm a1 ∧ o_X10_parish ii nx yr sg mn me m1 m2 m3 m4 mq gg ww rr pd mo ma mh mu a1 ∧ (f_X9_parish pa sg wp ex t1 t2 t3 t4 t5 ti tn ty ii nx yr ww tw gg tg rr tr pk po pt pm a1).1 = (f_X10_parish ii nx yr sg mc mn me m1 m2 m3 m4 mq gg ww rr pd mo ma mh mu a1).1 ∧ (f_X10_parish ii nx yr sg mc mn me m1 m2 m3 m4 mq gg ww rr pd mo ma mh mu a1).2.2.2.2.2.2.2.2.2.2.2.2.2.1 = ww ∧ (f_X10_parish ii nx yr sg mc mn me m1 m2 m3 m4 mq gg ww rr pd mo ma mh mu a1).2.2.2.2.2.2.2.2.2.2.2.2.1 = gg ∧ (f_X10_parish ii nx yr sg mc mn me m1 m2 m3 m4 mq gg ww rr pd mo ma mh mu a1).2.2.2.2.2.2.2.2.2.2.2.2.2.2.1 = rr ∧ (f_X10_parish ii nx yr sg mc mn me m1 m2 m3 m4 mq gg ww rr pd mo ma mh mu a1).2.1 = ii ∧ (f_X10_parish ii nx yr sg mc mn me m1 m2 m3 m4 mq gg ww rr pd mo ma mh mu a1).2.2.1 = nx ∧ (f_X10_parish ii nx yr sg mc mn me m1 m2 m3 m4 mq gg ww rr pd mo ma mh mu a1).2.2.2.1 = yr ∧ RA ww gg rr ii nx yr kn ss sc sn sg pd pk po pt pm pa wp ex on ot ((f_X9_parish pa sg wp ex t1 t2 t3 t4 t5 ti tn ty ii nx yr ww tw gg tg rr tr pk po pt pm a1).2.2.2.2.2.2.2.2.2.1) ((f_X9_parish pa sg wp ex t1 t2 t3 t4 t5 ti tn ty ii nx yr ww tw gg tg rr tr pk po pt pm a1).2.2.2.2.2.2.2.2.2.2.1) ((f_X9_parish pa sg wp ex t1 t2 t3 t4 t5 ti tn ty ii nx yr ww tw gg tg rr tr pk po pt pm a1).2.2.2.2.2.2.2.2.2.2.2) uw ug ur ui un uy uk us uc um uf zw zg zr zi zn zy zk zs zc zm zf kp ik := by
  obtain ⟨hP, hK, hp, ht, hu, hz⟩ := h
  have hP0 := hP
  have ht0 := ht
  obtain ⟨p1, p2, p3, p4⟩ := hP
  by_cases q : f_X9_within a1 0 4 = 0
  · have ex : (f_X9_parish pa sg wp ex t1 t2 t3 t4 t5 ti tn ty ii nx yr ww tw gg tg rr tr pk po pt pm a1) = ((-2 : Int32), t1, t2, t3, t4, t5, ti, tn, ty, tw, tg, tr) := by
      unfold f_X9_parish
      rw [if_pos q]
    have em : (f_X10_parish ii nx yr sg mc mn me m1 m2 m3 m4 mq gg ww rr pd mo ma mh mu a1) = ((-2 : Int32), ii, nx, yr, mc, mn, me, m1, m2, m3, m4, mq, gg, ww, rr, mo, ma, mh, mu) := by
      unfold f_X10_parish
      rw [in_0_4, if_pos q]
    rw [ex, em]
    refine ⟨?_, ?_, rfl, rfl, rfl, rfl, rfl, rfl, rfl, hP0, hK, hp, ht0, hu, hz⟩
    · unfold o_X9_parish
      rw [if_pos q]
      trivial
    · unfold o_X10_parish
      rw [in_0_4, if_pos q]
      trivial
  · obtain ⟨z, _, zl, rfl⟩ := wi_nat (x := 0) (y := 4) (by decide) (by decide) q
    rcases tt_ ii hP0 hp ht t1 t2 t3 t4 t5 ti tn ty mn me m1 m2 m3 m4 mq mo ma mh mu with ⟨⟨o1, o2⟩, ⟨ac, mo', ma', mh', mu', eT, eM⟩ | ⟨wa, re, gf, fa, fh, en, I, N, Y, W, G, R, mo', ma', mh', mu', eT, eM, hP1⟩⟩
    · have ex : (f_X9_parish pa sg wp ex t1 t2 t3 t4 t5 ti tn ty ii nx yr ww tw gg tg rr tr pk po pt pm (nI z)) = ((-5 : Int32), t1, t2, t3, t4, t5, ti, tn, ty, tw, tg, tr) := by
        unfold f_X9_parish
        rw [if_neg q, lt_c eT] <;> rfl
      have em : (f_X10_parish ii nx yr sg mc mn me m1 m2 m3 m4 mq gg ww rr pd mo ma mh mu (nI z)) = ((-5 : Int32), ii, nx, yr, ac, mn, me, m1, m2, m3, m4, f_X10_keepNow ii nx yr mq gg ww rr, gg, ww, rr, mo', ma', mh', mu') := by
        unfold f_X10_parish
        rw [in_0_4, if_neg q, lt_c eM]
        dsimp only
        rw [if_neg (by decide), lt_c (bk_ p2 p1 p3 p2 p1 p3 _)] <;> rfl
      rw [ex, em]
      refine ⟨?_, ?_, rfl, rfl, rfl, rfl, rfl, rfl, rfl, hP0, hK, hp, ht0, hu, hz⟩
      · unfold o_X9_parish
        rw [if_neg q]
        refine ⟨o1, ?_⟩
        rw [lt_c eT]
        trivial
      · unfold o_X10_parish
        rw [in_0_4, if_neg q]
        refine ⟨o2, ?_⟩
        rw [lt_c eM]
        exact ⟨bk_ok _ _ _ _, trivial⟩
    · by_cases w6 : wa = -6
      · rw [if_pos w6] at eT eM
        have poo := po_ok hP1.2.2.2.1 W 7 1 (R 0) (by decide) (hP1.2.2.2.1.1 0 (by decide))
        have hzz : z = 0 ∨ z = 1 ∨ z = 2 ∨ z = 3 ∨ z = 4 := by omega
        rcases hzz with rfl | rfl | rfl | rfl | rfl
        · have ex : (f_X9_parish pa sg wp ex t1 t2 t3 t4 t5 ti tn ty ii nx yr ww tw gg tg rr tr pk po pt pm (nI 0)) = (I, wa, re, gf, fa, fh, I, N, Y, W, G, R) := by
            unfold f_X9_parish
            rw [if_neg q, lt_c eT] <;> rfl
          have em : (f_X10_parish ii nx yr sg mc mn me m1 m2 m3 m4 mq gg ww rr pd mo ma mh mu (nI 0)) = (I, ii, nx, yr, pa, gf, en, wa, re, fa, fh, f_X10_keepNow ii nx yr mq gg ww rr, gg, ww, rr, mo', ma', mh', mu') := by
            unfold f_X10_parish
            rw [in_0_4, if_neg q, lt_c eM]
            dsimp only
            rw [if_pos rfl, lt_c (show f_X10_ofParish I N Y R W (nI 0) = I from rfl), lt_c (bk_ p2 p1 p3 hP1.2.1 hP1.1 hP1.2.2.1 _)] <;> rfl
          rw [ex, em]
          refine ⟨?_, ?_, rfl, rfl, rfl, rfl, rfl, rfl, rfl, hP0, hK, hp, ⟨hP1.1, hP1.2.1, hP1.2.2.1⟩, hu, hz⟩
          · unfold o_X9_parish
            rw [if_neg q]
            refine ⟨o1, ?_⟩
            rw [lt_c eT]
            trivial
          · unfold o_X10_parish
            rw [in_0_4, if_neg q]
            refine ⟨o2, ?_⟩
            rw [lt_c eM]
            exact ⟨trivial, bk_ok _ _ _ _, trivial⟩
        · have ex : (f_X9_parish pa sg wp ex t1 t2 t3 t4 t5 ti tn ty ii nx yr ww tw gg tg rr tr pk po pt pm (nI 1)) = ((f_X5_wealthInAll W), wa, re, gf, fa, fh, I, N, Y, W, G, R) := by
            unfold f_X9_parish
            rw [if_neg q, lt_c eT] <;> rfl
          have em : (f_X10_parish ii nx yr sg mc mn me m1 m2 m3 m4 mq gg ww rr pd mo ma mh mu (nI 1)) = ((f_X5_wealthInAll W), ii, nx, yr, pa, gf, en, wa, re, fa, fh, f_X10_keepNow ii nx yr mq gg ww rr, gg, ww, rr, mo', ma', mh', mu') := by
            unfold f_X10_parish
            rw [in_0_4, if_neg q, lt_c eM]
            dsimp only
            rw [if_pos rfl, lt_c (show f_X10_ofParish I N Y R W (nI 1) = (f_X5_wealthInAll W) from rfl), lt_c (bk_ p2 p1 p3 hP1.2.1 hP1.1 hP1.2.2.1 _)] <;> rfl
          rw [ex, em]
          refine ⟨?_, ?_, rfl, rfl, rfl, rfl, rfl, rfl, rfl, hP0, hK, hp, ⟨hP1.1, hP1.2.1, hP1.2.2.1⟩, hu, hz⟩
          · unfold o_X9_parish
            rw [if_neg q]
            refine ⟨o1, ?_⟩
            rw [lt_c eT]
            trivial
          · unfold o_X10_parish
            rw [in_0_4, if_neg q]
            refine ⟨o2, ?_⟩
            rw [lt_c eM]
            exact ⟨trivial, bk_ok _ _ _ _, trivial⟩
        · have ex : (f_X9_parish pa sg wp ex t1 t2 t3 t4 t5 ti tn ty ii nx yr ww tw gg tg rr tr pk po pt pm (nI 2)) = (N, wa, re, gf, fa, fh, I, N, Y, W, G, R) := by
            unfold f_X9_parish
            rw [if_neg q, lt_c eT] <;> rfl
          have em : (f_X10_parish ii nx yr sg mc mn me m1 m2 m3 m4 mq gg ww rr pd mo ma mh mu (nI 2)) = (N, ii, nx, yr, pa, gf, en, wa, re, fa, fh, f_X10_keepNow ii nx yr mq gg ww rr, gg, ww, rr, mo', ma', mh', mu') := by
            unfold f_X10_parish
            rw [in_0_4, if_neg q, lt_c eM]
            dsimp only
            rw [if_pos rfl, lt_c (show f_X10_ofParish I N Y R W (nI 2) = N from rfl), lt_c (bk_ p2 p1 p3 hP1.2.1 hP1.1 hP1.2.2.1 _)] <;> rfl
          rw [ex, em]
          refine ⟨?_, ?_, rfl, rfl, rfl, rfl, rfl, rfl, rfl, hP0, hK, hp, ⟨hP1.1, hP1.2.1, hP1.2.2.1⟩, hu, hz⟩
          · unfold o_X9_parish
            rw [if_neg q]
            refine ⟨o1, ?_⟩
            rw [lt_c eT]
            trivial
          · unfold o_X10_parish
            rw [in_0_4, if_neg q]
            refine ⟨o2, ?_⟩
            rw [lt_c eM]
            exact ⟨trivial, bk_ok _ _ _ _, trivial⟩
        · have ex : (f_X9_parish pa sg wp ex t1 t2 t3 t4 t5 ti tn ty ii nx yr ww tw gg tg rr tr pk po pt pm (nI 3)) = (Y, wa, re, gf, fa, fh, I, N, Y, W, G, R) := by
            unfold f_X9_parish
            rw [if_neg q, lt_c eT] <;> rfl
          have em : (f_X10_parish ii nx yr sg mc mn me m1 m2 m3 m4 mq gg ww rr pd mo ma mh mu (nI 3)) = (Y, ii, nx, yr, pa, gf, en, wa, re, fa, fh, f_X10_keepNow ii nx yr mq gg ww rr, gg, ww, rr, mo', ma', mh', mu') := by
            unfold f_X10_parish
            rw [in_0_4, if_neg q, lt_c eM]
            dsimp only
            rw [if_pos rfl, lt_c (show f_X10_ofParish I N Y R W (nI 3) = Y from rfl), lt_c (bk_ p2 p1 p3 hP1.2.1 hP1.1 hP1.2.2.1 _)] <;> rfl
          rw [ex, em]
          refine ⟨?_, ?_, rfl, rfl, rfl, rfl, rfl, rfl, rfl, hP0, hK, hp, ⟨hP1.1, hP1.2.1, hP1.2.2.1⟩, hu, hz⟩
          · unfold o_X9_parish
            rw [if_neg q]
            refine ⟨o1, ?_⟩
            rw [lt_c eT]
            trivial
          · unfold o_X10_parish
            rw [in_0_4, if_neg q]
            refine ⟨o2, ?_⟩
            rw [lt_c eM]
            exact ⟨trivial, bk_ok _ _ _ _, trivial⟩
        · have ex : (f_X9_parish pa sg wp ex t1 t2 t3 t4 t5 ti tn ty ii nx yr ww tw gg tg rr tr pk po pt pm (nI 4)) = ((f_X5_poorest R W), wa, re, gf, fa, fh, I, N, Y, W, G, R) := by
            unfold f_X9_parish
            rw [if_neg q, lt_c eT] <;> rfl
          have em : (f_X10_parish ii nx yr sg mc mn me m1 m2 m3 m4 mq gg ww rr pd mo ma mh mu (nI 4)) = ((f_X5_poorest R W), ii, nx, yr, pa, gf, en, wa, re, fa, fh, f_X10_keepNow ii nx yr mq gg ww rr, gg, ww, rr, mo', ma', mh', mu') := by
            unfold f_X10_parish
            rw [in_0_4, if_neg q, lt_c eM]
            dsimp only
            rw [if_pos rfl, lt_c (show f_X10_ofParish I N Y R W (nI 4) = (f_X5_poorest R W) from (po_eq hP1.2.2.2.1 W).symm), lt_c (bk_ p2 p1 p3 hP1.2.1 hP1.1 hP1.2.2.1 _)] <;> rfl
          rw [ex, em]
          refine ⟨?_, ?_, rfl, rfl, rfl, rfl, rfl, rfl, rfl, hP0, hK, hp, ⟨hP1.1, hP1.2.1, hP1.2.2.1⟩, hu, hz⟩
          · unfold o_X9_parish
            rw [if_neg q]
            refine ⟨o1, ?_⟩
            rw [lt_c eT]
            exact ⟨⟨poo.1, trivial⟩, trivial⟩
          · unfold o_X10_parish
            rw [in_0_4, if_neg q]
            refine ⟨o2, ?_⟩
            rw [lt_c eM]
            exact ⟨⟨⟨poo.2, trivial⟩, trivial⟩, bk_ok _ _ _ _, trivial⟩
      · rw [if_neg w6] at eT eM
        have ex : (f_X9_parish pa sg wp ex t1 t2 t3 t4 t5 ti tn ty ii nx yr ww tw gg tg rr tr pk po pt pm (nI z)) = ((-3 : Int32), wa, re, gf, fa, fh, I, N, Y, W, G, R) := by
          unfold f_X9_parish
          rw [if_neg q, lt_c eT] <;> rfl
        have em : (f_X10_parish ii nx yr sg mc mn me m1 m2 m3 m4 mq gg ww rr pd mo ma mh mu (nI z)) = ((-3 : Int32), ii, nx, yr, pa, gf, en, wa, re, fa, fh, f_X10_keepNow ii nx yr mq gg ww rr, gg, ww, rr, mo', ma', mh', mu') := by
          unfold f_X10_parish
          rw [in_0_4, if_neg q, lt_c eM]
          dsimp only
          rw [if_neg (by decide), lt_c (bk_ p2 p1 p3 hP1.2.1 hP1.1 hP1.2.2.1 _)] <;> rfl
        rw [ex, em]
        refine ⟨?_, ?_, rfl, rfl, rfl, rfl, rfl, rfl, rfl, hP0, hK, hp, ⟨hP1.1, hP1.2.1, hP1.2.2.1⟩, hu, hz⟩
        · unfold o_X9_parish
          rw [if_neg q]
          refine ⟨o1, ?_⟩
          rw [lt_c eT]
          trivial
        · unfold o_X10_parish
          rw [in_0_4, if_neg q]
          refine ⟨o2, ?_⟩
          rw [lt_c eM]
          exact ⟨bk_ok _ _ _ _, trivial⟩
