/-! IMAGE, RESTORE -/
set_option maxHeartbeats 4000000 in
theorem Q_image (ww : Nat → Int32) (gg : Nat → Int32) (rr : Nat → Int32) (ii : Int32) (nx : Int32) (yr : Int32) (kn : Nat → Int32) (ss : Nat → Int32) (sc : Nat → Int32) (sn : Int32) (sg : Int32) (pd : Nat → Int32) (pk : Nat → Int32) (po : Nat → Int32) (pt : Nat → Int32) (pm : Nat → Int32) (pa : Int32) (wp : Int32) (ex : Int32) (on : Int32) (ot : Int32) (tw : Nat → Int32) (tg : Nat → Int32) (tr : Nat → Int32) (uw : Nat → Int32) (ug : Nat → Int32) (ur : Nat → Int32) (ui : Int32) (un : Int32) (uy : Int32) (uk : Nat → Int32) (us : Nat → Int32) (uc : Nat → Int32) (um : Int32) (uf : Int32) (zw : Nat → Int32) (zg : Nat → Int32) (zr : Nat → Int32) (zi : Int32) (zn : Int32) (zy : Int32) (zk : Nat → Int32) (zs : Nat → Int32) (zc : Nat → Int32) (zm : Int32) (zf : Int32) (kp : Nat → Int32) (ik : Nat → Int32) (m6 : Int32) (m7 : Int32) (a1 : Int32) (h : RA ww gg rr ii nx yr kn ss sc sn sg pd pk po pt pm pa wp ex on ot tw tg tr uw ug ur ui un uy uk us uc um uf zw zg zr zi zn zy zk zs zc zm zf kp ik) : o_X10_image ii nx yr sn kp ww gg rr kn ss sc a1 ∧ (f_X9_image zf zi zn zy ii nx yr ww zw gg zg rr zr kn zk zm sn ss zs sc zc uf ui un uy uw ug ur uk um us uc a1).1 = (f_X10_image ii nx yr sn m6 m7 kp ww gg rr kn ss sc ik a1).1 ∧ (f_X10_image ii nx yr sn m6 m7 kp ww gg rr kn ss sc ik a1).2.2.2.2.2.2.2.2.1 = ww ∧ (f_X10_image ii nx yr sn m6 m7 kp ww gg rr kn ss sc ik a1).2.2.2.2.2.2.2.2.2.1 = gg ∧ (f_X10_image ii nx yr sn m6 m7 kp ww gg rr kn ss sc ik a1).2.2.2.2.2.2.2.2.2.2.1 = rr ∧ (f_X10_image ii nx yr sn m6 m7 kp ww gg rr kn ss sc ik a1).2.1 = ii ∧ (f_X10_image ii nx yr sn m6 m7 kp ww gg rr kn ss sc ik a1).2.2.1 = nx ∧ (f_X10_image ii nx yr sn m6 m7 kp ww gg rr kn ss sc ik a1).2.2.2.1 = yr ∧ (f_X10_image ii nx yr sn m6 m7 kp ww gg rr kn ss sc ik a1).2.2.2.2.2.2.2.2.2.2.2.1 = kn ∧ (f_X10_image ii nx yr sn m6 m7 kp ww gg rr kn ss sc ik a1).2.2.2.2.2.2.2.2.2.2.2.2.1 = ss ∧ (f_X10_image ii nx yr sn m6 m7 kp ww gg rr kn ss sc ik a1).2.2.2.2.2.2.2.2.2.2.2.2.2.1 = sc ∧ (f_X10_image ii nx yr sn m6 m7 kp ww gg rr kn ss sc ik a1).2.2.2.2.1 = sn ∧ RA ww gg rr ii nx yr kn ss sc sn sg pd pk po pt pm pa wp ex on ot tw tg tr ((f_X9_image zf zi zn zy ii nx yr ww zw gg zg rr zr kn zk zm sn ss zs sc zc uf ui un uy uw ug ur uk um us uc a1).2.2.2.2.2.2.2.2.2.2.2.2.2.2.2.2.1) ((f_X9_image zf zi zn zy ii nx yr ww zw gg zg rr zr kn zk zm sn ss zs sc zc uf ui un uy uw ug ur uk um us uc a1).2.2.2.2.2.2.2.2.2.2.2.2.2.2.2.2.2.1) ((f_X9_image zf zi zn zy ii nx yr ww zw gg zg rr zr kn zk zm sn ss zs sc zc uf ui un uy uw ug ur uk um us uc a1).2.2.2.2.2.2.2.2.2.2.2.2.2.2.2.2.2.2.1) ((f_X9_image zf zi zn zy ii nx yr ww zw gg zg rr zr kn zk zm sn ss zs sc zc uf ui un uy uw ug ur uk um us uc a1).2.2.2.2.2.2.2.2.2.2.2.2.2.1) ((f_X9_image zf zi zn zy ii nx yr ww zw gg zg rr zr kn zk zm sn ss zs sc zc uf ui un uy uw ug ur uk um us uc a1).2.2.2.2.2.2.2.2.2.2.2.2.2.2.1) ((f_X9_image zf zi zn zy ii nx yr ww zw gg zg rr zr kn zk zm sn ss zs sc zc uf ui un uy uw ug ur uk um us uc a1).2.2.2.2.2.2.2.2.2.2.2.2.2.2.2.1) ((f_X9_image zf zi zn zy ii nx yr ww zw gg zg rr zr kn zk zm sn ss zs sc zc uf ui un uy uw ug ur uk um us uc a1).2.2.2.2.2.2.2.2.2.2.2.2.2.2.2.2.2.2.2.1) ((f_X9_image zf zi zn zy ii nx yr ww zw gg zg rr zr kn zk zm sn ss zs sc zc uf ui un uy uw ug ur uk um us uc a1).2.2.2.2.2.2.2.2.2.2.2.2.2.2.2.2.2.2.2.2.2.1) ((f_X9_image zf zi zn zy ii nx yr ww zw gg zg rr zr kn zk zm sn ss zs sc zc uf ui un uy uw ug ur uk um us uc a1).2.2.2.2.2.2.2.2.2.2.2.2.2.2.2.2.2.2.2.2.2.2) ((f_X9_image zf zi zn zy ii nx yr ww zw gg zg rr zr kn zk zm sn ss zs sc zc uf ui un uy uw ug ur uk um us uc a1).2.2.2.2.2.2.2.2.2.2.2.2.2.2.2.2.2.2.2.2.1) ((f_X9_image zf zi zn zy ii nx yr ww zw gg zg rr zr kn zk zm sn ss zs sc zc uf ui un uy uw ug ur uk um us uc a1).2.2.2.2.2.2.2.2.2.2.2.2.1) ((f_X9_image zf zi zn zy ii nx yr ww zw gg zg rr zr kn zk zm sn ss zs sc zc uf ui un uy uw ug ur uk um us uc a1).2.2.2.2.2.1) ((f_X9_image zf zi zn zy ii nx yr ww zw gg zg rr zr kn zk zm sn ss zs sc zc uf ui un uy uw ug ur uk um us uc a1).2.2.2.2.2.2.1) ((f_X9_image zf zi zn zy ii nx yr ww zw gg zg rr zr kn zk zm sn ss zs sc zc uf ui un uy uw ug ur uk um us uc a1).2.2.2.2.2.2.2.1) ((f_X9_image zf zi zn zy ii nx yr ww zw gg zg rr zr kn zk zm sn ss zs sc zc uf ui un uy uw ug ur uk um us uc a1).2.2.1) ((f_X9_image zf zi zn zy ii nx yr ww zw gg zg rr zr kn zk zm sn ss zs sc zc uf ui un uy uw ug ur uk um us uc a1).2.2.2.1) ((f_X9_image zf zi zn zy ii nx yr ww zw gg zg rr zr kn zk zm sn ss zs sc zc uf ui un uy uw ug ur uk um us uc a1).2.2.2.2.1) ((f_X9_image zf zi zn zy ii nx yr ww zw gg zg rr zr kn zk zm sn ss zs sc zc uf ui un uy uw ug ur uk um us uc a1).2.2.2.2.2.2.2.2.1) ((f_X9_image zf zi zn zy ii nx yr ww zw gg zg rr zr kn zk zm sn ss zs sc zc uf ui un uy uw ug ur uk um us uc a1).2.2.2.2.2.2.2.2.2.2.1) ((f_X9_image zf zi zn zy ii nx yr ww zw gg zg rr zr kn zk zm sn ss zs sc zc uf ui un uy uw ug ur uk um us uc a1).2.2.2.2.2.2.2.2.2.2.2.1) ((f_X9_image zf zi zn zy ii nx yr ww zw gg zg rr zr kn zk zm sn ss zs sc zc uf ui un uy uw ug ur uk um us uc a1).2.2.2.2.2.2.2.2.2.1) ((f_X9_image zf zi zn zy ii nx yr ww zw gg zg rr zr kn zk zm sn ss zs sc zc uf ui un uy uw ug ur uk um us uc a1).2.1) ((f_X10_image ii nx yr sn m6 m7 kp ww gg rr kn ss sc ik a1).2.2.2.2.2.2.2.1) ((f_X10_image ii nx yr sn m6 m7 kp ww gg rr kn ss sc ik a1).2.2.2.2.2.2.2.2.2.2.2.2.2.2) := by
  obtain ⟨hP, hK, hp, ht, hu, hz⟩ := h
  obtain ⟨p1, p2, p3, p4⟩ := hP
  obtain ⟨k1, k2, k3, k4, k5, k6⟩ := hK
  obtain ⟨u1, u2, u3, u4, u5, u6, u7, u8, u9⟩ := hu
  obtain ⟨z1, z2, z3, z4, z5, z6, z7, z8, z9⟩ := hz
  by_cases q : f_X9_within a1 0 1 = 0
  · have ex : (f_X9_image zf zi zn zy ii nx yr ww zw gg zg rr zr kn zk zm sn ss zs sc zc uf ui un uy uw ug ur uk um us uc a1) = ((-2 : Int32), zf, zi, zn, zy, zw, zg, zr, zk, zm, zs, zc, uf, ui, un, uy, uw, ug, ur, uk, um, us, uc) := by
      unfold f_X9_image
      rw [if_pos q]
    have em : (f_X10_image ii nx yr sn m6 m7 kp ww gg rr kn ss sc ik a1) = ((-2 : Int32), ii, nx, yr, sn, m6, m7, kp, ww, gg, rr, kn, ss, sc, ik) := by
      unfold f_X10_image
      rw [in_0_1, if_pos q]
    rw [ex, em]
    refine ⟨?_, rfl, rfl, rfl, rfl, rfl, rfl, rfl, rfl, rfl, rfl, rfl, ⟨p1, p2, p3, p4⟩, ⟨k1, k2, k3, k4, k5, k6⟩, hp, ht, ⟨u1, u2, u3, u4, u5, u6, u7, u8, u9⟩, z1, z2, z3, z4, z5, z6, z7, z8, z9⟩
    unfold o_X10_image
    rw [in_0_1, if_pos q]
    trivial
  · obtain ⟨z, _, zl, rfl⟩ := wi_nat (x := 0) (y := 1) (by decide) (by decide) q
    have hzz : z = 0 ∨ z = 1 := by omega
    rcases hzz with rfl | rfl
    · have ex : (f_X9_image zf zi zn zy ii nx yr ww zw gg zg rr zr kn zk zm sn ss zs sc zc uf ui un uy uw ug ur uk um us uc (nI 0)) = ((1 : Int32), zf, zi, zn, zy, zw, zg, zr, zk, zm, zs, zc, 1, ii, nx, yr, ww, gg, rr, kn, sn, ss, sc) := by
        unfold f_X9_image
        rw [if_neg q, if_pos (show nI 0 = 0 from rfl)]
        dsimp only [lt, f_X5_copyFrom, f_X3_copyFrom, f_X7_copyFrom]
        rw [cpy_tl p1 u1, cpy_tl p2 u2, cpy_tl p3 u3, cpy_tl k1 u4, cpy_tl k3 u5, cpy_tl k5 u6]
      have e120 : (120 : Int32) * nI 0 = nI (120 * 0) := by decide
      have em : (f_X10_image ii nx yr sn m6 m7 kp ww gg rr kn ss sc ik (nI 0)) = ((1 : Int32), ii, nx, yr, sn, nI (120 * 0 + 108), 1, (kpW kp (120 * 0) ww gg rr ii nx yr kn ss sc sn), ww, gg, rr, kn, ss, sc, (upd ik 0 1)) := by
        unfold f_X10_image
        rw [in_0_1, if_neg q, e120, lt_c (pa_w (t := 120 * 0) (by decide) kp ww gg rr ii nx yr kn ss sc sn)]
        dsimp only
        rw [show vp_nar .boolean 1 = 1 by decide, show (nI 0).toNatClampNeg = 0 by decide]
      rw [ex, em]
      refine ⟨?_, rfl, rfl, rfl, rfl, rfl, rfl, rfl, rfl, rfl, rfl, rfl, ⟨p1, p2, p3, p4⟩, ⟨k1, k2, k3, k4, k5, k6⟩, hp, ht, ⟨p1, p2, p3, k1, k3, k5, (show upd ik 0 1 0 = 1 from pk_us), Or.inr rfl, fun _ => ⟨⟨p1, p2, p3, p4⟩, ⟨k1, k2, k3, k4, k5, k6⟩, fun k hk => kpW_in hk kp ww gg rr ii nx yr kn ss sc sn⟩⟩, ⟨z1, z2, z3, z4, z5, z6, (show upd ik 0 1 1 = zf from (pk_un (by decide)).trans z7), z8, fun e => ⟨(z9 e).1, (z9 e).2.1, fun k hk => (kpW_out (by omega) kp ww gg rr ii nx yr kn ss sc sn).trans ((z9 e).2.2 k hk)⟩⟩⟩
      unfold o_X10_image
      rw [in_0_1, if_neg q, e120]
      refine ⟨pa_wok (by decide) kp ww gg rr ii nx yr kn ss sc sn, ?_⟩
      rw [lt_c (pa_w (t := 120 * 0) (by decide) kp ww gg rr ii nx yr kn ss sc sn)]
      exact ⟨vp_in_nI (by decide) (by decide), trivial⟩
    · have ex : (f_X9_image zf zi zn zy ii nx yr ww zw gg zg rr zr kn zk zm sn ss zs sc zc uf ui un uy uw ug ur uk um us uc (nI 1)) = ((1 : Int32), 1, ii, nx, yr, ww, gg, rr, kn, sn, ss, sc, uf, ui, un, uy, uw, ug, ur, uk, um, us, uc) := by
        unfold f_X9_image
        rw [if_neg q, if_neg (show ¬ nI 1 = 0 by decide)]
        dsimp only [lt, f_X5_copyFrom, f_X3_copyFrom, f_X7_copyFrom]
        rw [cpy_tl p1 z1, cpy_tl p2 z2, cpy_tl p3 z3, cpy_tl k1 z4, cpy_tl k3 z5, cpy_tl k5 z6]
      have e120 : (120 : Int32) * nI 1 = nI (120 * 1) := by decide
      have em : (f_X10_image ii nx yr sn m6 m7 kp ww gg rr kn ss sc ik (nI 1)) = ((1 : Int32), ii, nx, yr, sn, nI (120 * 1 + 108), 1, (kpW kp (120 * 1) ww gg rr ii nx yr kn ss sc sn), ww, gg, rr, kn, ss, sc, (upd ik 1 1)) := by
        unfold f_X10_image
        rw [in_0_1, if_neg q, e120, lt_c (pa_w (t := 120 * 1) (by decide) kp ww gg rr ii nx yr kn ss sc sn)]
        dsimp only
        rw [show vp_nar .boolean 1 = 1 by decide, show (nI 1).toNatClampNeg = 1 by decide]
      rw [ex, em]
      refine ⟨?_, rfl, rfl, rfl, rfl, rfl, rfl, rfl, rfl, rfl, rfl, rfl, ⟨p1, p2, p3, p4⟩, ⟨k1, k2, k3, k4, k5, k6⟩, hp, ht, ⟨u1, u2, u3, u4, u5, u6, (show upd ik 1 1 0 = uf from (pk_un (by decide)).trans u7), u8, fun e => ⟨(u9 e).1, (u9 e).2.1, fun k hk => (kpW_out (by omega) kp ww gg rr ii nx yr kn ss sc sn).trans ((u9 e).2.2 k hk)⟩⟩, ⟨p1, p2, p3, k1, k3, k5, (show upd ik 1 1 1 = 1 from pk_us), Or.inr rfl, fun _ => ⟨⟨p1, p2, p3, p4⟩, ⟨k1, k2, k3, k4, k5, k6⟩, fun k hk => kpW_in hk kp ww gg rr ii nx yr kn ss sc sn⟩⟩⟩
      unfold o_X10_image
      rw [in_0_1, if_neg q, e120]
      refine ⟨pa_wok (by decide) kp ww gg rr ii nx yr kn ss sc sn, ?_⟩
      rw [lt_c (pa_w (t := 120 * 1) (by decide) kp ww gg rr ii nx yr kn ss sc sn)]
      exact ⟨vp_in_nI (by decide) (by decide), trivial⟩
theorem seg_kp {n : Nat} {src d : Nat → Int32} {a : Nat → Int32} (hs : tl n src) (ha : tl n a) (he : ∀ j, j < n → d j = a j) : seg src 0 n d = a := by
  funext k
  unfold seg
  by_cases q : k < n
  · rw [if_pos (by omega), Nat.sub_zero]
    exact he k q
  · rw [if_neg (by omega), hs k (by omega), ha k (by omega)]
theorem enc_w {w g r : Nat → Int32} {i n y : Int32} {kn ss sc : Nat → Int32} {sn : Int32} {j : Nat} (h : j < 8) : enc w g r i n y kn ss sc sn (4 + j) = w j := by
  unfold enc
  rw [if_neg (by omega), if_neg (by omega), if_neg (by omega), if_neg (by omega), if_pos (by omega), show 4 + j - 4 = j by omega]
theorem enc_g {w g r : Nat → Int32} {i n y : Int32} {kn ss sc : Nat → Int32} {sn : Int32} {j : Nat} (h : j < 64) : enc w g r i n y kn ss sc sn (12 + j) = g j := by
  unfold enc
  rw [if_neg (by omega), if_neg (by omega), if_neg (by omega), if_neg (by omega), if_neg (by omega), if_pos (by omega), show 12 + j - 12 = j by omega]
theorem enc_r {w g r : Nat → Int32} {i n y : Int32} {kn ss sc : Nat → Int32} {sn : Int32} {j : Nat} (h : j < 8) : enc w g r i n y kn ss sc sn (76 + j) = r j := by
  unfold enc
  rw [if_neg (by omega), if_neg (by omega), if_neg (by omega), if_neg (by omega), if_neg (by omega), if_neg (by omega), if_pos (by omega), show 76 + j - 76 = j by omega]
theorem enc_kn {w g r : Nat → Int32} {i n y : Int32} {kn ss sc : Nat → Int32} {sn : Int32} {j : Nat} (h : j < 8) : enc w g r i n y kn ss sc sn (84 + j) = kn j := by
  unfold enc
  rw [if_neg (by omega), if_neg (by omega), if_neg (by omega), if_neg (by omega), if_neg (by omega), if_neg (by omega), if_neg (by omega), if_pos (by omega), show 84 + j - 84 = j by omega]
theorem enc_ss {w g r : Nat → Int32} {i n y : Int32} {kn ss sc : Nat → Int32} {sn : Int32} {j : Nat} (h : j < 8) : enc w g r i n y kn ss sc sn (92 + j) = ss j := by
  unfold enc
  rw [if_neg (by omega), if_neg (by omega), if_neg (by omega), if_neg (by omega), if_neg (by omega), if_neg (by omega), if_neg (by omega), if_neg (by omega), if_pos (by omega), show 92 + j - 92 = j by omega]
theorem enc_sc {w g r : Nat → Int32} {i n y : Int32} {kn ss sc : Nat → Int32} {sn : Int32} {j : Nat} (h : j < 8) : enc w g r i n y kn ss sc sn (100 + j) = sc j := by
  unfold enc
  rw [if_neg (by omega), if_neg (by omega), if_neg (by omega), if_neg (by omega), if_neg (by omega), if_neg (by omega), if_neg (by omega), if_neg (by omega), if_neg (by omega), show 100 + j - 100 = j by omega]
set_option maxHeartbeats 4000000 in
theorem Q_restore (ww : Nat → Int32) (gg : Nat → Int32) (rr : Nat → Int32) (ii : Int32) (nx : Int32) (yr : Int32) (kn : Nat → Int32) (ss : Nat → Int32) (sc : Nat → Int32) (sn : Int32) (sg : Int32) (pd : Nat → Int32) (pk : Nat → Int32) (po : Nat → Int32) (pt : Nat → Int32) (pm : Nat → Int32) (pa : Int32) (wp : Int32) (ex : Int32) (on : Int32) (ot : Int32) (tw : Nat → Int32) (tg : Nat → Int32) (tr : Nat → Int32) (uw : Nat → Int32) (ug : Nat → Int32) (ur : Nat → Int32) (ui : Int32) (un : Int32) (uy : Int32) (uk : Nat → Int32) (us : Nat → Int32) (uc : Nat → Int32) (um : Int32) (uf : Int32) (zw : Nat → Int32) (zg : Nat → Int32) (zr : Nat → Int32) (zi : Int32) (zn : Int32) (zy : Int32) (zk : Nat → Int32) (zs : Nat → Int32) (zc : Nat → Int32) (zm : Int32) (zf : Int32) (kp : Nat → Int32) (ik : Nat → Int32) (m6 : Int32) (m7 : Int32) (a1 : Int32) (h : RA ww gg rr ii nx yr kn ss sc sn sg pd pk po pt pm pa wp ex on ot tw tg tr uw ug ur ui un uy uk us uc um uf zw zg zr zi zn zy zk zs zc zm zf kp ik) : o_X10_restore ii nx yr sn ik kp ww gg rr kn ss sc a1 ∧ (f_X9_restore zf ii nx yr zi zn zy zw ww zg gg zr rr zk kn sn zm zs ss zc sc uf ui un uy uw ug ur uk um us uc a1).1 = (f_X10_restore ii nx yr sn m6 m7 ik kp ww gg rr kn ss sc a1).1 ∧ (f_X10_restore ii nx yr sn m6 m7 ik kp ww gg rr kn ss sc a1).2.2.2.2.2.2.2.2.1 = (f_X9_restore zf ii nx yr zi zn zy zw ww zg gg zr rr zk kn sn zm zs ss zc sc uf ui un uy uw ug ur uk um us uc a1).2.2.2.2.1 ∧ (f_X10_restore ii nx yr sn m6 m7 ik kp ww gg rr kn ss sc a1).2.2.2.2.2.2.2.2.2.1 = (f_X9_restore zf ii nx yr zi zn zy zw ww zg gg zr rr zk kn sn zm zs ss zc sc uf ui un uy uw ug ur uk um us uc a1).2.2.2.2.2.1 ∧ (f_X10_restore ii nx yr sn m6 m7 ik kp ww gg rr kn ss sc a1).2.2.2.2.2.2.2.2.2.2.1 = (f_X9_restore zf ii nx yr zi zn zy zw ww zg gg zr rr zk kn sn zm zs ss zc sc uf ui un uy uw ug ur uk um us uc a1).2.2.2.2.2.2.1 ∧ (f_X10_restore ii nx yr sn m6 m7 ik kp ww gg rr kn ss sc a1).2.1 = (f_X9_restore zf ii nx yr zi zn zy zw ww zg gg zr rr zk kn sn zm zs ss zc sc uf ui un uy uw ug ur uk um us uc a1).2.1 ∧ (f_X10_restore ii nx yr sn m6 m7 ik kp ww gg rr kn ss sc a1).2.2.1 = (f_X9_restore zf ii nx yr zi zn zy zw ww zg gg zr rr zk kn sn zm zs ss zc sc uf ui un uy uw ug ur uk um us uc a1).2.2.1 ∧ (f_X10_restore ii nx yr sn m6 m7 ik kp ww gg rr kn ss sc a1).2.2.2.1 = (f_X9_restore zf ii nx yr zi zn zy zw ww zg gg zr rr zk kn sn zm zs ss zc sc uf ui un uy uw ug ur uk um us uc a1).2.2.2.1 ∧ (f_X10_restore ii nx yr sn m6 m7 ik kp ww gg rr kn ss sc a1).2.2.2.2.2.2.2.2.2.2.2.1 = (f_X9_restore zf ii nx yr zi zn zy zw ww zg gg zr rr zk kn sn zm zs ss zc sc uf ui un uy uw ug ur uk um us uc a1).2.2.2.2.2.2.2.1 ∧ (f_X10_restore ii nx yr sn m6 m7 ik kp ww gg rr kn ss sc a1).2.2.2.2.2.2.2.2.2.2.2.2.1 = (f_X9_restore zf ii nx yr zi zn zy zw ww zg gg zr rr zk kn sn zm zs ss zc sc uf ui un uy uw ug ur uk um us uc a1).2.2.2.2.2.2.2.2.2.1 ∧ (f_X10_restore ii nx yr sn m6 m7 ik kp ww gg rr kn ss sc a1).2.2.2.2.2.2.2.2.2.2.2.2.2 = (f_X9_restore zf ii nx yr zi zn zy zw ww zg gg zr rr zk kn sn zm zs ss zc sc uf ui un uy uw ug ur uk um us uc a1).2.2.2.2.2.2.2.2.2.2 ∧ (f_X10_restore ii nx yr sn m6 m7 ik kp ww gg rr kn ss sc a1).2.2.2.2.1 = (f_X9_restore zf ii nx yr zi zn zy zw ww zg gg zr rr zk kn sn zm zs ss zc sc uf ui un uy uw ug ur uk um us uc a1).2.2.2.2.2.2.2.2.1 ∧ RA ((f_X9_restore zf ii nx yr zi zn zy zw ww zg gg zr rr zk kn sn zm zs ss zc sc uf ui un uy uw ug ur uk um us uc a1).2.2.2.2.1) ((f_X9_restore zf ii nx yr zi zn zy zw ww zg gg zr rr zk kn sn zm zs ss zc sc uf ui un uy uw ug ur uk um us uc a1).2.2.2.2.2.1) ((f_X9_restore zf ii nx yr zi zn zy zw ww zg gg zr rr zk kn sn zm zs ss zc sc uf ui un uy uw ug ur uk um us uc a1).2.2.2.2.2.2.1) ((f_X9_restore zf ii nx yr zi zn zy zw ww zg gg zr rr zk kn sn zm zs ss zc sc uf ui un uy uw ug ur uk um us uc a1).2.1) ((f_X9_restore zf ii nx yr zi zn zy zw ww zg gg zr rr zk kn sn zm zs ss zc sc uf ui un uy uw ug ur uk um us uc a1).2.2.1) ((f_X9_restore zf ii nx yr zi zn zy zw ww zg gg zr rr zk kn sn zm zs ss zc sc uf ui un uy uw ug ur uk um us uc a1).2.2.2.1) ((f_X9_restore zf ii nx yr zi zn zy zw ww zg gg zr rr zk kn sn zm zs ss zc sc uf ui un uy uw ug ur uk um us uc a1).2.2.2.2.2.2.2.1) ((f_X9_restore zf ii nx yr zi zn zy zw ww zg gg zr rr zk kn sn zm zs ss zc sc uf ui un uy uw ug ur uk um us uc a1).2.2.2.2.2.2.2.2.2.1) ((f_X9_restore zf ii nx yr zi zn zy zw ww zg gg zr rr zk kn sn zm zs ss zc sc uf ui un uy uw ug ur uk um us uc a1).2.2.2.2.2.2.2.2.2.2) ((f_X9_restore zf ii nx yr zi zn zy zw ww zg gg zr rr zk kn sn zm zs ss zc sc uf ui un uy uw ug ur uk um us uc a1).2.2.2.2.2.2.2.2.1) sg pd pk po pt pm pa wp ex on ot tw tg tr uw ug ur ui un uy uk us uc um uf zw zg zr zi zn zy zk zs zc zm zf ((f_X10_restore ii nx yr sn m6 m7 ik kp ww gg rr kn ss sc a1).2.2.2.2.2.2.2.1) ik := by
  obtain ⟨hP, hK, hp, ht, hu, hz⟩ := h
  have hP0 := hP
  have hK0 := hK
  have hu0 := hu
  have hz0 := hz
  obtain ⟨p1, p2, p3, p4⟩ := hP
  obtain ⟨k1, k2, k3, k4, k5, k6⟩ := hK
  obtain ⟨u1, u2, u3, u4, u5, u6, u7, u8, u9⟩ := hu
  obtain ⟨z1, z2, z3, z4, z5, z6, z7, z8, z9⟩ := hz
  by_cases q : f_X9_within a1 0 1 = 0
  · have ex : (f_X9_restore zf ii nx yr zi zn zy zw ww zg gg zr rr zk kn sn zm zs ss zc sc uf ui un uy uw ug ur uk um us uc a1) = ((-2 : Int32), ii, nx, yr, ww, gg, rr, kn, sn, ss, sc) := by
      unfold f_X9_restore
      rw [if_pos q]
    have em : (f_X10_restore ii nx yr sn m6 m7 ik kp ww gg rr kn ss sc a1) = ((-2 : Int32), ii, nx, yr, sn, m6, m7, kp, ww, gg, rr, kn, ss, sc) := by
      unfold f_X10_restore
      rw [in_0_1, if_pos q]
    rw [ex, em]
    refine ⟨?_, rfl, rfl, rfl, rfl, rfl, rfl, rfl, rfl, rfl, rfl, rfl, hP0, hK0, hp, ht, hu0, hz0⟩
    unfold o_X10_restore
    rw [in_0_1, if_pos q]
    trivial
  · obtain ⟨z, _, zl, rfl⟩ := wi_nat (x := 0) (y := 1) (by decide) (by decide) q
    have hzz : z = 0 ∨ z = 1 := by omega
    rcases hzz with rfl | rfl
    · have cl : (nI 0).toNatClampNeg = 0 := by decide
      rcases u8 with fz | fz
      · have ex : (f_X9_restore zf ii nx yr zi zn zy zw ww zg gg zr rr zk kn sn zm zs ss zc sc uf ui un uy uw ug ur uk um us uc (nI 0)) = ((-3 : Int32), ii, nx, yr, ww, gg, rr, kn, sn, ss, sc) := by
          unfold f_X9_restore
          rw [if_neg q, if_pos (show nI 0 = 0 from rfl), if_pos fz]
        have em : (f_X10_restore ii nx yr sn m6 m7 ik kp ww gg rr kn ss sc (nI 0)) = ((-3 : Int32), ii, nx, yr, sn, m6, m7, kp, ww, gg, rr, kn, ss, sc) := by
          unfold f_X10_restore
          rw [in_0_1, if_neg q, cl, if_pos (u7.trans fz)]
        rw [ex, em]
        refine ⟨?_, rfl, rfl, rfl, rfl, rfl, rfl, rfl, rfl, rfl, rfl, rfl, hP0, hK0, hp, ht, hu0, hz0⟩
        unfold o_X10_restore
        rw [in_0_1, if_neg q]
        refine ⟨vp_in_nI (by decide) (by decide), ?_⟩
        rw [cl, if_pos (u7.trans fz)]
        trivial
      · obtain ⟨iP, iK, iE⟩ := u9 fz
        have fn : ¬ uf = 0 := by
          rw [fz]
          decide
        have ikn : ¬ ik 0 = 0 := by
          rw [u7]
          exact fn
        have e120 : (120 : Int32) * nI 0 = nI (120 * 0) := by decide
        have ex : (f_X9_restore zf ii nx yr zi zn zy zw ww zg gg zr rr zk kn sn zm zs ss zc sc uf ui un uy uw ug ur uk um us uc (nI 0)) = ((1 : Int32), ui, un, uy, uw, ug, ur, uk, um, us, uc) := by
          unfold f_X9_restore
          rw [if_neg q, if_pos (show nI 0 = 0 from rfl), if_neg fn]
          dsimp only [lt, f_X5_copyFrom, f_X3_copyFrom, f_X7_copyFrom]
          rw [cpy_tl u1 p1, cpy_tl u2 p2, cpy_tl u3 p3, cpy_tl u4 k1, cpy_tl u5 k3, cpy_tl u6 k5]
        have s0 : kp (120 * 0) = ui := iE 0 (by decide)
        have s1 : kp (120 * 0 + 1) = un := iE 1 (by decide)
        have s2 : kp (120 * 0 + 2) = uy := iE 2 (by decide)
        have s3 : kp (120 * 0 + 3) = um := iE 3 (by decide)
        have r0 : seg ww 0 8 (fun j => kp (120 * 0 + 4 + j)) = uw := seg_kp p1 u1 (fun j hj => by
          show kp (120 * 0 + 4 + j) = _
          rw [Nat.add_assoc, iE (4 + j) (by omega)]
          exact enc_w hj)
        have r1 : seg gg 0 64 (fun j => kp (120 * 0 + 12 + j)) = ug := seg_kp p2 u2 (fun j hj => by
          show kp (120 * 0 + 12 + j) = _
          rw [Nat.add_assoc, iE (12 + j) (by omega)]
          exact enc_g hj)
        have r2 : seg rr 0 8 (fun j => kp (120 * 0 + 76 + j)) = ur := seg_kp p3 u3 (fun j hj => by
          show kp (120 * 0 + 76 + j) = _
          rw [Nat.add_assoc, iE (76 + j) (by omega)]
          exact enc_r hj)
        have r3 : seg kn 0 8 (fun j => kp (120 * 0 + 84 + j)) = uk := seg_kp k1 u4 (fun j hj => by
          show kp (120 * 0 + 84 + j) = _
          rw [Nat.add_assoc, iE (84 + j) (by omega)]
          exact enc_kn hj)
        have r4 : seg ss 0 8 (fun j => kp (120 * 0 + 92 + j)) = us := seg_kp k3 u5 (fun j hj => by
          show kp (120 * 0 + 92 + j) = _
          rw [Nat.add_assoc, iE (92 + j) (by omega)]
          exact enc_ss hj)
        have r5 : seg sc 0 8 (fun j => kp (120 * 0 + 100 + j)) = uc := seg_kp k5 u6 (fun j hj => by
          show kp (120 * 0 + 100 + j) = _
          rw [Nat.add_assoc, iE (100 + j) (by omega)]
          exact enc_sc hj)
        have em : (f_X10_restore ii nx yr sn m6 m7 ik kp ww gg rr kn ss sc (nI 0)) = ((1 : Int32), ui, un, uy, um, nI (120 * 0 + 108), 0, kp, uw, ug, ur, uk, us, uc) := by
          unfold f_X10_restore
          rw [in_0_1, if_neg q, cl, if_neg ikn, e120, lt_c (pa_r (t := 120 * 0) (by decide) kp ww gg rr ii nx yr kn ss sc sn)]
          dsimp only
          rw [s0, s1, s2, s3, r0, r1, r2, r3, r4, r5]
        rw [ex, em]
        refine ⟨?_, rfl, rfl, rfl, rfl, rfl, rfl, rfl, rfl, rfl, rfl, rfl, iP, iK, hp, ht, hu0, hz0⟩
        unfold o_X10_restore
        rw [in_0_1, if_neg q]
        refine ⟨vp_in_nI (by decide) (by decide), ?_⟩
        rw [cl, if_neg ikn, e120]
        exact ⟨pa_rok (by decide) kp ww gg rr ii nx yr kn ss sc sn, trivial⟩
    · have cl : (nI 1).toNatClampNeg = 1 := by decide
      rcases z8 with fz | fz
      · have ex : (f_X9_restore zf ii nx yr zi zn zy zw ww zg gg zr rr zk kn sn zm zs ss zc sc uf ui un uy uw ug ur uk um us uc (nI 1)) = ((-3 : Int32), ii, nx, yr, ww, gg, rr, kn, sn, ss, sc) := by
          unfold f_X9_restore
          rw [if_neg q, if_neg (show ¬ nI 1 = 0 by decide), if_pos fz]
        have em : (f_X10_restore ii nx yr sn m6 m7 ik kp ww gg rr kn ss sc (nI 1)) = ((-3 : Int32), ii, nx, yr, sn, m6, m7, kp, ww, gg, rr, kn, ss, sc) := by
          unfold f_X10_restore
          rw [in_0_1, if_neg q, cl, if_pos (z7.trans fz)]
        rw [ex, em]
        refine ⟨?_, rfl, rfl, rfl, rfl, rfl, rfl, rfl, rfl, rfl, rfl, rfl, hP0, hK0, hp, ht, hu0, hz0⟩
        unfold o_X10_restore
        rw [in_0_1, if_neg q]
        refine ⟨vp_in_nI (by decide) (by decide), ?_⟩
        rw [cl, if_pos (z7.trans fz)]
        trivial
      · obtain ⟨iP, iK, iE⟩ := z9 fz
        have fn : ¬ zf = 0 := by
          rw [fz]
          decide
        have ikn : ¬ ik 1 = 0 := by
          rw [z7]
          exact fn
        have e120 : (120 : Int32) * nI 1 = nI (120 * 1) := by decide
        have ex : (f_X9_restore zf ii nx yr zi zn zy zw ww zg gg zr rr zk kn sn zm zs ss zc sc uf ui un uy uw ug ur uk um us uc (nI 1)) = ((1 : Int32), zi, zn, zy, zw, zg, zr, zk, zm, zs, zc) := by
          unfold f_X9_restore
          rw [if_neg q, if_neg (show ¬ nI 1 = 0 by decide), if_neg fn]
          dsimp only [lt, f_X5_copyFrom, f_X3_copyFrom, f_X7_copyFrom]
          rw [cpy_tl z1 p1, cpy_tl z2 p2, cpy_tl z3 p3, cpy_tl z4 k1, cpy_tl z5 k3, cpy_tl z6 k5]
        have s0 : kp (120 * 1) = zi := iE 0 (by decide)
        have s1 : kp (120 * 1 + 1) = zn := iE 1 (by decide)
        have s2 : kp (120 * 1 + 2) = zy := iE 2 (by decide)
        have s3 : kp (120 * 1 + 3) = zm := iE 3 (by decide)
        have r0 : seg ww 0 8 (fun j => kp (120 * 1 + 4 + j)) = zw := seg_kp p1 z1 (fun j hj => by
          show kp (120 * 1 + 4 + j) = _
          rw [Nat.add_assoc, iE (4 + j) (by omega)]
          exact enc_w hj)
        have r1 : seg gg 0 64 (fun j => kp (120 * 1 + 12 + j)) = zg := seg_kp p2 z2 (fun j hj => by
          show kp (120 * 1 + 12 + j) = _
          rw [Nat.add_assoc, iE (12 + j) (by omega)]
          exact enc_g hj)
        have r2 : seg rr 0 8 (fun j => kp (120 * 1 + 76 + j)) = zr := seg_kp p3 z3 (fun j hj => by
          show kp (120 * 1 + 76 + j) = _
          rw [Nat.add_assoc, iE (76 + j) (by omega)]
          exact enc_r hj)
        have r3 : seg kn 0 8 (fun j => kp (120 * 1 + 84 + j)) = zk := seg_kp k1 z4 (fun j hj => by
          show kp (120 * 1 + 84 + j) = _
          rw [Nat.add_assoc, iE (84 + j) (by omega)]
          exact enc_kn hj)
        have r4 : seg ss 0 8 (fun j => kp (120 * 1 + 92 + j)) = zs := seg_kp k3 z5 (fun j hj => by
          show kp (120 * 1 + 92 + j) = _
          rw [Nat.add_assoc, iE (92 + j) (by omega)]
          exact enc_ss hj)
        have r5 : seg sc 0 8 (fun j => kp (120 * 1 + 100 + j)) = zc := seg_kp k5 z6 (fun j hj => by
          show kp (120 * 1 + 100 + j) = _
          rw [Nat.add_assoc, iE (100 + j) (by omega)]
          exact enc_sc hj)
        have em : (f_X10_restore ii nx yr sn m6 m7 ik kp ww gg rr kn ss sc (nI 1)) = ((1 : Int32), zi, zn, zy, zm, nI (120 * 1 + 108), 0, kp, zw, zg, zr, zk, zs, zc) := by
          unfold f_X10_restore
          rw [in_0_1, if_neg q, cl, if_neg ikn, e120, lt_c (pa_r (t := 120 * 1) (by decide) kp ww gg rr ii nx yr kn ss sc sn)]
          dsimp only
          rw [s0, s1, s2, s3, r0, r1, r2, r3, r4, r5]
        rw [ex, em]
        refine ⟨?_, rfl, rfl, rfl, rfl, rfl, rfl, rfl, rfl, rfl, rfl, rfl, iP, iK, hp, ht, hu0, hz0⟩
        unfold o_X10_restore
        rw [in_0_1, if_neg q]
        refine ⟨vp_in_nI (by decide) (by decide), ?_⟩
        rw [cl, if_neg ikn, e120]
        exact ⟨pa_rok (by decide) kp ww gg rr ii nx yr kn ss sc sn, trivial⟩
