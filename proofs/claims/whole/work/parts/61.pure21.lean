/-! CENTURY: one draw -/
theorem lN_ib {m : Nat} (h : m < 2 ^ 31) : (lN m).toInt32 = nI m := by
  rw [← nI_l h]
  simp
theorem dr_l {X : Nat} (hX : X < 65537) : (((75 * ((nI X).toInt64)) + 74) - ((75 * ((nI X).toInt64)) + 74) / 65537 * 65537).toInt32 = nI ((75 * X + 74) % 65537) := by
  rw [nI_l (by omega), show (75 : Int64) = lN 75 from rfl, show (74 : Int64) = lN 74 from rfl, show (65537 : Int64) = lN 65537 from rfl, lN_mul, lN_add, pk_lRem (by omega) (by decide) (by decide), lN_ib (by omega)]
theorem dr_i {X : Nat} (hX : X < 65537) : ((75 * nI X) + 74) - ((75 * nI X) + 74) / 65537 * 65537 = nI ((75 * X + 74) % 65537) := by
  rw [show (75 : Int32) = nI 75 from rfl, pk_mul, show (74 : Int32) = nI 74 from rfl, nI_add]
  exact pk_rem (by omega) (by decide) (by decide)
theorem dE1 {Z : Nat} (h : Z < 65537) : (nI Z / 8) - (nI Z / 8) / 8 * 8 = nI (Z / 8 % 8) := by
  rw [show nI Z / 8 = nI (Z / 8) from pk_div (by omega) (by decide) (by decide)]
  exact pk_rem (by omega) (by decide) (by decide)
theorem dE2 {Z : Nat} (h : Z < 65537) : nI Z - nI Z / 8 * 8 = nI (Z % 8) := pk_rem (by omega) (by decide) (by decide)
theorem dE3 {Z : Nat} (h : Z < 65537) : (nI Z / 64) - (nI Z / 64) / 8 * 8 = nI (Z / 64 % 8) := by
  rw [show nI Z / 64 = nI (Z / 64) from pk_div (by omega) (by decide) (by decide)]
  exact pk_rem (by omega) (by decide) (by decide)
theorem dE4 {Z : Nat} (h : Z < 65537) : ((nI Z / 64) / 8) - ((nI Z / 64) / 8) / 9 * 9 = nI (Z / 64 / 8 % 9) := by
  rw [show nI Z / 64 = nI (Z / 64) from pk_div (by omega) (by decide) (by decide), show nI (Z / 64) / 8 = nI (Z / 64 / 8) from pk_div (by omega) (by decide) (by decide)]
  exact pk_rem (by omega) (by decide) (by decide)
theorem why_m {i y : Int32} {w : Nat → Int32} {K o t m mm : Int32} (h : K = 2 → mm = m) : f_X10_whyNot i y w K o t mm = f_X10_whyNot i y w K o t m := by
  by_cases k2 : K = 2
  · rw [h k2]
  · unfold f_X10_whyNot
    rw [if_neg k2, if_neg k2]
theorem hap_m {i n y gn : Int32} {r w g : Nat → Int32} {K o t m mm : Int32} (h : K = 2 → mm = m) : f_X10_happen i n y gn r w g K o t mm = f_X10_happen i n y gn r w g K o t m := by
  by_cases k2 : K = 2
  · rw [h k2]
  · unfold f_X10_happen
    rw [if_neg k2, if_neg k2]
theorem hapo_m {n : Int32} {r w g : Nat → Int32} {K o t m mm : Int32} (h : K = 2 → mm = m) (q : o_X10_happen n r w g K o t m) : o_X10_happen n r w g K o t mm := by
  by_cases k2 : K = 2
  · rw [h k2]
    exact q
  · unfold o_X10_happen at q ⊢
    rw [if_neg k2] at q ⊢
    exact q
theorem cstep {i n y gf en zz : Int32} {w g r : Nat → Int32} {K o t tm m mm : Int32} (hA : actOk K o t o tm) (hm : K = 2 → mm = m) (hP : InvP w g r n y) :
    ∃ (re gf' en' I N Y : Int32) (W G R : Nat → Int32), f_X8_attempt gf i n y w r g K o t m = (re, gf', I, N, Y, W, R, G) ∧ (lt (f_X10_whyNot i y w K o tm mm) (fun z11 => (if z11 = 0 then (lt (f_X10_happen i n y gf r w g K o tm mm) (fun z15 => (zz, z15.1, z15.2.1, z15.2.2.1, z15.2.2.2.1, z15.2.2.2.2.1, z15.2.2.2.2.2.2.2, z15.2.2.2.2.2.2.1, z15.2.2.2.2.2.1))) else (zz, i, n, y, gf, en, g, w, r)))) = (zz, I, N, Y, gf', en', G, W, R) ∧ InvP W G R N Y ∧ o_X8_attempt i n y w K o t m ∧ o_X10_whyNot i K o tm ∧ (f_X10_whyNot i y w K o tm mm = 0 → o_X10_happen n r w g K o tm mm) := by
  have hw : f_X10_whyNot i y w K o tm mm = f_X5_reasonAgainst i y w K o t m := (why_m hm).trans (why_eq hA hP.2.2.2.2.2)
  have wo := why_ok (i := i) hA
  have oat : o_X8_attempt i n y w K o t m := by
    refine ⟨wo.1, ?_⟩
    dsimp only [lt]
    split
    · next h0 =>
      obtain ⟨_, _, _, _, _, _, _, _, _, _, _, _, _, _, _, o1, _⟩ := act_eq gf hA hP h0
      exact ⟨o1, trivial⟩
    · trivial
  rcases why_range i y w K o t m with h0 | ⟨h0, _⟩
  · obtain ⟨I, N, Y, R, W, G, gn', e, eP, eH, eg, _, _, _, hP', _, o2⟩ := act_eq gf hA hP h0
    refine ⟨0, gn', e, I, N, Y, W, G, R, att0 h0 eP eg, ?_, hP', oat, wo.2, fun _ => hapo_m hm o2⟩
    rw [lt_c (hw.trans h0)]
    rw [if_pos rfl, lt_c ((hap_m hm).trans eH)]
  · refine ⟨_, gf, en, i, n, y, w, g, r, att1 h0, ?_, hP, oat, wo.2, fun e => absurd (hw.symm.trans e) h0⟩
    rw [lt_c hw]
    rw [if_neg h0]
set_option maxHeartbeats 2000000 in
theorem cen_st {X j : Nat} (hX : X < 65537) {gf i n y en : Int32} {w g r : Nat → Int32} (hP : InvP w g r n y) :
    ∃ (gf' en' I N Y : Int32) (W G R : Nat → Int32), B_X9_century_50 j (nI X, gf, i, n, y, w, g, r) = (nI ((75 * X + 74) % 65537), gf', I, N, Y, W, G, R) ∧ B_X10_century_54 j (nI X, i, n, y, gf, en, g, w, r) = (nI ((75 * X + 74) % 65537), I, N, Y, gf', en', G, W, R) ∧ InvP W G R N Y ∧ oB_X9_century_50 j (nI X, gf, i, n, y, w, g, r) ∧ oB_X10_century_54 j (nI X, i, n, y, gf, en, g, w, r) := by
  generalize hZ : (75 * X + 74) % 65537 = Z
  have z1 : Z < 65537 := by omega
  have el := dr_l hX
  have ei := dr_i hX
  rw [hZ] at el ei
  have h8 : Z % 8 < 8 := by omega
  have t8 : Z / 64 % 8 < 8 := by omega
  have ho : ∃ c, c < 8 ∧ nI (Z % 8) = nI c := ⟨_, h8, rfl⟩
  have ht : ∃ c, c < 8 ∧ nI (Z / 64 % 8) = nI c := ⟨_, t8, rfl⟩
  have hd : Z / 8 % 8 = 0 ∨ Z / 8 % 8 = 1 ∨ Z / 8 % 8 = 2 ∨ Z / 8 % 8 = 3 ∨ Z / 8 % 8 = 4 ∨ Z / 8 % 8 = 5 ∨ Z / 8 % 8 = 6 ∨ Z / 8 % 8 = 7 := by omega
  rcases hd with d | d | d | d | d | d | d | d
  · obtain ⟨re, gf', en', I, N, Y, W, G, R, ea, em, hP', o1, o2, o3⟩ := cstep (i := i) (gf := gf) (en := en) (zz := nI Z) (K := 0) (o := nI (Z % 8)) (t := (nI (Z % 8))) (tm := (nI (Z / 64 % 8))) (m := 0) (mm := (1 + nI (Z / 64 / 8 % 9))) (⟨⟨0, by decide, rfl⟩, fun _ => ⟨rfl, ho⟩, fun e => absurd e (by decide)⟩) (fun e => absurd e (by decide)) hP
    refine ⟨gf', en', I, N, Y, W, G, R, ?_, ?_, hP', ?_, ?_⟩
    · unfold B_X9_century_50 f_X9_drawAct
      dsimp only
      rw [ei, dE1 z1, dE2 z1, dE3 z1, dE4 z1, d, if_pos (show nI 0 = 0 from rfl), lt_c ea] <;> rfl
    · unfold B_X10_century_54
      dsimp only
      rw [el, dE1 z1, dE2 z1, dE3 z1, dE4 z1, d, lt_c (show f_X10_actBy (nI 0) = 0 from rfl)]
      exact em
    · unfold oB_X9_century_50 o_X9_drawAct
      dsimp only
      rw [ei, dE1 z1, dE2 z1, dE3 z1, dE4 z1, d, if_pos (show nI 0 = 0 from rfl)]
      exact ⟨⟨o1, trivial⟩, trivial⟩
    · unfold oB_X10_century_54
      dsimp only
      rw [el, dE1 z1, dE2 z1, dE3 z1, dE4 z1, d, lt_c (show f_X10_actBy (nI 0) = 0 from rfl)]
      refine ⟨o2, ?_⟩
      dsimp only [lt]
      split
      · next q => exact ⟨o3 q, trivial⟩
      · trivial
  · obtain ⟨re, gf', en', I, N, Y, W, G, R, ea, em, hP', o1, o2, o3⟩ := cstep (i := i) (gf := gf) (en := en) (zz := nI Z) (K := 1) (o := nI (Z % 8)) (t := (nI (Z % 8))) (tm := (nI (Z / 64 % 8))) (m := 0) (mm := (1 + nI (Z / 64 / 8 % 9))) (⟨⟨1, by decide, rfl⟩, fun _ => ⟨rfl, ho⟩, fun e => absurd e (by decide)⟩) (fun e => absurd e (by decide)) hP
    refine ⟨gf', en', I, N, Y, W, G, R, ?_, ?_, hP', ?_, ?_⟩
    · unfold B_X9_century_50 f_X9_drawAct
      dsimp only
      rw [ei, dE1 z1, dE2 z1, dE3 z1, dE4 z1, d, if_neg (show ¬ nI 1 = 0 by decide), if_pos (show nI 1 = 1 from rfl), lt_c ea] <;> rfl
    · unfold B_X10_century_54
      dsimp only
      rw [el, dE1 z1, dE2 z1, dE3 z1, dE4 z1, d, lt_c (show f_X10_actBy (nI 1) = 1 from rfl)]
      exact em
    · unfold oB_X9_century_50 o_X9_drawAct
      dsimp only
      rw [ei, dE1 z1, dE2 z1, dE3 z1, dE4 z1, d, if_neg (show ¬ nI 1 = 0 by decide), if_pos (show nI 1 = 1 from rfl)]
      exact ⟨⟨o1, trivial⟩, trivial⟩
    · unfold oB_X10_century_54
      dsimp only
      rw [el, dE1 z1, dE2 z1, dE3 z1, dE4 z1, d, lt_c (show f_X10_actBy (nI 1) = 1 from rfl)]
      refine ⟨o2, ?_⟩
      dsimp only [lt]
      split
      · next q => exact ⟨o3 q, trivial⟩
      · trivial
  · obtain ⟨re, gf', en', I, N, Y, W, G, R, ea, em, hP', o1, o2, o3⟩ := cstep (i := i) (gf := gf) (en := en) (zz := nI Z) (K := 2) (o := nI (Z % 8)) (t := (nI (Z / 64 % 8))) (tm := (nI (Z / 64 % 8))) (m := (nI (Z / 64 / 8 % 9) + 1)) (mm := (1 + nI (Z / 64 / 8 % 9))) (⟨⟨2, by decide, rfl⟩, fun _ => ⟨rfl, ho⟩, fun _ => ⟨rfl, ht⟩⟩) (fun _ => Int32.add_comm _ _) hP
    refine ⟨gf', en', I, N, Y, W, G, R, ?_, ?_, hP', ?_, ?_⟩
    · unfold B_X9_century_50 f_X9_drawAct
      dsimp only
      rw [ei, dE1 z1, dE2 z1, dE3 z1, dE4 z1, d, if_neg (show ¬ nI 2 = 0 by decide), if_neg (show ¬ nI 2 = 1 by decide), if_neg (show ¬ 4 < nI 2 by decide), lt_c ea] <;> rfl
    · unfold B_X10_century_54
      dsimp only
      rw [el, dE1 z1, dE2 z1, dE3 z1, dE4 z1, d, lt_c (show f_X10_actBy (nI 2) = 2 from rfl)]
      exact em
    · unfold oB_X9_century_50 o_X9_drawAct
      dsimp only
      rw [ei, dE1 z1, dE2 z1, dE3 z1, dE4 z1, d, if_neg (show ¬ nI 2 = 0 by decide), if_neg (show ¬ nI 2 = 1 by decide), if_neg (show ¬ 4 < nI 2 by decide)]
      exact ⟨⟨o1, trivial⟩, trivial⟩
    · unfold oB_X10_century_54
      dsimp only
      rw [el, dE1 z1, dE2 z1, dE3 z1, dE4 z1, d, lt_c (show f_X10_actBy (nI 2) = 2 from rfl)]
      refine ⟨o2, ?_⟩
      dsimp only [lt]
      split
      · next q => exact ⟨o3 q, trivial⟩
      · trivial
  · obtain ⟨re, gf', en', I, N, Y, W, G, R, ea, em, hP', o1, o2, o3⟩ := cstep (i := i) (gf := gf) (en := en) (zz := nI Z) (K := 2) (o := nI (Z % 8)) (t := (nI (Z / 64 % 8))) (tm := (nI (Z / 64 % 8))) (m := (nI (Z / 64 / 8 % 9) + 1)) (mm := (1 + nI (Z / 64 / 8 % 9))) (⟨⟨2, by decide, rfl⟩, fun _ => ⟨rfl, ho⟩, fun _ => ⟨rfl, ht⟩⟩) (fun _ => Int32.add_comm _ _) hP
    refine ⟨gf', en', I, N, Y, W, G, R, ?_, ?_, hP', ?_, ?_⟩
    · unfold B_X9_century_50 f_X9_drawAct
      dsimp only
      rw [ei, dE1 z1, dE2 z1, dE3 z1, dE4 z1, d, if_neg (show ¬ nI 3 = 0 by decide), if_neg (show ¬ nI 3 = 1 by decide), if_neg (show ¬ 4 < nI 3 by decide), lt_c ea] <;> rfl
    · unfold B_X10_century_54
      dsimp only
      rw [el, dE1 z1, dE2 z1, dE3 z1, dE4 z1, d, lt_c (show f_X10_actBy (nI 3) = 2 from rfl)]
      exact em
    · unfold oB_X9_century_50 o_X9_drawAct
      dsimp only
      rw [ei, dE1 z1, dE2 z1, dE3 z1, dE4 z1, d, if_neg (show ¬ nI 3 = 0 by decide), if_neg (show ¬ nI 3 = 1 by decide), if_neg (show ¬ 4 < nI 3 by decide)]
      exact ⟨⟨o1, trivial⟩, trivial⟩
    · unfold oB_X10_century_54
      dsimp only
      rw [el, dE1 z1, dE2 z1, dE3 z1, dE4 z1, d, lt_c (show f_X10_actBy (nI 3) = 2 from rfl)]
      refine ⟨o2, ?_⟩
      dsimp only [lt]
      split
      · next q => exact ⟨o3 q, trivial⟩
      · trivial
  · obtain ⟨re, gf', en', I, N, Y, W, G, R, ea, em, hP', o1, o2, o3⟩ := cstep (i := i) (gf := gf) (en := en) (zz := nI Z) (K := 2) (o := nI (Z % 8)) (t := (nI (Z / 64 % 8))) (tm := (nI (Z / 64 % 8))) (m := (nI (Z / 64 / 8 % 9) + 1)) (mm := (1 + nI (Z / 64 / 8 % 9))) (⟨⟨2, by decide, rfl⟩, fun _ => ⟨rfl, ho⟩, fun _ => ⟨rfl, ht⟩⟩) (fun _ => Int32.add_comm _ _) hP
    refine ⟨gf', en', I, N, Y, W, G, R, ?_, ?_, hP', ?_, ?_⟩
    · unfold B_X9_century_50 f_X9_drawAct
      dsimp only
      rw [ei, dE1 z1, dE2 z1, dE3 z1, dE4 z1, d, if_neg (show ¬ nI 4 = 0 by decide), if_neg (show ¬ nI 4 = 1 by decide), if_neg (show ¬ 4 < nI 4 by decide), lt_c ea] <;> rfl
    · unfold B_X10_century_54
      dsimp only
      rw [el, dE1 z1, dE2 z1, dE3 z1, dE4 z1, d, lt_c (show f_X10_actBy (nI 4) = 2 from rfl)]
      exact em
    · unfold oB_X9_century_50 o_X9_drawAct
      dsimp only
      rw [ei, dE1 z1, dE2 z1, dE3 z1, dE4 z1, d, if_neg (show ¬ nI 4 = 0 by decide), if_neg (show ¬ nI 4 = 1 by decide), if_neg (show ¬ 4 < nI 4 by decide)]
      exact ⟨⟨o1, trivial⟩, trivial⟩
    · unfold oB_X10_century_54
      dsimp only
      rw [el, dE1 z1, dE2 z1, dE3 z1, dE4 z1, d, lt_c (show f_X10_actBy (nI 4) = 2 from rfl)]
      refine ⟨o2, ?_⟩
      dsimp only [lt]
      split
      · next q => exact ⟨o3 q, trivial⟩
      · trivial
  · obtain ⟨re, gf', en', I, N, Y, W, G, R, ea, em, hP', o1, o2, o3⟩ := cstep (i := i) (gf := gf) (en := en) (zz := nI Z) (K := 3) (o := nI (Z % 8)) (t := (nI (Z / 64 % 8))) (tm := (nI (Z / 64 % 8))) (m := 0) (mm := (1 + nI (Z / 64 / 8 % 9))) (⟨⟨3, by decide, rfl⟩, fun _ => ⟨rfl, ho⟩, fun _ => ⟨rfl, ht⟩⟩) (fun e => absurd e (by decide)) hP
    refine ⟨gf', en', I, N, Y, W, G, R, ?_, ?_, hP', ?_, ?_⟩
    · unfold B_X9_century_50 f_X9_drawAct
      dsimp only
      rw [ei, dE1 z1, dE2 z1, dE3 z1, dE4 z1, d, if_neg (show ¬ nI 5 = 0 by decide), if_neg (show ¬ nI 5 = 1 by decide), if_pos (show 4 < nI 5 by decide), if_pos (show nI 5 = 5 from rfl), lt_c ea] <;> rfl
    · unfold B_X10_century_54
      dsimp only
      rw [el, dE1 z1, dE2 z1, dE3 z1, dE4 z1, d, lt_c (show f_X10_actBy (nI 5) = 3 from rfl)]
      exact em
    · unfold oB_X9_century_50 o_X9_drawAct
      dsimp only
      rw [ei, dE1 z1, dE2 z1, dE3 z1, dE4 z1, d, if_neg (show ¬ nI 5 = 0 by decide), if_neg (show ¬ nI 5 = 1 by decide), if_pos (show 4 < nI 5 by decide), if_pos (show nI 5 = 5 from rfl)]
      exact ⟨⟨o1, trivial⟩, trivial⟩
    · unfold oB_X10_century_54
      dsimp only
      rw [el, dE1 z1, dE2 z1, dE3 z1, dE4 z1, d, lt_c (show f_X10_actBy (nI 5) = 3 from rfl)]
      refine ⟨o2, ?_⟩
      dsimp only [lt]
      split
      · next q => exact ⟨o3 q, trivial⟩
      · trivial
  · obtain ⟨re, gf', en', I, N, Y, W, G, R, ea, em, hP', o1, o2, o3⟩ := cstep (i := i) (gf := gf) (en := en) (zz := nI Z) (K := 4) (o := nI (Z % 8)) (t := (nI (Z % 8))) (tm := (nI (Z / 64 % 8))) (m := 0) (mm := (1 + nI (Z / 64 / 8 % 9))) (⟨⟨4, by decide, rfl⟩, fun _ => ⟨rfl, ho⟩, fun e => absurd e (by decide)⟩) (fun e => absurd e (by decide)) hP
    refine ⟨gf', en', I, N, Y, W, G, R, ?_, ?_, hP', ?_, ?_⟩
    · unfold B_X9_century_50 f_X9_drawAct
      dsimp only
      rw [ei, dE1 z1, dE2 z1, dE3 z1, dE4 z1, d, if_neg (show ¬ nI 6 = 0 by decide), if_neg (show ¬ nI 6 = 1 by decide), if_pos (show 4 < nI 6 by decide), if_neg (show ¬ nI 6 = 5 by decide), lt_c ea] <;> rfl
    · unfold B_X10_century_54
      dsimp only
      rw [el, dE1 z1, dE2 z1, dE3 z1, dE4 z1, d, lt_c (show f_X10_actBy (nI 6) = 4 from rfl)]
      exact em
    · unfold oB_X9_century_50 o_X9_drawAct
      dsimp only
      rw [ei, dE1 z1, dE2 z1, dE3 z1, dE4 z1, d, if_neg (show ¬ nI 6 = 0 by decide), if_neg (show ¬ nI 6 = 1 by decide), if_pos (show 4 < nI 6 by decide), if_neg (show ¬ nI 6 = 5 by decide)]
      exact ⟨⟨o1, trivial⟩, trivial⟩
    · unfold oB_X10_century_54
      dsimp only
      rw [el, dE1 z1, dE2 z1, dE3 z1, dE4 z1, d, lt_c (show f_X10_actBy (nI 6) = 4 from rfl)]
      refine ⟨o2, ?_⟩
      dsimp only [lt]
      split
      · next q => exact ⟨o3 q, trivial⟩
      · trivial
  · obtain ⟨re, gf', en', I, N, Y, W, G, R, ea, em, hP', o1, o2, o3⟩ := cstep (i := i) (gf := gf) (en := en) (zz := nI Z) (K := 4) (o := nI (Z % 8)) (t := (nI (Z % 8))) (tm := (nI (Z / 64 % 8))) (m := 0) (mm := (1 + nI (Z / 64 / 8 % 9))) (⟨⟨4, by decide, rfl⟩, fun _ => ⟨rfl, ho⟩, fun e => absurd e (by decide)⟩) (fun e => absurd e (by decide)) hP
    refine ⟨gf', en', I, N, Y, W, G, R, ?_, ?_, hP', ?_, ?_⟩
    · unfold B_X9_century_50 f_X9_drawAct
      dsimp only
      rw [ei, dE1 z1, dE2 z1, dE3 z1, dE4 z1, d, if_neg (show ¬ nI 7 = 0 by decide), if_neg (show ¬ nI 7 = 1 by decide), if_pos (show 4 < nI 7 by decide), if_neg (show ¬ nI 7 = 5 by decide), lt_c ea] <;> rfl
    · unfold B_X10_century_54
      dsimp only
      rw [el, dE1 z1, dE2 z1, dE3 z1, dE4 z1, d, lt_c (show f_X10_actBy (nI 7) = 4 from rfl)]
      exact em
    · unfold oB_X9_century_50 o_X9_drawAct
      dsimp only
      rw [ei, dE1 z1, dE2 z1, dE3 z1, dE4 z1, d, if_neg (show ¬ nI 7 = 0 by decide), if_neg (show ¬ nI 7 = 1 by decide), if_pos (show 4 < nI 7 by decide), if_neg (show ¬ nI 7 = 5 by decide)]
      exact ⟨⟨o1, trivial⟩, trivial⟩
    · unfold oB_X10_century_54
      dsimp only
      rw [el, dE1 z1, dE2 z1, dE3 z1, dE4 z1, d, lt_c (show f_X10_actBy (nI 7) = 4 from rfl)]
      refine ⟨o2, ?_⟩
      dsimp only [lt]
      split
      · next q => exact ⟨o3 q, trivial⟩
      · trivial
theorem cen_all : ∀ (M j X : Nat), X < 65537 → ∀ (gf i n y en : Int32) (w g r : Nat → Int32), InvP w g r n y →
    ∃ (X' : Nat) (gf' en' I N Y : Int32) (W G R : Nat → Int32), it B_X9_century_50 j M (nI X, gf, i, n, y, w, g, r) = (nI X', gf', I, N, Y, W, G, R) ∧ it B_X10_century_54 j M (nI X, i, n, y, gf, en, g, w, r) = (nI X', I, N, Y, gf', en', G, W, R) ∧ InvP W G R N Y ∧ itA oB_X9_century_50 B_X9_century_50 j M (nI X, gf, i, n, y, w, g, r) ∧ itA oB_X10_century_54 B_X10_century_54 j M (nI X, i, n, y, gf, en, g, w, r)
  | 0, j, X, _, gf, i, n, y, en, w, g, r, hP => ⟨X, gf, en, i, n, y, w, g, r, rfl, rfl, hP, trivial, trivial⟩
  | M + 1, j, X, hX, gf, i, n, y, en, w, g, r, hP => by
    obtain ⟨gf1, en1, I1, N1, Y1, W1, G1, R1, e9, e10, hP1, o9, o10⟩ := cen_st (j := j) hX (gf := gf) (i := i) (en := en) hP
    obtain ⟨X', gf', en', I, N, Y, W, G, R, c1, c2, c3, c4, c5⟩ := cen_all M (j + 1) ((75 * X + 74) % 65537) (Nat.mod_lt _ (by decide)) gf1 I1 N1 Y1 en1 W1 G1 R1 hP1
    refine ⟨X', gf', en', I, N, Y, W, G, R, ?_, ?_, c3, ⟨o9, ?_⟩, ⟨o10, ?_⟩⟩
    · rw [it_c e9]
      exact c1
    · rw [it_c e10]
      exact c2
    · rw [e9]
      exact c4
    · rw [e10]
      exact c5
