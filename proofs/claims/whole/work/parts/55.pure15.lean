/-! a text played on both sides -/
theorem m6lt : ¬ (0 : Int32) ≤ -6 := by decide
theorem att0 {gf gn' i n y I N Y : Int32} {w g r W G R : Nat → Int32} {K o t m : Int32} (h0 : f_X5_reasonAgainst i y w K o t m = 0) (eP : f_X5_perform i n y r w g K o t m = (I, N, Y, R, W, G)) (eg : gn' = (if K = 2 then gf + m else gf)) : f_X8_attempt gf i n y w r g K o t m = (0, gn', I, N, Y, W, R, G) := by
  unfold f_X8_attempt
  rw [lt_c h0, if_pos rfl, lt_c eP, eg]
  by_cases k2 : K = 2
  · rw [if_pos k2, if_pos k2]
  · rw [if_neg k2, if_neg k2]
theorem att1 {gf i n y : Int32} {w g r : Nat → Int32} {K o t m : Int32} (h0 : ¬ f_X5_reasonAgainst i y w K o t m = 0) : f_X8_attempt gf i n y w r g K o t m = (f_X5_reasonAgainst i y w K o t m, gf, i, n, y, w, r, g) := by
  unfold f_X8_attempt
  exact if_neg h0
theorem go_old {i n y gf fa fh I N Y gn' e : Int32} {ma mh mo mu r w g R W G : Nat → Int32} {j : Nat} (hj : j < 60) (eH : f_X10_happen i n y gf r w g (ma j) (mh j) (mo j) (mu j) = (I, N, Y, gn', e, R, W, G)) (h : e < 0 ∨ 0 ≤ fa) : f_X10_goOne i n y gf fa fh ma mh mo mu r w g (nI j) = (I, N, Y, gn', e, fa, fh, R, W, G) := by
  unfold f_X10_goOne
  rw [nI_clamp (by omega), lt_c eH]
  dsimp only
  by_cases q : e < 0
  · rw [if_pos q]
  · rw [if_neg q]
    rcases h with h | h
    · exact absurd h q
    · rw [if_pos h]
theorem go_new {i n y gf fa fh I N Y gn' e : Int32} {ma mh mo mu r w g R W G : Nat → Int32} {j : Nat} (hj : j < 60) (eH : f_X10_happen i n y gf r w g (ma j) (mh j) (mo j) (mu j) = (I, N, Y, gn', e, R, W, G)) (h1 : ¬ e < 0) (h2 : ¬ 0 ≤ fa) : f_X10_goOne i n y gf fa fh ma mh mo mu r w g (nI j) = (I, N, Y, gn', e, nI j, e, R, W, G) := by
  unfold f_X10_goOne
  rw [nI_clamp (by omega), lt_c eH]
  dsimp only
  rw [if_neg h1, if_neg h2]
theorem b10_0 {i n y gf en fa fh I N Y gn' e FA FH : Int32} {ma mh mo mu r w g R W G : Nat → Int32} {j : Nat} (hw : f_X10_whyNot i y w (ma j) (mh j) (mo j) (mu j) = 0) (eg : f_X10_goOne i n y gf fa fh ma mh mo mu r w g (nI j) = (I, N, Y, gn', e, FA, FH, R, W, G)) : B_X10_goYears_31 ma mh mo mu j (i, n, y, gf, en, -6, -6, fa, fh, w, r, g) = Sum.inl (I, N, Y, gn', e, -6, -6, FA, FH, W, R, G) := by
  unfold B_X10_goYears_31
  dsimp only
  rw [if_neg m6lt, lt_c hw]
  rw [if_pos (by decide), if_pos (by decide), if_pos rfl, lt_c eg]
theorem b10_1 {i n y gf en fa fh : Int32} {ma mh mo mu r w g : Nat → Int32} {j : Nat} {z : Int32} (hw : f_X10_whyNot i y w (ma j) (mh j) (mo j) (mu j) = z) (h0 : ¬ z = 0) (h1 : ¬ z ≤ 0) : B_X10_goYears_31 ma mh mo mu j (i, n, y, gf, en, -6, -6, fa, fh, w, r, g) = Sum.inl (i, n, y, gf, en, nI j, z, fa, fh, w, r, g) := by
  unfold B_X10_goYears_31
  dsimp only
  rw [if_neg m6lt, lt_c hw]
  rw [if_neg h1, if_neg h1, if_neg h0]
theorem b10_stop {i n y gf en fa fh z : Int32} {ma mh mo mu r w g : Nat → Int32} {j k : Nat} (hj : j < 60) : B_X10_goYears_31 ma mh mo mu k (i, n, y, gf, en, nI j, z, fa, fh, w, r, g) = Sum.inr (i, n, y, gf, en, nI j, z, fa, fh, w, r, g) := by
  unfold B_X10_goYears_31
  dsimp only
  rw [if_pos (nI_pos' (by omega))]
theorem b8_j {j : Nat} (hj : j < 60) : ¬ (60 : Int32) ≤ nI j := nI_ge (b := 60) hj (by decide)
theorem st_ {pk po pt pm ma mh mo mu w g r : Nat → Int32} {j : Nat} {gf fa fh i n y en : Int32} (hj : j < 60) (hA : actOk (pk j) (po j) (pt j) (mh j) (mo j)) (hma : ma j = pk j) (hmu : mu j = pm j) (hP : InvP w g r n y) (hf : fa = -6 ∨ ∃ c : Nat, c < 60 ∧ fa = nI c) :
    (∃ (gf' fa' fh' en' I N Y : Int32) (W G R : Nat → Int32), B_X8_play_7 pk po pt pm j (-6, -6, gf, fa, fh, i, n, y, w, g, r) = Sum.inl (-6, -6, gf', fa', fh', I, N, Y, W, G, R) ∧ B_X10_goYears_31 ma mh mo mu j (i, n, y, gf, en, -6, -6, fa, fh, w, r, g) = Sum.inl (I, N, Y, gf', en', -6, -6, fa', fh', W, R, G) ∧ InvP W G R N Y ∧ (fa' = -6 ∨ ∃ c : Nat, c < 60 ∧ fa' = nI c))
    ∨ ∃ re : Int32, B_X8_play_7 pk po pt pm j (-6, -6, gf, fa, fh, i, n, y, w, g, r) = Sum.inr (Sum.inr (nI j, re, gf, fa, fh, i, n, y, w, g, r)) ∧ B_X10_goYears_31 ma mh mo mu j (i, n, y, gf, en, -6, -6, fa, fh, w, r, g) = Sum.inl (i, n, y, gf, en, nI j, re, fa, fh, w, r, g) := by
  have hw : f_X10_whyNot i y w (ma j) (mh j) (mo j) (mu j) = f_X5_reasonAgainst i y w (pk j) (po j) (pt j) (pm j) := by
    rw [hma, hmu]
    exact why_eq hA hP.2.2.2.2.2
  have ehn : f_X5_houseAtNext n r = r n.toNatClampNeg := by
    obtain ⟨a, ha, en_⟩ := hP.2.2.2.2.1
    rw [en_]
    exact hn_v r ha
  rcases why_range i y w (pk j) (po j) (pt j) (pm j) with h0 | ⟨h0, h1⟩
  · refine Or.inl ?_
    obtain ⟨I, N, Y, R, W, G, gn', e, eP, eH, eg, e0, e4, e6, hP', _, _⟩ := act_eq gf hA hP h0
    have ea := att0 (gf := gf) h0 eP eg
    have eH' : f_X10_happen i n y gf r w g (ma j) (mh j) (mo j) (mu j) = (I, N, Y, gn', e, R, W, G) := by
      rw [hma, hmu]
      exact eH
    have hw0 := hw.trans h0
    rcases hf with rfl | ⟨c, hc, rfl⟩
    · by_cases k4 : pk j = 4
      · have ee := e4 k4
        have ge : ¬ e < 0 := by
          obtain ⟨a, ha, en_⟩ := hP.2.2.2.2.1
          obtain ⟨b, hb, eb⟩ := hP.2.2.2.1.1 a ha
          rw [ee, en_, nI_clamp (by omega), eb]
          exact nI_pos (by omega)
        refine ⟨gn', nI j, e, e, I, N, Y, W, G, R, ?_, b10_0 hw0 (go_new hj eH' ge (by decide)), hP', Or.inr ⟨j, hj, rfl⟩⟩
        unfold B_X8_play_7
        dsimp only
        rw [if_neg (b8_j hj), if_pos k4, lt_c ea]
        dsimp only
        rw [if_pos rfl, if_pos rfl, if_pos k4, ehn, ee]
      · by_cases k0 : pk j = 0
        · have ee := e0 k0
          have ge : ¬ e < 0 := by
            obtain ⟨b, hb, eb⟩ := (hA.2.1 k4).2
            rw [ee, eb]
            exact nI_pos (by omega)
          refine ⟨gn', nI j, e, e, I, N, Y, W, G, R, ?_, b10_0 hw0 (go_new hj eH' ge (by decide)), hP', Or.inr ⟨j, hj, rfl⟩⟩
          unfold B_X8_play_7
          dsimp only
          rw [if_neg (b8_j hj), if_neg k4, lt_c ea]
          dsimp only
          rw [if_pos rfl, if_pos rfl, if_neg k4, if_pos k0, ee]
        · have ee := e6 k0 k4
          refine ⟨gn', -6, fh, e, I, N, Y, W, G, R, ?_, b10_0 hw0 (go_old hj eH' (Or.inl (by rw [ee]; decide))), hP', Or.inl rfl⟩
          unfold B_X8_play_7
          dsimp only
          rw [if_neg (b8_j hj), if_neg k4, lt_c ea]
          dsimp only
          rw [if_pos rfl, if_pos rfl, if_neg k4, if_neg k0]
    · refine ⟨gn', nI c, fh, e, I, N, Y, W, G, R, ?_, b10_0 hw0 (go_old hj eH' (Or.inr (nI_pos' (by omega)))), hP', Or.inr ⟨c, hc, rfl⟩⟩
      have nc := m6ne (q := c) (by omega)
      unfold B_X8_play_7
      dsimp only
      rw [if_neg (b8_j hj)]
      by_cases k4 : pk j = 4
      · rw [if_pos k4, lt_c ea]
        dsimp only
        rw [if_pos rfl, if_neg nc]
      · rw [if_neg k4, lt_c ea]
        dsimp only
        rw [if_pos rfl, if_neg nc]
  · refine Or.inr ⟨f_X5_reasonAgainst i y w (pk j) (po j) (pt j) (pm j), ?_, b10_1 hw h0 h1⟩
    unfold B_X8_play_7
    dsimp only
    rw [if_neg (b8_j hj)]
    by_cases k4 : pk j = 4
    · rw [if_pos k4, lt_c (att1 h0)]
      dsimp only
      rw [if_neg h0]
    · rw [if_neg k4, lt_c (att1 h0)]
      dsimp only
      rw [if_neg h0]
theorem stp_ok {pk po pt pm ma mh mo mu w g r : Nat → Int32} {j : Nat} {gf fa fh i n y en : Int32} (hj : j < 60) (hA : actOk (pk j) (po j) (pt j) (mh j) (mo j)) (hma : ma j = pk j) (hmu : mu j = pm j) (hP : InvP w g r n y) :
    oB_X8_play_7 pk po pt pm j (-6, -6, gf, fa, fh, i, n, y, w, g, r) ∧ oB_X10_goYears_31 ma mh mo mu j (i, n, y, gf, en, -6, -6, fa, fh, w, r, g) := by
  have hw : f_X10_whyNot i y w (ma j) (mh j) (mo j) (mu j) = f_X5_reasonAgainst i y w (pk j) (po j) (pt j) (pm j) := by
    rw [hma, hmu]
    exact why_eq hA hP.2.2.2.2.2
  have wo := why_ok (i := i) hA
  have oat : o_X8_attempt i n y w (pk j) (po j) (pt j) (pm j) := by
    refine ⟨wo.1, ?_⟩
    dsimp only [lt]
    split
    · next h0 =>
      obtain ⟨_, _, _, _, _, _, _, _, _, _, _, _, _, _, _, o1, _⟩ := act_eq gf hA hP h0
      exact ⟨o1, trivial⟩
    · trivial
  have vn : o_X5_houseAtNext n := by
    obtain ⟨a, ha, e⟩ := hP.2.2.2.2.1
    rw [e]
    exact hn_ok ha
  constructor
  · unfold oB_X8_play_7
    rw [if_neg (b8_j hj)]
    refine ⟨hj, ?_⟩
    split
    · exact ⟨vn, hj, hj, hj, oat, trivial⟩
    · exact ⟨hj, hj, hj, hj, oat, trivial⟩
  · unfold oB_X10_goYears_31
    dsimp only
    rw [if_neg m6lt]
    refine ⟨hj, hj, hj, hj, ?_, ?_⟩
    · rw [hma]
      exact wo.2
    · rw [lt_c hw]
      have vj : vp_in (nI j) 60 := vp_in_nI hj (by decide)
      have og : f_X5_reasonAgainst i y w (pk j) (po j) (pt j) (pm j) = 0 → o_X10_goOne n ma mh mo mu r w g (nI j) := by
        intro h0
        obtain ⟨_, _, _, _, _, _, _, _, _, _, _, _, _, _, _, _, o2⟩ := act_eq gf hA hP h0
        refine ⟨vj, vj, vj, vj, ?_, trivial⟩
        rw [nI_clamp (by omega), hma, hmu]
        exact o2
      rcases why_range i y w (pk j) (po j) (pt j) (pm j) with h0 | ⟨h0, h1⟩
      · have le0 : f_X5_reasonAgainst i y w (pk j) (po j) (pt j) (pm j) ≤ 0 := by
          rw [h0]
          decide
        rw [if_pos le0, if_pos le0, if_pos h0]
        exact ⟨og h0, trivial⟩
      · rw [if_neg h1, if_neg h1, if_neg h0]
        trivial
abbrev vP := Int32 × Int32 × Int32 × Int32 × Int32 × Int32 × Int32 × Int32 × (Nat → Int32) × (Nat → Int32) × (Nat → Int32)
theorem st_all {pk po pt pm ma mh mo mu : Nat → Int32} : ∀ (N0 j : Nat) (gf fa fh i n y en : Int32) (w g r : Nat → Int32), j + N0 ≤ 60 → (∀ k, k < j + N0 → actOk (pk k) (po k) (pt k) (mh k) (mo k) ∧ ma k = pk k ∧ mu k = pm k) → InvP w g r n y → (fa = -6 ∨ ∃ c : Nat, c < 60 ∧ fa = nI c) →
    ∃ (wa re gf' fa' fh' en' I N Y : Int32) (W G R : Nat → Int32), (lp (B_X8_play_7 pk po pt pm) j N0 (-6, -6, gf, fa, fh, i, n, y, w, g, r) = Sum.inl (wa, re, gf', fa', fh', I, N, Y, W, G, R) ∨ lp (B_X8_play_7 pk po pt pm) j N0 (-6, -6, gf, fa, fh, i, n, y, w, g, r) = Sum.inr (wa, re, gf', fa', fh', I, N, Y, W, G, R)) ∧ lb (B_X10_goYears_31 ma mh mo mu) j N0 (i, n, y, gf, en, -6, -6, fa, fh, w, r, g) = (I, N, Y, gf', en', wa, re, fa', fh', W, R, G) ∧ InvP W G R N Y ∧ (wa = -6 ∨ ∃ c : Nat, c < 60 ∧ wa = nI c) ∧ lpA (oB_X8_play_7 pk po pt pm) (B_X8_play_7 pk po pt pm) j N0 (-6, -6, gf, fa, fh, i, n, y, w, g, r) ∧ lbA (oB_X10_goYears_31 ma mh mo mu) (B_X10_goYears_31 ma mh mo mu) j N0 (i, n, y, gf, en, -6, -6, fa, fh, w, r, g)
  | 0, j, gf, fa, fh, i, n, y, en, w, g, r, _, _, hP, _ => ⟨-6, -6, gf, fa, fh, en, i, n, y, w, g, r, Or.inl rfl, rfl, hP, Or.inl rfl, trivial, trivial⟩
  | N0 + 1, j, gf, fa, fh, i, n, y, en, w, g, r, h60, hacts, hP, hf => by
    obtain ⟨hA, hma, hmu⟩ := hacts j (by omega)
    have ok := stp_ok (gf := gf) (fa := fa) (fh := fh) (i := i) (en := en) (show j < 60 by omega) hA hma hmu hP
    rcases st_ (gf := gf) (fh := fh) (i := i) (en := en) (show j < 60 by omega) hA hma hmu hP hf with ⟨gf1, fa1, fh1, en1, I1, N1, Y1, W1, G1, R1, e8, e10, hP1, hf1⟩ | ⟨re, e8, e10⟩
    · obtain ⟨wa, re, gf', fa', fh', en', I, N, Y, W, G, R, c1, c2, c3, c4, c5, c6⟩ := st_all N0 (j + 1) gf1 fa1 fh1 I1 N1 Y1 en1 W1 G1 R1 (by omega) (fun k hk => hacts k (by omega)) hP1 hf1
      refine ⟨wa, re, gf', fa', fh', en', I, N, Y, W, G, R, ?_, ?_, c3, c4, ⟨ok.1, ?_⟩, ⟨ok.2, ?_⟩⟩
      · rw [lp_c e8]
        exact c1
      · rw [lb_c e10]
        exact c2
      · rw [e8]
        exact c5
      · rw [e10]
        exact c6
    · refine ⟨nI j, re, gf, fa, fh, en, i, n, y, w, g, r, Or.inr (lp_b e8), ?_, hP, Or.inr ⟨j, by omega, rfl⟩, ⟨ok.1, ?_⟩, ⟨ok.2, ?_⟩⟩
      · rw [lb_c e10]
        cases N0 with
        | zero => rfl
        | succ M => exact lb_b (b10_stop (by omega))
      · rw [e8]
        trivial
      · rw [e10]
        cases N0 with
        | zero => trivial
        | succ M =>
          refine ⟨?_, ?_⟩
          · unfold oB_X10_goYears_31
            dsimp only
            rw [if_pos (nI_pos' (by omega))]
            trivial
          · rw [b10_stop (show j < 60 by omega)]
            trivial
