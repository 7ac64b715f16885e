/-! an act done on both sides -/
theorem less_eq (x : Int32) : f_X10_less 999 x = if 999 < x then 999 else x := by
  unfold f_X10_less
  by_cases h : x ≤ 999
  · rw [if_pos h, if_neg]
    rw [Int32.le_iff_toInt_le] at h
    rw [Int32.lt_iff_toInt_lt]
    omega
  · rw [if_neg h, if_pos]
    rw [Int32.le_iff_toInt_le] at h
    rw [Int32.lt_iff_toInt_lt]
    omega
theorem tl_up {n k : Nat} {f : Nat → Int32} {x : Int32} (h : tl n f) (hk : k < n) : tl n (upd f k x) := fun j hj => (pk_un (by omega)).trans (h j hj)
theorem act_eq {i n y : Int32} {w g r : Nat → Int32} {K o t o' t' m : Int32} (gn : Int32) (hA : actOk K o t o' t') (hP : InvP w g r n y) (h0 : f_X5_reasonAgainst i y w K o t m = 0) :
    ∃ (I N Y : Int32) (R W G : Nat → Int32) (gn' e : Int32), f_X5_perform i n y r w g K o t m = (I, N, Y, R, W, G) ∧ f_X10_happen i n y gn r w g K o' t' m = (I, N, Y, gn', e, R, W, G) ∧ gn' = (if K = 2 then gn + m else gn) ∧ (K = 0 → e = o) ∧ (K = 4 → e = r n.toNatClampNeg) ∧ (¬ K = 0 → ¬ K = 4 → e = -6) ∧ InvP W G R N Y ∧ o_X5_perform n K o t ∧ o_X10_happen n r w g K o' t' m := by
  obtain ⟨⟨k, hk, rfl⟩, h1, h2⟩ := hA
  obtain ⟨p1, p2, p3, p4, ⟨a, ha, rfl⟩, ⟨b, hb, rfl⟩⟩ := hP
  rcases (show k = 0 ∨ k = 1 ∨ k = 2 ∨ k = 3 ∨ k = 4 by omega) with rfl | rfl | rfl | rfl | rfl
  · obtain ⟨rfl, _⟩ := h1 (by decide)
    refine ⟨_, _, _, _, _, _, _, _, rfl, rfl, rfl, fun _ => rfl, fun e => absurd e (by decide), fun e => absurd rfl e, ⟨p1, p2, p3, p4, ⟨a, ha, rfl⟩, ⟨b, hb, rfl⟩⟩, trivial, trivial⟩
  · obtain ⟨rfl, _⟩ := h1 (by decide)
    refine ⟨_, _, _, _, _, _, _, _, rfl, rfl, rfl, fun e => absurd e (by decide), fun e => absurd e (by decide), fun _ _ => rfl, ⟨p1, p2, p3, p4, ⟨a, ha, rfl⟩, ⟨b, hb, rfl⟩⟩, trivial, trivial⟩
  · obtain ⟨rfl, u, hu, rfl⟩ := h1 (by decide)
    obtain ⟨rfl, v, hv, rfl⟩ := h2 (by decide)
    have e1 : nI u * 8 + nI v = nI (u * 8 + v) := by
      rw [show (8 : Int32) = nI 8 from rfl, pk_mul, nI_add]
    have e2 : (8 : Int32) * nI u + nI v = nI (u * 8 + v) := by
      rw [show (8 : Int32) = nI 8 from rfl, pk_mul, nI_add, Nat.mul_comm]
    have vu : vp_in (nI u) 8 := vp_in_nI hu (by decide)
    have vv : vp_in (nI v) 8 := vp_in_nI hv (by decide)
    have vw : vp_in (nI (u * 8 + v)) 64 := vp_in_nI (by omega) (by decide)
    have cu : (nI u).toNatClampNeg = u := nI_clamp (by omega)
    have cv : (nI v).toNatClampNeg = v := nI_clamp (by omega)
    have cw : (nI (u * 8 + v)).toNatClampNeg = u * 8 + v := nI_clamp (by omega)
    have g1 : ¬ nI u < 0 := nI_pos (by omega)
    have g2 : ¬ (8 : Int32) ≤ nI u := nI_ge (a := u) (b := 8) hu (by decide)
    have g3 : ¬ nI v < 0 := nI_pos (by omega)
    have g4 : nI v < 8 := nI_lt (a := v) (b := 8) hv (by decide)
    have eh : f_X10_give gn w g (nI u) (nI v) m = (gn + m, (f_X5_hand w g (nI u) (nI v) m).1, (f_X5_hand w g (nI u) (nI v) m).2) := by
      unfold f_X10_give f_X5_hand
      rw [if_neg g1, if_neg g2, if_neg g3, if_pos g4]
      dsimp only [lt]
      rw [e1, e2, less_eq, less_eq]
    refine ⟨i, nI a, nI b, r, (f_X5_hand w g (nI u) (nI v) m).1, (f_X5_hand w g (nI u) (nI v) m).2, gn + m, -6, rfl, ?_, rfl, fun e => absurd e (by decide), fun e => absurd e (by decide), fun _ _ => rfl, ?_, ?_, ?_⟩
    · unfold f_X10_happen
      rw [if_neg (by decide), if_neg (by decide), if_pos (show nI 2 = 2 from rfl), lt_c eh]
    · unfold f_X5_hand
      rw [if_neg g1, if_neg g2, if_neg g3, if_pos g4]
      dsimp only
      rw [e1, cu, cv, cw]
      exact ⟨tl_up (tl_up p1 hu) hv, tl_up p2 (by omega), p3, p4, ⟨a, ha, rfl⟩, ⟨b, hb, rfl⟩⟩
    · show o_X5_hand (nI u) (nI v) ∧ True
      unfold o_X5_hand
      rw [if_neg g1, if_neg g2, if_neg g3, if_pos g4, e1]
      exact ⟨⟨vu, vu, vv, vv, vw, vw, trivial⟩, trivial⟩
    · show o_X10_give w g (nI u) (nI v) m ∧ True
      unfold o_X10_give
      dsimp only [lt]
      rw [e2]
      exact ⟨⟨vu, vu, vv, vv, vw, vw, trivial⟩, trivial⟩
  · obtain ⟨rfl, u, hu, rfl⟩ := h1 (by decide)
    obtain ⟨rfl, v, hv, rfl⟩ := h2 (by decide)
    have ne : ¬ u = v := by
      intro q
      subst q
      replace h0 : (if nI u = nI u then (2 : Int32) else 0) = 0 := h0
      rw [if_pos rfl] at h0
      exact absurd h0 (by decide)
    refine ⟨i, nI a, nI b, f_X5_changePlaces r (nI u) (nI v), w, g, gn, -6, rfl, ?_, rfl, fun e => absurd e (by decide), fun e => absurd e (by decide), fun _ _ => rfl, ⟨p1, p2, ch_tl p3 _ _, ch_perm p4 hu hv, ⟨a, ha, rfl⟩, ⟨b, hb, rfl⟩⟩, trivial, ?_⟩
    · unfold f_X10_happen
      rw [if_neg (by decide), if_neg (by decide), if_neg (by decide), if_pos (show nI 3 = 3 from rfl), lt_c (ch_eq p4 hu hv ne)]
    · exact ⟨chg_ok p4 hu hv, trivial⟩
  · have hb2 : b < 99 := by
      by_cases q : b < 99
      · exact q
      · replace h0 : (if nI b < 99 then (0 : Int32) else 5) = 0 := h0
        rw [if_neg (show ¬ nI b < 99 from nI_nlt (b := 99) (by omega) (by omega))] at h0
        exact absurd h0 (by decide)
    have en : (nI a + 1) - (nI a + 1) / 8 * 8 = nI ((a + 1) % 8) := by
      rw [nI_1]
      exact pk_rem (by omega) (by decide) (by decide)
    have vn : vp_in (nI a) 8 := vp_in_nI ha (by decide)
    refine ⟨1 <<< (r (nI a).toNatClampNeg &&& 31), nI ((a + 1) % 8), nI (b + 1), r, w, g, gn, r (nI a).toNatClampNeg, ?_, ?_, rfl, fun e => absurd e (by decide), fun _ => rfl, fun _ e => absurd rfl e, ⟨p1, p2, p3, p4, ⟨(a + 1) % 8, Nat.mod_lt _ (by decide), rfl⟩, ⟨b + 1, by omega, rfl⟩⟩, ⟨⟨hn_ok ha, trivial⟩, trivial⟩, ⟨⟨vn, trivial⟩, trivial⟩⟩
    · show ((1 : Int32) <<< (f_X5_houseAtNext (nI a) r &&& 31), (nI a + 1) - (nI a + 1) / 8 * 8, nI b + 1, r, w, g) = _
      rw [hn_v r ha, en, nI_1]
    · show ((0 : Int32) ||| ((1 : Int32) <<< (r (nI a).toNatClampNeg &&& 31)), (nI a + 1) - (nI a + 1) / 8 * 8, nI b + 1, gn, r (nI a).toNatClampNeg, r, w, g) = _
      rw [en, nI_1, Int32.zero_or]
theorem why_ok {i K o t o' t' : Int32} (hA : actOk K o t o' t') : o_X5_reasonAgainst i K o t ∧ o_X10_whyNot i K o' t' := by
  obtain ⟨⟨k, hk, rfl⟩, h1, h2⟩ := hA
  rcases (show k = 0 ∨ k = 1 ∨ k = 2 ∨ k = 3 ∨ k = 4 by omega) with rfl | rfl | rfl | rfl | rfl
  · exact ⟨trivial, trivial⟩
  · exact ⟨trivial, trivial⟩
  · obtain ⟨rfl, u, hu, rfl⟩ := h1 (by decide)
    obtain ⟨rfl, v, hv, rfl⟩ := h2 (by decide)
    have vu : vp_in (nI u) 8 := vp_in_nI hu (by decide)
    have wu : o_X5_wealthOf (nI u) := wo_ok hu
    have q1 : o_X5_reasonAgainstGift i (nI u) (nI v) := by
      unfold o_X5_reasonAgainstGift
      repeat' split
      all_goals first | exact True.intro | exact ⟨wu, True.intro⟩
    have q2 : o_X10_whyNoGift i (nI u) (nI v) := by
      unfold o_X10_whyNoGift
      repeat' split
      all_goals first | exact True.intro | exact ⟨vu, True.intro⟩
    exact ⟨⟨q1, trivial⟩, ⟨q2, trivial⟩⟩
  · exact ⟨trivial, trivial⟩
  · exact ⟨trivial, trivial⟩
theorem why_range (i y : Int32) (w : Nat → Int32) (K o t m : Int32) : f_X5_reasonAgainst i y w K o t m = 0 ∨ (¬ f_X5_reasonAgainst i y w K o t m = 0 ∧ ¬ f_X5_reasonAgainst i y w K o t m ≤ 0) := by
  have h : ∃ j : Nat, j < 6 ∧ f_X5_reasonAgainst i y w K o t m = nI j := by
    unfold f_X5_reasonAgainst f_X5_reasonAgainstGift
    repeat' split
    all_goals first | exact ⟨0, by decide, rfl⟩ | exact ⟨1, by decide, rfl⟩ | exact ⟨2, by decide, rfl⟩ | exact ⟨3, by decide, rfl⟩ | exact ⟨4, by decide, rfl⟩ | exact ⟨5, by decide, rfl⟩
  obtain ⟨j, hj, e⟩ := h
  rw [e]
  by_cases q : j = 0
  · subst q
    exact Or.inl rfl
  · exact Or.inr ⟨nI_ne0 (by omega) (by omega), nI_nle (by omega) (by omega)⟩
