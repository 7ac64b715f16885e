/-! CRUMBS -/
def win : Nat → Nat → Nat → Bool
  | 0, _, _ => false
  | f + 1, g, s => if s = 0 then false else if 2 ≤ g / s ∨ g = s then true else !(win f s (g - s))
theorem div1 {g s : Nat} (hs : 0 < s) (h : s ≤ g) (h2 : ¬ 2 ≤ g / s) : g / s = 1 ∧ g < 2 * s := by
  have h1 : 1 ≤ g / s := (Nat.le_div_iff_mul_le hs).mpr (by omega)
  refine ⟨by omega, ?_⟩
  have h3 : ¬ 2 * s ≤ g := fun q => h2 ((Nat.le_div_iff_mul_le hs).mpr q)
  omega
theorem win_fuel : ∀ (f1 f2 g s : Nat), s < f1 → s < f2 → s ≤ g → win f1 g s = win f2 g s
  | 0, _, _, _, h, _, _ => absurd h (Nat.not_lt_zero _)
  | _ + 1, 0, _, _, _, h, _ => absurd h (Nat.not_lt_zero _)
  | f1 + 1, f2 + 1, g, s, h1, h2, h3 => by
    show (if s = 0 then false else if 2 ≤ g / s ∨ g = s then true else !(win f1 s (g - s))) = (if s = 0 then false else if 2 ≤ g / s ∨ g = s then true else !(win f2 s (g - s)))
    by_cases q : s = 0
    · rw [if_pos q, if_pos q]
    · rw [if_neg q, if_neg q]
      by_cases r : 2 ≤ g / s ∨ g = s
      · rw [if_pos r, if_pos r]
      · rw [if_neg r, if_neg r]
        have := div1 (by omega) h3 (fun z => r (Or.inl z))
        rw [win_fuel f1 f2 s (g - s) (by omega) (by omega) (by omega)]
def wn (g s : Nat) : Bool := win (s + 1) g s
theorem wn_eq {g s : Nat} (h : s ≤ g) : wn g s = if s = 0 then false else if 2 ≤ g / s ∨ g = s then true else !(wn s (g - s)) := by
  show (if s = 0 then false else if 2 ≤ g / s ∨ g = s then true else !(win s s (g - s))) = _
  by_cases q : s = 0
  · rw [if_pos q, if_pos q]
  · rw [if_neg q, if_neg q]
    by_cases r : 2 ≤ g / s ∨ g = s
    · rw [if_pos r, if_pos r]
    · rw [if_neg r, if_neg r]
      have := div1 (by omega) h (fun z => r (Or.inl z))
      unfold wn
      rw [win_fuel s (g - s + 1) s (g - s) (by omega) (by omega) (by omega)]
def ws2 (a b : Nat) : Bool := if a < b then wn b a else wn a b
theorem ws_l {a b : Nat} (h : a ≤ b) : ws2 a b = wn b a := by
  unfold ws2
  by_cases q : a < b
  · rw [if_pos q]
  · have : a = b := by omega
    subst this
    rw [if_neg q]
theorem ws_r {a b : Nat} (h : b ≤ a) : ws2 a b = wn a b := by
  unfold ws2
  rw [if_neg (by omega)]
/-- the game: who begins wins just if some first taking leaves a lost pair -/
theorem game {g s : Nat} (hs : 0 < s) (h : s ≤ g) : wn g s = true ↔ ∃ j, 1 ≤ j ∧ j ≤ g / s ∧ ws2 (g - j * s) s = false := by
  have hq : g = s * (g / s) + g % s := (Nat.div_add_mod g s).symm
  have hr : g % s < s := Nat.mod_lt _ hs
  have h1 : 1 ≤ g / s := (Nat.le_div_iff_mul_le hs).mpr (by omega)
  have hc : ∀ j, j ≤ g / s → g - j * s = s * (g / s - j) + g % s := by
    intro j hj
    have : s * (g / s) = s * (g / s - j) + s * j := by rw [← Nat.mul_add]; congr 1; omega
    rw [Nat.mul_comm j s]
    omega
  by_cases q2 : 2 ≤ g / s
  · have hw : wn g s = true := by rw [wn_eq h, if_neg (by omega), if_pos (Or.inl q2)]
    refine ⟨fun _ => ?_, fun _ => hw⟩
    have e1 : g - (g / s) * s = g % s := by rw [hc _ (Nat.le_refl _), Nat.sub_self, Nat.mul_zero, Nat.zero_add]
    have e2 : g - (g / s - 1) * s = s + g % s := by rw [hc _ (by omega), show g / s - (g / s - 1) = 1 by omega, Nat.mul_one]
    cases hl : ws2 (g % s) s with
    | false => exact ⟨g / s, h1, Nat.le_refl _, by rw [e1]; exact hl⟩
    | true =>
      refine ⟨g / s - 1, by omega, by omega, ?_⟩
      rw [e2, ws_r (by omega)]
      rw [ws_l (by omega)] at hl
      have hz : ¬ g % s = 0 := by
        intro z
        rw [z, wn_eq (Nat.zero_le _), if_pos rfl] at hl
        cases hl
      have hd : (s + g % s) / s = 1 := by
        rw [Nat.add_div_left _ hs, Nat.div_eq_of_lt hr]
      rw [wn_eq (by omega), if_neg (by omega), hd, if_neg (by omega), show s + g % s - s = g % s by omega, hl]
      rfl
  · have h11 := div1 hs h q2
    by_cases q3 : g = s
    · refine ⟨fun _ => ⟨1, Nat.le_refl _, h1, ?_⟩, fun _ => by rw [wn_eq h, if_neg (by omega), if_pos (Or.inr q3)]⟩
      rw [show g - 1 * s = 0 by omega, ws_l (Nat.zero_le _), wn_eq (Nat.zero_le _), if_pos rfl]
    · have hw : wn g s = !(wn s (g - s)) := by rw [wn_eq h, if_neg (by omega), if_neg (by omega)]
      have he : ws2 (g - 1 * s) s = wn s (g - s) := by rw [Nat.one_mul, ws_l (by omega)]
      constructor
      · intro w
        refine ⟨1, Nat.le_refl _, h1, ?_⟩
        rw [he]
        rw [hw] at w
        cases hx : wn s (g - s) with
        | false => rfl
        | true => rw [hx] at w; cases w
      · rintro ⟨j, j1, j2, j3⟩
        have : j = 1 := by omega
        subst this
        rw [he] at j3
        rw [hw, j3]
        rfl
def bI (b : Bool) : Int32 := if b then 1 else 0
theorem nI_divN {g s : Nat} (hg : g < 1000) (h0 : 0 < s) (hs : s < 1000) : nI g / nI s = nI (g / s) := pk_div (by omega) h0 (by omega)
theorem cw_loop : ∀ (n j g s : Nat) (b : Bool), g < 1000 → s ≤ g → s ≤ n → Sum.elim (fun y : Int32 × Int32 × Int32 => (if y.2.2 = 0 then (1 : Int32) else 0)) id (lp B_X9_canWin_18 j n (nI g, nI s, bI b)) = bI (if wn g s then b else !b)
  | 0, j, g, s, b, hg, hs, hn => by
    have : s = 0 := by omega
    subst this
    rw [wn_eq hs, if_pos rfl]
    cases b <;> rfl
  | n + 1, j, g, s, b, hg, hs, hn => by
    by_cases q : s = 0
    · subst q
      have e : B_X9_canWin_18 j (nI g, nI 0, bI b) = Sum.inr (Sum.inl (nI g, nI 0, bI b)) := by
        unfold B_X9_canWin_18
        exact if_pos (show nI 0 ≤ 0 by decide)
      rw [lp_b e, wn_eq hs, if_pos rfl]
      cases b <;> rfl
    · have p0 : ¬ nI s ≤ 0 := nI_nle (by omega) (by omega)
      have ed := nI_divN hg (show 0 < s by omega) (by omega)
      have l2 : (nI (g / s) < 2) ↔ g / s < 2 := nI_ltI (b := 2) (by have := Nat.div_le_self g s; omega) (by decide)
      by_cases r : 2 ≤ g / s
      · have e : B_X9_canWin_18 j (nI g, nI s, bI b) = Sum.inr (Sum.inr (bI b)) := by
          unfold B_X9_canWin_18
          dsimp only
          rw [if_neg p0, ed, if_neg (by rw [l2]; omega)]
        rw [lp_b e, wn_eq hs, if_neg q, if_pos (Or.inl r)]
        rfl
      · have hd := div1 (by omega) hs r
        have e : B_X9_canWin_18 j (nI g, nI s, bI b) = Sum.inl (nI s, nI (g - s), bI (!b)) := by
          unfold B_X9_canWin_18
          dsimp only
          rw [if_neg p0, ed, if_pos (by rw [l2]; omega), pk_sub hs]
          cases b
          · exact if_pos rfl
          · exact if_neg (by decide)
        rw [lp_c e, cw_loop n (j + 1) s (g - s) (!b) (by omega) (by omega) (by omega), wn_eq hs, if_neg q]
        by_cases u : g = s
        · rw [if_pos (Or.inr u), show g - s = 0 by omega, wn_eq (Nat.zero_le _), if_pos rfl]
          cases b <;> rfl
        · rw [if_neg (show ¬ (2 ≤ g / s ∨ g = s) by omega)]
          cases wn s (g - s) <;> cases b <;> rfl
theorem cw_ok : ∀ (n j g s : Nat) (b : Bool), g < 1000 → s ≤ g → lpA oB_X9_canWin_18 B_X9_canWin_18 j n (nI g, nI s, bI b)
  | 0, _, _, _, _, _, _ => trivial
  | n + 1, j, g, s, b, hg, hs => by
    have hn : narrow .boolean (.int (bI b)) = .int (bI b) := nb01 (by cases b; exact Or.inl rfl; exact Or.inr rfl)
    by_cases q : s = 0
    · subst q
      refine ⟨?_, ?_⟩
      · unfold oB_X9_canWin_18
        dsimp only
        rw [if_pos (show nI 0 ≤ 0 by decide)]
        trivial
      · rw [show B_X9_canWin_18 j (nI g, nI 0, bI b) = Sum.inr (Sum.inl (nI g, nI 0, bI b)) from if_pos (show nI 0 ≤ 0 by decide)]
        trivial
    · have p0 : ¬ nI s ≤ 0 := nI_nle (by omega) (by omega)
      have p1 : ¬ nI s = 0 := nI_ne0 (by omega) (by omega)
      have ed := nI_divN hg (show 0 < s by omega) (by omega)
      have l2 : (nI (g / s) < 2) ↔ g / s < 2 := nI_ltI (b := 2) (by have := Nat.div_le_self g s; omega) (by decide)
      refine ⟨?_, ?_⟩
      · unfold oB_X9_canWin_18
        dsimp only
        rw [if_neg p0]
        refine ⟨p1, ?_⟩
        split
        · trivial
        · exact ⟨hn, trivial⟩
      · by_cases r : 2 ≤ g / s
        · have e : B_X9_canWin_18 j (nI g, nI s, bI b) = Sum.inr (Sum.inr (bI b)) := by
            unfold B_X9_canWin_18
            dsimp only
            rw [if_neg p0, ed, if_neg (by rw [l2]; omega)]
          rw [e]
          trivial
        · have hd := div1 (by omega) hs r
          have e : B_X9_canWin_18 j (nI g, nI s, bI b) = Sum.inl (nI s, nI (g - s), bI (!b)) := by
            unfold B_X9_canWin_18
            dsimp only
            rw [if_neg p0, ed, if_pos (by rw [l2]; omega), pk_sub hs]
            cases b
            · exact if_pos rfl
            · exact if_neg (by decide)
          rw [e]
          exact cw_ok n (j + 1) s (g - s) (!b) (by omega) (by omega)
theorem wi_loop : ∀ (n j g s : Nat) (b : Bool), g < 1000 → s ≤ g → s < n → lbSb B_X10_wins_25 j n (nI g, nI s, bI b) = true ∧ (if (lb B_X10_wins_25 j n (nI g, nI s, bI b)).2.1 ≤ 0 then (if 0 = (lb B_X10_wins_25 j n (nI g, nI s, bI b)).2.2 then (1 : Int32) else 0) else (if 1 = (lb B_X10_wins_25 j n (nI g, nI s, bI b)).2.2 then 1 else 0)) = bI (if wn g s then b else !b)
  | 0, _, _, _, _, _, _, h => absurd h (Nat.not_lt_zero _)
  | n + 1, j, g, s, b, hg, hs, hn => by
    have stop : ∀ (v : Int32 × Int32 × Int32), B_X10_wins_25 j v = Sum.inr v → lbSb B_X10_wins_25 j (n + 1) v = true := by
      intro v e
      show Sum.elim (fun v' => lbSb B_X10_wins_25 (j + 1) n v') (fun _ => true) (B_X10_wins_25 j v) = true
      rw [e]
      rfl
    by_cases q : s = 0
    · subst q
      have e : B_X10_wins_25 j (nI g, nI 0, bI b) = Sum.inr (nI g, nI 0, bI b) := by
        unfold B_X10_wins_25
        exact if_pos (show nI 0 ≤ 0 by decide)
      refine ⟨stop _ e, ?_⟩
      rw [lb_b e, wn_eq hs, if_pos rfl]
      cases b <;> rfl
    · have p0 : ¬ nI s ≤ 0 := nI_nle (by omega) (by omega)
      have ed := nI_divN hg (show 0 < s by omega) (by omega)
      have l1 : (nI (g / s) = 1) ↔ g / s = 1 := nI_eq (b := 1) (by have := Nat.div_le_self g s; omega) (by decide)
      have lg : (nI g ≤ nI s) ↔ g ≤ s := nI_leI (by omega) (by omega)
      by_cases r : g / s = 1
      · by_cases u : g = s
        · have e : B_X10_wins_25 j (nI g, nI s, bI b) = Sum.inr (nI g, nI s, bI b) := by
            unfold B_X10_wins_25
            dsimp only
            rw [if_neg p0, ed, if_pos (l1.mpr r), if_pos (lg.mpr (by omega))]
          refine ⟨stop _ e, ?_⟩
          rw [lb_b e, if_neg p0, wn_eq hs, if_neg q, if_pos (Or.inr u)]
          cases b <;> rfl
        · have e : B_X10_wins_25 j (nI g, nI s, bI b) = Sum.inl (nI s, nI (g - s), bI (!b)) := by
            unfold B_X10_wins_25
            dsimp only
            rw [if_neg p0, ed, if_pos (l1.mpr r), if_neg (fun z => u (by have := lg.mp z; omega)), pk_sub hs]
            cases b
            · exact if_pos rfl
            · exact if_neg (by decide)
          have hd := div1 (by omega) hs (by omega)
          obtain ⟨i1, i2⟩ := wi_loop n (j + 1) s (g - s) (!b) (by omega) (by omega) (by omega)
          refine ⟨?_, ?_⟩
          · show Sum.elim (fun v' => lbSb B_X10_wins_25 (j + 1) n v') (fun _ => true) (B_X10_wins_25 j (nI g, nI s, bI b)) = true
            rw [e]
            exact i1
          · rw [lb_c e, i2, wn_eq hs, if_neg q, if_neg (show ¬ (2 ≤ g / s ∨ g = s) by omega)]
            cases wn s (g - s) <;> cases b <;> rfl
      · have h1 : 1 ≤ g / s := (Nat.le_div_iff_mul_le (by omega)).mpr (by omega)
        have e : B_X10_wins_25 j (nI g, nI s, bI b) = Sum.inr (nI g, nI s, bI b) := by
          unfold B_X10_wins_25
          dsimp only
          rw [if_neg p0, ed, if_neg (fun z => r (l1.mp z))]
        refine ⟨stop _ e, ?_⟩
        rw [lb_b e, if_neg p0, wn_eq hs, if_neg q, if_pos (Or.inl (by omega))]
        cases b <;> rfl
theorem cw_val {a b : Nat} (ha : a < 1000) (hb : b < 1000) : f_X9_canWin (nI a) (nI b) = bI (ws2 a b) := by
  unfold f_X9_canWin
  have l1 : (nI a < nI b) ↔ a < b := nI_ltI (by omega) (by omega)
  have l2 : (nI b < nI a) ↔ b < a := nI_ltI (by omega) (by omega)
  by_cases q : a < b
  · rw [if_pos (l1.mpr q), if_neg (fun z => by have := l2.mp z; omega)]
    have := cw_loop 1000 0 b a true hb (by omega) (by omega)
    refine Eq.trans this ?_
    rw [ws_l (by omega)]
    cases wn b a <;> rfl
  · rw [if_neg (fun z => q (l1.mp z))]
    by_cases r : b < a
    · rw [if_pos (l2.mpr r)]
      have := cw_loop 1000 0 a b true ha (by omega) (by omega)
      refine Eq.trans this ?_
      rw [ws_r (by omega)]
      cases wn a b <;> rfl
    · rw [if_neg (fun z => r (l2.mp z))]
      have : a = b := by omega
      subst this
      have := cw_loop 1000 0 a a true ha (by omega) (by omega)
      refine Eq.trans this ?_
      rw [ws_r (by omega)]
      cases wn a a <;> rfl
theorem cw_okv {a b : Nat} (ha : a < 1000) (hb : b < 1000) : o_X9_canWin (nI a) (nI b) := by
  unfold o_X9_canWin
  have l1 : (nI a < nI b) ↔ a < b := nI_ltI (by omega) (by omega)
  have l2 : (nI b < nI a) ↔ b < a := nI_ltI (by omega) (by omega)
  refine ⟨?_, trivial⟩
  by_cases q : a < b
  · rw [if_pos (l1.mpr q), if_neg (fun z => by have := l2.mp z; omega)]
    exact cw_ok 1000 0 b a true hb (by omega)
  · rw [if_neg (fun z => q (l1.mp z))]
    by_cases r : b < a
    · rw [if_pos (l2.mpr r)]
      exact cw_ok 1000 0 a b true ha (by omega)
    · rw [if_neg (fun z => r (l2.mp z))]
      exact cw_ok 1000 0 a a true ha (by omega)
theorem wi_val {a b : Nat} (ha : a < 1000) (hb : b < 1000) : f_X10_wins (nI a) (nI b) = bI (ws2 a b) := by
  unfold f_X10_wins
  have l1 : (nI b ≤ nI a) ↔ b ≤ a := nI_leI (by omega) (by omega)
  by_cases q : b ≤ a
  · rw [if_pos (l1.mpr q), if_pos (l1.mpr q)]
    refine Eq.trans (wi_loop 1001 0 a b true ha (by omega) (by omega)).2 ?_
    rw [ws_r q]
    cases wn a b <;> rfl
  · rw [if_neg (fun z => q (l1.mp z)), if_neg (fun z => q (l1.mp z))]
    refine Eq.trans (wi_loop 1001 0 b a true hb (by omega) (by omega)).2 ?_
    rw [ws_l (by omega)]
    cases wn b a <;> rfl
theorem oBw {s : Nat} (j : Nat) (g b : Int32) (hs : s < 1000) : oB_X10_wins_25 j (g, nI s, b) := by
  unfold oB_X10_wins_25
  dsimp only
  split
  · trivial
  · refine ⟨?_, trivial⟩
    rename_i h
    intro z
    exact h (by rw [z]; decide)
theorem wi_okl : ∀ (n j g s : Nat) (b : Bool), g < 1000 → s ≤ g → s < n → lbS oB_X10_wins_25 B_X10_wins_25 j n (nI g, nI s, bI b)
  | 0, _, _, _, _, _, _, h => absurd h (Nat.not_lt_zero _)
  | n + 1, j, g, s, b, hg, hs, hn => by
    refine ⟨oBw j _ _ (by omega), ?_⟩
    by_cases q : s = 0
    · subst q
      rw [show B_X10_wins_25 j (nI g, nI 0, bI b) = Sum.inr (nI g, nI 0, bI b) from if_pos (show nI 0 ≤ 0 by decide)]
      trivial
    · have p0 : ¬ nI s ≤ 0 := nI_nle (by omega) (by omega)
      have ed := nI_divN hg (show 0 < s by omega) (by omega)
      have l1 : (nI (g / s) = 1) ↔ g / s = 1 := nI_eq (b := 1) (by have := Nat.div_le_self g s; omega) (by decide)
      have lg : (nI g ≤ nI s) ↔ g ≤ s := nI_leI (by omega) (by omega)
      by_cases r : g / s = 1
      · by_cases u : g = s
        · have e : B_X10_wins_25 j (nI g, nI s, bI b) = Sum.inr (nI g, nI s, bI b) := by
            unfold B_X10_wins_25
            dsimp only
            rw [if_neg p0, ed, if_pos (l1.mpr r), if_pos (lg.mpr (by omega))]
          rw [e]
          trivial
        · have e : B_X10_wins_25 j (nI g, nI s, bI b) = Sum.inl (nI s, nI (g - s), bI (!b)) := by
            unfold B_X10_wins_25
            dsimp only
            rw [if_neg p0, ed, if_pos (l1.mpr r), if_neg (fun z => u (by have := lg.mp z; omega)), pk_sub hs]
            cases b
            · exact if_pos rfl
            · exact if_neg (by decide)
          have hd := div1 (by omega) hs (by omega)
          rw [e]
          exact wi_okl n (j + 1) s (g - s) (!b) (by omega) (by omega) (by omega)
      · have e : B_X10_wins_25 j (nI g, nI s, bI b) = Sum.inr (nI g, nI s, bI b) := by
          unfold B_X10_wins_25
          dsimp only
          rw [if_neg p0, ed, if_neg (fun z => r (l1.mp z))]
        rw [e]
        trivial
theorem wi_okv {a b : Nat} (ha : a < 1000) (hb : b < 1000) : o_X10_wins (nI a) (nI b) := by
  unfold o_X10_wins
  have l1 : (nI b ≤ nI a) ↔ b ≤ a := nI_leI (by omega) (by omega)
  by_cases q : b ≤ a
  · rw [if_pos (l1.mpr q), if_pos (l1.mpr q)]
    exact ⟨wi_okl 1001 0 a b true ha (by omega) (by omega), trivial⟩
  · rw [if_neg (fun z => q (l1.mp z)), if_neg (fun z => q (l1.mp z))]
    exact ⟨wi_okl 1001 0 b a true hb (by omega) (by omega), trivial⟩
/-- the first of n places from a on with a property -/
def fstv (P : Nat → Bool) : Nat → Nat → Int32 → Int32
  | _, 0, d => d
  | a, n + 1, d => if P a then nI a else fstv P (a + 1) n d
theorem fstv_snoc (P : Nat → Bool) : ∀ (n a : Nat) (d : Int32), fstv P a (n + 1) d = fstv P a n (if P (a + n) then nI (a + n) else d)
  | 0, a, d => rfl
  | n + 1, a, d => by
    show (if P a then nI a else fstv P (a + 1) (n + 1) d) = (if P a then nI a else fstv P (a + 1) n (if P (a + (n + 1)) then nI (a + (n + 1)) else d))
    rw [fstv_snoc P n (a + 1) d, show a + 1 + n = a + (n + 1) by omega]
theorem fstv_cases (P : Nat → Bool) : ∀ (n a : Nat) (d : Int32), (∃ j, a ≤ j ∧ j < a + n ∧ P j = true ∧ fstv P a n d = nI j) ∨ ((∀ j, a ≤ j → j < a + n → P j = false) ∧ fstv P a n d = d)
  | 0, a, d => Or.inr ⟨fun j h1 h2 => by omega, rfl⟩
  | n + 1, a, d => by
    show (∃ j, a ≤ j ∧ j < a + (n + 1) ∧ P j = true ∧ (if P a then nI a else fstv P (a + 1) n d) = nI j) ∨ ((∀ j, a ≤ j → j < a + (n + 1) → P j = false) ∧ (if P a then nI a else fstv P (a + 1) n d) = d)
    cases hp : P a with
    | true => exact Or.inl ⟨a, by omega, by omega, hp, rfl⟩
    | false =>
      rcases fstv_cases P n (a + 1) d with ⟨j, h1, h2, h3, h4⟩ | ⟨h1, h2⟩
      · exact Or.inl ⟨j, by omega, by omega, h3, h4⟩
      · refine Or.inr ⟨fun j h3 h4 => ?_, h2⟩
        by_cases q : j = a
        · rw [q]; exact hp
        · exact h1 j (by omega) (by omega)
theorem bI_0 (b : Bool) : bI b = 0 ↔ b = false := by
  cases b
  · exact ⟨fun _ => rfl, fun _ => rfl⟩
  · exact ⟨fun h => absurd h (by decide), fun h => by cases h⟩
def losF (g s : Nat) (j : Nat) : Bool := !(ws2 (g - j * s) s)
theorem sub_mul {g s j : Nat} (h : j ≤ g / s) : j * s ≤ g := Nat.le_trans (Nat.mul_le_mul_right s h) (by rw [Nat.mul_comm]; exact Nat.mul_div_le g s)
theorem wt_loop {g s : Nat} (hg : g < 1000) (hs : s < 1000) : ∀ (n j : Nat), j + n ≤ g / s + 1 → Sum.elim (fun _ : Unit => (-6 : Int32)) id (lp (B_X9_winningTimes_9 (nI g) (nI s)) j n ()) = fstv (losF g s) j n (-6)
  | 0, j, _ => rfl
  | n + 1, j, h => by
    have hm := sub_mul (show j ≤ g / s by omega)
    have e1 : nI g - nI j * nI s = nI (g - j * s) := by rw [pk_mul, pk_sub hm]
    show _ = if losF g s j then nI j else fstv (losF g s) (j + 1) n (-6)
    cases hw : ws2 (g - j * s) s with
    | false =>
      have e : B_X9_winningTimes_9 (nI g) (nI s) j () = Sum.inr (Sum.inr (nI j)) := by
        unfold B_X9_winningTimes_9
        rw [e1, cw_val (by omega) hs, hw, if_pos (show bI false = 0 from rfl)]
      rw [lp_b e, if_pos (by unfold losF; rw [hw]; rfl)]
      rfl
    | true =>
      have e : B_X9_winningTimes_9 (nI g) (nI s) j () = Sum.inl () := by
        unfold B_X9_winningTimes_9
        rw [e1, cw_val (by omega) hs, hw, if_neg (by decide)]
      rw [lp_c e, if_neg (by unfold losF; rw [hw]; decide)]
      exact wt_loop hg hs n (j + 1) (by omega)
theorem ls_loop {g s : Nat} (hg : g < 1000) (hs : s < 1000) : ∀ (n : Nat) (v : Int32), n ≤ g / s → itD (B_X10_leastShare_39 (nI g) (nI s)) n v = fstv (losF g s) 1 n v
  | 0, v, _ => rfl
  | n + 1, v, h => by
    have hm := sub_mul h
    have e1 : nI g - nI (n + 1) * nI s = nI (g - (n + 1) * s) := by rw [pk_mul, pk_sub hm]
    have e : B_X10_leastShare_39 (nI g) (nI s) n v = if losF g s (1 + n) then nI (1 + n) else v := by
      unfold B_X10_leastShare_39 losF
      rw [e1, wi_val (by omega) hs, Nat.add_comm 1 n]
      cases ws2 (g - (n + 1) * s) s
      · exact if_pos rfl
      · exact if_neg (by decide)
    rw [itD_c e, ls_loop hg hs n _ (by omega), fstv_snoc]
theorem wt_ok {g s : Nat} (hg : g < 1000) (hs : s < 1000) : ∀ (n j : Nat), j + n ≤ g / s + 1 → lpA (oB_X9_winningTimes_9 (nI g) (nI s)) (B_X9_winningTimes_9 (nI g) (nI s)) j n ()
  | 0, _, _ => trivial
  | n + 1, j, h => by
    have hm := sub_mul (show j ≤ g / s by omega)
    have e1 : nI g - nI j * nI s = nI (g - j * s) := by rw [pk_mul, pk_sub hm]
    refine ⟨⟨by rw [e1]; exact cw_okv (by omega) hs, trivial⟩, ?_⟩
    cases hb : B_X9_winningTimes_9 (nI g) (nI s) j () with
    | inl w => exact wt_ok hg hs n (j + 1) (by omega)
    | inr w => trivial
theorem ls_ok {g s : Nat} (hg : g < 1000) (hs : s < 1000) : ∀ (n : Nat) (v : Int32), n ≤ g / s → itDA (oB_X10_leastShare_39 (nI g) (nI s)) (B_X10_leastShare_39 (nI g) (nI s)) n v
  | 0, _, _ => trivial
  | n + 1, v, h => by
    have hm := sub_mul h
    have e1 : nI g - nI (n + 1) * nI s = nI (g - (n + 1) * s) := by rw [pk_mul, pk_sub hm]
    exact ⟨⟨by rw [e1]; exact wi_okv (by omega) hs, trivial⟩, ls_ok hg hs n _ (by omega)⟩
def shr (g s : Nat) : Int32 := fstv (losF g s) 1 (g / s) (-6)
theorem wt_val {g s : Nat} (hg : g < 1000) (h : s ≤ g) : f_X9_winningTimes (nI g) (nI s) = (if s = 0 then -6 else shr g s) ∧ o_X9_winningTimes (nI g) (nI s) := by
  unfold f_X9_winningTimes o_X9_winningTimes
  by_cases q : s = 0
  · subst q
    rw [if_neg (by decide), if_pos rfl, if_neg (by decide)]
    exact ⟨rfl, trivial⟩
  · have ed := nI_divN hg (show 0 < s by omega) (by omega)
    have hd := Nat.div_le_self g s
    have p : (0 : Int32) < nI s := nI_lt (a := 0) (by omega) (by omega)
    rw [if_pos p, if_neg q, if_pos p, ed, nI_clamp (by omega), Nat.add_sub_cancel]
    exact ⟨wt_loop hg (by omega) (g / s) 1 (by omega), nI_ne0 (by omega) (by omega), nI_pos' (by omega), by omega, wt_ok hg (by omega) (g / s) 1 (by omega), trivial⟩
theorem ls_val {g s : Nat} (hg : g < 1000) (h : s ≤ g) : (if nI s = 0 then itD (B_X10_leastShare_39 (nI g) (nI s)) 0 (-6) else itD (B_X10_leastShare_39 (nI g) (nI s)) (nI g / nI s).toNatClampNeg (-6)) = (if s = 0 then -6 else shr g s) := by
  by_cases q : s = 0
  · subst q
    rw [if_pos (show nI 0 = 0 from rfl), if_pos rfl]
    rfl
  · have ed := nI_divN hg (show 0 < s by omega) (by omega)
    have hd := Nat.div_le_self g s
    rw [if_neg (nI_ne0 (by omega) (by omega)), if_neg q, ed, nI_clamp (by omega)]
    exact ls_loop hg (by omega) (g / s) (-6) (Nat.le_refl _)
theorem lo_val {a b : Nat} (ha : a < 1000) (hb : b < 1000) : f_X10_leastShare (nI a) (nI b) = (if b ≤ a then (if b = 0 then -6 else shr a b) else (if a = 0 then -6 else shr b a)) := by
  unfold f_X10_leastShare
  have l1 : (nI b ≤ nI a) ↔ b ≤ a := nI_leI (by omega) (by omega)
  by_cases q : b ≤ a
  · rw [if_pos (l1.mpr q), if_pos (l1.mpr q), if_pos q]
    exact ls_val ha q
  · rw [if_neg (fun z => q (l1.mp z)), if_neg (fun z => q (l1.mp z)), if_neg q]
    exact ls_val hb (by omega)
theorem lo_ok1 {g s : Nat} (hg : g < 1000) (h : s ≤ g) : (if nI s = 0 then ((itDA (oB_X10_leastShare_39 (nI g) (nI s)) (B_X10_leastShare_39 (nI g) (nI s)) 0 (-6)) ∧ True) else ((¬ nI s = 0) ∧ ((0 ≤ (nI g / nI s)) ∧ ((itDA (oB_X10_leastShare_39 (nI g) (nI s)) (B_X10_leastShare_39 (nI g) (nI s)) (nI g / nI s).toNatClampNeg (-6)) ∧ True)))) := by
  by_cases q : s = 0
  · subst q
    rw [if_pos (show nI 0 = 0 from rfl)]
    exact ⟨trivial, trivial⟩
  · have ed := nI_divN hg (show 0 < s by omega) (by omega)
    have hd := Nat.div_le_self g s
    rw [if_neg (nI_ne0 (by omega) (by omega)), ed, nI_clamp (by omega)]
    exact ⟨nI_ne0 (by omega) (by omega), nI_pos' (by omega), ls_ok hg (by omega) _ _ (Nat.le_refl _), trivial⟩
theorem lo_ok {a b : Nat} (ha : a < 1000) (hb : b < 1000) : o_X10_leastShare (nI a) (nI b) := by
  unfold o_X10_leastShare
  have l1 : (nI b ≤ nI a) ↔ b ≤ a := nI_leI (by omega) (by omega)
  by_cases q : b ≤ a
  · rw [if_pos (l1.mpr q), if_pos (l1.mpr q)]
    exact lo_ok1 ha q
  · rw [if_neg (fun z => q (l1.mp z)), if_neg (fun z => q (l1.mp z))]
    exact lo_ok1 hb (by omega)
theorem shr_pos {g s : Nat} (hg : g < 1000) (h0 : 0 < s) (h : s ≤ g) : (0 ≤ shr g s ↔ wn g s = true) := by
  have hd := Nat.div_le_self g s
  rw [game h0 h]
  unfold shr
  rcases fstv_cases (losF g s) (g / s) 1 (-6) with ⟨j, h1, h2, h3, h4⟩ | ⟨h1, h2⟩
  · rw [h4]
    refine ⟨fun _ => ⟨j, h1, by omega, ?_⟩, fun _ => nI_pos' (by omega)⟩
    unfold losF at h3
    cases hw : ws2 (g - j * s) s with
    | false => rfl
    | true => rw [hw] at h3; cases h3
  · rw [h2]
    refine ⟨fun z => absurd z (by decide), ?_⟩
    rintro ⟨j, j1, j2, j3⟩
    have := h1 j j1 (by omega)
    unfold losF at this
    rw [j3] at this
    cases this
theorem Q_crumbs (ww : Nat → Int32) (gg : Nat → Int32) (rr : Nat → Int32) (ii : Int32) (nx : Int32) (yr : Int32) (kn : Nat → Int32) (ss : Nat → Int32) (sc : Nat → Int32) (sn : Int32) (sg : Int32) (pd : Nat → Int32) (pk : Nat → Int32) (po : Nat → Int32) (pt : Nat → Int32) (pm : Nat → Int32) (pa : Int32) (wp : Int32) (ex : Int32) (on : Int32) (ot : Int32) (tw : Nat → Int32) (tg : Nat → Int32) (tr : Nat → Int32) (uw : Nat → Int32) (ug : Nat → Int32) (ur : Nat → Int32) (ui : Int32) (un : Int32) (uy : Int32) (uk : Nat → Int32) (us : Nat → Int32) (uc : Nat → Int32) (um : Int32) (uf : Int32) (zw : Nat → Int32) (zg : Nat → Int32) (zr : Nat → Int32) (zi : Int32) (zn : Int32) (zy : Int32) (zk : Nat → Int32) (zs : Nat → Int32) (zc : Nat → Int32) (zm : Int32) (zf : Int32) (kp : Nat → Int32) (ik : Nat → Int32) (a1 : Int32) (a2 : Int32) (a3 : Int32) (h : RA ww gg rr ii nx yr kn ss sc sn sg pd pk po pt pm pa wp ex on ot tw tg tr uw ug ur ui un uy uk us uc um uf zw zg zr zi zn zy zk zs zc zm zf kp ik) : o_X9_crumbs a1 a2 a3 ∧ o_X10_crumbs a1 a2 a3 ∧ (f_X9_crumbs a1 a2 a3) = (f_X10_crumbs a1 a2 a3) ∧ RA ww gg rr ii nx yr kn ss sc sn sg pd pk po pt pm pa wp ex on ot tw tg tr uw ug ur ui un uy uk us uc um uf zw zg zr zi zn zy zk zs zc zm zf kp ik := by
  have mx : ∀ a b : Nat, a < 1000 → b < 1000 → ((if nI a < nI b then nI b else nI a) = nI (if b ≤ a then a else b) ∧ (if nI b < nI a then nI b else nI a) = nI (if b ≤ a then b else a)) := by
    intro a b ha hb
    have l1 : (nI a < nI b) ↔ a < b := nI_ltI (by omega) (by omega)
    have l2 : (nI b < nI a) ↔ b < a := nI_ltI (by omega) (by omega)
    by_cases q : b ≤ a
    · rw [if_neg (fun z => by have := l1.mp z; omega), if_pos q, if_pos q]
      refine ⟨rfl, ?_⟩
      by_cases r : b < a
      · rw [if_pos (l2.mpr r)]
      · rw [if_neg (fun z => r (l2.mp z)), show a = b by omega]
    · rw [if_pos (l1.mpr (by omega)), if_neg q, if_neg q, if_neg (fun z => by have := l2.mp z; omega)]
      exact ⟨rfl, rfl⟩
  refine ⟨?_, ?_, ?_, h⟩
  · unfold o_X9_crumbs
    split
    · trivial
    · rename_i g1
      split
      · trivial
      · rename_i g2
        split
        · trivial
        · obtain ⟨a, _, x2, rfl⟩ := wi_nat (x := 0) (y := 999) (by decide) (by decide) g1
          obtain ⟨b, _, y2, rfl⟩ := wi_nat (x := 0) (y := 999) (by decide) (by decide) g2
          split
          · exact ⟨cw_okv (by omega) (by omega), trivial⟩
          · rw [(mx a b (by omega) (by omega)).1, (mx a b (by omega) (by omega)).2]
            refine ⟨(wt_val ?_ ?_).2, trivial⟩
            · split <;> omega
            · split <;> omega
  · unfold o_X10_crumbs
    rw [in_0_999, in_0_999]
    split
    · trivial
    · rename_i g1
      split
      · trivial
      · rename_i g2
        split
        · trivial
        · obtain ⟨a, _, x2, rfl⟩ := wi_nat (x := 0) (y := 999) (by decide) (by decide) g1
          obtain ⟨b, _, y2, rfl⟩ := wi_nat (x := 0) (y := 999) (by decide) (by decide) g2
          exact ⟨lo_ok (by omega) (by omega), trivial⟩
  · unfold f_X9_crumbs f_X10_crumbs
    rw [in_0_999, in_0_999, in_0_1]
    split
    · rfl
    · rename_i g1
      split
      · rfl
      · rename_i g2
        split
        · rfl
        · rename_i g3
          obtain ⟨a, _, x2, rfl⟩ := wi_nat (x := 0) (y := 999) (by decide) (by decide) g1
          obtain ⟨b, _, y2, rfl⟩ := wi_nat (x := 0) (y := 999) (by decide) (by decide) g2
          obtain ⟨z, _, z2, rfl⟩ := wi_nat (x := 0) (y := 1) (by decide) (by decide) g3
          rw [lo_val (by omega) (by omega)]
          have hz : z = 0 ∨ z = 1 := by omega
          rcases hz with rfl | rfl
          · rw [if_pos (by decide), if_neg (show ¬ nI 0 = 1 by decide), cw_val (by omega) (by omega)]
            by_cases q : b ≤ a
            · rw [if_pos q, ws_r q]
              by_cases r : b = 0
              · subst r
                rw [wn_eq (Nat.zero_le _), if_pos rfl, if_pos rfl]
                rfl
              · rw [if_neg r]
                have sp := shr_pos (show a < 1000 by omega) (show 0 < b by omega) q
                cases hw : wn a b with
                | true => rw [if_pos (sp.mpr hw)]; rfl
                | false => rw [if_neg (show ¬ 0 ≤ shr a b from fun z => by have := sp.mp z; rw [hw] at this; cases this)]; rfl
            · rw [if_neg q, ws_l (by omega)]
              by_cases r : a = 0
              · subst r
                rw [wn_eq (Nat.zero_le _), if_pos rfl, if_pos rfl]
                rfl
              · rw [if_neg r]
                have sp := shr_pos (show b < 1000 by omega) (show 0 < a by omega) (by omega)
                cases hw : wn b a with
                | true => rw [if_pos (sp.mpr hw)]; rfl
                | false => rw [if_neg (show ¬ 0 ≤ shr b a from fun z => by have := sp.mp z; rw [hw] at this; cases this)]; rfl
          · rw [if_neg (show ¬ nI 1 = 0 by decide), if_pos (show nI 1 = 1 by decide)]
            dsimp only [lt]
            rw [(mx a b (by omega) (by omega)).1, (mx a b (by omega) (by omega)).2]
            by_cases q : b ≤ a
            · rw [if_pos q, if_pos q, if_pos q]
              exact (wt_val (by omega) q).1
            · rw [if_neg q, if_neg q, if_neg q]
              exact (wt_val (by omega) (by omega)).1
