/-! IMAGES -/
def seg (kp : Nat → Int32) (t n : Nat) (d : Nat → Int32) : Nat → Int32 := fun k => if t ≤ k ∧ k < t + n then d (k - t) else kp k
theorem upd_self (f : Nat → Int32) (k : Nat) : upd f k (f k) = f := by
  funext j
  by_cases h : j = k
  · subst h
    exact pk_us
  · exact pk_un h
theorem pass_w {t : Nat} (h : t < 240) (kp : Nat → Int32) (v : Int32) : f_X10_pass (nI t) 1 kp v = (v, nI (t + 1), seg kp t 1 (fun _ => v)) := by
  unfold f_X10_pass
  rw [if_neg (by decide), nI_clamp (by omega), nI_1]
  congr 2
  funext k
  unfold seg upd
  by_cases q : k = t
  · rw [if_pos q, if_pos (by omega)]
  · rw [if_neg q, if_neg (by omega)]
theorem pass_r {t : Nat} (h : t < 240) (kp : Nat → Int32) (v : Int32) : f_X10_pass (nI t) 0 kp v = (kp t, nI (t + 1), kp) := by
  unfold f_X10_pass
  rw [if_pos rfl, nI_clamp (by omega), nI_1, upd_self]
theorem pass_ok {t : Nat} (h : t < 240) (w : Int32) : o_X10_pass (nI t) w := by
  have hv : vp_in (nI t) 240 := vp_in_nI h (by decide)
  unfold o_X10_pass
  split
  · exact ⟨hv, hv, trivial⟩
  · exact ⟨hv, trivial⟩
theorem row_w : ∀ (n j t : Nat) (row kp : Nat → Int32), t + n ≤ 240 → it (B_X10_passRow_8_2 1) j n (row, nI t, kp) = (row, nI (t + n), seg kp t n (fun i => row (j + i)))
  | 0, j, t, row, kp, _ => by
    show (row, nI t, kp) = _
    congr 2
    funext k
    unfold seg
    rw [if_neg (by omega)]
  | n + 1, j, t, row, kp, h => by
    have e : B_X10_passRow_8_2 1 j (row, nI t, kp) = (row, nI (t + 1), seg kp t 1 (fun _ => row j)) := by
      unfold B_X10_passRow_8_2
      rw [lt_c (pass_w (show t < 240 by omega) kp (row j))]
      dsimp only
      rw [upd_self]
    rw [it_c e, row_w n (j + 1) (t + 1) row _ (by omega), show t + 1 + n = t + (n + 1) by omega]
    congr 2
    funext k
    unfold seg
    by_cases q : t + 1 ≤ k ∧ k < t + 1 + n
    · rw [if_pos q, if_pos (by omega)]
      show row (j + 1 + (k - (t + 1))) = row (j + (k - t))
      rw [show j + 1 + (k - (t + 1)) = j + (k - t) by omega]
    · rw [if_neg q]
      by_cases r : k = t
      · subst r
        rw [if_pos (by omega), if_pos (by omega), Nat.sub_self]
        rfl
      · rw [if_neg (by omega), if_neg (by omega)]
theorem row_r : ∀ (n j t : Nat) (row kp : Nat → Int32), t + n ≤ 240 → it (B_X10_passRow_8_2 0) j n (row, nI t, kp) = (seg row j n (fun i => kp (t + i)), nI (t + n), kp)
  | 0, j, t, row, kp, _ => by
    show (row, nI t, kp) = _
    congr 1
    funext k
    unfold seg
    rw [if_neg (by omega)]
  | n + 1, j, t, row, kp, h => by
    have e : B_X10_passRow_8_2 0 j (row, nI t, kp) = (upd row j (kp t), nI (t + 1), kp) := by
      unfold B_X10_passRow_8_2
      rw [lt_c (pass_r (show t < 240 by omega) kp (row j))]
    rw [it_c e, row_r n (j + 1) (t + 1) _ kp (by omega), show t + 1 + n = t + (n + 1) by omega]
    congr 1
    funext k
    unfold seg
    by_cases q : j + 1 ≤ k ∧ k < j + 1 + n
    · rw [if_pos q, if_pos (by omega)]
      show kp (t + 1 + (k - (j + 1))) = kp (t + (k - j))
      rw [show t + 1 + (k - (j + 1)) = t + (k - j) by omega]
    · rw [if_neg q]
      by_cases r : k = j
      · subst r
        rw [pk_us, if_pos (by omega), Nat.sub_self]
        rfl
      · rw [pk_un r, if_neg (by omega)]
theorem row_ok (w : Int32) (hw : w = 0 ∨ w = 1) : ∀ (n j t : Nat) (row kp : Nat → Int32), j + n ≤ 8 → t + n ≤ 240 → itA (oB_X10_passRow_8_2 w) (B_X10_passRow_8_2 w) j n (row, nI t, kp)
  | 0, _, _, _, _, _, _ => trivial
  | n + 1, j, t, row, kp, h1, h2 => by
    refine ⟨⟨by omega, pass_ok (by omega) w, by omega, trivial⟩, ?_⟩
    rcases hw with rfl | rfl
    · have e : B_X10_passRow_8_2 0 j (row, nI t, kp) = (upd row j (kp t), nI (t + 1), kp) := by
        unfold B_X10_passRow_8_2
        rw [lt_c (pass_r (show t < 240 by omega) kp (row j))]
      rw [e]
      exact row_ok 0 (Or.inl rfl) n (j + 1) (t + 1) _ _ (by omega) (by omega)
    · have e : B_X10_passRow_8_2 1 j (row, nI t, kp) = (row, nI (t + 1), seg kp t 1 (fun _ => row j)) := by
        unfold B_X10_passRow_8_2
        rw [lt_c (pass_w (show t < 240 by omega) kp (row j))]
        dsimp only
        rw [upd_self]
      rw [e]
      exact row_ok 1 (Or.inr rfl) n (j + 1) (t + 1) _ _ (by omega) (by omega)
theorem row_ok64 (w : Int32) (hw : w = 0 ∨ w = 1) : ∀ (n j t : Nat) (row kp : Nat → Int32), j + n ≤ 64 → t + n ≤ 240 → itA (oB_X10_passRow_64_2 w) (B_X10_passRow_64_2 w) j n (row, nI t, kp)
  | 0, _, _, _, _, _, _ => trivial
  | n + 1, j, t, row, kp, h1, h2 => by
    refine ⟨⟨by omega, pass_ok (by omega) w, by omega, trivial⟩, ?_⟩
    rcases hw with rfl | rfl
    · have e : B_X10_passRow_64_2 0 j (row, nI t, kp) = (upd row j (kp t), nI (t + 1), kp) := by
        unfold B_X10_passRow_64_2
        rw [lt_c (pass_r (show t < 240 by omega) kp (row j))]
      rw [e]
      exact row_ok64 0 (Or.inl rfl) n (j + 1) (t + 1) _ _ (by omega) (by omega)
    · have e : B_X10_passRow_64_2 1 j (row, nI t, kp) = (row, nI (t + 1), seg kp t 1 (fun _ => row j)) := by
        unfold B_X10_passRow_64_2
        rw [lt_c (pass_w (show t < 240 by omega) kp (row j))]
        dsimp only
        rw [upd_self]
      rw [e]
      exact row_ok64 1 (Or.inr rfl) n (j + 1) (t + 1) _ _ (by omega) (by omega)
theorem b64_8 (w : Int32) : B_X10_passRow_64_2 w = B_X10_passRow_8_2 w := rfl
theorem pr8_w {t : Nat} (h : t + 8 ≤ 240) (row kp : Nat → Int32) : f_X10_passRow_8 row (nI t) 1 kp 8 = (row, nI (t + 8), seg kp t 8 row) := by
  unfold f_X10_passRow_8
  rw [show (8 : Int32).toNatClampNeg - 0 = 8 by decide, lt_c (row_w 8 0 t row kp h)]
  dsimp only
  congr 3
  funext i
  rw [Nat.zero_add]
theorem pr64_w {t : Nat} (h : t + 64 ≤ 240) (row kp : Nat → Int32) : f_X10_passRow_64 row (nI t) 1 kp 64 = (row, nI (t + 64), seg kp t 64 row) := by
  unfold f_X10_passRow_64
  rw [show (64 : Int32).toNatClampNeg - 0 = 64 by decide, b64_8, lt_c (row_w 64 0 t row kp h)]
  dsimp only
  congr 3
  funext i
  rw [Nat.zero_add]
theorem pr8_r {t : Nat} (h : t + 8 ≤ 240) (row kp : Nat → Int32) : f_X10_passRow_8 row (nI t) 0 kp 8 = (seg row 0 8 (fun i => kp (t + i)), nI (t + 8), kp) := by
  unfold f_X10_passRow_8
  rw [show (8 : Int32).toNatClampNeg - 0 = 8 by decide, lt_c (row_r 8 0 t row kp h)]
theorem pr64_r {t : Nat} (h : t + 64 ≤ 240) (row kp : Nat → Int32) : f_X10_passRow_64 row (nI t) 0 kp 64 = (seg row 0 64 (fun i => kp (t + i)), nI (t + 64), kp) := by
  unfold f_X10_passRow_64
  rw [show (64 : Int32).toNatClampNeg - 0 = 64 by decide, b64_8, lt_c (row_r 64 0 t row kp h)]
theorem pr8_ok {t : Nat} (h : t + 8 ≤ 240) (row kp : Nat → Int32) (w : Int32) (hw : w = 0 ∨ w = 1) : o_X10_passRow_8 row (nI t) w kp 8 := by
  refine ⟨by decide, ?_, trivial⟩
  rw [show (8 : Int32).toNatClampNeg - 0 = 8 by decide]
  exact row_ok w hw 8 0 t row kp (by decide) h
theorem pr64_ok {t : Nat} (h : t + 64 ≤ 240) (row kp : Nat → Int32) (w : Int32) (hw : w = 0 ∨ w = 1) : o_X10_passRow_64 row (nI t) w kp 64 := by
  refine ⟨by decide, ?_, trivial⟩
  rw [show (64 : Int32).toNatClampNeg - 0 = 64 by decide]
  exact row_ok64 w hw 64 0 t row kp (by decide) h
def kpW (kp : Nat → Int32) (t : Nat) (w g r : Nat → Int32) (i n y : Int32) (kn ss sc : Nat → Int32) (sn : Int32) : Nat → Int32 := (seg (seg (seg (seg (seg (seg (seg (seg (seg (seg kp t 1 (fun _ => i)) (t + 1) 1 (fun _ => n)) (t + 2) 1 (fun _ => y)) (t + 3) 1 (fun _ => sn)) (t + 4) 8 w) (t + 12) 64 g) (t + 76) 8 r) (t + 84) 8 kn) (t + 92) 8 ss) (t + 100) 8 sc)
theorem pa_w {t : Nat} (h : t ≤ 120) (kp w g r : Nat → Int32) (i n y : Int32) (kn ss sc : Nat → Int32) (sn : Int32) : f_X10_passAll i n y sn (nI t) 1 kp w g r kn ss sc = (i, n, y, sn, nI (t + 108), kpW kp t w g r i n y kn ss sc sn, w, g, r, kn, ss, sc) := by
  unfold f_X10_passAll
  rw [lt_c (pass_w (show t < 240 by omega) _ _)]
  dsimp only
  rw [lt_c (pass_w (show t + 1 < 240 by omega) _ _)]
  dsimp only
  rw [Nat.add_assoc]
  rw [lt_c (pass_w (show t + 2 < 240 by omega) _ _)]
  dsimp only
  rw [Nat.add_assoc]
  rw [lt_c (pass_w (show t + 3 < 240 by omega) _ _)]
  dsimp only
  rw [Nat.add_assoc]
  rw [lt_c (pr8_w (show t + 4 + 8 ≤ 240 by omega) _ _)]
  dsimp only
  rw [Nat.add_assoc]
  rw [lt_c (pr64_w (show t + 12 + 64 ≤ 240 by omega) _ _)]
  dsimp only
  rw [Nat.add_assoc]
  rw [lt_c (pr8_w (show t + 76 + 8 ≤ 240 by omega) _ _)]
  dsimp only
  rw [Nat.add_assoc]
  rw [lt_c (pr8_w (show t + 84 + 8 ≤ 240 by omega) _ _)]
  dsimp only
  rw [Nat.add_assoc]
  rw [lt_c (pr8_w (show t + 92 + 8 ≤ 240 by omega) _ _)]
  dsimp only
  rw [Nat.add_assoc]
  rw [lt_c (pr8_w (show t + 100 + 8 ≤ 240 by omega) _ _)]
  dsimp only
  rw [Nat.add_assoc]
  rfl
theorem pa_wok {t : Nat} (h : t ≤ 120) (kp w g r : Nat → Int32) (i n y : Int32) (kn ss sc : Nat → Int32) (sn : Int32) : o_X10_passAll i n y sn (nI t) 1 kp w g r kn ss sc := by
  unfold o_X10_passAll
  refine ⟨pass_ok (by omega) _, ?_⟩
  rw [lt_c (pass_w (show t < 240 by omega) _ _)]
  dsimp only
  refine ⟨pass_ok (by omega) _, ?_⟩
  rw [lt_c (pass_w (show t + 1 < 240 by omega) _ _)]
  dsimp only
  rw [Nat.add_assoc]
  refine ⟨pass_ok (by omega) _, ?_⟩
  rw [lt_c (pass_w (show t + 2 < 240 by omega) _ _)]
  dsimp only
  rw [Nat.add_assoc]
  refine ⟨pass_ok (by omega) _, ?_⟩
  rw [lt_c (pass_w (show t + 3 < 240 by omega) _ _)]
  dsimp only
  rw [Nat.add_assoc]
  refine ⟨pr8_ok (show t + 4 + 8 ≤ 240 by omega) _ _ _ (Or.inr rfl), ?_⟩
  rw [lt_c (pr8_w (show t + 4 + 8 ≤ 240 by omega) _ _)]
  dsimp only
  rw [Nat.add_assoc]
  refine ⟨pr64_ok (show t + 12 + 64 ≤ 240 by omega) _ _ _ (Or.inr rfl), ?_⟩
  rw [lt_c (pr64_w (show t + 12 + 64 ≤ 240 by omega) _ _)]
  dsimp only
  rw [Nat.add_assoc]
  refine ⟨pr8_ok (show t + 76 + 8 ≤ 240 by omega) _ _ _ (Or.inr rfl), ?_⟩
  rw [lt_c (pr8_w (show t + 76 + 8 ≤ 240 by omega) _ _)]
  dsimp only
  rw [Nat.add_assoc]
  refine ⟨pr8_ok (show t + 84 + 8 ≤ 240 by omega) _ _ _ (Or.inr rfl), ?_⟩
  rw [lt_c (pr8_w (show t + 84 + 8 ≤ 240 by omega) _ _)]
  dsimp only
  rw [Nat.add_assoc]
  refine ⟨pr8_ok (show t + 92 + 8 ≤ 240 by omega) _ _ _ (Or.inr rfl), ?_⟩
  rw [lt_c (pr8_w (show t + 92 + 8 ≤ 240 by omega) _ _)]
  dsimp only
  rw [Nat.add_assoc]
  refine ⟨pr8_ok (show t + 100 + 8 ≤ 240 by omega) _ _ _ (Or.inr rfl), ?_⟩
  trivial
theorem pa_r {t : Nat} (h : t ≤ 120) (kp w g r : Nat → Int32) (i n y : Int32) (kn ss sc : Nat → Int32) (sn : Int32) : f_X10_passAll i n y sn (nI t) 0 kp w g r kn ss sc = (kp t, kp (t + 1), kp (t + 2), kp (t + 3), nI (t + 108), kp, seg w 0 8 (fun j => kp (t + 4 + j)), seg g 0 64 (fun j => kp (t + 12 + j)), seg r 0 8 (fun j => kp (t + 76 + j)), seg kn 0 8 (fun j => kp (t + 84 + j)), seg ss 0 8 (fun j => kp (t + 92 + j)), seg sc 0 8 (fun j => kp (t + 100 + j))) := by
  unfold f_X10_passAll
  rw [lt_c (pass_r (show t < 240 by omega) _ _)]
  dsimp only
  rw [lt_c (pass_r (show t + 1 < 240 by omega) _ _)]
  dsimp only
  rw [Nat.add_assoc]
  rw [lt_c (pass_r (show t + 2 < 240 by omega) _ _)]
  dsimp only
  rw [Nat.add_assoc]
  rw [lt_c (pass_r (show t + 3 < 240 by omega) _ _)]
  dsimp only
  rw [Nat.add_assoc]
  rw [lt_c (pr8_r (show t + 4 + 8 ≤ 240 by omega) _ _)]
  dsimp only
  rw [Nat.add_assoc]
  rw [lt_c (pr64_r (show t + 12 + 64 ≤ 240 by omega) _ _)]
  dsimp only
  rw [Nat.add_assoc]
  rw [lt_c (pr8_r (show t + 76 + 8 ≤ 240 by omega) _ _)]
  dsimp only
  rw [Nat.add_assoc]
  rw [lt_c (pr8_r (show t + 84 + 8 ≤ 240 by omega) _ _)]
  dsimp only
  rw [Nat.add_assoc]
  rw [lt_c (pr8_r (show t + 92 + 8 ≤ 240 by omega) _ _)]
  dsimp only
  rw [Nat.add_assoc]
  rw [lt_c (pr8_r (show t + 100 + 8 ≤ 240 by omega) _ _)]
theorem pa_rok {t : Nat} (h : t ≤ 120) (kp w g r : Nat → Int32) (i n y : Int32) (kn ss sc : Nat → Int32) (sn : Int32) : o_X10_passAll i n y sn (nI t) 0 kp w g r kn ss sc := by
  unfold o_X10_passAll
  refine ⟨pass_ok (by omega) _, ?_⟩
  rw [lt_c (pass_r (show t < 240 by omega) _ _)]
  dsimp only
  refine ⟨pass_ok (by omega) _, ?_⟩
  rw [lt_c (pass_r (show t + 1 < 240 by omega) _ _)]
  dsimp only
  rw [Nat.add_assoc]
  refine ⟨pass_ok (by omega) _, ?_⟩
  rw [lt_c (pass_r (show t + 2 < 240 by omega) _ _)]
  dsimp only
  rw [Nat.add_assoc]
  refine ⟨pass_ok (by omega) _, ?_⟩
  rw [lt_c (pass_r (show t + 3 < 240 by omega) _ _)]
  dsimp only
  rw [Nat.add_assoc]
  refine ⟨pr8_ok (show t + 4 + 8 ≤ 240 by omega) _ _ _ (Or.inl rfl), ?_⟩
  rw [lt_c (pr8_r (show t + 4 + 8 ≤ 240 by omega) _ _)]
  dsimp only
  rw [Nat.add_assoc]
  refine ⟨pr64_ok (show t + 12 + 64 ≤ 240 by omega) _ _ _ (Or.inl rfl), ?_⟩
  rw [lt_c (pr64_r (show t + 12 + 64 ≤ 240 by omega) _ _)]
  dsimp only
  rw [Nat.add_assoc]
  refine ⟨pr8_ok (show t + 76 + 8 ≤ 240 by omega) _ _ _ (Or.inl rfl), ?_⟩
  rw [lt_c (pr8_r (show t + 76 + 8 ≤ 240 by omega) _ _)]
  dsimp only
  rw [Nat.add_assoc]
  refine ⟨pr8_ok (show t + 84 + 8 ≤ 240 by omega) _ _ _ (Or.inl rfl), ?_⟩
  rw [lt_c (pr8_r (show t + 84 + 8 ≤ 240 by omega) _ _)]
  dsimp only
  rw [Nat.add_assoc]
  refine ⟨pr8_ok (show t + 92 + 8 ≤ 240 by omega) _ _ _ (Or.inl rfl), ?_⟩
  rw [lt_c (pr8_r (show t + 92 + 8 ≤ 240 by omega) _ _)]
  dsimp only
  rw [Nat.add_assoc]
  refine ⟨pr8_ok (show t + 100 + 8 ≤ 240 by omega) _ _ _ (Or.inl rfl), ?_⟩
  trivial
theorem kpW_in {t k : Nat} (hk : k < 108) (kp w g r : Nat → Int32) (i n y : Int32) (kn ss sc : Nat → Int32) (sn : Int32) : kpW kp t w g r i n y kn ss sc sn (t + k) = enc w g r i n y kn ss sc sn k := by
  unfold kpW seg enc
  rcases (show k = 0 ∨ k = 1 ∨ k = 2 ∨ k = 3 ∨ (4 ≤ k ∧ k < 12) ∨ (12 ≤ k ∧ k < 76) ∨ (76 ≤ k ∧ k < 84) ∨ (84 ≤ k ∧ k < 92) ∨ (92 ≤ k ∧ k < 100) ∨ (100 ≤ k ∧ k < 108) by omega) with q | q | q | q | q | q | q | q | q | q
  · rw [if_neg (by omega), if_neg (by omega), if_neg (by omega), if_neg (by omega), if_neg (by omega), if_neg (by omega), if_neg (by omega), if_neg (by omega), if_neg (by omega), if_pos (by omega), if_pos (by omega)]
  · rw [if_neg (by omega), if_neg (by omega), if_neg (by omega), if_neg (by omega), if_neg (by omega), if_neg (by omega), if_neg (by omega), if_neg (by omega), if_pos (by omega), if_neg (by omega), if_pos (by omega)]
  · rw [if_neg (by omega), if_neg (by omega), if_neg (by omega), if_neg (by omega), if_neg (by omega), if_neg (by omega), if_neg (by omega), if_pos (by omega), if_neg (by omega), if_neg (by omega), if_pos (by omega)]
  · rw [if_neg (by omega), if_neg (by omega), if_neg (by omega), if_neg (by omega), if_neg (by omega), if_neg (by omega), if_pos (by omega), if_neg (by omega), if_neg (by omega), if_neg (by omega), if_pos (by omega)]
  · rw [if_neg (by omega), if_neg (by omega), if_neg (by omega), if_neg (by omega), if_neg (by omega), if_pos (by omega), if_neg (by omega), if_neg (by omega), if_neg (by omega), if_neg (by omega), if_pos (by omega), show t + k - (t + 4) = k - 4 by omega]
  · rw [if_neg (by omega), if_neg (by omega), if_neg (by omega), if_neg (by omega), if_pos (by omega), if_neg (by omega), if_neg (by omega), if_neg (by omega), if_neg (by omega), if_neg (by omega), if_pos (by omega), show t + k - (t + 12) = k - 12 by omega]
  · rw [if_neg (by omega), if_neg (by omega), if_neg (by omega), if_pos (by omega), if_neg (by omega), if_neg (by omega), if_neg (by omega), if_neg (by omega), if_neg (by omega), if_neg (by omega), if_pos (by omega), show t + k - (t + 76) = k - 76 by omega]
  · rw [if_neg (by omega), if_neg (by omega), if_pos (by omega), if_neg (by omega), if_neg (by omega), if_neg (by omega), if_neg (by omega), if_neg (by omega), if_neg (by omega), if_neg (by omega), if_pos (by omega), show t + k - (t + 84) = k - 84 by omega]
  · rw [if_neg (by omega), if_pos (by omega), if_neg (by omega), if_neg (by omega), if_neg (by omega), if_neg (by omega), if_neg (by omega), if_neg (by omega), if_neg (by omega), if_neg (by omega), if_pos (by omega), show t + k - (t + 92) = k - 92 by omega]
  · rw [if_pos (by omega), if_neg (by omega), if_neg (by omega), if_neg (by omega), if_neg (by omega), if_neg (by omega), if_neg (by omega), if_neg (by omega), if_neg (by omega), if_neg (by omega), show t + k - (t + 100) = k - 100 by omega]
theorem kpW_out {t k : Nat} (hk : k < t ∨ t + 108 ≤ k) (kp w g r : Nat → Int32) (i n y : Int32) (kn ss sc : Nat → Int32) (sn : Int32) : kpW kp t w g r i n y kn ss sc sn k = kp k := by
  unfold kpW seg
  rw [if_neg (by omega), if_neg (by omega), if_neg (by omega), if_neg (by omega), if_neg (by omega), if_neg (by omega), if_neg (by omega), if_neg (by omega), if_neg (by omega), if_neg (by omega)]
