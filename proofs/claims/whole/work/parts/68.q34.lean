/-! ORDERS: the least order to its end, with its safety -/
theorem olpS {A C kn : Nat → Int32} (ha : agO 1 A C) (hf : agFo kn 1 A) : ∀ (n j S l : Nat) (num : Int32), 1 ≤ S → S < 256 → l < 8 → f_X10_has (nI S) (nI l) = 1 → oms S = n → 0 < (A (8 * S + l)).toNatClampNeg → ∃ (R x f : Int32), lp (B_X6_least_12 A kn) j n (num, nI S, (255 &&& (nI S ^^^ (-1))) &&& (kn l ^^^ (-1))) = Sum.inl (R, x, f) ∧ (it (B_X10_leastOrder_10 C kn) j n (num, nI S, nI l)).1 = R ∧ lpA (oB_X6_least_12 A) (B_X6_least_12 A kn) j n (num, nI S, (255 &&& (nI S ^^^ (-1))) &&& (kn l ^^^ (-1))) ∧ itA (oB_X10_leastOrder_10 C kn) (B_X10_leastOrder_10 C kn) j n (num, nI S, nI l)
  | 0, j, S, l, num, _, _, _, _, _, _ => ⟨num, _, _, rfl, rfl, trivial, trivial⟩
  | n + 1, j, S, l, num, h1, h2, h3, h4, h5, h6 => by
    have h255 : S < 255 := by
      by_cases e : S = 255
      · subst e
        exact absurd h5 (by rw [show oms 255 = 0 by decide]; omega)
      · omega
    have fo : ∃ k, k < 8 ∧ oP (fun k => f_X10_has (nI S) (nI k) = 0 ∧ f_X10_has (kn l) (nI k) = 0) A S k := by
      rcases hf S h1 h255 l h3 h4 with z | ⟨k', q1, q2, q3, q4⟩
      · omega
      · exact ⟨k', q1, ⟨q2, q3⟩, q4⟩
    have cl : (nI l).toNatClampNeg = l := nI_clamp (by omega)
    obtain ⟨c, c8, hc, e1, e6, e10⟩ := ostp (j := j) (num := num) (x3 := nI l) (kn := kn) (C := C) (fun k hk => ⟨(oset h2 hk).1, (oset h2 hk).2.1⟩) (fun k hk => ofree (nI S) (kn l) hk) (fun k hk => by
      rw [cl]
      exact ⟨fun q => ⟨q.1, Or.inr q.2⟩, fun q => ⟨q.1, by
        rcases q.2 with w | w
        · exact absurd w (nI_pos (by omega))
        · exact w⟩⟩) (fun k hk f => by
      obtain ⟨_, t2, t3, t4⟩ := oset h2 hk
      obtain ⟨e, a, b, d⟩ := ha (S ||| 2 ^ k) (by have := t4 f.1; omega) t2 k hk t3
      have em : oms (S ||| 2 ^ k) + 1 = oms S := oms_tab ⟨S, h2⟩ ⟨k, hk⟩ f.1
      have o8 : oms S ≤ 8 := oms_le ⟨S, h2⟩
      have bd : 8 ^ oms (S ||| 2 ^ k) ≤ 8 ^ 7 := Nat.pow_le_pow_right (by decide) (by omega)
      have bd2 : (8 : Nat) ^ 7 = 2097152 := by decide
      exact ⟨e, a, by omega, d⟩) fo
    obtain ⟨_, t2, t3, t4⟩ := oset h2 c8
    have em : oms (S ||| 2 ^ c) + 1 = oms S := oms_tab ⟨S, h2⟩ ⟨c, c8⟩ hc.1.1
    have hx : ∀ k, k < 8 → (nI S ||| ((1 : Int32) <<< (nI k &&& 31))) = nI (S ||| 2 ^ k) ∧ S ||| 2 ^ k < 256 := fun k hk => ⟨(oset h2 hk).1, (oset h2 hk).2.1⟩
    obtain ⟨R, x, f, r1, r2, r3, r4⟩ := olpS ha hf n (j + 1) (S ||| 2 ^ c) c (num * 10 + nI c) (by have := t4 hc.1.1; omega) t2 c8 t3 (by omega) hc.2
    refine ⟨R, x, f, ?_, ?_, ⟨?_, ?_⟩, ⟨?_, ?_⟩⟩
    · rw [lp_c e6]
      exact r1
    · rw [it_c e10]
      exact r2
    · refine ⟨os6 hx _ _, ?_⟩
      dsimp only
      rw [e1, if_neg (m6ne (by omega))]
      exact ⟨vp_in_nI c8 (by decide), trivial⟩
    · rw [e6]
      exact r3
    · exact os25 hx (Or.inr (vp_in_nI h3 (by decide))) _ _ rfl rfl _
    · rw [e10]
      exact r4
