/-! ORDERS: how many -/
theorem oms_1 : ∀ k : Fin 8, oms (2 ^ k.val) = 7 ∧ 1 ≤ 2 ^ k.val := by decide +kernel
theorem omany {A C : Nat → Int32} (h : agO 1 A C) : ∃ b, b ≤ 16777216 ∧ f_X6_howMany A = nI b ∧ it (B_X10_orders_74 C) 0 8 (0 : Int32) = nI b ∧ (b = 0 ∨ ∃ k, k < 8 ∧ 0 < (A (8 * 2 ^ k + k)).toNatClampNeg) ∧ ∀ k, k < 8 → (A (8 * 2 ^ k + k)).toNatClampNeg ≤ b := by
  obtain ⟨b', c1, c2, c3, c4, c5⟩ := osum (B6 := B_X6_waysOn_5 0 255 A) (B10 := B_X10_orders_74 C) (P := fun _ => True) (val := fun k => (A (8 * 2 ^ k + k)).toNatClampNeg) (m := 2097152) (by
    intro k hk v
    obtain ⟨t1, t2, t3, t4, t5, t6⟩ := o0_tab ⟨k, hk⟩
    dsimp only at t1 t2 t3 t4 t5 t6
    obtain ⟨i1, i2, _, _⟩ := oix t3 hk
    obtain ⟨q1, q2⟩ := oms_1 ⟨k, hk⟩
    dsimp only at q1 q2
    obtain ⟨e, a, ha, ea⟩ := h (2 ^ k) q2 t3 k hk t4
    rw [q1] at ha
    have bd2 : (8 : Nat) ^ 7 = 2097152 := by decide
    have ec : (A (8 * 2 ^ k + k)).toNatClampNeg = a := by
      rw [ea]
      exact nI_clamp (by omega)
    refine ⟨fun _ => ⟨?_, ?_, ?_⟩, fun p => absurd trivial p⟩
    · unfold B_X6_waysOn_5
      rw [if_pos t5, t2, i1, ec, ea]
    · unfold B_X10_orders_74
      rw [t1, i2, ec, ← e, ea]
    · rw [ec]
      omega) 8 0 0 (by decide)
  refine ⟨b', by omega, c1, c2, ?_, fun k hk => ?_⟩
  · rcases c4 with e | ⟨k', _, q2, _, q5⟩
    · exact Or.inl e
    · exact Or.inr ⟨k', by omega, q5⟩
  · have := c5 k (by omega) (by omega) trivial
    omega
