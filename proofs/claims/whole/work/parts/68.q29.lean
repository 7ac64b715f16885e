/-! ORDERS: a step of the least order -/
theorem opos {a : Nat} (h : a < 2 ^ 31) : (nI a ≤ 0 ↔ a = 0) := by
  constructor
  · intro q
    by_cases z : a = 0
    · exact z
    · exact absurd q (nI_nle (by omega) h)
  · intro q
    rw [q]
    decide
def oP (Fr : Nat → Prop) (A : Nat → Int32) (S k : Nat) : Prop := Fr k ∧ 0 < (A (8 * (S ||| 2 ^ k) + k)).toNatClampNeg
theorem ol6 {A : Nat → Int32} {S : Nat} {x1 free : Int32} {Fr : Nat → Prop} (hx : ∀ k, k < 8 → (x1 ||| ((1 : Int32) <<< (nI k &&& 31))) = nI (S ||| 2 ^ k) ∧ S ||| 2 ^ k < 256) (hfr : ∀ k, k < 8 → (((free >>> (nI k &&& 31)) &&& 1) = 1 ↔ Fr k)) (hA : ∀ k, k < 8 → Fr k → ∃ a, a ≤ 2097152 ∧ A (8 * (S ||| 2 ^ k) + k) = nI a) (k : Nat) (hk : k < 8) : (oP Fr A S k → B_X6_leastThatGoesOn_2 x1 free A k () = Sum.inr (Sum.inr (nI k))) ∧ (¬ oP Fr A S k → B_X6_leastThatGoesOn_2 x1 free A k () = Sum.inl ()) := by
  obtain ⟨t1, t2⟩ := hx k hk
  obtain ⟨i1, _, _, _⟩ := oix t2 hk
  unfold B_X6_leastThatGoesOn_2
  rw [t1, i1]
  by_cases f : Fr k
  · obtain ⟨a, ha, ea⟩ := hA k hk f
    have ec : (A (8 * (S ||| 2 ^ k) + k)).toNatClampNeg = a := by
      rw [ea]
      exact nI_clamp (by omega)
    rw [if_pos ((hfr k hk).mpr f), ea]
    refine ⟨fun p => ?_, fun p => ?_⟩
    · rw [if_neg (fun q => by
        have z := (opos (by omega)).mp q
        have := p.2
        omega)]
    · rw [if_pos ((opos (by omega)).mpr (by
        by_cases z : a = 0
        · exact z
        · exact absurd ⟨f, by omega⟩ p))]
  · rw [if_neg (fun q => f ((hfr k hk).mp q))]
    exact ⟨fun p => absurd p.1 f, fun _ => rfl⟩
