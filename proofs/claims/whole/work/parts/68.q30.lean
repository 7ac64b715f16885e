/-! ORDERS: a step of the least order, the reference -/
theorem ol10 {A C kn : Nat → Int32} {S : Nat} {x1 x3 : Int32} {Fr : Nat → Prop} (hx : ∀ k, k < 8 → (x1 ||| ((1 : Int32) <<< (nI k &&& 31))) = nI (S ||| 2 ^ k) ∧ S ||| 2 ^ k < 256) (hfr : ∀ k, k < 8 → (Fr k ↔ f_X10_has x1 (nI k) = 0 ∧ (x3 < 0 ∨ f_X10_has (kn x3.toNatClampNeg) (nI k) = 0))) (hA : ∀ k, k < 8 → Fr k → A (8 * (S ||| 2 ^ k) + k) = C (8 * (S ||| 2 ^ k) + k) ∧ ∃ a, a ≤ 2097152 ∧ A (8 * (S ||| 2 ^ k) + k) = nI a) (k : Nat) (hk : k < 8) (v : Int32) : (oP Fr A S k → B_X10_leastOrder_25 x1 x3 C kn k v = nI k) ∧ (¬ oP Fr A S k → B_X10_leastOrder_25 x1 x3 C kn k v = v) := by
  obtain ⟨t1, t2⟩ := hx k hk
  obtain ⟨_, i2, _, _⟩ := oix t2 hk
  unfold B_X10_leastOrder_25
  rw [t1, i2]
  by_cases f : Fr k
  · obtain ⟨e, a, ha, ea⟩ := hA k hk f
    have ec : (A (8 * (S ||| 2 ^ k) + k)).toNatClampNeg = a := by
      rw [ea]
      exact nI_clamp (by omega)
    obtain ⟨f1, f2⟩ := (hfr k hk).mp f
    have inner : ∀ X : Int32, X = (if C (8 * (S ||| 2 ^ k) + k) ≤ 0 then v else nI k) → (oP Fr A S k → X = nI k) ∧ (¬ oP Fr A S k → X = v) := by
      intro X hX
      rw [← e, ea] at hX
      refine ⟨fun p => ?_, fun p => ?_⟩
      · rw [hX, if_neg (fun q => by
          have z := (opos (by omega)).mp q
          have := p.2
          omega)]
      · rw [hX, if_pos ((opos (by omega)).mpr (by
          by_cases z : a = 0
          · exact z
          · exact absurd ⟨f, by omega⟩ p))]
    apply inner
    rw [if_pos f1]
    by_cases n : x3 < 0
    · rw [if_pos n]
    · rw [if_neg n]
      rcases f2 with q | q
      · exact absurd q n
      · rw [if_pos q]
  · refine ⟨fun p => absurd p.1 f, fun _ => ?_⟩
    by_cases f1 : f_X10_has x1 (nI k) = 0
    · rw [if_pos f1]
      by_cases n : x3 < 0
      · exact absurd ((hfr k hk).mpr ⟨f1, Or.inl n⟩) f
      · rw [if_neg n]
        by_cases q : f_X10_has (kn x3.toNatClampNeg) (nI k) = 0
        · exact absurd ((hfr k hk).mpr ⟨f1, Or.inr q⟩) f
        · rw [if_neg q]
    · rw [if_neg f1]
