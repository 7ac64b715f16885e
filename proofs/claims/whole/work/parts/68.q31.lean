/-! ORDERS: a step of the least order on both sides -/
theorem ostp {A C kn : Nat → Int32} {S j : Nat} {x1 x3 free num : Int32} {Fr : Nat → Prop} (hx : ∀ k, k < 8 → (x1 ||| ((1 : Int32) <<< (nI k &&& 31))) = nI (S ||| 2 ^ k) ∧ S ||| 2 ^ k < 256) (h6 : ∀ k, k < 8 → (((free >>> (nI k &&& 31)) &&& 1) = 1 ↔ Fr k)) (h10 : ∀ k, k < 8 → (Fr k ↔ f_X10_has x1 (nI k) = 0 ∧ (x3 < 0 ∨ f_X10_has (kn x3.toNatClampNeg) (nI k) = 0))) (hA : ∀ k, k < 8 → Fr k → A (8 * (S ||| 2 ^ k) + k) = C (8 * (S ||| 2 ^ k) + k) ∧ ∃ a, a ≤ 2097152 ∧ A (8 * (S ||| 2 ^ k) + k) = nI a) (he : ∃ k, k < 8 ∧ oP Fr A S k) : ∃ c, c < 8 ∧ oP Fr A S c ∧ f_X6_leastThatGoesOn A x1 free = nI c ∧ B_X6_least_12 A kn j (num, x1, free) = Sum.inl (num * 10 + nI c, nI (S ||| 2 ^ c), (255 &&& (nI (S ||| 2 ^ c) ^^^ (-1))) &&& (kn c ^^^ (-1))) ∧ B_X10_leastOrder_10 C kn j (num, x1, x3) = (num * 10 + nI c, nI (S ||| 2 ^ c), nI c) := by
  obtain ⟨c, c8, hc, hl⟩ := oleast he
  have e1 : f_X6_leastThatGoesOn A x1 free = nI c := by
    unfold f_X6_leastThatGoesOn
    rw [oup (fun k hk => ol6 hx h6 (fun k hk f => (hA k hk f).2) k hk) hc hl 8 0 (by omega) (by omega) (by decide)]
    rfl
  refine ⟨c, c8, hc, e1, ?_, ?_⟩
  · unfold B_X6_least_12
    dsimp only
    rw [e1, if_neg (m6ne (by omega)), (hx c c8).1, nI_clamp (by omega)]
  · unfold B_X10_leastOrder_10
    dsimp only
    rw [lt_c (show itD (B_X10_leastOrder_25 x1 x3 C kn) 8 (-6) = nI c by rw [odn (fun k hk v => ol10 hx h10 hA k hk v) hc hl 8 _ (by decide), if_pos c8]), (hx c c8).1, Int32.mul_comm]
