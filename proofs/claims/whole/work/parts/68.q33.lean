/-! ORDERS: safety of the least order -/
theorem odA {V : Type} {o : Nat → V → Prop} {f : Nat → V → V} : ∀ (n : Nat) (v : V), (∀ k v, k < n → o k v) → itDA o f n v
  | 0, _, _ => trivial
  | n + 1, v, h => ⟨h n v (by omega), odA n (f n v) (fun k v hk => h k v (by omega))⟩
theorem os25 {S : Nat} {x1 x3 : Int32} {kn : Nat → Int32} (hx : ∀ k, k < 8 → (x1 ||| ((1 : Int32) <<< (nI k &&& 31))) = nI (S ||| 2 ^ k) ∧ S ||| 2 ^ k < 256) (h3 : x3 < 0 ∨ vp_in x3 8) (C : Nat → Int32) (v : Int32 × Int32 × Int32) (e1 : v.2.1 = x1) (e3 : v.2.2 = x3) (j : Nat) : oB_X10_leastOrder_10 C kn j v := by
  unfold oB_X10_leastOrder_10
  rw [e1, e3]
  refine ⟨odA 8 _ (fun k w hk => ?_), trivial⟩
  obtain ⟨t1, t2⟩ := hx k hk
  have i4 := (oix t2 hk).2.2.2
  unfold oB_X10_leastOrder_25
  rw [t1]
  split
  · split
    · exact ⟨i4, trivial⟩
    · next n =>
      rcases h3 with q | q
      · exact absurd q n
      · refine ⟨q, ?_⟩
        split
        · exact ⟨i4, trivial⟩
        · trivial
  · trivial
theorem os6 {S : Nat} {x1 : Int32} (hx : ∀ k, k < 8 → (x1 ||| ((1 : Int32) <<< (nI k &&& 31))) = nI (S ||| 2 ^ k) ∧ S ||| 2 ^ k < 256) (A : Nat → Int32) (free : Int32) : o_X6_leastThatGoesOn A x1 free := by
  refine ⟨lpA_of2 8 0 _ (fun k w _ hk => ?_), trivial⟩
  obtain ⟨t1, t2⟩ := hx k (by omega)
  unfold oB_X6_leastThatGoesOn_2
  rw [t1]
  split
  · exact ⟨(oix t2 (by omega)).2.2.1, trivial⟩
  · trivial
