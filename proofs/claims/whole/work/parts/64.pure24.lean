/-! ORDERS: the ways on -/
theorem osum {B6 B10 : Nat → Int32 → Int32} {P : Nat → Prop} {val : Nat → Nat} {m : Nat} (h : ∀ k, k < 8 → ∀ v, (P k → B6 k v = v + nI (val k) ∧ B10 k v = v + nI (val k) ∧ val k ≤ m) ∧ (¬ P k → B6 k v = v ∧ B10 k v = v)) : ∀ (n k b : Nat), k + n ≤ 8 → ∃ b', it B6 k n (nI b) = nI b' ∧ it B10 k n (nI b) = nI b' ∧ b' ≤ b + n * m ∧ (b' = b ∨ ∃ k', k ≤ k' ∧ k' < k + n ∧ P k' ∧ 0 < val k') ∧ ∀ k', k ≤ k' → k' < k + n → P k' → b + val k' ≤ b'
  | 0, k, b, _ => ⟨b, rfl, rfl, by omega, Or.inl rfl, fun k' h1 h2 => absurd h2 (by omega)⟩
  | n + 1, k, b, hk => by
    have hh := h k (by omega) (nI b)
    by_cases p : P k
    · obtain ⟨e6, e10, hm⟩ := hh.1 p
      rw [nI_add] at e6 e10
      obtain ⟨b', c1, c2, c3, c4, c5⟩ := osum h n (k + 1) (b + val k) (by omega)
      refine ⟨b', ?_, ?_, ?_, ?_, ?_⟩
      · rw [it_c e6]
        exact c1
      · rw [it_c e10]
        exact c2
      · rw [Nat.succ_mul]
        omega
      · by_cases z : val k = 0
        · rcases c4 with e | ⟨k', q1, q2, q3⟩
          · exact Or.inl (by omega)
          · exact Or.inr ⟨k', by omega, by omega, q3⟩
        · exact Or.inr ⟨k, by omega, by omega, p, by omega⟩
      · intro k' q1 q2 q3
        by_cases ek : k' = k
        · subst ek
          have : b + val k' ≤ b' := by
            rcases c4 with e | ⟨k2, w1, w2, w3, w4⟩
            · omega
            · have := c5 k2 w1 w2 w3
              omega
          exact this
        · have := c5 k' (by omega) (by omega) q3
          omega
    · obtain ⟨e6, e10⟩ := hh.2 p
      obtain ⟨b', c1, c2, c3, c4, c5⟩ := osum h n (k + 1) b (by omega)
      refine ⟨b', ?_, ?_, ?_, ?_, ?_⟩
      · rw [it_c e6]
        exact c1
      · rw [it_c e10]
        exact c2
      · rw [Nat.succ_mul]
        omega
      · rcases c4 with e | ⟨k', q1, q2, q3⟩
        · exact Or.inl e
        · exact Or.inr ⟨k', by omega, by omega, q3⟩
      · intro k' q1 q2 q3
        by_cases ek : k' = k
        · subst ek
          exact absurd q3 p
        · exact c5 k' (by omega) (by omega) q3
/-- both rows hold the same ways for the sets from s on -/
def agO (s : Nat) (A C : Nat → Int32) : Prop := ∀ S, s ≤ S → S < 256 → ∀ k, k < 8 → f_X10_has (nI S) (nI k) = 1 → A (8 * S + k) = C (8 * S + k) ∧ ∃ a, a ≤ 8 ^ oms S ∧ A (8 * S + k) = nI a
theorem has01 (x k : Int32) : f_X10_has x k = 0 ∨ f_X10_has x k = 1 := by
  unfold f_X10_has
  split
  · exact Or.inr rfl
  · exact Or.inl rfl
theorem oix {T k : Nat} (hT : T < 256) (hk : k < 8) : (nI T * 8 + nI k).toNatClampNeg = 8 * T + k ∧ ((8 : Int32) * nI T + nI k).toNatClampNeg = 8 * T + k ∧ vp_in (nI T * 8 + nI k) 2048 ∧ vp_in ((8 : Int32) * nI T + nI k) 2048 := by
  have e1 : nI T * 8 + nI k = nI (8 * T + k) := by
    rw [show (8 : Int32) = nI 8 from rfl, pk_mul, nI_add, Nat.mul_comm]
  have e2 : (8 : Int32) * nI T + nI k = nI (8 * T + k) := by
    rw [show (8 : Int32) = nI 8 from rfl, pk_mul, nI_add]
  rw [e1, e2]
  exact ⟨nI_clamp (by omega), nI_clamp (by omega), vp_in_nI (by omega) (by decide), vp_in_nI (by omega) (by decide)⟩
theorem owy {s j : Nat} (hs : s < 255) (hj : j < 8) {A C kn : Nat → Int32} (ha : agO (s + 1) A C) : ∃ b, f_X6_waysOn A (nI s) ((255 &&& (nI s ^^^ (-1))) &&& (kn j ^^^ (-1))) = nI b ∧ f_X10_waysOn kn C (nI s) (nI j) = nI b ∧ b ≤ 8 ^ oms s ∧ (b = 0 ∨ ∃ k, k < 8 ∧ f_X10_has (nI s) (nI k) = 0 ∧ f_X10_has (kn j) (nI k) = 0 ∧ 0 < (A (8 * (s ||| 2 ^ k) + k)).toNatClampNeg) := by
  have hms : 0 < oms s := oms_255 ⟨s, by omega⟩ (by show s ≠ 255; omega)
  have key : ∀ k, k < 8 → f_X10_has (nI s) (nI k) = 0 → A (8 * (s ||| 2 ^ k) + k) = C (8 * (s ||| 2 ^ k) + k) ∧ A (8 * (s ||| 2 ^ k) + k) = nI (A (8 * (s ||| 2 ^ k) + k)).toNatClampNeg ∧ (A (8 * (s ||| 2 ^ k) + k)).toNatClampNeg ≤ 8 ^ (oms s - 1) := by
    intro k hk h0
    obtain ⟨_, t2, t3, t4⟩ := oset (s := s) (k := k) (by omega) hk
    obtain ⟨e, a, h8, ea⟩ := ha (s ||| 2 ^ k) (by have := t4 h0; omega) t2 k hk t3
    have em : oms (s ||| 2 ^ k) = oms s - 1 := by
      have q : oms (s ||| 2 ^ k) + 1 = oms s := oms_tab ⟨s, by omega⟩ ⟨k, hk⟩ h0
      omega
    rw [em] at h8
    have bd : 8 ^ (oms s - 1) ≤ 8 ^ 7 := Nat.pow_le_pow_right (by decide) (by have q : oms s ≤ 8 := oms_le ⟨s, by omega⟩; omega)
    have bd2 : (8 : Nat) ^ 7 = 2097152 := by decide
    rw [ea, nI_clamp (by omega)]
    exact ⟨ea.symm.trans e, rfl, h8⟩
  have cj : (nI j).toNatClampNeg = j := nI_clamp (by omega)
  obtain ⟨b', c1, c2, c3, c4, _⟩ := osum (B6 := B_X6_waysOn_5 (nI s) ((255 &&& (nI s ^^^ (-1))) &&& (kn j ^^^ (-1))) A) (B10 := B_X10_waysOn_5 (nI s) (nI j) kn C) (P := fun k => f_X10_has (nI s) (nI k) = 0 ∧ f_X10_has (kn j) (nI k) = 0) (val := fun k => (A (8 * (s ||| 2 ^ k) + k)).toNatClampNeg) (m := 8 ^ (oms s - 1)) (by
    intro k hk v
    obtain ⟨t1, t2, t3, t4⟩ := oset (s := s) (k := k) (by omega) hk
    obtain ⟨i1, i2, _, _⟩ := oix t2 hk
    have fr := ofree (nI s) (kn j) hk
    refine ⟨fun p => ?_, fun p => ?_⟩
    · obtain ⟨k1, k2, k3⟩ := key k hk p.1
      refine ⟨?_, ?_, k3⟩
      · unfold B_X6_waysOn_5
        rw [if_pos (fr.mpr p), t1, i1]
        exact congrArg (v + ·) k2
      · unfold B_X10_waysOn_5
        rw [cj, if_pos p.1, if_pos p.2, t1, i2, ← k1]
        exact congrArg (v + ·) k2
    · constructor
      · unfold B_X6_waysOn_5
        rw [if_neg (fun q => p (fr.mp q))]
      · unfold B_X10_waysOn_5
        rw [cj, Int32.add_zero]
        by_cases q1 : f_X10_has (nI s) (nI k) = 0
        · rw [if_pos q1, if_neg (fun q2 => p ⟨q1, q2⟩)]
        · rw [if_neg q1]) 8 0 0 (by decide)
  refine ⟨b', c1, ?_, ?_, ?_⟩
  · unfold f_X10_waysOn
    rw [if_neg (show ¬ nI s = 255 from fun q => by
      have := (nI_eq (a := s) (b := 255) (by omega) (by decide)).mp q
      omega)]
    exact c2
  · have : 8 ^ oms s = 8 * 8 ^ (oms s - 1) := by
      rw [Nat.mul_comm, ← Nat.pow_succ]
      congr 1
      omega
    omega
  · rcases c4 with e | ⟨k', _, q2, ⟨q3, q4⟩, q5⟩
    · exact Or.inl e
    · exact Or.inr ⟨k', by omega, q3, q4, q5⟩
