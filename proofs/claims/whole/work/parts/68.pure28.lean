/-! ORDERS: the least that goes on -/
theorem odn {f : Nat → Int32 → Int32} {P : Nat → Prop} (hf : ∀ n, n < 8 → ∀ v, (P n → f n v = nI n) ∧ (¬ P n → f n v = v)) {c : Nat} (hc : P c) (hl : ∀ k, k < c → ¬ P k) : ∀ (n : Nat) (v : Int32), n ≤ 8 → itD f n v = if c < n then nI c else v
  | 0, v, _ => by
    rw [if_neg (by omega)]
    rfl
  | n + 1, v, hn => by
    have hh := hf n (by omega) v
    by_cases q : n = c
    · subst q
      rw [itD_c (hh.1 hc), odn hf hc hl n _ (by omega), if_neg (by omega), if_pos (by omega)]
    · by_cases w : n < c
      · rw [itD_c (hh.2 (hl n w)), odn hf hc hl n _ (by omega), if_neg (by omega), if_neg (by omega)]
      · rw [itD_c (rfl : f n v = f n v), odn hf hc hl n _ (by omega), if_pos (by omega), if_pos (by omega)]
theorem oup {f : Nat → Unit → Unit ⊕ (Unit ⊕ Int32)} {P : Nat → Prop} (hf : ∀ n, n < 8 → (P n → f n () = Sum.inr (Sum.inr (nI n))) ∧ (¬ P n → f n () = Sum.inl ())) {c : Nat} (hc : P c) (hl : ∀ k, k < c → ¬ P k) : ∀ (n j : Nat), j ≤ c → c < j + n → j + n ≤ 8 → lp f j n () = Sum.inr (nI c)
  | 0, j, h1, h2, _ => absurd h2 (by omega)
  | n + 1, j, h1, h2, h3 => by
    by_cases q : j = c
    · subst q
      exact lp_b ((hf j (by omega)).1 hc)
    · rw [lp_c ((hf j (by omega)).2 (hl j (by omega)))]
      exact oup hf hc hl n (j + 1) (by omega) (by omega) (by omega)
theorem onone {f : Nat → Unit → Unit ⊕ (Unit ⊕ Int32)} (hf : ∀ n, n < 8 → f n () = Sum.inl ()) : ∀ (n j : Nat), j + n ≤ 8 → lp f j n () = Sum.inl ()
  | 0, _, _ => rfl
  | n + 1, j, h => by
    rw [lp_c (hf j (by omega))]
    exact onone hf n (j + 1) (by omega)
theorem oleast {P : Nat → Prop} (h : ∃ k, k < 8 ∧ P k) : ∃ c, c < 8 ∧ P c ∧ ∀ k, k < c → ¬ P k := by
  obtain ⟨c, ⟨h1, h2⟩, h3⟩ := pk_least (fun k => k < 8 ∧ P k) h
  exact ⟨c, h1, h2, fun k hk q => h3 k hk ⟨by omega, q⟩⟩
