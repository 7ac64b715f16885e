/-! the start -/
theorem in_it : ∀ (n j : Nat) (a b : Nat → Int32), it B_X5_init_30 j n (a, b) = ((fun k => if j ≤ k ∧ k < j + n then 50 else a k), fun k => if j ≤ k ∧ k < j + n then nI k else b k)
  | 0, j, a, b => by
    show (a, b) = _
    congr 1
    · funext k
      rw [if_neg (by omega)]
    · funext k
      rw [if_neg (by omega)]
  | n + 1, j, a, b => by
    have e : B_X5_init_30 j (a, b) = (upd a j 50, upd b j (nI j)) := rfl
    rw [it_c e, in_it n (j + 1)]
    congr 1
    · funext k
      by_cases q : k = j
      · subst q
        rw [if_neg (by omega), if_pos (by omega), pk_us]
      · rw [pk_un q]
        by_cases c : j + 1 ≤ k ∧ k < j + 1 + n
        · rw [if_pos c, if_pos (by omega)]
        · rw [if_neg c, if_neg (by omega)]
    · funext k
      by_cases q : k = j
      · subst q
        rw [if_neg (by omega), if_pos (by omega), pk_us]
      · rw [pk_un q]
        by_cases c : j + 1 ≤ k ∧ k < j + 1 + n
        · rw [if_pos c, if_pos (by omega)]
        · rw [if_neg c, if_neg (by omega)]
theorem RA_init : RA ((it B_X5_init_30 0 8 ((fun _ => 0), (fun _ => 0))).1) (fun _ => 0) ((it B_X5_init_30 0 8 ((fun _ => 0), (fun _ => 0))).2) (0 : Int32) (0 : Int32) (0 : Int32) (fun _ => 0) (fun _ => 0) (fun _ => 0) (0 : Int32) (0 : Int32) (fun _ => 0) (fun _ => 0) (fun _ => 0) (fun _ => 0) (fun _ => 0) (0 : Int32) (-6 : Int32) (0 : Int32) (0 : Int32) (0 : Int32) ((it B_X5_init_30 0 8 ((fun _ => 0), (fun _ => 0))).1) (fun _ => 0) ((it B_X5_init_30 0 8 ((fun _ => 0), (fun _ => 0))).2) ((it B_X5_init_30 0 8 ((fun _ => 0), (fun _ => 0))).1) (fun _ => 0) ((it B_X5_init_30 0 8 ((fun _ => 0), (fun _ => 0))).2) (0 : Int32) (0 : Int32) (0 : Int32) (fun _ => 0) (fun _ => 0) (fun _ => 0) (0 : Int32) (0 : Int32) ((it B_X5_init_30 0 8 ((fun _ => 0), (fun _ => 0))).1) (fun _ => 0) ((it B_X5_init_30 0 8 ((fun _ => 0), (fun _ => 0))).2) (0 : Int32) (0 : Int32) (0 : Int32) (fun _ => 0) (fun _ => 0) (fun _ => 0) (0 : Int32) (0 : Int32) (fun _ => 0) (fun _ => 0) := by
  have z8 : ∀ n, tl n (fun _ => 0) := fun n k _ => rfl
  rw [in_it 8 0]
  have w8 : tl 8 (fun k => if 0 ≤ k ∧ k < 0 + 8 then (50 : Int32) else (fun _ => 0) k) := fun k hk => if_neg (by omega)
  have r8 : tl 8 (fun k => if 0 ≤ k ∧ k < 0 + 8 then nI k else (fun _ => 0) k) := fun k hk => if_neg (by omega)
  have rp : perm8 (fun k => if 0 ≤ k ∧ k < 0 + 8 then nI k else (fun _ => 0) k) := by
    refine ⟨fun k hk => ⟨k, hk, if_pos (by omega)⟩, fun a b ha hb e => ?_⟩
    replace e : (if 0 ≤ a ∧ a < 0 + 8 then nI a else 0) = if 0 ≤ b ∧ b < 0 + 8 then nI b else 0 := e
    rw [if_pos (by omega), if_pos (by omega)] at e
    exact (nI_eq (by omega) (by omega)).mp e
  have rel : ∀ q, RelI (fun _ => 0) (fun _ => 0) q (fun k => if 0 ≤ k ∧ k < 0 + 8 then (50 : Int32) else (fun _ => 0) k) (fun _ => 0) (fun k => if 0 ≤ k ∧ k < 0 + 8 then nI k else (fun _ => 0) k) 0 0 0 (fun _ => 0) (fun _ => 0) (fun _ => 0) 0 0 := fun q => ⟨w8, z8 64, r8, z8 8, z8 8, z8 8, rfl, Or.inl rfl, fun e => absurd e (by decide)⟩
  exact ⟨⟨w8, z8 64, r8, rp, ⟨0, by decide, rfl⟩, ⟨0, by decide, rfl⟩⟩, ⟨z8 8, fun k _ => ⟨0, by decide, rfl⟩, z8 8, fun k _ => ⟨0, by decide, rfl⟩, z8 8, ⟨0, by decide, rfl⟩⟩, rp_nil _ _ _ _ _ _ _, ⟨w8, z8 64, r8⟩, rel 0, rel 1⟩
