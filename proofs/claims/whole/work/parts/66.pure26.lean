/-! ORDERS: who goes on -/
def oF (kn : Nat → Int32) (S k : Nat) (A : Nat → Int32) : Prop := (A (8 * S + k)).toNatClampNeg = 0 ∨ ∃ k', k' < 8 ∧ f_X10_has (nI S) (nI k') = 0 ∧ f_X10_has (kn k) (nI k') = 0 ∧ 0 < (A (8 * (S ||| 2 ^ k') + k')).toNatClampNeg
def agFo (kn : Nat → Int32) (s : Nat) (A : Nat → Int32) : Prop := ∀ S, s ≤ S → S < 255 → ∀ k, k < 8 → f_X10_has (nI S) (nI k) = 1 → oF kn S k A
theorem oF_up {kn : Nat → Int32} {S k s j : Nat} {A : Nat → Int32} (x : Int32) (hS : S < 256) (h1 : s ≤ S) (hj : j < 8) (hne : 8 * S + k ≠ 8 * s + j) (h : oF kn S k A) : oF kn S k (upd A (8 * s + j) x) := by
  rcases h with h | ⟨k', q1, q2, q3, q4⟩
  · refine Or.inl ?_
    rw [pk_un hne]
    exact h
  · refine Or.inr ⟨k', q1, q2, q3, ?_⟩
    have := (oset hS q1).2.2.2 q2
    rw [pk_un (by omega)]
    exact q4
theorem oinF {s : Nat} (hs : s < 255) (kn : Nat → Int32) : ∀ (n j : Nat) (v u : Nat → Int32), j + n = 8 → agO (s + 1) v u → agFo kn (s + 1) v → (∀ k, k < j → f_X10_has (nI s) (nI k) = 1 → oF kn s k v) → agFo kn s (it (B_X6_work_35 (nI s) kn) j n v)
  | 0, j, v, u, hj, ha, hf, hi => by
    intro S h1 h2 k hk hh
    by_cases e : S = s
    · subst e
      exact hi k (by omega) hh
    · exact hf S (by omega) h2 k hk hh
  | n + 1, j, v, u, hj, ha, hf, hi => by
    have j8 : j < 8 := by omega
    obtain ⟨i1, i2, i3, i4⟩ := oix (T := s) (k := j) (by omega) j8
    by_cases hb : f_X10_has (nI s) (nI j) = 1
    · obtain ⟨b, w1, w2, w3, w4⟩ := owy (kn := kn) hs j8 ha
      have e6 : B_X6_work_35 (nI s) kn j v = upd v (8 * s + j) (nI b) := by
        unfold B_X6_work_35
        rw [if_pos ((hasb _ _).mpr hb), lt_c w1, i1]
      rw [it_c e6]
      refine oinF hs kn n (j + 1) _ (upd u (8 * s + j) (nI b)) (by omega) (ag_up j8 _ _ ha) (fun S h1 h2 k hk hh => oF_up _ (by omega) (by omega) j8 (by omega) (hf S h1 h2 k hk hh)) (fun k hk hh => ?_)
      by_cases e : k = j
      · subst e
        rcases w4 with z | ⟨k', q1, q2, q3, q4⟩
        · refine Or.inl ?_
          rw [pk_us, z]
          rfl
        · refine Or.inr ⟨k', q1, q2, q3, ?_⟩
          have := (oset (s := s) (by omega) q1).2.2.2 q2
          rw [pk_un (by omega)]
          exact q4
      · exact oF_up _ (by omega) (by omega) j8 (by omega) (hi k (by omega) hh)
    · have e6 : B_X6_work_35 (nI s) kn j v = v := by
        unfold B_X6_work_35
        rw [if_neg (fun q => hb ((hasb _ _).mp q))]
      rw [it_c e6]
      refine oinF hs kn n (j + 1) _ u (by omega) ha hf (fun k hk hh => ?_)
      by_cases e : k = j
      · subst e
        exact absurd hh hb
      · exact hi k (by omega) hh
theorem oallF (kn : Nat → Int32) : ∀ (n : Nat) (v u : Nat → Int32), n ≤ 254 → agO (n + 1) v u → agFo kn (n + 1) v → agFo kn 1 (itD (B_X6_work_29 kn) n v)
  | 0, v, u, _, _, hf => hf
  | n + 1, v, u, hn, ha, hf => by
    have q := oin (s := n + 1) (by omega) kn 8 0 v u (by decide) ha (fun k hk => absurd hk (Nat.not_lt_zero k))
    have f := oinF (s := n + 1) (by omega) kn 8 0 v u (by decide) ha hf (fun k hk => absurd hk (Nat.not_lt_zero k))
    exact oallF kn n _ _ (by omega) q.1 f
theorem o2_it : ∀ (n j : Nat) (v : Nat → Int32), j + n ≤ 8 → ∀ k, (j ≤ k ∧ k < j + n → it B_X6_work_2 j n v (2040 + k) = 1) ∧ (k < j → it B_X6_work_2 j n v (2040 + k) = v (2040 + k))
  | 0, j, v, _, k => ⟨fun h => absurd h (by omega), fun _ => rfl⟩
  | n + 1, j, v, h, k => by
    have e : B_X6_work_2 j v = upd v (2040 + j) 1 := by
      unfold B_X6_work_2
      rw [show (2040 : Int32) + nI j = nI (2040 + j) from nI_add 2040 j, nI_clamp (by omega)]
    rw [it_c e]
    have r := o2_it n (j + 1) (upd v (2040 + j) 1) (by omega) k
    refine ⟨fun hk => ?_, fun hk => ?_⟩
    · by_cases q : k = j
      · subst q
        rw [r.2 (by omega), pk_us]
      · exact r.1 (by omega)
    · rw [r.2 (by omega), pk_un (by omega)]
theorem o3_it (kn : Nat → Int32) : ∀ (n j : Nat) (v : Nat → Int32), j + n ≤ 8 → (∀ k, (j ≤ k ∧ k < j + n → it (B_X10_orders_23 (nI 255) kn) j n v (2040 + k) = 1) ∧ (k < j → it (B_X10_orders_23 (nI 255) kn) j n v (2040 + k) = v (2040 + k))) ∧ itA (oB_X10_orders_23 (nI 255) kn) (B_X10_orders_23 (nI 255) kn) j n v
  | 0, j, v, _ => ⟨fun k => ⟨fun h => absurd h (by omega), fun _ => rfl⟩, trivial⟩
  | n + 1, j, v, h => by
    have hb : f_X10_has (nI 255) (nI j) = 1 := (hasb _ _).mp ((o0_tab ⟨j, by omega⟩).2.2.2.2.1)
    obtain ⟨_, i2, _, i4⟩ := oix (T := 255) (k := j) (by decide) (by omega)
    have e : B_X10_orders_23 (nI 255) kn j v = upd v (2040 + j) 1 := by
      unfold B_X10_orders_23
      rw [if_neg (by rw [hb]; decide), i2]
      rfl
    have r := o3_it kn n (j + 1) (upd v (2040 + j) 1) (by omega)
    refine ⟨fun k => ⟨fun hk => ?_, fun hk => ?_⟩, ⟨?_, ?_⟩⟩
    · rw [it_c e]
      by_cases q : k = j
      · subst q
        rw [(r.1 k).2 (by omega), pk_us]
      · exact (r.1 k).1 (by omega)
    · rw [it_c e, (r.1 k).2 (by omega), pk_un (by omega)]
    · unfold oB_X10_orders_23
      rw [if_neg (by rw [hb]; decide)]
      exact ⟨w10_ok (by decide) (by omega) _ _, i4, trivial⟩
    · rw [e]
      exact r.2
theorem oD_s {V : Type} {o : Nat → V → Prop} {f : Nat → V → V} {n : Nat} {v : V} (h1 : o n v) (h2 : itDA o f n (f n v)) : itDA o f (n + 1) v := ⟨h1, h2⟩
theorem oD_i {V : Type} {f : Nat → V → V} (n : Nat) (v : V) : itD f (n + 1) v = itD f n (f n v) := rfl
theorem ostart1 (kn rw mw : Nat → Int32) (N : Nat) (hN : N = 254) : agO 1 (itD (B_X6_work_29 kn) N (it B_X6_work_2 0 8 rw)) (itD (B_X10_orders_17 kn) (N + 1) mw) ∧ agFo kn 1 (itD (B_X6_work_29 kn) N (it B_X6_work_2 0 8 rw)) ∧ itDA (oB_X6_work_29 kn) (B_X6_work_29 kn) N (it B_X6_work_2 0 8 rw) ∧ itDA (oB_X10_orders_17 kn) (B_X10_orders_17 kn) (N + 1) mw := by
  have o3 := o3_it kn 8 0 mw (by decide)
  have e17 : B_X10_orders_17 kn N mw = it (B_X10_orders_23 (nI 255) kn) 0 8 mw := by
    unfold B_X10_orders_17
    rw [hN]
  have h0 : agO (N + 1) (it B_X6_work_2 0 8 rw) (B_X10_orders_17 kn N mw) := by
    intro S h1 h2 k hk _
    have e : S = 255 := by omega
    subst e
    have a1 := (o2_it 8 0 rw (by decide) k).1 (by omega)
    have a2 := (o3.1 k).1 (by omega)
    rw [e17]
    exact ⟨a1.trans a2.symm, 1, Nat.pow_pos (by decide), a1⟩
  have f0 : agFo kn (N + 1) (it B_X6_work_2 0 8 rw) := fun S h1 h2 => absurd h2 (by omega)
  have r := oall kn N _ _ (by omega) h0
  have oo : oB_X10_orders_17 kn N mw := by
    unfold oB_X10_orders_17
    rw [hN]
    exact ⟨o3.2, trivial⟩
  rw [oD_i]
  exact ⟨r.1, oallF kn N _ _ (by omega) h0 f0, r.2.1, oD_s oo r.2.2⟩
theorem ostart (kn rw mw : Nat → Int32) : agO 1 (f_X6_work kn rw) (itD (B_X10_orders_17 kn) 255 mw) ∧ agFo kn 1 (f_X6_work kn rw) ∧ o_X6_work kn rw ∧ itDA (oB_X10_orders_17 kn) (B_X10_orders_17 kn) 255 mw := by
  have r := ostart1 kn rw mw 254 rfl
  unfold f_X6_work o_X6_work
  refine ⟨r.1, r.2.1, ⟨itA_of 8 0 _ (fun k v _ hk => ⟨?_, trivial⟩), r.2.2.1, trivial⟩, r.2.2.2⟩
  rw [show (2040 : Int32) + nI k = nI (2040 + k) from nI_add 2040 k]
  exact vp_in_nI (by omega) (by decide)
