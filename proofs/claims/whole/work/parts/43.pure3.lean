/-! bits of the sets 0 to 255 -/
def lbSb {V : Type} (f : Nat → V → V ⊕ V) : Nat → Nat → V → Bool
  | _, 0, _ => false
  | j, n + 1, v => Sum.elim (fun v' => lbSb f (j + 1) n v') (fun _ => true) (f j v)
theorem lbS_of {V : Type} {o : Nat → V → Prop} {f : Nat → V → V ⊕ V} (ho : ∀ j v, o j v) : ∀ (n j : Nat) (v : V), lbSb f j n v = true → lbS o f j n v
  | 0, _, _, h => absurd h (by simp [lbSb])
  | n + 1, j, v, h => by
    refine ⟨ho j v, ?_⟩
    have h2 : Sum.elim (fun v' => lbSb f (j + 1) n v') (fun _ => true) (f j v) = true := h
    revert h2
    cases f j v with
    | inl w => exact fun h2 => lbS_of ho n (j + 1) w h2
    | inr w => exact fun _ => trivial
theorem ones_tab : ∀ x : Fin 256, f_X10_ones (nI x.val) = f_J6_bitCount_0f7a4 (nI x.val) ∧ lbSb B_X10_ones_4 0 33 ((0 : Int32), nI x.val) = true := by decide +kernel
theorem ones_eq {x : Nat} (h : x < 256) : f_X10_ones (nI x) = f_J6_bitCount_0f7a4 (nI x) := (ones_tab ⟨x, h⟩).1
theorem ones_ok {x : Nat} (h : x < 256) : o_X10_ones (nI x) := ⟨lbS_of (fun _ _ => trivial) 33 0 _ (ones_tab ⟨x, h⟩).2, trivial⟩
theorem with_tab : ∀ x : Fin 256, ∀ k : Fin 8, (f_X10_with (nI x.val) (nI k.val) 0).toNatClampNeg < 256 ∧ f_X10_with (nI x.val) (nI k.val) 0 = nI (f_X10_with (nI x.val) (nI k.val) 0).toNatClampNeg ∧ (f_X10_with (nI x.val) (nI k.val) 1).toNatClampNeg < 256 ∧ f_X10_with (nI x.val) (nI k.val) 1 = nI (f_X10_with (nI x.val) (nI k.val) 1).toNatClampNeg := by decide +kernel
theorem with_lt {x k : Nat} (hx : x < 256) (hk : k < 8) (b : Int32) : ∃ j, j < 256 ∧ f_X10_with (nI x) (nI k) b = nI j := by
  obtain ⟨h1, h2, h3, h4⟩ := with_tab ⟨x, hx⟩ ⟨k, hk⟩
  by_cases hb : b = 0
  · subst hb
    exact ⟨_, h1, h2⟩
  · refine ⟨_, h3, ?_⟩
    rw [← h4]
    unfold f_X10_with
    rw [if_neg hb, if_neg (by decide)]
theorem set_eq (kn : Nat → Int32) (p q b : Int32) : f_X3_set kn p q b = upd (upd kn p.toNatClampNeg (f_X10_with (kn p.toNatClampNeg) q b)) q.toNatClampNeg (f_X10_with ((upd kn p.toNatClampNeg (f_X10_with (kn p.toNatClampNeg) q b)) q.toNatClampNeg) p b) := by
  unfold f_X3_set f_X10_with
  by_cases hb : b = 0
  · simp only [if_pos hb]
  · simp only [if_neg hb]
def bits8 (kn : Nat → Int32) : Prop := ∀ k, k < 8 → ∃ j, j < 256 ∧ kn k = nI j
theorem bits8_upd {kn : Nat → Int32} (h : bits8 kn) {k x : Nat} (hx : x < 256) : bits8 (upd kn k (nI x)) := by
  intro j hj
  by_cases e : j = k
  · subst e
    exact ⟨x, hx, pk_us⟩
  · obtain ⟨y, h1, h2⟩ := h j hj
    exact ⟨y, h1, (pk_un e).trans h2⟩
theorem it_cong {V : Type} {f g : Nat → V → V} : ∀ (n j : Nat) (v : V), (∀ k v, j ≤ k → k < j + n → f k v = g k v) → it f j n v = it g j n v
  | 0, _, _, _ => rfl
  | n + 1, j, v, h => by
    show it f (j + 1) n (f j v) = it g (j + 1) n (g j v)
    rw [h j v (Nat.le_refl j) (by omega)]
    exact it_cong n (j + 1) (g j v) (fun k v h1 h2 => h k v (by omega) (by omega))
theorem pairs_eq {kn : Nat → Int32} (h : bits8 kn) : it (B_X3_pairs_4 kn) 0 8 0 = it (B_X10_kin_61 kn) 0 8 0 := by
  refine it_cong 8 0 0 (fun k v _ hk => ?_)
  obtain ⟨x, hx, e⟩ := h k (by omega)
  unfold B_X3_pairs_4 B_X10_kin_61
  rw [e, ones_eq hx]
theorem pairs_ok {kn : Nat → Int32} (h : bits8 kn) : itA (oB_X10_kin_61 kn) (B_X10_kin_61 kn) 0 8 0 := by
  refine itA_of 8 0 0 (fun k v _ hk => ?_)
  obtain ⟨x, hx, e⟩ := h k (by omega)
  refine ⟨?_, trivial⟩
  rw [e]
  exact ones_ok hx
theorem set_bits {kn : Nat → Int32} (h : bits8 kn) {a c : Nat} (ha : a < 8) (hc : c < 8) (b : Int32) : bits8 (f_X3_set kn (nI a) (nI c) b) := by
  rw [set_eq, nI_clamp (show a < 2 ^ 31 by omega), nI_clamp (show c < 2 ^ 31 by omega)]
  obtain ⟨x, hx, ex⟩ := h a ha
  obtain ⟨y, hy, ey⟩ := with_lt hx hc b
  rw [ex, ey]
  have h2 := bits8_upd h (k := a) hy
  obtain ⟨z, hz, ez⟩ := h2 c hc
  obtain ⟨u, hu, eu⟩ := with_lt hz ha b
  rw [ez, eu]
  exact bits8_upd h2 hu
theorem set_tl {kn : Nat → Int32} (h : tl 8 kn) {a c : Nat} (ha : a < 8) (hc : c < 8) (b : Int32) : tl 8 (f_X3_set kn (nI a) (nI c) b) := by
  rw [set_eq, nI_clamp (show a < 2 ^ 31 by omega), nI_clamp (show c < 2 ^ 31 by omega)]
  exact tl_upd (tl_upd h ha) hc
theorem Q_kin (ww : Nat → Int32) (gg : Nat → Int32) (rr : Nat → Int32) (ii : Int32) (nx : Int32) (yr : Int32) (kn : Nat → Int32) (ss : Nat → Int32) (sc : Nat → Int32) (sn : Int32) (sg : Int32) (pd : Nat → Int32) (pk : Nat → Int32) (po : Nat → Int32) (pt : Nat → Int32) (pm : Nat → Int32) (pa : Int32) (wp : Int32) (ex : Int32) (on : Int32) (ot : Int32) (tw : Nat → Int32) (tg : Nat → Int32) (tr : Nat → Int32) (uw : Nat → Int32) (ug : Nat → Int32) (ur : Nat → Int32) (ui : Int32) (un : Int32) (uy : Int32) (uk : Nat → Int32) (us : Nat → Int32) (uc : Nat → Int32) (um : Int32) (uf : Int32) (zw : Nat → Int32) (zg : Nat → Int32) (zr : Nat → Int32) (zi : Int32) (zn : Int32) (zy : Int32) (zk : Nat → Int32) (zs : Nat → Int32) (zc : Nat → Int32) (zm : Int32) (zf : Int32) (kp : Nat → Int32) (ik : Nat → Int32) (a1 : Int32) (a2 : Int32) (a3 : Int32) (h : RA ww gg rr ii nx yr kn ss sc sn sg pd pk po pt pm pa wp ex on ot tw tg tr uw ug ur ui un uy uk us uc um uf zw zg zr zi zn zy zk zs zc zm zf kp ik) : o_X9_kin a1 a2 a3 ∧ o_X10_kin kn a1 a2 a3 ∧ (f_X9_kin kn a1 a2 a3).1 = (f_X10_kin kn a1 a2 a3).1 ∧ (f_X10_kin kn a1 a2 a3).2 = (f_X9_kin kn a1 a2 a3).2 ∧ RA ww gg rr ii nx yr ((f_X9_kin kn a1 a2 a3).2) ss sc sn sg pd pk po pt pm pa wp ex on ot tw tg tr uw ug ur ui un uy uk us uc um uf zw zg zr zi zn zy zk zs zc zm zf kp ik := by
  obtain ⟨hP, hK, hPd, hT, hI0, hI1⟩ := h
  obtain ⟨k1, k2, k3⟩ := hK
  have e : f_X9_kin kn a1 a2 a3 = f_X10_kin kn a1 a2 a3 := by
    unfold f_X9_kin f_X10_kin
    rw [isH, isH]
    by_cases h0 : f_X9_areTwoHouses a1 a2 = 0
    · rw [if_pos h0]
      by_cases h1 : f_X9_isHouse a1 = 0
      · rw [if_pos h1]
      · rw [if_neg h1]
        by_cases h2 : f_X9_isHouse a2 = 0
        · rw [if_pos h2]
        · rw [if_neg h2]
          have h3 : a1 = a2 := by
            rcases (two_areH a1 a2).mp h0 with q | q | q
            · exact absurd q h1
            · exact absurd q h2
            · exact q
          rw [if_pos h3]
    · have h1 := fun q => h0 ((two_areH a1 a2).mpr (Or.inl q))
      have h2 := fun q => h0 ((two_areH a1 a2).mpr (Or.inr (Or.inl q)))
      have h3 := fun q => h0 ((two_areH a1 a2).mpr (Or.inr (Or.inr q)))
      rw [if_neg h0, if_neg h1, if_neg h2, if_neg h3]
      obtain ⟨x, hx, rfl⟩ := hs_nat h1
      obtain ⟨y, hy, rfl⟩ := hs_nat h2
      have hb := set_bits k2 hx hy a3
      show (f_X3_pairs (f_X3_set kn (nI x) (nI y) a3), f_X3_set kn (nI x) (nI y) a3) = _
      unfold f_X3_pairs
      rw [pairs_eq hb, set_eq]
      rfl
  refine ⟨?_, ?_, by rw [e], by rw [e], hP, ?_, hPd, hT, hI0, hI1⟩
  · unfold o_X9_kin
    split
    · trivial
    · rename_i h0
      have h1 := hs_in (fun q => h0 ((two_areH a1 a2).mpr (Or.inl q)))
      have h2 := hs_in (fun q => h0 ((two_areH a1 a2).mpr (Or.inr (Or.inl q))))
      refine ⟨?_, trivial⟩
      unfold o_X3_set
      split
      · exact ⟨h1, h1, h2, h2, trivial⟩
      · exact ⟨h1, h1, h2, h2, trivial⟩
  · unfold o_X10_kin
    rw [isH, isH]
    refine ⟨oIsH a1, ?_⟩
    split
    · trivial
    · rename_i h1
      refine ⟨oIsH a2, ?_⟩
      split
      · trivial
      · rename_i h2
        split
        · trivial
        · have g1 := hs_in h1
          have g2 := hs_in h2
          refine ⟨g1, g1, g2, ?_⟩
          obtain ⟨x, hx, rfl⟩ := hs_nat h1
          obtain ⟨y, hy, rfl⟩ := hs_nat h2
          have hb := set_bits k2 hx hy a3
          rw [set_eq] at hb
          exact ⟨g2, pairs_ok hb, trivial⟩
  · unfold f_X9_kin
    split
    · exact ⟨k1, k2, k3⟩
    · rename_i h0
      obtain ⟨x, hx, rfl⟩ := hs_nat (fun q => h0 ((two_areH a1 a2).mpr (Or.inl q)))
      obtain ⟨y, hy, rfl⟩ := hs_nat (fun q => h0 ((two_areH (nI x) a2).mpr (Or.inr (Or.inl q))))
      exact ⟨set_tl k1 hx hy a3, set_bits k2 hx hy a3, k3⟩
