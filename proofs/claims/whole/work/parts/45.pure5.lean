/-! EVEN -/
theorem bit_tab : ∀ s : Fin 256, ∀ j : Fin 8, ((nI s.val >>> (nI j.val &&& 31)) &&& 1) = 1 → (nI s.val &&& (((1 : Int32) <<< (nI j.val &&& 31)) ^^^ (-1))) = nI (nI s.val &&& (((1 : Int32) <<< (nI j.val &&& 31)) ^^^ (-1))).toNatClampNeg ∧ (nI s.val &&& (((1 : Int32) <<< (nI j.val &&& 31)) ^^^ (-1))).toNatClampNeg < s.val := by decide +kernel
theorem bit_ix {s j : Nat} (hs : s < 256) (hj : j < 8) (h : ((nI s >>> (nI j &&& 31)) &&& 1) = 1) : ∃ t, t < s ∧ (nI s &&& (((1 : Int32) <<< (nI j &&& 31)) ^^^ (-1))) = nI t := ⟨_, (bit_tab ⟨s, hs⟩ ⟨j, hj⟩ h).2, (bit_tab ⟨s, hs⟩ ⟨j, hj⟩ h).1⟩
theorem has_1 {x k : Int32} : f_X10_has x k = 0 ↔ ¬ ((x >>> (k &&& 31)) &&& 1) = 1 := by
  unfold f_X10_has
  by_cases h : ((x >>> (k &&& 31)) &&& 1) = 1
  · rw [if_pos h]
    exact ⟨fun q => absurd q (by decide), fun q => absurd h q⟩
  · rw [if_neg h]
    exact ⟨fun _ => h, fun _ => rfl⟩
def agE (s : Nat) (em mg : Nat → Int32) : Prop := ∀ k, k < s → em k = mg k ∧ ∃ x, x ≤ k ∧ em k = nI x
theorem ev_in {s : Nat} (hs : s < 256) (h1 : 1 ≤ s) {em mg d d' : Nat → Int32} (hd : ∀ k, k < 8 → d k = d' k) (ha : agE s em mg) : ∀ (n j : Nat) (a b : Int32), j + n = 8 → (∃ x, x < s ∧ b = nI x) → it (B_X0_workSet_7 (nI s) em d) j n (a, b) = (it (B_X10_sumOf_4 (nI s) d') j n a, it (B_X10_findGroups_13 (nI s) mg) j n b) ∧ ∃ x, x < s ∧ it (B_X10_findGroups_13 (nI s) mg) j n b = nI x
  | 0, j, a, b, _, hb => ⟨rfl, hb⟩
  | n + 1, j, a, b, hj, hb => by
    obtain ⟨x, hx, rfl⟩ := hb
    have hx0 : (0 : Int32) ≤ nI x := nI_pos' (by omega)
    show it (B_X0_workSet_7 (nI s) em d) (j + 1) n (B_X0_workSet_7 (nI s) em d j (a, nI x)) = (it (B_X10_sumOf_4 (nI s) d') (j + 1) n (B_X10_sumOf_4 (nI s) d' j a), it (B_X10_findGroups_13 (nI s) mg) (j + 1) n (B_X10_findGroups_13 (nI s) mg j (nI x))) ∧ ∃ x', x' < s ∧ it (B_X10_findGroups_13 (nI s) mg) (j + 1) n (B_X10_findGroups_13 (nI s) mg j (nI x)) = nI x'
    by_cases hb : ((nI s >>> (nI j &&& 31)) &&& 1) = 1
    · obtain ⟨t, ht, et⟩ := bit_ix hs (by omega) hb
      obtain ⟨e1, y, hy, e2⟩ := ha t ht
      have hc : (nI t).toNatClampNeg = t := nI_clamp (by omega)
      have c1 : B_X0_workSet_7 (nI s) em d j (a, nI x) = (a + d' j, if nI x < nI y then nI y else nI x) := by
        unfold B_X0_workSet_7
        rw [if_pos hb, et, hc, e2, hd j (by omega)]
      have c2 : B_X10_sumOf_4 (nI s) d' j a = a + d' j := by
        unfold B_X10_sumOf_4
        rw [if_neg (fun q => has_1.mp q hb)]
      have c3 : B_X10_findGroups_13 (nI s) mg j (nI x) = if nI x < nI y then nI y else nI x := by
        unfold B_X10_findGroups_13
        rw [if_neg (fun q => has_1.mp q hb), et, hc, ← e1, e2]
        by_cases q : x < y
        · rw [if_neg (fun z => by rw [nI_leI (by omega) (by omega)] at z; omega), if_pos (nI_lt q (by omega))]
        · rw [if_pos (nI_le (by omega) (by omega)), if_neg (fun z => by rw [nI_ltI (by omega) (by omega)] at z; omega)]
      rw [c1, c2, c3]
      refine ev_in hs h1 hd ha n (j + 1) _ _ (by omega) ?_
      by_cases q : x < y
      · exact ⟨y, by omega, if_pos (nI_lt q (by omega))⟩
      · exact ⟨x, hx, if_neg (fun z => by rw [nI_ltI (by omega) (by omega)] at z; omega)⟩
    · have c1 : B_X0_workSet_7 (nI s) em d j (a, nI x) = (a, nI x) := by
        unfold B_X0_workSet_7
        rw [if_neg hb]
      have c2 : B_X10_sumOf_4 (nI s) d' j a = a := by
        unfold B_X10_sumOf_4
        rw [if_pos (has_1.mpr hb), Int32.add_zero]
      have c3 : B_X10_findGroups_13 (nI s) mg j (nI x) = nI x := by
        unfold B_X10_findGroups_13
        rw [if_pos (has_1.mpr hb), if_pos hx0]
      rw [c1, c2, c3]
      exact ev_in hs h1 hd ha n (j + 1) _ _ (by omega) ⟨x, hx, rfl⟩
theorem ev_step {s : Nat} (hs : s < 256) (h1 : 1 ≤ s) {em mg d d' : Nat → Int32} (hd : ∀ k, k < 8 → d k = d' k) (ha : agE s em mg) : agE (s + 1) (B_X0_work_60 d s em) (B_X10_findGroups_2 d' s mg) := by
  obtain ⟨e1, x, hx, e2⟩ := ev_in hs h1 hd ha 8 0 0 0 rfl ⟨0, by omega, rfl⟩
  have hc : (nI s).toNatClampNeg = s := nI_clamp (by omega)
  have f1 : B_X0_work_60 d s em = if it (B_X10_sumOf_4 (nI s) d') 0 8 0 = 0 then upd em s (nI x + 1) else upd em s (nI x) := by
    unfold B_X0_work_60 f_X0_workSet
    dsimp only [lt]
    rw [e1, hc, e2]
  have f2 : B_X10_findGroups_2 d' s mg = if it (B_X10_sumOf_4 (nI s) d') 0 8 0 = 0 then upd mg s (nI x + 1) else upd mg s (nI x) := by
    unfold B_X10_findGroups_2 f_X10_sumOf
    rw [if_neg (nI_nle h1 (by omega)), e2]
  rw [f1, f2]
  have key : ∀ y, y ≤ s → agE (s + 1) (upd em s (nI y)) (upd mg s (nI y)) := by
    intro y hy k hk
    by_cases q : k = s
    · subst q
      rw [pk_us, pk_us]
      exact ⟨rfl, y, hy, rfl⟩
    · rw [pk_un q, pk_un q]
      exact ha k (by omega)
  by_cases q : it (B_X10_sumOf_4 (nI s) d') 0 8 0 = 0
  · rw [if_pos q, if_pos q, nI_1]
    exact key (x + 1) (by omega)
  · rw [if_neg q, if_neg q]
    exact key x (by omega)
theorem ev_all {d d' : Nat → Int32} (hd : ∀ k, k < 8 → d k = d' k) : ∀ (n s : Nat) (em mg : Nat → Int32), s + n = 256 → 1 ≤ s → agE s em mg → agE 256 (it (B_X0_work_60 d) s n em) (it (B_X10_findGroups_2 d') s n mg)
  | 0, s, em, mg, h, _, ha => by
    have : s = 256 := by omega
    subst this
    exact ha
  | n + 1, s, em, mg, h, h1, ha => ev_all hd n (s + 1) _ _ (by omega) (by omega) (ev_step (by omega) h1 hd ha)
theorem ev_0 (mg d' : Nat → Int32) : ∃ x : Int32, B_X10_findGroups_2 d' 0 mg = upd mg 0 x ∧ x = 0 := by
  have e : ∀ (n j : Nat), j + n = 8 → it (B_X10_findGroups_13 (nI 0) mg) j n 0 = 0 := by
    intro n
    induction n with
    | zero => intro j _; rfl
    | succ n ih =>
      intro j hj
      show it (B_X10_findGroups_13 (nI 0) mg) (j + 1) n (B_X10_findGroups_13 (nI 0) mg j 0) = 0
      have hz : ¬ ((nI 0 >>> (nI j &&& 31)) &&& 1) = 1 := (by decide +kernel : ∀ j : Fin 8, ¬ ((nI 0 >>> (nI j.val &&& 31)) &&& 1) = 1) ⟨j, by omega⟩
      have c : B_X10_findGroups_13 (nI 0) mg j 0 = 0 := by
        unfold B_X10_findGroups_13
        rw [if_pos (has_1.mpr hz), if_pos (by decide)]
      rw [c]
      exact ih (j + 1) (by omega)
  refine ⟨_, ?_, e 8 0 rfl⟩
  unfold B_X10_findGroups_2
  rw [if_pos (by decide)]
theorem ev_groups {d d' : Nat → Int32} (hd : ∀ k, k < 8 → d k = d' k) (em mg : Nat → Int32) : agE 256 (it (B_X0_work_60 d) 1 255 (upd em 0 0)) (f_X10_findGroups mg d') := by
  have e0 : f_X10_findGroups mg d' = it (B_X10_findGroups_2 d') 1 255 (B_X10_findGroups_2 d' 0 mg) := it_c (f := B_X10_findGroups_2 d') (j := 0) (n := 255) rfl
  rw [e0]
  obtain ⟨x, e, rfl⟩ := ev_0 mg d'
  rw [e]
  refine ev_all hd 255 1 _ _ rfl (by decide) ?_
  intro k hk
  have : k = 0 := by omega
  subst this
  rw [pk_us, pk_us]
  exact ⟨rfl, 0, by decide, rfl⟩
theorem sh8 : ∀ j : Fin 8, (1 : Int32) <<< (nI j.val &&& 31) = nI (2 ^ j.val) := by decide +kernel
theorem ev_dues (g : Nat → Int32) : ∀ (n j x : Nat) (d d' : Nat → Int32), j + n = 8 → x < 256 → (∀ k, k < j → d k = d' k) → ∃ y, y < 256 ∧ (it (B_X0_work_7 g) j n (nI x, d)).1 = nI y ∧ (it (B_X10_even_17 g) j n (nI x, d')).1 = nI y ∧ ∀ k, k < 8 → (it (B_X0_work_7 g) j n (nI x, d)).2 k = (it (B_X10_even_17 g) j n (nI x, d')).2 k
  | 0, j, x, d, d', h, hx, ha => ⟨x, hx, rfl, rfl, fun k hk => ha k (by omega)⟩
  | n + 1, j, x, d, d', h, hx, ha => by
    show ∃ y, y < 256 ∧ (it (B_X0_work_7 g) (j + 1) n (B_X0_work_7 g j (nI x, d))).1 = nI y ∧ (it (B_X10_even_17 g) (j + 1) n (B_X10_even_17 g j (nI x, d'))).1 = nI y ∧ ∀ k, k < 8 → (it (B_X0_work_7 g) (j + 1) n (B_X0_work_7 g j (nI x, d))).2 k = (it (B_X10_even_17 g) (j + 1) n (B_X10_even_17 g j (nI x, d'))).2 k
    have hu : ∀ k, k < j + 1 → upd d j (f_X10_dueOf g (nI j)) k = upd d' j (f_X10_dueOf g (nI j)) k := by
      intro k hk
      by_cases q : k = j
      · subst q
        rw [pk_us, pk_us]
      · rw [pk_un q, pk_un q]
        exact ha k (by omega)
    by_cases q : f_X10_dueOf g (nI j) = 0
    · have c1 : B_X0_work_7 g j (nI x, d) = (nI x, upd d j (f_X10_dueOf g (nI j))) := by
        unfold B_X0_work_7
        dsimp only
        rw [due_eq, pk_us, if_pos q]
      have c2 : B_X10_even_17 g j (nI x, d') = (nI x, upd d' j (f_X10_dueOf g (nI j))) := by
        unfold B_X10_even_17
        dsimp only
        rw [pk_us, if_pos q, Int32.or_zero]
      rw [c1, c2]
      exact ev_dues g n (j + 1) x _ _ (by omega) hx hu
    · have c1 : B_X0_work_7 g j (nI x, d) = (nI (x ||| 2 ^ j), upd d j (f_X10_dueOf g (nI j))) := by
        unfold B_X0_work_7
        dsimp only
        rw [due_eq, pk_us, if_neg q, sh8 ⟨j, by omega⟩, fa_or]
      have c2 : B_X10_even_17 g j (nI x, d') = (nI (x ||| 2 ^ j), upd d' j (f_X10_dueOf g (nI j))) := by
        unfold B_X10_even_17
        dsimp only
        rw [pk_us, if_neg q, sh8 ⟨j, by omega⟩, fa_or]
      rw [c1, c2]
      exact ev_dues g n (j + 1) _ _ _ (by omega) (Nat.or_lt_two_pow (n := 8) hx (Nat.pow_lt_pow_right (by decide) (by omega))) hu
theorem ev_ok1 {s : Nat} (hs : s < 256) (em d : Nat → Int32) : o_X0_workSet em d (nI s) := by
  refine ⟨itA_of 8 0 _ (fun k v _ hk => ?_), ?_⟩
  · unfold oB_X0_workSet_7
    split
    · rename_i hb
      obtain ⟨t, ht, et⟩ := bit_ix hs (by omega) hb
      rw [et]
      exact ⟨vp_in_nI (by omega) (by decide), trivial⟩
    · trivial
  · dsimp only [lt]
    split
    · exact ⟨vp_in_nI hs (by decide), trivial⟩
    · exact ⟨vp_in_nI hs (by decide), trivial⟩
theorem ev_ok2 (mg d : Nat → Int32) : o_X10_findGroups mg d := by
  refine ⟨itA_of 256 0 _ (fun s v _ hs => ⟨itA_of 8 0 _ (fun k v _ hk => ?_), trivial⟩), trivial⟩
  unfold oB_X10_findGroups_13
  split
  · trivial
  · rename_i hb
    have hb2 : ((nI s >>> (nI k &&& 31)) &&& 1) = 1 := Classical.byContradiction (fun q => hb (has_1.mpr q))
    obtain ⟨t, ht, et⟩ := bit_ix (by omega) (by omega) hb2
    rw [et]
    exact ⟨vp_in_nI (by omega) (by decide), trivial⟩
theorem Q_even (ww : Nat → Int32) (gg : Nat → Int32) (rr : Nat → Int32) (ii : Int32) (nx : Int32) (yr : Int32) (kn : Nat → Int32) (ss : Nat → Int32) (sc : Nat → Int32) (sn : Int32) (sg : Int32) (pd : Nat → Int32) (pk : Nat → Int32) (po : Nat → Int32) (pt : Nat → Int32) (pm : Nat → Int32) (pa : Int32) (wp : Int32) (ex : Int32) (on : Int32) (ot : Int32) (tw : Nat → Int32) (tg : Nat → Int32) (tr : Nat → Int32) (uw : Nat → Int32) (ug : Nat → Int32) (ur : Nat → Int32) (ui : Int32) (un : Int32) (uy : Int32) (uk : Nat → Int32) (us : Nat → Int32) (uc : Nat → Int32) (um : Int32) (uf : Int32) (zw : Nat → Int32) (zg : Nat → Int32) (zr : Nat → Int32) (zi : Int32) (zn : Int32) (zy : Int32) (zk : Nat → Int32) (zs : Nat → Int32) (zc : Nat → Int32) (zm : Int32) (zf : Int32) (kp : Nat → Int32) (ik : Nat → Int32) (eo : Int32) (ed : Nat → Int32) (em : Nat → Int32) (mv : Nat → Int32) (mg : Nat → Int32) (a1 : Int32) (h : RA ww gg rr ii nx yr kn ss sc sn sg pd pk po pt pm pa wp ex on ot tw tg tr uw ug ur ui un uy uk us uc um uf zw zg zr zi zn zy zk zs zc zm zf kp ik) : o_X9_even em ed gg a1 ∧ o_X10_even mg mv gg a1 ∧ (f_X9_even eo em ed gg a1).1 = (f_X10_even mg mv gg a1).1 ∧ RA ww gg rr ii nx yr kn ss sc sn sg pd pk po pt pm pa wp ex on ot tw tg tr uw ug ur ui un uy uk us uc um uf zw zg zr zi zn zy zk zs zc zm zf kp ik := by
  obtain ⟨y, hy, e1, e2, hd⟩ := ev_dues gg 8 0 0 ed mv rfl (by decide) (fun k hk => absurd hk (Nat.not_lt_zero k))
  have e1 : (it (B_X0_work_7 gg) 0 8 ((0 : Int32), ed)).1 = nI y := e1
  have e2 : (it (B_X10_even_17 gg) 0 8 ((0 : Int32), mv)).1 = nI y := e2
  have hd : ∀ k, k < 8 → (it (B_X0_work_7 gg) 0 8 ((0 : Int32), ed)).2 k = (it (B_X10_even_17 gg) 0 8 ((0 : Int32), mv)).2 k := hd
  have hg := ev_groups hd em mg
  have hin : vp_in (nI y) 256 := vp_in_nI hy (by decide)
  have h255 : nI y &&& 255 = nI y := (pk_andN (by omega) (m := 255) 8 (by decide)).trans (congrArg nI (Nat.mod_eq_of_lt hy))
  have hgo : o_X0_groups (nI y) := ⟨by rw [h255]; exact hin, trivial⟩
  refine ⟨?_, ?_, ?_, h⟩
  · unfold o_X9_even
    split
    · trivial
    · refine ⟨⟨itA_of 8 0 _ (fun k v _ hk => ⟨due_ok1 gg (by omega), trivial⟩), itA_of 255 1 _ (fun k v _ hk => ⟨ev_ok1 (by omega) v _, trivial⟩), trivial⟩, ?_⟩
      dsimp only [lt, f_X0_work]
      rw [e1]
      split
      · exact ⟨⟨hgo, trivial⟩, trivial⟩
      · exact ⟨hgo, trivial⟩
  · unfold o_X10_even
    split
    · trivial
    · refine ⟨itA_of 8 0 _ (fun k v _ hk => ⟨due_ok2 gg (by omega), trivial⟩), ev_ok2 mg _, ?_⟩
      dsimp only [lt]
      rw [e2]
      split
      · exact ⟨hin, trivial⟩
      · exact ⟨ones_ok hy, hin, trivial⟩
  · unfold f_X9_even f_X10_even
    rw [in_0_1]
    by_cases q : f_X9_within a1 0 1 = 0
    · rw [if_pos q, if_pos q]
    · rw [if_neg q, if_neg q]
      obtain ⟨z, hz, hz2, rfl⟩ := wi_nat (x := 0) (y := 1) (by decide) (by decide) q
      have hc : (nI y).toNatClampNeg = y := nI_clamp (by omega)
      dsimp only [lt, f_X0_work]
      rw [e1, e2]
      have hz3 : z = 0 ∨ z = 1 := by omega
      rcases hz3 with rfl | rfl
      · rw [if_pos (by decide), if_neg (by decide)]
        dsimp only [f_X0_payments, f_X0_groups]
        rw [h255, hc, ← ones_eq hy, (hg y hy).1]
      · rw [if_neg (by decide), if_pos (by decide)]
        dsimp only [f_X0_groups]
        rw [h255, hc, (hg y hy).1]
