/-! EVER, ASK -/
theorem fa_and (a b : Nat) : nI a &&& nI b = nI (a &&& b) := by
  apply Int32.toBitVec_inj.1
  show BitVec.ofNat 32 a &&& BitVec.ofNat 32 b = BitVec.ofNat 32 (a &&& b)
  apply BitVec.eq_of_getLsbD_eq
  intro i hi
  simp [hi]
theorem and_lt {a b : Nat} (h : a < 256) : a &&& b < 256 := Nat.lt_of_le_of_lt Nat.and_le_left h
theorem lbA_of2 {V : Type} {o : Nat → V → Prop} {f : Nat → V → V ⊕ V} : ∀ (n j : Nat) (v : V), (∀ k v, j ≤ k → k < j + n → o k v) → lbA o f j n v
  | 0, _, _, _ => trivial
  | n + 1, j, v, h => by
    refine ⟨h j v (Nat.le_refl j) (by omega), ?_⟩
    cases f j v with
    | inl w => exact lbA_of2 n (j + 1) w (fun k v h1 h2 => h k v (by omega) (by omega))
    | inr w => trivial
theorem lpA_of2 {V U : Type} {o : Nat → V → Prop} {f : Nat → V → V ⊕ (V ⊕ U)} : ∀ (n j : Nat) (v : V), (∀ k v, j ≤ k → k < j + n → o k v) → lpA o f j n v
  | 0, _, _, _ => trivial
  | n + 1, j, v, h => by
    refine ⟨h j v (Nat.le_refl j) (by omega), ?_⟩
    cases f j v with
    | inl w => exact lpA_of2 n (j + 1) w (fun k v h1 h2 => h k v (by omega) (by omega))
    | inr w => trivial
theorem fit0 (p : Int32) (ss sc : Nat → Int32) : ∀ (n j : Nat), it (B_X10_isFit_4 p ss sc) j n 0 = 0
  | 0, _ => rfl
  | n + 1, j => by
    rw [it_c (show B_X10_isFit_4 p ss sc j 0 = 0 from if_pos rfl)]
    exact fit0 p ss sc n (j + 1)
theorem fit_loop {ss sc : Nat → Int32} (hb : bits8 ss) {q : Nat} (hq : q < 256) : ∀ (n j : Nat), j + n ≤ 8 → Sum.elim (fun _ : Unit => (1 : Int32)) id (lp (B_X7_allow_2 (nI q) ss sc) j n ()) = it (B_X10_isFit_4 (nI q) ss sc) j n 1
  | 0, _, _ => rfl
  | n + 1, j, h => by
    obtain ⟨x, hx, ex⟩ := hb j (by omega)
    have h8 : ¬ (8 : Int32) ≤ nI j := nI_ge (b := 8) (by omega) (by decide)
    have e1 : f_J6_bitCount_0f7a4 (ss j &&& nI q) = f_J6_bitCount_0f7a4 (nI (x &&& q)) := by rw [ex, fa_and]
    have e2 : f_X10_ones (nI q &&& ss j) = f_J6_bitCount_0f7a4 (nI (x &&& q)) := by rw [ex, fa_and, Nat.and_comm, ones_eq (and_lt hx)]
    by_cases c : f_J6_bitCount_0f7a4 (nI (x &&& q)) = sc j
    · have s1 : B_X7_allow_2 (nI q) ss sc j () = Sum.inl () := by
        unfold B_X7_allow_2
        rw [if_neg h8, e1, if_pos c]
      have s2 : B_X10_isFit_4 (nI q) ss sc j 1 = 1 := by
        unfold B_X10_isFit_4
        rw [if_neg (by decide), e2, if_pos c]
      rw [lp_c s1, it_c s2]
      exact fit_loop hb hq n (j + 1) (by omega)
    · have s1 : B_X7_allow_2 (nI q) ss sc j () = Sum.inr (Sum.inr 0) := by
        unfold B_X7_allow_2
        rw [if_neg h8, e1, if_neg c]
      have s2 : B_X10_isFit_4 (nI q) ss sc j 1 = 0 := by
        unfold B_X10_isFit_4
        rw [if_neg (by decide), e2, if_neg c]
      rw [lp_b s1, it_c s2, fit0]
      rfl
theorem fit_01 (p : Int32) (ss sc : Nat → Int32) : ∀ (n j : Nat) (v : Int32), (v = 0 ∨ v = 1) → (it (B_X10_isFit_4 p ss sc) j n v = 0 ∨ it (B_X10_isFit_4 p ss sc) j n v = 1)
  | 0, _, _, h => h
  | n + 1, j, v, h => by
    refine fit_01 p ss sc n (j + 1) _ ?_
    unfold B_X10_isFit_4
    split
    · exact Or.inl rfl
    · split
      · exact Or.inr rfl
      · exact Or.inl rfl
theorem fit_eq {ss sc : Nat → Int32} (hb : bits8 ss) {m q : Nat} (hm : m ≤ 8) (hq : q < 256) : f_X7_allow (nI m) ss sc (nI q) = f_X10_isFit (nI m) ss sc (nI q) := by
  unfold f_X7_allow f_X10_isFit
  rw [nI_clamp (by omega), Nat.sub_zero]
  exact fit_loop hb hq m 0 (by omega)
theorem fit_ok1 {ss sc : Nat → Int32} {m q : Nat} (hm : m ≤ 8) : o_X7_allow (nI m) ss sc (nI q) := by
  refine ⟨nI_pos' (by omega), ?_, trivial⟩
  rw [nI_clamp (by omega), Nat.sub_zero]
  refine lpA_of2 m 0 () (fun k v _ hk => ?_)
  unfold oB_X7_allow_2
  split
  · trivial
  · exact ⟨by omega, by omega, trivial⟩
theorem fit_ok2 {ss sc : Nat → Int32} (hb : bits8 ss) {m q : Nat} (hm : m ≤ 8) (hq : q < 256) : o_X10_isFit (nI m) ss sc (nI q) := by
  refine ⟨nI_pos' (by omega), ?_, nb01 (fit_01 _ _ _ _ _ _ (Or.inr rfl)), trivial⟩
  rw [nI_clamp (by omega), Nat.sub_zero]
  refine itA_of m 0 1 (fun k v _ hk => ?_)
  unfold oB_X10_isFit_4
  split
  · trivial
  · obtain ⟨x, hx, ex⟩ := hb k (by omega)
    refine ⟨by omega, ?_, by omega, trivial⟩
    rw [ex, fa_and]
    exact ones_ok (and_lt hq)
def agF (c : Nat) (f g : Nat → Int32) : Prop := ∀ k, k < c → f k = g k ∧ ∃ x, x < 256 ∧ f k = nI x
theorem ff_loop {ss sc : Nat → Int32} (hb : bits8 ss) {m : Nat} (hm : m ≤ 8) : ∀ (n j c : Nat) (f g : Nat → Int32), j + n = 256 → c ≤ j → agF c f g → ∃ c', c' ≤ 256 ∧ (it (B_X1_findFitting_7 (nI m) ss sc) j n (nI c, f)).1 = nI c' ∧ (it (B_X10_findFits_7 (nI m) ss sc) j n (nI c, g)).1 = nI c' ∧ agF c' (it (B_X1_findFitting_7 (nI m) ss sc) j n (nI c, f)).2 (it (B_X10_findFits_7 (nI m) ss sc) j n (nI c, g)).2 ∧ itA (oB_X1_findFitting_7 (nI m) ss sc) (B_X1_findFitting_7 (nI m) ss sc) j n (nI c, f) ∧ itA (oB_X10_findFits_7 (nI m) ss sc) (B_X10_findFits_7 (nI m) ss sc) j n (nI c, g)
  | 0, j, c, f, g, h, hc, ha => ⟨c, by omega, rfl, rfl, ha, trivial, trivial⟩
  | n + 1, j, c, f, g, h, hc, ha => by
    have h256 : ¬ (256 : Int32) ≤ nI c := nI_ge (b := 256) (by omega) (by decide)
    have e := fit_eq (sc := sc) hb hm (show j < 256 by omega)
    have hcl : (nI c).toNatClampNeg = c := nI_clamp (by omega)
    have hv : vp_in (nI c) 256 := vp_in_nI (by omega) (by decide)
    have ok1 : oB_X1_findFitting_7 (nI m) ss sc j (nI c, f) := by
      unfold oB_X1_findFitting_7
      dsimp only
      rw [if_neg h256]
      refine ⟨fit_ok1 hm, ?_⟩
      split
      · trivial
      · exact ⟨hv, trivial⟩
    have ok2 : oB_X10_findFits_7 (nI m) ss sc j (nI c, g) := by
      refine ⟨fit_ok2 hb hm (by omega), ?_⟩
      split
      · trivial
      · exact ⟨hv, trivial⟩
    by_cases q : f_X10_isFit (nI m) ss sc (nI j) = 0
    · have s1 : B_X1_findFitting_7 (nI m) ss sc j (nI c, f) = (nI c, f) := by
        unfold B_X1_findFitting_7
        dsimp only
        rw [if_neg h256, e, if_pos q]
      have s2 : B_X10_findFits_7 (nI m) ss sc j (nI c, g) = (nI c, g) := by
        unfold B_X10_findFits_7
        rw [if_pos q]
      obtain ⟨c', i1, i2, i3, i4, i5, i6⟩ := ff_loop hb hm n (j + 1) c f g (by omega) (by omega) ha
      rw [it_c s1, it_c s2]
      refine ⟨c', i1, i2, i3, i4, ⟨ok1, ?_⟩, ⟨ok2, ?_⟩⟩
      · rw [s1]; exact i5
      · rw [s2]; exact i6
    · have s1 : B_X1_findFitting_7 (nI m) ss sc j (nI c, f) = (nI (c + 1), upd f c (nI j)) := by
        unfold B_X1_findFitting_7
        dsimp only
        rw [if_neg h256, e, if_neg q, hcl, nI_1]
      have s2 : B_X10_findFits_7 (nI m) ss sc j (nI c, g) = (nI (c + 1), upd g c (nI j)) := by
        unfold B_X10_findFits_7
        dsimp only
        rw [if_neg q, hcl, nI_1]
      obtain ⟨c', i1, i2, i3, i4, i5, i6⟩ := ff_loop hb hm n (j + 1) (c + 1) (upd f c (nI j)) (upd g c (nI j)) (by omega) (by omega) (by
        intro k hk
        by_cases z : k = c
        · subst z
          rw [pk_us, pk_us]
          exact ⟨rfl, j, by omega, rfl⟩
        · rw [pk_un z, pk_un z]
          exact ha k (by omega))
      rw [it_c s1, it_c s2]
      refine ⟨c', i1, i2, i3, i4, ⟨ok1, ?_⟩, ⟨ok2, ?_⟩⟩
      · rw [s1]; exact i5
      · rw [s2]; exact i6
theorem ff_all {ss sc : Nat → Int32} (hb : bits8 ss) {m : Nat} (hm : m ≤ 8) (f g : Nat → Int32) : ∃ c, c ≤ 256 ∧ (f_X1_findFitting (nI m) ss sc f).1 = nI c ∧ (f_X10_findFits (nI m) ss sc g).1 = nI c ∧ agF c (f_X1_findFitting (nI m) ss sc f).2 (f_X10_findFits (nI m) ss sc g).2 ∧ o_X1_findFitting (nI m) ss sc f ∧ o_X10_findFits (nI m) ss sc g := by
  obtain ⟨c, h1, h2, h3, h4, h5, h6⟩ := ff_loop (sc := sc) hb hm 256 0 0 f g rfl (Nat.le_refl _) (fun k hk => absurd hk (Nat.not_lt_zero k))
  unfold f_X1_findFitting f_X10_findFits o_X1_findFitting o_X10_findFits
  dsimp only [lt]
  exact ⟨c, h1, h2, h3, h4, ⟨h5, trivial⟩, ⟨h6, trivial⟩⟩
theorem Q_ever (ww : Nat → Int32) (gg : Nat → Int32) (rr : Nat → Int32) (ii : Int32) (nx : Int32) (yr : Int32) (kn : Nat → Int32) (ss : Nat → Int32) (sc : Nat → Int32) (sn : Int32) (sg : Int32) (pd : Nat → Int32) (pk : Nat → Int32) (po : Nat → Int32) (pt : Nat → Int32) (pm : Nat → Int32) (pa : Int32) (wp : Int32) (ex : Int32) (on : Int32) (ot : Int32) (tw : Nat → Int32) (tg : Nat → Int32) (tr : Nat → Int32) (uw : Nat → Int32) (ug : Nat → Int32) (ur : Nat → Int32) (ui : Int32) (un : Int32) (uy : Int32) (uk : Nat → Int32) (us : Nat → Int32) (uc : Nat → Int32) (um : Int32) (uf : Int32) (zw : Nat → Int32) (zg : Nat → Int32) (zr : Nat → Int32) (zi : Int32) (zn : Int32) (zy : Int32) (zk : Nat → Int32) (zs : Nat → Int32) (zc : Nat → Int32) (zm : Int32) (zf : Int32) (kp : Nat → Int32) (ik : Nat → Int32) (gf : Nat → Int32) (mf : Nat → Int32) (a1 : Int32) (h : RA ww gg rr ii nx yr kn ss sc sn sg pd pk po pt pm pa wp ex on ot tw tg tr uw ug ur ui un uy uk us uc um uf zw zg zr zi zn zy zk zs zc zm zf kp ik) : o_X9_ever sn ss sc gf a1 ∧ o_X10_ever sn ss sc mf a1 ∧ (f_X9_ever sn ss sc gf a1).1 = (f_X10_ever sn ss sc mf a1).1 ∧ RA ww gg rr ii nx yr kn ss sc sn sg pd pk po pt pm pa wp ex on ot tw tg tr uw ug ur ui un uy uk us uc um uf zw zg zr zi zn zy zk zs zc zm zf kp ik := by
  have hK := h.2.1
  obtain ⟨k1, k2, k3, k4, k5, m, hm, rfl⟩ := hK
  obtain ⟨c, hc, e1, e2, ha, o1, o2⟩ := ff_all (sc := sc) k4 hm gf mf
  have win : ∀ p : Int32, ¬ f_X9_within p 0 (nI c - 1) = 0 → ∃ k, k < c ∧ p = nI k := by
    intro p hp
    obtain ⟨g1, g2⟩ := (wi_iff _ _ _).mp hp
    have z0 : (0 : Int32).toInt = 0 := by decide
    rw [z0] at g1
    have hs : (nI c - 1).toInt = (c : Int) - 1 := pk_sub_toInt (a := c) (b := 1) (by omega) (by decide)
    rw [hs] at g2
    exact ⟨p.toInt.toNat, by omega, of_toInt (by omega)⟩
  refine ⟨?_, ?_, ?_, h⟩
  · refine ⟨o1, ?_⟩
    dsimp only [lt]
    rw [e1]
    split
    · trivial
    · split
      · trivial
      · rename_i g
        obtain ⟨k, hk, rfl⟩ := win a1 g
        exact ⟨vp_in_nI (by omega) (by decide), trivial⟩
  · refine ⟨o2, ?_⟩
    dsimp only [lt]
    rw [e2, px_in a1 0 (nI c - 1) (by decide) rfl]
    split
    · trivial
    · split
      · trivial
      · rename_i g
        obtain ⟨k, hk, rfl⟩ := win a1 g
        exact ⟨vp_in_nI (by omega) (by decide), trivial⟩
  · unfold f_X9_ever f_X10_ever
    dsimp only [lt]
    rw [e1, e2, px_in a1 0 (nI c - 1) (by decide) rfl]
    split
    · rfl
    · split
      · rfl
      · rename_i g
        obtain ⟨k, hk, rfl⟩ := win a1 g
        show _ = _
        dsimp only
        rw [nI_clamp (show k < 2 ^ 31 by omega)]
        exact (ha k hk).1
theorem bc_tab : ∀ x : Fin 256, (f_J6_bitCount_0f7a4 (nI x.val)).toNatClampNeg < 9 ∧ f_J6_bitCount_0f7a4 (nI x.val) = nI (f_J6_bitCount_0f7a4 (nI x.val)).toNatClampNeg := by decide +kernel
theorem bc_lt {x : Nat} (h : x < 256) : ∃ y, y < 9 ∧ f_J6_bitCount_0f7a4 (nI x) = nI y := ⟨_, (bc_tab ⟨x, h⟩).1, (bc_tab ⟨x, h⟩).2⟩
def agB (f g : Nat → Int32) : Prop := ∀ k, k < 9 → f k = g k
theorem ml_mono (s : Int32) (F : Nat → Int32) : ∀ (n j : Nat) (v : Int32 × (Nat → Int32)), v.1 ≤ (it (B_X10_mostLeft_25 s F) j n v).1
  | 0, _, _ => Int32.le_refl _
  | n + 1, j, v => by
    refine Int32.le_trans ?_ (ml_mono s F n (j + 1) (B_X10_mostLeft_25 s F j v))
    unfold B_X10_mostLeft_25
    split
    · exact Int32.le_refl _
    · rename_i h
      have h2 := Int32.not_le.mp h
      exact Int32.le_of_lt h2
theorem ml_rel {F F' : Nat → Int32} {c s : Nat} (hc : c ≤ 256) (hF : agF c F F') (lim : Int32) : ∀ (n j : Nat) (b : Int32) (u u' : Nat → Int32), j + n = c → agB u u' → ((lb (B_X1_mostLeft_26 (nI s) lim F) j n (b, u)).1 = (it (B_X10_mostLeft_25 (nI s) F') j n (b, u')).1 ∨ (lim ≤ (lb (B_X1_mostLeft_26 (nI s) lim F) j n (b, u)).1 ∧ lim ≤ (it (B_X10_mostLeft_25 (nI s) F') j n (b, u')).1))
  | 0, _, _, _, _, _, _ => Or.inl rfl
  | n + 1, j, b, u, u', h, hu => by
    have h256 : ¬ (256 : Int32) ≤ nI j := nI_ge (b := 256) (by omega) (by decide)
    by_cases q : lim ≤ b
    · have e : B_X1_mostLeft_26 (nI s) lim F j (b, u) = Sum.inr (b, u) := by
        unfold B_X1_mostLeft_26
        dsimp only
        rw [if_neg h256, if_pos q]
      rw [lb_b e]
      exact Or.inr ⟨q, Int32.le_trans q (ml_mono (nI s) F' (n + 1) j (b, u'))⟩
    · obtain ⟨ef, x, hx, ex⟩ := hF j (by omega)
      obtain ⟨y, hy, ey⟩ := bc_lt (and_lt (b := s) hx)
      have i1 : f_J6_bitCount_0f7a4 (F j &&& nI s) = nI y := by rw [ex, fa_and, ey]
      have i2 : f_X10_ones (F' j &&& nI s) = nI y := by rw [← ef, ex, fa_and, ones_eq (and_lt hx), ey]
      have hcl : (nI y).toNatClampNeg = y := nI_clamp (by omega)
      have e : B_X1_mostLeft_26 (nI s) lim F j (b, u) = Sum.inl ((if b < u y + 1 then u y + 1 else b), upd u y (u y + 1)) := by
        unfold B_X1_mostLeft_26
        dsimp only
        rw [if_neg h256, if_neg q, i1, if_neg (show ¬ (8 : Int32) < nI y from nI_nlt (a := 8) (b := y) (by omega) (by decide)), hcl, pk_us]
      have e2 : B_X10_mostLeft_25 (nI s) F' j (b, u') = ((if b < u y + 1 then u y + 1 else b), upd u' y (u y + 1)) := by
        unfold B_X10_mostLeft_25
        dsimp only
        rw [i2, hcl, pk_us, ← hu y hy]
        by_cases z : u y + 1 ≤ b
        · rw [if_pos z, if_neg (fun w => Int32.not_le.mpr w z)]
        · rw [if_neg z, if_pos (Int32.not_le.mp z)]
      rw [lb_c e, it_c e2]
      refine ml_rel hc hF lim n (j + 1) _ _ _ (by omega) (fun k hk => ?_)
      by_cases z : k = y
      · subst z
        rw [pk_us, pk_us]
      · rw [pk_un z, pk_un z]
        exact hu k hk
theorem zer9 (gl mb : Nat → Int32) : agB (it B_X1_mostLeft_2 0 9 gl) (it B_X10_mostLeft_4 0 9 mb) ∧ ∀ k, k < 9 → it B_X10_mostLeft_4 0 9 mb k = 0 := by
  have e1 : it B_X1_mostLeft_2 0 9 gl = it (fun j v => upd v j ((fun _ => (0 : Int32)) j)) 0 9 gl := by rw [it_fun (f := B_X1_mostLeft_2) (g := fun j v => upd v j ((fun _ => (0 : Int32)) j)) (fun j v => rfl)]
  have e2 : it B_X10_mostLeft_4 0 9 mb = it (fun j v => upd v j ((fun _ => (0 : Int32)) j)) 0 9 mb := by rw [it_fun (f := B_X10_mostLeft_4) (g := fun j v => upd v j ((fun _ => (0 : Int32)) j)) (fun j v => rfl)]
  rw [e1, e2, it_fill, it_fill]
  refine ⟨fun k hk => ?_, fun k hk => ?_⟩
  · dsimp only
    rw [if_pos (by omega), if_pos (by omega)]
  · dsimp only
    rw [if_pos (by omega)]
theorem ml_val {F F' : Nat → Int32} {c s : Nat} (hc : c ≤ 256) (hF : agF c F F') (lim : Int32) (gl mb : Nat → Int32) : ((f_X1_mostLeft (nI c) F gl (nI s) lim).1 = (f_X10_mostLeft (nI c) F' mb (nI s)).1 ∨ (lim ≤ (f_X1_mostLeft (nI c) F gl (nI s) lim).1 ∧ lim ≤ (f_X10_mostLeft (nI c) F' mb (nI s)).1)) := by
  unfold f_X1_mostLeft f_X10_mostLeft
  dsimp only [lt]
  rw [nI_clamp (by omega), Nat.sub_zero]
  exact ml_rel hc hF lim c 0 0 _ _ (by omega) (zer9 gl mb).1
theorem bc0 : f_X10_ones (nI 0) = 0 := by decide +kernel
theorem ml_0 {F' : Nat → Int32} {c : Nat} (hc : c ≤ 256) (hF : ∀ k, k < c → ∃ x, x < 256 ∧ F' k = nI x) : ∀ (n j : Nat) (u : Nat → Int32), j + n = c → u 0 = nI j → (it (B_X10_mostLeft_25 (nI 0) F') j n (nI j, u)).1 = nI c
  | 0, j, u, h, _ => by
    have : j = c := by omega
    subst this
    rfl
  | n + 1, j, u, h, hu => by
    obtain ⟨x, hx, ex⟩ := hF j (by omega)
    have i2 : f_X10_ones (F' j &&& nI 0) = 0 := by rw [ex, fa_and, Nat.and_zero, bc0]
    have hcl : (0 : Int32).toNatClampNeg = 0 := by decide
    have e2 : B_X10_mostLeft_25 (nI 0) F' j (nI j, u) = (nI (j + 1), upd u 0 (nI (j + 1))) := by
      unfold B_X10_mostLeft_25
      dsimp only
      rw [i2, hcl, pk_us, hu, nI_1, if_neg (nI_ge (by omega) (by omega))]
    rw [it_c e2]
    exact ml_0 hc hF n (j + 1) _ (by omega) pk_us
theorem ml_z {F' : Nat → Int32} {c : Nat} (hc : c ≤ 256) (hF : ∀ k, k < c → ∃ x, x < 256 ∧ F' k = nI x) (mb : Nat → Int32) : (f_X10_mostLeft (nI c) F' mb (nI 0)).1 = nI c := by
  unfold f_X10_mostLeft
  dsimp only [lt]
  rw [nI_clamp (by omega), Nat.sub_zero]
  exact ml_0 hc hF c 0 _ (by omega) ((zer9 mb mb).2 0 (by decide))
theorem qs_loop {F F' : Nat → Int32} {c : Nat} (hc : c ≤ 256) (h0 : 0 < c) (hF : agF c F F') : ∀ (n j : Nat) (fw q : Int32) (gl mb : Nat → Int32), j + n = 256 → (it (B_X1_findQuestion_29 (nI c) F) j n (fw, q, gl)).1 = (lb (B_X10_ask_27 (nI c) F') j n (q, fw, mb)).2.1 ∧ (it (B_X1_findQuestion_29 (nI c) F) j n (fw, q, gl)).2.1 = (lb (B_X10_ask_27 (nI c) F') j n (q, fw, mb)).1
  | 0, _, _, _, _, _, _ => ⟨rfl, rfl⟩
  | n + 1, j, fw, q, gl, mb, h => by
    have hv := ml_val (s := j) hc hF fw gl mb
    have hc0 : ¬ nI c ≤ 0 := nI_nle h0 (by omega)
    have s1 : B_X1_findQuestion_29 (nI c) F j (fw, q, gl) = (if fw ≤ (f_X1_mostLeft (nI c) F gl (nI j) fw).1 then (fw, q, (f_X1_mostLeft (nI c) F gl (nI j) fw).2) else ((f_X1_mostLeft (nI c) F gl (nI j) fw).1, nI j, (f_X1_mostLeft (nI c) F gl (nI j) fw).2)) := rfl
    have s2 : B_X10_ask_27 (nI c) F' j (q, fw, mb) = (if fw ≤ (f_X10_mostLeft (nI c) F' mb (nI j)).1 then Sum.inl (q, f_X10_less fw (f_X10_mostLeft (nI c) F' mb (nI j)).1, (f_X10_mostLeft (nI c) F' mb (nI j)).2) else Sum.inl (nI j, f_X10_less fw (f_X10_mostLeft (nI c) F' mb (nI j)).1, (f_X10_mostLeft (nI c) F' mb (nI j)).2)) := by
      unfold B_X10_ask_27
      dsimp only [lt]
      rw [if_neg hc0]
    generalize (f_X1_mostLeft (nI c) F gl (nI j) fw) = M at hv s1
    generalize (f_X10_mostLeft (nI c) F' mb (nI j)) = N at hv s2
    have le_case : fw ≤ N.1 → f_X10_less fw N.1 = fw := by
      intro z
      unfold f_X10_less
      by_cases w : N.1 ≤ fw
      · rw [if_pos w]
        exact Int32.le_antisymm w z
      · rw [if_neg w]
    by_cases z : fw ≤ N.1
    · have z1 : fw ≤ M.1 := by
        rcases hv with e | e
        · rw [e]; exact z
        · exact e.1
      rw [if_pos z1] at s1
      rw [if_pos z, le_case z] at s2
      rw [it_c s1, lb_c s2]
      exact qs_loop hc h0 hF n (j + 1) fw q _ _ (by omega)
    · have e : M.1 = N.1 := by
        rcases hv with e | e
        · exact e
        · exact absurd e.2 z
      have z1 : ¬ fw ≤ M.1 := by rw [e]; exact z
      have z2 : f_X10_less fw N.1 = N.1 := by
        unfold f_X10_less
        rw [if_pos (Int32.le_of_lt (Int32.not_le.mp z))]
      rw [if_neg z1, e] at s1
      rw [if_neg z, z2] at s2
      rw [it_c s1, lb_c s2]
      exact qs_loop hc h0 hF n (j + 1) N.1 (nI j) _ _ (by omega)
theorem ml_ok1 {F F' : Nat → Int32} {c s : Nat} (hc : c ≤ 256) (hF : agF c F F') (lim : Int32) (gl : Nat → Int32) : o_X1_mostLeft (nI c) F gl (nI s) lim := by
  refine ⟨nI_pos' (by omega), ?_, trivial⟩
  rw [nI_clamp (by omega), Nat.sub_zero]
  refine lbA_of2 c 0 _ (fun k v _ hk => ?_)
  unfold oB_X1_mostLeft_26
  split
  · trivial
  · split
    · trivial
    · obtain ⟨ef, x, hx, ex⟩ := hF k (by omega)
      obtain ⟨y, hy, ey⟩ := bc_lt (and_lt (b := s) hx)
      have i1 : vp_in (f_J6_bitCount_0f7a4 (F k &&& nI s)) 9 := by rw [ex, fa_and, ey]; exact vp_in_nI hy (by decide)
      refine ⟨by omega, ?_⟩
      split
      · trivial
      · exact ⟨i1, i1, i1, trivial⟩
theorem ml_ok2 {F F' : Nat → Int32} {c s : Nat} (hc : c ≤ 256) (hF : agF c F F') (mb : Nat → Int32) : o_X10_mostLeft (nI c) F' mb (nI s) := by
  refine ⟨nI_pos' (by omega), ?_, trivial⟩
  rw [nI_clamp (by omega), Nat.sub_zero]
  refine itA_of c 0 _ (fun k v _ hk => ?_)
  unfold oB_X10_mostLeft_25
  obtain ⟨ef, x, hx, ex⟩ := hF k (by omega)
  obtain ⟨y, hy, ey⟩ := bc_lt (and_lt (b := s) hx)
  have i1 : vp_in (f_X10_ones (F' k &&& nI s)) 9 := by rw [← ef, ex, fa_and, ones_eq (and_lt hx), ey]; exact vp_in_nI hy (by decide)
  have i2 : o_X10_ones (F' k &&& nI s) := by rw [← ef, ex, fa_and]; exact ones_ok (and_lt hx)
  refine ⟨by omega, i2, i1, i1, i1, ?_⟩
  split
  · trivial
  · exact ⟨i1, trivial⟩
theorem Q_ask (ww : Nat → Int32) (gg : Nat → Int32) (rr : Nat → Int32) (ii : Int32) (nx : Int32) (yr : Int32) (kn : Nat → Int32) (ss : Nat → Int32) (sc : Nat → Int32) (sn : Int32) (sg : Int32) (pd : Nat → Int32) (pk : Nat → Int32) (po : Nat → Int32) (pt : Nat → Int32) (pm : Nat → Int32) (pa : Int32) (wp : Int32) (ex : Int32) (on : Int32) (ot : Int32) (tw : Nat → Int32) (tg : Nat → Int32) (tr : Nat → Int32) (uw : Nat → Int32) (ug : Nat → Int32) (ur : Nat → Int32) (ui : Int32) (un : Int32) (uy : Int32) (uk : Nat → Int32) (us : Nat → Int32) (uc : Nat → Int32) (um : Int32) (uf : Int32) (zw : Nat → Int32) (zg : Nat → Int32) (zr : Nat → Int32) (zi : Int32) (zn : Int32) (zy : Int32) (zk : Nat → Int32) (zs : Nat → Int32) (zc : Nat → Int32) (zm : Int32) (zf : Int32) (kp : Nat → Int32) (ik : Nat → Int32) (gs : Int32) (gq : Int32) (gt : Int32) (gf : Nat → Int32) (gl : Nat → Int32) (m5 : Int32) (mf : Nat → Int32) (mb : Nat → Int32) (a1 : Int32) (h : RA ww gg rr ii nx yr kn ss sc sn sg pd pk po pt pm pa wp ex on ot tw tg tr uw ug ur ui un uy uk us uc um uf zw zg zr zi zn zy zk zs zc zm zf kp ik) : o_X9_ask sn ss sc gf gl a1 ∧ o_X10_ask sn ss sc mf mb a1 ∧ (f_X9_ask gs gq gt sn ss sc gf gl a1).1 = (f_X10_ask sn m5 ss sc mf mb a1).1 ∧ RA ww gg rr ii nx yr kn ss sc sn sg pd pk po pt pm pa wp ex on ot tw tg tr uw ug ur ui un uy uk us uc um uf zw zg zr zi zn zy zk zs zc zm zf kp ik := by
  have hK := h.2.1
  obtain ⟨k1, k2, k3, k4, k5, m, hm, rfl⟩ := hK
  obtain ⟨c, hc, e1, e2, ha, o1, o2⟩ := ff_all (sc := sc) k4 hm gf mf
  refine ⟨?_, ?_, ?_, h⟩
  · unfold o_X9_ask
    split
    · trivial
    · refine ⟨o1, ?_⟩
      dsimp only [lt]
      rw [e1]
      refine ⟨?_, trivial⟩
      unfold o_X1_findQuestion
      split
      · trivial
      · exact ⟨itA_of 256 0 _ (fun k v _ hk => ⟨ml_ok1 hc ha _ _, trivial⟩), trivial⟩
  · unfold o_X10_ask
    split
    · trivial
    · refine ⟨o2, ?_⟩
      dsimp only [lt]
      rw [e2]
      refine ⟨lbA_of2 255 1 _ (fun k v _ hk => ?_), trivial⟩
      unfold oB_X10_ask_27
      split
      · trivial
      · exact ⟨ml_ok2 hc ha _, trivial⟩
  · unfold f_X9_ask f_X10_ask
    rw [in_0_1]
    by_cases q : f_X9_within a1 0 1 = 0
    · rw [if_pos q, if_pos q]
    · rw [if_neg q, if_neg q]
      obtain ⟨z, _, z2, rfl⟩ := wi_nat (x := 0) (y := 1) (by decide) (by decide) q
      dsimp only [lt, f_X1_findQuestion]
      rw [e1, e2]
      by_cases c0 : c = 0
      · subst c0
        rw [if_pos (show nI 0 = 0 from rfl), if_pos (show nI 0 = 0 from rfl)]
        split
        · rfl
        · rfl
      · have cn : ¬ nI c = 0 := nI_ne0 (by omega) (by omega)
        rw [if_neg cn, if_neg cn]
        generalize hF : (f_X1_findFitting (nI m) ss sc gf).2 = F at ha
        generalize hF' : (f_X10_findFits (nI m) ss sc mf).2 = F' at ha
        have hF2 : ∀ k, k < c → ∃ x, x < 256 ∧ F' k = nI x := by
          intro k hk
          obtain ⟨ef, x, hx, ex⟩ := ha k hk
          exact ⟨x, hx, by rw [← ef]; exact ex⟩
        have st : B_X1_findQuestion_29 (nI c) F 0 (nI c + 1, -6, gl) = (nI c, nI 0, (f_X1_mostLeft (nI c) F gl (nI 0) (nI c + 1)).2) := by
          have hv := ml_val (s := 0) hc ha (nI c + 1) gl gl
          rw [ml_z hc hF2] at hv
          have n1 : ¬ nI c + 1 ≤ nI c := by
            rw [nI_1]
            exact nI_ge (by omega) (by omega)
          have e : (f_X1_mostLeft (nI c) F gl (nI 0) (nI c + 1)).1 = nI c := by
            rcases hv with e | e
            · exact e
            · exact absurd e.2 n1
          show (if nI c + 1 ≤ (f_X1_mostLeft (nI c) F gl (nI 0) (nI c + 1)).1 then _ else _) = _
          rw [e, if_neg n1]
        have lp0 := qs_loop hc (by omega) ha 255 1 (nI c) (nI 0) (f_X1_mostLeft (nI c) F gl (nI 0) (nI c + 1)).2 mb rfl
        have eq0 : it (B_X1_findQuestion_29 (nI c) F) 0 256 (nI c + 1, -6, gl) = it (B_X1_findQuestion_29 (nI c) F) 1 255 (nI c, nI 0, (f_X1_mostLeft (nI c) F gl (nI 0) (nI c + 1)).2) := it_c (n := 255) st
        rw [eq0]
        have hz : z = 0 ∨ z = 1 := by omega
        rcases hz with rfl | rfl
        · rw [if_pos (show nI 0 = 0 from rfl), if_pos (show nI 0 = 0 from rfl)]
          exact lp0.2
        · rw [if_neg (show ¬ nI 1 = 0 by decide), if_neg (show ¬ nI 1 = 0 by decide)]
          exact lp0.1
