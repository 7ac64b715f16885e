/-! PAD: SAY, FAULT, the loop -/
theorem lp_snoc_l {V U : Type} {f : Nat → V → V ⊕ (V ⊕ U)} (hb : ∀ j v w, ¬ f j v = Sum.inr (Sum.inl w)) : ∀ (n j : Nat) (v w : V), lp f j n v = Sum.inl w → lp f j (n + 1) v = lp f (j + n) 1 w
  | 0, j, v, w, h => by
    have e : v = w := Sum.inl.inj h
    rw [e]
    rfl
  | n + 1, j, v, w, h => by
    rw [lp_s] at h
    rw [lp_s]
    cases e : f j v with
    | inl x =>
      rw [e] at h
      show lp f (j + 1) (n + 1) x = _
      rw [lp_snoc_l hb n (j + 1) x w h, show j + 1 + n = j + (n + 1) by omega]
    | inr u =>
      rw [e] at h
      have h2 : u = Sum.inl w := h
      rw [h2] at e
      exact absurd e (hb _ _ _)
theorem lp_snoc_r {V U : Type} {f : Nat → V → V ⊕ (V ⊕ U)} : ∀ (n j : Nat) (v : V) (u : U), lp f j n v = Sum.inr u → lp f j (n + 1) v = Sum.inr u
  | 0, _, _, _, h => nomatch h
  | n + 1, j, v, u, h => by
    rw [lp_s] at h
    rw [lp_s]
    cases e : f j v with
    | inl x =>
      rw [e] at h
      exact lp_snoc_r n (j + 1) x u h
    | inr y =>
      rw [e] at h
      exact h
theorem lp_cong {V U : Type} {f g : Nat → V → V ⊕ (V ⊕ U)} : ∀ (n j : Nat) (v : V), (∀ k v, j ≤ k → k < j + n → f k v = g k v) → lp f j n v = lp g j n v
  | 0, _, _, _ => rfl
  | n + 1, j, v, h => by
    rw [lp_s, lp_s, h j v (Nat.le_refl j) (by omega)]
    cases g j v with
    | inl x => exact lp_cong n (j + 1) x (fun k v h1 h2 => h k v (by omega) (by omega))
    | inr y => rfl
abbrev vW := Int32 × Int32 × (Nat → Int32) × (Nat → Int32) × (Nat → Int32) × (Nat → Int32)
theorem nbk (pd : Nat → Int32) (j : Nat) (v : vW) (w : vW) : ¬ B_X10_fault_9 pd j v = Sum.inr (Sum.inl w) := by
  unfold B_X10_fault_9
  dsimp only [lt]
  split
  · intro h
    cases h
  · intro h
    cases h
theorem pd_cong (pd : Nat → Int32) (q : Nat) (s : Int32) (v : vW) : lp (B_X10_fault_9 (upd pd q s)) 0 q v = lp (B_X10_fault_9 pd) 0 q v := by
  refine lp_cong q 0 v (fun k v _ hk => ?_)
  unfold B_X10_fault_9
  rw [show upd pd q s k = pd k from pk_un (by omega)]
theorem m6ne {q : Nat} (h : q < 2 ^ 31) : ¬ nI q = -6 := by
  intro e
  have := congrArg Int32.toInt e
  rw [nI_toInt h] at this
  have e2 : (-6 : Int32).toInt = -6 := by decide
  rw [e2] at this
  omega
theorem hear_B {a : Nat} {sg ex on ot : Int32} {pk po pt pm : Nat → Int32} {s : Int32} (e : f_X4_read (nI a) ex on ot pk po pt pm s = (0, nI a, ex, on, ot, pk, po, pt, pm)) : f_X4_hear (nI a) sg (-6) ex on ot pk po pt pm s = (nI a, sg + 1, sg, ex, on, ot, pk, po, pt, pm) := by
  unfold f_X4_hear
  rw [if_pos rfl, lt_c e]
  exact if_pos rfl
theorem hear_G {a a' : Nat} {sg ex on ot ex' on' ot' : Int32} {pk po pt pm pk' po' pt' pm' : Nat → Int32} {s : Int32} (e : f_X4_read (nI a) ex on ot pk po pt pm s = (1, nI a', ex', on', ot', pk', po', pt', pm')) : f_X4_hear (nI a) sg (-6) ex on ot pk po pt pm s = (nI a', sg + 1, -6, ex', on', ot', pk', po', pt', pm') := by
  unfold f_X4_hear
  rw [if_pos rfl, lt_c e]
  exact if_neg (show ¬ (1 : Int32) = 0 by decide)
theorem hear_N {pa sg wp ex on ot : Int32} {pk po pt pm : Nat → Int32} {s : Int32} (h : ¬ wp = -6) : f_X4_hear pa sg wp ex on ot pk po pt pm s = (pa, sg + 1, wp, ex, on, ot, pk, po, pt, pm) := by
  unfold f_X4_hear
  rw [if_neg h]
theorem rp_say {sg : Int32} {pd pk po pt pm : Nat → Int32} {pa wp ex on ot : Int32} (h : RelPad sg pd pk po pt pm pa wp ex on ot) {q : Nat} (hq : q < 60) (hs : sg = nI q) (s : Int32) : ∃ (pk' po' pt' pm' : Nat → Int32) (pa' wp' ex' on' ot' : Int32), f_X4_hear pa sg wp ex on ot pk po pt pm s = (pa', nI (q + 1), wp', ex', on', ot', pk', po', pt', pm') ∧ RelPad (nI (q + 1)) (upd pd q s) pk' po' pt' pm' pa' wp' ex' on' ot' := by
  subst hs
  obtain ⟨q0, a, h60, eq, haq, rfl, hex, hwp, hr⟩ := h
  have e0 : q = q0 := (nI_eq (by omega) (by omega)).mp eq
  subst e0
  have ha : a < 60 := by omega
  by_cases hw : wp = -6
  · subst hw
    have r0 := hr (fun _ => 0) (fun _ => 0) (fun _ => 0) (fun _ => 0)
    obtain ⟨mo0, ma0, mh0, mu0, _, hA0, hM0⟩ := r0.1 rfl
    rcases rd ha s hA0 hM0 with ⟨eR, _⟩ | ⟨ex', on', ot', pk', po', pt', pm', mo1, ma1, mh1, mu1, a', ha', eR, _, _, _⟩
    · refine ⟨pk, po, pt, pm, nI a, nI q, ex, on, ot, ?_, ?_⟩
      · rw [hear_B eR, nI_1]
      · refine ⟨q + 1, a, by omega, rfl, by omega, rfl, Or.inr (by omega), Or.inr ⟨q, by omega, rfl⟩, fun mo ma mh mu => ⟨fun e => absurd e (m6ne (by omega)), fun _ => ?_⟩⟩
        obtain ⟨mo', ma', mh', mu', el, hA, hM⟩ := (hr mo ma mh mu).1 rfl
        have el2 : lp (B_X10_fault_9 (upd pd q s)) 0 q ((0 : Int32), (0 : Int32), mo, ma, mh, mu) = Sum.inl (ex, nI a, mo', ma', mh', mu') := (pd_cong pd q s _).trans el
        rw [lp_snoc_l (nbk _) q 0 _ _ el2, Nat.zero_add]
        rcases rd ha s hA hM with ⟨_, eS⟩ | ⟨_, _, _, _, _, _, _, _, _, _, _, _, _, eR2, _, _, _⟩
        · have eb : B_X10_fault_9 (upd pd q s) q (ex, nI a, mo', ma', mh', mu') = Sum.inr (Sum.inr (nI q, (f_X10_readOn (nI a) mo' ma' mh' mu' ex s).2.1, (f_X10_readOn (nI a) mo' ma' mh' mu' ex s).2.2.1, (f_X10_readOn (nI a) mo' ma' mh' mu' ex s).2.2.2.1, (f_X10_readOn (nI a) mo' ma' mh' mu' ex s).2.2.2.2.1, (f_X10_readOn (nI a) mo' ma' mh' mu' ex s).2.2.2.2.2)) := by
            unfold B_X10_fault_9
            dsimp only [lt]
            rw [show upd pd q s q = s from pk_us, eS]
            exact if_neg (by decide)
          exact ⟨_, _, _, _, _, lp_b eb⟩
        · exact absurd (show (0 : Int32) = 1 from congrArg Prod.fst (eR.symm.trans eR2)) (by decide)
    · refine ⟨pk', po', pt', pm', nI a', -6, ex', on', ot', ?_, ?_⟩
      · rw [hear_G eR, nI_1]
      · refine ⟨q + 1, a', by omega, rfl, by omega, rfl, ?_, Or.inl rfl, fun mo ma mh mu => ⟨fun _ => ?_, fun e => absurd rfl e⟩⟩
        · rcases ha' with e | ⟨_, e⟩
          · exact Or.inr (by omega)
          · exact Or.inl e
        · obtain ⟨mo', ma', mh', mu', el, hA, hM⟩ := (hr mo ma mh mu).1 rfl
          have el2 : lp (B_X10_fault_9 (upd pd q s)) 0 q ((0 : Int32), (0 : Int32), mo, ma, mh, mu) = Sum.inl (ex, nI a, mo', ma', mh', mu') := (pd_cong pd q s _).trans el
          rw [lp_snoc_l (nbk _) q 0 _ _ el2, Nat.zero_add]
          rcases rd ha s hA hM with ⟨eR2, _⟩ | ⟨ex2, on2, ot2, pk2, po2, pt2, pm2, mo2, ma2, mh2, mu2, a2, ha2, eR2, eS, hA2, hM2⟩
          · exact absurd (show (0 : Int32) = 1 from congrArg Prod.fst (eR2.symm.trans eR)) (by decide)
          · obtain ⟨_, E⟩ := Prod.mk.inj (eR.symm.trans eR2)
            obtain ⟨e1, E⟩ := Prod.mk.inj E
            obtain ⟨e2, E⟩ := Prod.mk.inj E
            obtain ⟨e3, E⟩ := Prod.mk.inj E
            obtain ⟨e4, E⟩ := Prod.mk.inj E
            obtain ⟨e5, E⟩ := Prod.mk.inj E
            obtain ⟨e6, E⟩ := Prod.mk.inj E
            obtain ⟨e7, e8⟩ := Prod.mk.inj E
            have e9 : a' = a2 := (nI_eq (by omega) (by omega)).mp e1
            subst e2 e3 e4 e5 e6 e7 e8 e9
            have pos : 0 ≤ ex' := by
              rcases hM2.1 with e | e | e | e | e | e <;> rw [e] <;> decide
            have eb : B_X10_fault_9 (upd pd q s) q (ex, nI a, mo', ma', mh', mu') = Sum.inl (ex', nI a', mo2, ma2, mh2, mu2) := by
              unfold B_X10_fault_9
              dsimp only
              rw [show upd pd q s q = s from pk_us, lt_c eS]
              exact if_pos pos
            exact ⟨mo2, ma2, mh2, mu2, lp_c eb, hA2, hM2⟩
  · refine ⟨pk, po, pt, pm, nI a, wp, ex, on, ot, ?_, ?_⟩
    · rw [hear_N hw, nI_1]
    · refine ⟨q + 1, a, by omega, rfl, by omega, rfl, Or.inr (by omega), ?_, fun mo ma mh mu => ⟨fun e => absurd e hw, fun _ => ?_⟩⟩
      · rcases hwp with e | ⟨j, hj, e⟩
        · exact absurd e hw
        · exact Or.inr ⟨j, by omega, e⟩
      · obtain ⟨ac, mo', ma', mh', mu', el⟩ := (hr mo ma mh mu).2 hw
        exact ⟨ac, mo', ma', mh', mu', lp_snoc_r q 0 _ _ ((pd_cong pd q s _).trans el)⟩
theorem nb01' {z : Int32} (h : z = 0 ∨ z = 1) : narrow .boolean (.int z) = .int z := by
  rcases h with h | h
  · rw [h]
    rfl
  · rw [h]
    rfl
theorem rs01 (pa ex on ot : Int32) (pk po pt pm : Nat → Int32) (s : Int32) : (f_X4_readStart pa ex on ot pk po pt pm s).1 = 0 ∨ (f_X4_readStart pa ex on ot pk po pt pm s).1 = 1 := by
  unfold f_X4_readStart
  dsimp only [lt]
  repeat' split
  all_goals first | exact Or.inl rfl | exact Or.inr rfl
theorem rd01 (pa ex on ot : Int32) (pk po pt pm : Nat → Int32) (s : Int32) : (f_X4_readDeed pa ex on ot pk po pt pm s).1 = 0 ∨ (f_X4_readDeed pa ex on ot pk po pt pm s).1 = 1 := by
  unfold f_X4_readDeed
  dsimp only [lt]
  repeat' split
  all_goals first | exact Or.inl rfl | exact Or.inr rfl
theorem ra01 (pa ex on ot : Int32) (pk po pt pm : Nat → Int32) (s : Int32) : (f_X4_readAnotherHouse pa ex on ot pk po pt pm s).1 = 0 ∨ (f_X4_readAnotherHouse pa ex on ot pk po pt pm s).1 = 1 := by
  unfold f_X4_readAnotherHouse
  dsimp only [lt]
  repeat' split
  all_goals first | exact Or.inl rfl | exact Or.inr rfl
theorem rm01 (pa ex on ot : Int32) (pk po pt pm : Nat → Int32) (s : Int32) : (f_X4_readAmount pa ex on ot pk po pt pm s).1 = 0 ∨ (f_X4_readAmount pa ex on ot pk po pt pm s).1 = 1 := by
  unfold f_X4_readAmount
  dsimp only [lt]
  repeat' split
  all_goals first | exact Or.inl rfl | exact Or.inr rfl
theorem rd_ok {a : Nat} (ha : a < 60) (ex on ot : Int32) (pk po pt pm : Nat → Int32) (s : Int32) : o_X4_read (nI a) ex on ot pk po pt pm s := by
  have k := add_ok ha
  have o1 : o_X4_readStart (nI a) s := by
    unfold o_X4_readStart
    repeat' split
    all_goals first | exact True.intro | exact ⟨k, True.intro⟩
  have o2 : o_X4_readDeed (nI a) s := by
    unfold o_X4_readDeed
    repeat' split
    all_goals first | exact True.intro | exact ⟨k, True.intro⟩
  have o3 : o_X4_readAnotherHouse (nI a) ex s := by
    unfold o_X4_readAnotherHouse
    repeat' split
    all_goals first | exact True.intro | exact ⟨k, True.intro⟩
  have o4 : o_X4_readAmount (nI a) s := by
    unfold o_X4_readAmount
    repeat' split
    all_goals first | exact True.intro | exact ⟨k, True.intro⟩
  unfold o_X4_read
  split
  · exact ⟨o1, nb01' (rs01 _ _ _ _ _ _ _ _ _), trivial⟩
  · split
    · exact ⟨o2, nb01' (rd01 _ _ _ _ _ _ _ _ _), trivial⟩
    · split
      · exact ⟨o3, nb01' (ra01 _ _ _ _ _ _ _ _ _), trivial⟩
      · split
        · exact ⟨o4, nb01' (rm01 _ _ _ _ _ _ _ _ _), trivial⟩
        · exact ⟨o3, nb01' (ra01 _ _ _ _ _ _ _ _ _), trivial⟩
theorem in01 (p a b : Int64) : f_X10_in p a b = 0 ∨ f_X10_in p a b = 1 := by
  unfold f_X10_in
  repeat' split
  all_goals first | exact Or.inl rfl | exact Or.inr rfl
theorem isn_ok (s : Int32) : o_X10_isName s := ⟨nb01' (in01 _ _ _), trivial⟩
theorem clo_ok {b : Nat} (hb : b < 60) : o_X10_close (nI b) := ⟨vp_in_nI hb (by decide), trivial⟩
theorem ro_ok {b : Nat} (hb : b < 60) (ex s : Int32) : o_X10_readOn (nI b) ex s := by
  have hv : vp_in (nI b) 60 := vp_in_nI hb (by decide)
  have k := clo_ok hb
  have o1 : o_X10_begin (nI b) s := by
    refine ⟨isn_ok s, ?_⟩
    split
    · refine ⟨hv, hv, hv, ?_⟩
      repeat' split
      all_goals first | exact True.intro | exact ⟨k, True.intro⟩
    · refine ⟨hv, hv, hv, ?_⟩
      repeat' split
      all_goals first | exact True.intro | exact ⟨k, True.intro⟩
  have o2 : o_X10_deed (nI b) s := by
    unfold o_X10_deed
    repeat' split
    all_goals first | exact True.intro | exact ⟨k, True.intro⟩
  have o3 : o_X10_name (nI b) ex s := by
    refine ⟨isn_ok s, ?_⟩
    split
    · trivial
    · split
      · exact ⟨hv, trivial⟩
      · refine ⟨hv, ?_⟩
        split
        · trivial
        · exact ⟨k, trivial⟩
  have o4 : o_X10_amount (nI b) s := by
    refine ⟨hv, ?_⟩
    split
    · trivial
    · exact ⟨k, trivial⟩
  unfold o_X10_readOn
  split
  · exact ⟨o1, trivial⟩
  · split
    · exact ⟨o2, trivial⟩
    · split
      · exact ⟨o3, trivial⟩
      · split
        · exact ⟨o4, trivial⟩
        · exact ⟨o3, trivial⟩
theorem ro_acts {b : Nat} (hb : b < 60) (mo ma mh mu : Nat → Int32) (ex s : Int32) : (f_X10_readOn (nI b) mo ma mh mu ex s).2.1 = nI b ∨ (f_X10_readOn (nI b) mo ma mh mu ex s).2.1 = nI (b + 1) := by
  have o1 : (f_X10_begin (nI b) mh mo mu ma s).2.1 = nI b ∨ (f_X10_begin (nI b) mh mo mu ma s).2.1 = nI (b + 1) := by
    unfold f_X10_begin
    simp only [cl_eq hb, lt]
    repeat' split
    all_goals first | exact Or.inl rfl | exact Or.inr rfl
  have o2 : (f_X10_deed (nI b) ma s).2.1 = nI b ∨ (f_X10_deed (nI b) ma s).2.1 = nI (b + 1) := by
    unfold f_X10_deed
    simp only [cl_eq hb, lt]
    repeat' split
    all_goals first | exact Or.inl rfl | exact Or.inr rfl
  have o3 : (f_X10_name (nI b) mo ma mh ex s).2.1 = nI b ∨ (f_X10_name (nI b) mo ma mh ex s).2.1 = nI (b + 1) := by
    unfold f_X10_name
    simp only [cl_eq hb, lt]
    repeat' split
    all_goals first | exact Or.inl rfl | exact Or.inr rfl
  have o4 : (f_X10_amount (nI b) mu ma s).2.1 = nI b ∨ (f_X10_amount (nI b) mu ma s).2.1 = nI (b + 1) := by
    unfold f_X10_amount
    simp only [cl_eq hb, lt]
    repeat' split
    all_goals first | exact Or.inl rfl | exact Or.inr rfl
  unfold f_X10_readOn
  split
  · exact o1
  · split
    · exact o2
    · split
      · exact o3
      · split
        · exact o4
        · exact o3
theorem fa_ok (pd : Nat → Int32) : ∀ (n j b : Nat) (ex : Int32) (mo ma mh mu : Nat → Int32), j + n ≤ 60 → b ≤ j → lpA (oB_X10_fault_9 pd) (B_X10_fault_9 pd) j n (ex, nI b, mo, ma, mh, mu)
  | 0, _, _, _, _, _, _, _, _, _ => trivial
  | n + 1, j, b, ex, mo, ma, mh, mu, h1, h2 => by
    refine ⟨⟨by omega, ro_ok (by omega) _ _, trivial⟩, ?_⟩
    have hb := ro_acts (b := b) (by omega) mo ma mh mu ex (pd j)
    unfold B_X10_fault_9
    dsimp only [lt]
    split
    · rcases hb with e | e
      · rw [e]
        exact fa_ok pd n (j + 1) b _ _ _ _ _ (by omega) (by omega)
      · rw [e]
        exact fa_ok pd n (j + 1) (b + 1) _ _ _ _ _ (by omega) (by omega)
    · trivial
set_option maxHeartbeats 1000000 in
theorem Q_fault (ww : Nat → Int32) (gg : Nat → Int32) (rr : Nat → Int32) (ii : Int32) (nx : Int32) (yr : Int32) (kn : Nat → Int32) (ss : Nat → Int32) (sc : Nat → Int32) (sn : Int32) (sg : Int32) (pd : Nat → Int32) (pk : Nat → Int32) (po : Nat → Int32) (pt : Nat → Int32) (pm : Nat → Int32) (pa : Int32) (wp : Int32) (ex : Int32) (on : Int32) (ot : Int32) (tw : Nat → Int32) (tg : Nat → Int32) (tr : Nat → Int32) (uw : Nat → Int32) (ug : Nat → Int32) (ur : Nat → Int32) (ui : Int32) (un : Int32) (uy : Int32) (uk : Nat → Int32) (us : Nat → Int32) (uc : Nat → Int32) (um : Int32) (uf : Int32) (zw : Nat → Int32) (zg : Nat → Int32) (zr : Nat → Int32) (zi : Int32) (zn : Int32) (zy : Int32) (zk : Nat → Int32) (zs : Nat → Int32) (zc : Nat → Int32) (zm : Int32) (zf : Int32) (kp : Nat → Int32) (ik : Nat → Int32) (ma : Nat → Int32) (mh : Nat → Int32) (mo : Nat → Int32) (mu : Nat → Int32) (h : RA ww gg rr ii nx yr kn ss sc sn sg pd pk po pt pm pa wp ex on ot tw tg tr uw ug ur ui un uy uk us uc um uf zw zg zr zi zn zy zk zs zc zm zf kp ik) : o_X10_fault sg pd mo ma mh mu ∧ (f_X9_fault sg wp ex) = (f_X10_fault sg pd mo ma mh mu).1 ∧ RA ww gg rr ii nx yr kn ss sc sn sg pd pk po pt pm pa wp ex on ot tw tg tr uw ug ur ui un uy uk us uc um uf zw zg zr zi zn zy zk zs zc zm zf kp ik := by
  obtain ⟨hP, hK, hp, ht, hu, hz⟩ := h
  have hp0 := hp
  obtain ⟨q, a, h60, rfl, haq, rfl, hex, hwp, hr⟩ := hp
  have ec : (nI q).toNatClampNeg - 0 = q := nI_clamp (by omega)
  refine ⟨⟨nI_pos' (by omega), ?_, trivial⟩, ?_, hP, hK, hp0, ht, hu, hz⟩
  · rw [ec]
    exact fa_ok pd q 0 0 0 mo ma mh mu (by omega) (by omega)
  · unfold f_X9_fault f_X4_faultPlace f_X10_fault
    rw [ec]
    by_cases hw : wp = -6
    · obtain ⟨mo', ma', mh', mu', el, _, _⟩ := (hr mo ma mh mu).1 hw
      rw [el, if_pos hw]
      by_cases he : ex = 0
      · rw [if_pos he]
        show _ = (if ex = 0 then ((-6 : Int32), nI a, mo', ma', mh', mu') else (nI q, nI a, mo', ma', mh', mu')).1
        rw [if_pos he]
      · rw [if_neg he]
        show _ = (if ex = 0 then ((-6 : Int32), nI a, mo', ma', mh', mu') else (nI q, nI a, mo', ma', mh', mu')).1
        rw [if_neg he]
    · obtain ⟨ac, mo', ma', mh', mu', el⟩ := (hr mo ma mh mu).2 hw
      rw [el, if_neg hw]
      rfl
set_option maxHeartbeats 1000000 in
theorem Q_say (ww : Nat → Int32) (gg : Nat → Int32) (rr : Nat → Int32) (ii : Int32) (nx : Int32) (yr : Int32) (kn : Nat → Int32) (ss : Nat → Int32) (sc : Nat → Int32) (sn : Int32) (sg : Int32) (pd : Nat → Int32) (pk : Nat → Int32) (po : Nat → Int32) (pt : Nat → Int32) (pm : Nat → Int32) (pa : Int32) (wp : Int32) (ex : Int32) (on : Int32) (ot : Int32) (tw : Nat → Int32) (tg : Nat → Int32) (tr : Nat → Int32) (uw : Nat → Int32) (ug : Nat → Int32) (ur : Nat → Int32) (ui : Int32) (un : Int32) (uy : Int32) (uk : Nat → Int32) (us : Nat → Int32) (uc : Nat → Int32) (um : Int32) (uf : Int32) (zw : Nat → Int32) (zg : Nat → Int32) (zr : Nat → Int32) (zi : Int32) (zn : Int32) (zy : Int32) (zk : Nat → Int32) (zs : Nat → Int32) (zc : Nat → Int32) (zm : Int32) (zf : Int32) (kp : Nat → Int32) (ik : Nat → Int32) (a1 : Int32) (h : RA ww gg rr ii nx yr kn ss sc sn sg pd pk po pt pm pa wp ex on ot tw tg tr uw ug ur ui un uy uk us uc um uf zw zg zr zi zn zy zk zs zc zm zf kp ik) : o_X9_say pa sg wp ex on ot pk po pt pm a1 ∧ o_X10_say sg a1 ∧ (f_X9_say pa sg wp ex on ot pk po pt pm a1).1 = (f_X10_say sg pd a1).1 ∧ (f_X10_say sg pd a1).2.1 = (f_X9_say pa sg wp ex on ot pk po pt pm a1).2.2.1 ∧ RA ww gg rr ii nx yr kn ss sc sn ((f_X9_say pa sg wp ex on ot pk po pt pm a1).2.2.1) ((f_X10_say sg pd a1).2.2) ((f_X9_say pa sg wp ex on ot pk po pt pm a1).2.2.2.2.2.2.2.1) ((f_X9_say pa sg wp ex on ot pk po pt pm a1).2.2.2.2.2.2.2.2.1) ((f_X9_say pa sg wp ex on ot pk po pt pm a1).2.2.2.2.2.2.2.2.2.1) ((f_X9_say pa sg wp ex on ot pk po pt pm a1).2.2.2.2.2.2.2.2.2.2) ((f_X9_say pa sg wp ex on ot pk po pt pm a1).2.1) ((f_X9_say pa sg wp ex on ot pk po pt pm a1).2.2.2.1) ((f_X9_say pa sg wp ex on ot pk po pt pm a1).2.2.2.2.1) ((f_X9_say pa sg wp ex on ot pk po pt pm a1).2.2.2.2.2.1) ((f_X9_say pa sg wp ex on ot pk po pt pm a1).2.2.2.2.2.2.1) tw tg tr uw ug ur ui un uy uk us uc um uf zw zg zr zi zn zy zk zs zc zm zf kp ik := by
  obtain ⟨hP, hK, hp, ht, hu, hz⟩ := h
  have ei := in_33_126 a1
  have hp0 := hp
  obtain ⟨q, a, h60, rfl, haq, rfl, hex, hwp, hr⟩ := hp
  by_cases w : f_X9_within a1 33 126 = 0
  · have ex1 : f_X9_say (nI a) (nI q) wp ex on ot pk po pt pm a1 = (-2, nI a, nI q, wp, ex, on, ot, pk, po, pt, pm) := by
      unfold f_X9_say
      rw [if_pos w]
    have em1 : f_X10_say (nI q) pd a1 = (-2, nI q, pd) := by
      unfold f_X10_say
      rw [ei, if_pos w]
    rw [ex1, em1]
    refine ⟨?_, ?_, rfl, rfl, hP, hK, hp0, ht, hu, hz⟩
    · unfold o_X9_say
      rw [if_pos w]
      trivial
    · unfold o_X10_say
      rw [ei, if_pos w]
      trivial
  · by_cases hq : q < 60
    · have hl : nI q < 60 := nI_lt (b := 60) hq (by decide)
      have hn : ¬ nI q = 60 := fun e => by
        have := (nI_eq (a := q) (b := 60) (by omega) (by decide)).mp e
        omega
      obtain ⟨pk', po', pt', pm', pa', wp', ex', on', ot', eh, hp1⟩ := rp_say hp0 hq rfl a1
      have ex1 : f_X9_say (nI a) (nI q) wp ex on ot pk po pt pm a1 = (nI (q + 1), pa', nI (q + 1), wp', ex', on', ot', pk', po', pt', pm') := by
        unfold f_X9_say
        rw [if_neg w, if_pos hl, lt_c eh]
      have em1 : f_X10_say (nI q) pd a1 = (nI (q + 1), nI (q + 1), upd pd q a1) := by
        unfold f_X10_say
        rw [ei, if_neg w, if_neg hn, nI_clamp (by omega), nI_1]
      rw [ex1, em1]
      refine ⟨?_, ?_, rfl, rfl, hP, hK, hp1, ht, hu, hz⟩
      · unfold o_X9_say
        rw [if_neg w, if_pos hl]
        refine ⟨?_, trivial⟩
        unfold o_X4_hear
        split
        · exact ⟨rd_ok (by omega) _ _ _ _ _ _ _ _, trivial⟩
        · trivial
      · unfold o_X10_say
        rw [ei, if_neg w, if_neg hn]
        exact ⟨vp_in_nI hq (by decide), trivial⟩
    · have e60 : q = 60 := by omega
      subst e60
      have hl : ¬ nI 60 < 60 := by decide
      have ex1 : f_X9_say (nI a) (nI 60) wp ex on ot pk po pt pm a1 = (-4, nI a, nI 60, wp, ex, on, ot, pk, po, pt, pm) := by
        unfold f_X9_say
        rw [if_neg w, if_neg hl]
      have em1 : f_X10_say (nI 60) pd a1 = (-4, nI 60, pd) := by
        unfold f_X10_say
        rw [ei, if_neg w, if_pos (show nI 60 = 60 from rfl)]
      rw [ex1, em1]
      refine ⟨?_, ?_, rfl, rfl, hP, hK, hp0, ht, hu, hz⟩
      · unfold o_X9_say
        rw [if_neg w, if_neg hl]
        trivial
      · unfold o_X10_say
        rw [ei, if_neg w, if_pos (show nI 60 = 60 from rfl)]
        trivial
