/-! PAD: SAY, FAULT -/
theorem letter (s : Int32) : (f_X4_isLetter s = 0 ∧ f_X10_isName s = 0) ∨ (¬ f_X4_isLetter s = 0 ∧ ¬ f_X10_isName s = 0 ∧ ∃ j, j < 8 ∧ s - 65 = nI j) := by
  have e : f_X10_isName s = f_X9_within s 65 72 := px_in s 65 72 (by decide) (by decide)
  by_cases h : f_X9_within s 65 72 = 0
  · refine Or.inl ⟨?_, by rw [e]; exact h⟩
    unfold f_X4_isLetter
    by_cases h1 : s < 65
    · rw [if_pos h1]
    · rw [if_neg h1]
      by_cases h2 : 73 ≤ s
      · rw [if_pos h2]
      · refine absurd h ((wi_iff s 65 72).mpr ?_)
        rw [Int32.lt_iff_toInt_lt] at h1
        rw [Int32.le_iff_toInt_le] at h2
        have a1 : (65 : Int32).toInt = 65 := by decide
        have a2 : (73 : Int32).toInt = 73 := by decide
        have a3 : (72 : Int32).toInt = 72 := by decide
        rw [a1] at h1
        rw [a2] at h2
        rw [a1, a3]
        omega
  · obtain ⟨j, j1, j2, rfl⟩ := wi_nat (x := 65) (y := 72) (by decide) (by decide) h
    refine Or.inr ⟨?_, by rw [e]; exact h, j - 65, by omega, pk_sub (b := 65) j1⟩
    unfold f_X4_isLetter
    rw [if_neg (show ¬ nI j < 65 from nI_nlt (b := 65) j1 (by omega)), if_neg (show ¬ 73 ≤ nI j from nI_ge (b := 73) (by omega) (by decide))]
    decide
theorem al_upd {a : Nat} {pk po pt pm ma mh mo mu mh' mo' mu' : Nat → Int32} (h : actsLike a pk po pt pm ma mh mo mu) (h1 : ∀ k, k < a → mh' k = mh k) (h2 : ∀ k, k < a → mo' k = mo k) (h3 : ∀ k, k < a → mu' k = mu k) : actsLike a pk po pt pm ma mh' mo' mu' := by
  intro k hk
  rw [h1 k hk, h2 k hk, h3 k hk]
  exact h k hk
theorem al_snoc {a : Nat} {pk po pt pm ma mh mo mu : Nat → Int32} {K M on ot : Int32} (h : actsLike a pk po pt pm ma mh mo mu) (h0 : ∃ j, j < 5 ∧ K = nI j) (h1 : mu a = M) (h2 : ¬ K = 4 → mh a = on ∧ ∃ j, j < 8 ∧ on = nI j) (h3 : (K = 2 ∨ K = 3) → mo a = ot ∧ ∃ j, j < 8 ∧ ot = nI j) : actsLike (a + 1) (upd pk a K) (upd po a on) (upd pt a ot) (upd pm a M) (upd ma a K) mh mo mu := by
  intro k hk
  by_cases q : k = a
  · subst q
    rw [pk_us, pk_us, pk_us, pk_us, pk_us]
    exact ⟨rfl, h0, h1, h2, h3⟩
  · rw [pk_un q, pk_un q, pk_un q, pk_un q, pk_un q]
    exact h k (by omega)
theorem uk (f : Nat → Int32) (a : Nat) (x : Int32) : ∀ k, k < a → upd f a x k = f k := fun k hk => pk_un (by omega)
theorem sk (f : Nat → Int32) (a : Nat) : ∀ k, k < a → f k = f k := fun _ _ => rfl
theorem ml0 (on ot : Int32) (a : Nat) (mh mo mu : Nat → Int32) : midLike 0 on ot a mh mo mu :=
  ⟨Or.inl rfl, fun e => absurd e (by decide), fun e => absurd e (by decide), fun e => absurd rfl e⟩
theorem add_eq {a : Nat} (ha : a < 60) (on ot : Int32) (pk po pt pm : Nat → Int32) (K M : Int32) : f_X4_addAct (nI a) on ot pk po pt pm K M = (nI (a + 1), 0, upd pk a K, upd po a on, upd pt a ot, upd pm a M) := by
  unfold f_X4_addAct
  rw [if_neg (show ¬ 60 ≤ nI a from nI_ge (b := 60) ha (by decide)), nI_clamp (by omega), nI_1]
theorem add_ok {a : Nat} (ha : a < 60) : o_X4_addAct (nI a) := by
  have hv : vp_in (nI a) 60 := vp_in_nI ha (by decide)
  unfold o_X4_addAct
  split
  · trivial
  · exact ⟨hv, hv, hv, hv, trivial⟩
theorem cl_eq {a : Nat} (ha : a < 60) (ma : Nat → Int32) (K : Int32) : f_X10_close (nI a) ma K = (0, nI (a + 1), upd ma a K) := by
  unfold f_X10_close
  rw [nI_clamp (by omega), nI_1]
theorem am_iff (s : Int32) : (f_X9_within s 49 57 = 0 ∧ (s < 49 ∨ ¬ s < 49 ∧ ¬ s ≤ 57)) ∨ (¬ f_X9_within s 49 57 = 0 ∧ ¬ s < 49 ∧ s ≤ 57) := by
  have a1 : (49 : Int32).toInt = 49 := by decide
  have a2 : (57 : Int32).toInt = 57 := by decide
  by_cases h : f_X9_within s 49 57 = 0
  · refine Or.inl ⟨h, ?_⟩
    by_cases h1 : s < 49
    · exact Or.inl h1
    · refine Or.inr ⟨h1, fun h2 => (wi_iff s 49 57).mpr ?_ h⟩
      rw [Int32.lt_iff_toInt_lt, a1] at h1
      rw [Int32.le_iff_toInt_le, a2] at h2
      rw [a1, a2]
      omega
  · have h3 := (wi_iff s 49 57).mp h
    rw [a1, a2] at h3
    refine Or.inr ⟨h, ?_, ?_⟩
    · rw [Int32.lt_iff_toInt_lt, a1]
      omega
    · rw [Int32.le_iff_toInt_le, a2]
      omega
def rdB (a : Nat) (ex on ot : Int32) (pk po pt pm mo ma mh mu : Nat → Int32) (s : Int32) : Prop := f_X4_read (nI a) ex on ot pk po pt pm s = (0, nI a, ex, on, ot, pk, po, pt, pm) ∧ (f_X10_readOn (nI a) mo ma mh mu ex s).1 = -6
def rdG (a : Nat) (ex on ot : Int32) (pk po pt pm mo ma mh mu : Nat → Int32) (s : Int32) : Prop := ∃ (ex' on' ot' : Int32) (pk' po' pt' pm' mo' ma' mh' mu' : Nat → Int32) (a' : Nat), (a' = a ∨ a' = a + 1 ∧ ex' = 0) ∧ f_X4_read (nI a) ex on ot pk po pt pm s = (1, nI a', ex', on', ot', pk', po', pt', pm') ∧ f_X10_readOn (nI a) mo ma mh mu ex s = (ex', nI a', mo', ma', mh', mu') ∧ actsLike a' pk' po' pt' pm' ma' mh' mo' mu' ∧ midLike ex' on' ot' a' mh' mo' mu'
theorem rd0 {a : Nat} (ha : a < 60) {on ot : Int32} {pk po pt pm mo ma mh mu : Nat → Int32} (s : Int32) (hA : actsLike a pk po pt pm ma mh mo mu) (hM : midLike 0 on ot a mh mo mu) : rdB a 0 on ot pk po pt pm mo ma mh mu s ∨ rdG a 0 on ot pk po pt pm mo ma mh mu s := by
  have cl : (nI a).toNatClampNeg = a := nI_clamp (by omega)
  rcases letter s with ⟨l1, l2⟩ | ⟨l1, l2, hj⟩
  · by_cases q1 : s = 120
    · refine Or.inr ⟨4, on, ot, pk, po, pt, pm, upd mo a 0, ma, upd mh a 0, upd mu a 0, a, ?_, ?_, ?_, ?_, ?_⟩
      · exact Or.inl rfl
      · unfold f_X4_read f_X4_readStart
        rw [if_pos rfl, if_pos l1, if_pos q1] <;> rfl
      · unfold f_X10_readOn f_X10_begin
        rw [if_pos rfl, if_pos l2, if_pos l2, if_pos q1, cl] <;> rfl
      · exact al_upd hA (uk _ _ _) (uk _ _ _) (uk _ _ _)
      · exact ⟨by decide, fun e => absurd e (by decide), fun e => absurd e (by decide), fun _ => pk_us⟩
    · by_cases q2 : s = 46
      · refine Or.inr ⟨0, on, ot, upd pk a 4, upd po a on, upd pt a ot, upd pm a 0, upd mo a 0, upd ma a 4, upd mh a 0, upd mu a 0, a + 1, ?_, ?_, ?_, ?_, ?_⟩
        · exact Or.inr ⟨rfl, rfl⟩
        · unfold f_X4_read f_X4_readStart
          rw [if_pos rfl, if_pos l1, if_neg q1, if_pos q2, add_eq ha] <;> rfl
        · unfold f_X10_readOn f_X10_begin
          rw [if_pos rfl, if_pos l2, if_pos l2, if_neg q1, if_pos q2, cl_eq ha, cl] <;> rfl
        · exact al_snoc (al_upd hA (uk _ _ _) (uk _ _ _) (uk _ _ _)) ⟨4, by decide, rfl⟩ pk_us (fun e => absurd rfl e) (fun e => absurd e (by decide))
        · exact ml0 _ _ _ _ _ _
      · refine Or.inl ⟨?_, ?_⟩
        · unfold f_X4_read f_X4_readStart
          rw [if_pos rfl, if_pos l1, if_neg q1, if_neg q2] <;> rfl
        · unfold f_X10_readOn f_X10_begin
          rw [if_pos rfl, if_pos l2, if_pos l2, if_neg q1, if_neg q2] <;> rfl
  · refine Or.inr ⟨1, s - 65, ot, pk, po, pt, pm, upd mo a 0, ma, upd mh a (s - 65), upd mu a 0, a, ?_, ?_, ?_, ?_, ?_⟩
    · exact Or.inl rfl
    · unfold f_X4_read f_X4_readStart
      rw [if_pos rfl, if_neg l1] <;> rfl
    · unfold f_X10_readOn f_X10_begin
      rw [if_pos rfl, if_neg l2, if_neg l2, cl] <;> rfl
    · exact al_upd hA (uk _ _ _) (uk _ _ _) (uk _ _ _)
    · exact ⟨by decide, fun _ => ⟨pk_us, hj⟩, fun e => absurd e (by decide), fun _ => pk_us⟩
theorem rd1 {a : Nat} (ha : a < 60) {on ot : Int32} {pk po pt pm mo ma mh mu : Nat → Int32} (s : Int32) (hA : actsLike a pk po pt pm ma mh mo mu) (hM : midLike 1 on ot a mh mo mu) : rdB a 1 on ot pk po pt pm mo ma mh mu s ∨ rdG a 1 on ot pk po pt pm mo ma mh mu s := by
  have cl : (nI a).toNatClampNeg = a := nI_clamp (by omega)
  have m1 := hM.2.1 (by decide)
  have m2 := hM.2.2.2 (by decide)
  by_cases q1 : s = 94
  · refine Or.inr ⟨0, on, ot, upd pk a 0, upd po a on, upd pt a ot, upd pm a 0, mo, upd ma a 0, mh, mu, a + 1, ?_, ?_, ?_, ?_, ?_⟩
    · exact Or.inr ⟨rfl, rfl⟩
    · unfold f_X4_read f_X4_readDeed
      rw [if_neg (by decide), if_pos rfl, if_pos q1, add_eq ha] <;> rfl
    · unfold f_X10_readOn f_X10_deed
      rw [if_neg (by decide), if_pos rfl, if_pos q1, cl_eq ha] <;> rfl
    · exact al_snoc hA ⟨0, by decide, rfl⟩ m2 (fun _ => m1) (fun e => absurd e (by decide))
    · exact ml0 _ _ _ _ _ _
  · by_cases q2 : s = 95
    · refine Or.inr ⟨0, on, ot, upd pk a 1, upd po a on, upd pt a ot, upd pm a 0, mo, upd ma a 1, mh, mu, a + 1, ?_, ?_, ?_, ?_, ?_⟩
      · exact Or.inr ⟨rfl, rfl⟩
      · unfold f_X4_read f_X4_readDeed
        rw [if_neg (by decide), if_pos rfl, if_neg q1, if_pos q2, add_eq ha] <;> rfl
      · unfold f_X10_readOn f_X10_deed
        rw [if_neg (by decide), if_pos rfl, if_neg q1, if_pos q2, cl_eq ha] <;> rfl
      · exact al_snoc hA ⟨1, by decide, rfl⟩ m2 (fun _ => m1) (fun e => absurd e (by decide))
      · exact ml0 _ _ _ _ _ _
    · by_cases q3 : s = 62
      · refine Or.inr ⟨2, on, ot, pk, po, pt, pm, mo, ma, mh, mu, a, ?_, ?_, ?_, ?_, ?_⟩
        · exact Or.inl rfl
        · unfold f_X4_read f_X4_readDeed
          rw [if_neg (by decide), if_pos rfl, if_neg q1, if_neg q2, if_pos q3] <;> rfl
        · unfold f_X10_readOn f_X10_deed
          rw [if_neg (by decide), if_pos rfl, if_neg q1, if_neg q2, if_pos q3] <;> rfl
        · exact hA
        · exact ⟨by decide, fun _ => m1, fun e => absurd e (by decide), fun _ => m2⟩
      · refine Or.inl ⟨?_, ?_⟩
        · unfold f_X4_read f_X4_readDeed
          rw [if_neg (by decide), if_pos rfl, if_neg q1, if_neg q2, if_neg q3] <;> rfl
        · unfold f_X10_readOn f_X10_deed
          rw [if_neg (by decide), if_pos rfl, if_neg q1, if_neg q2, if_neg q3] <;> rfl
theorem rd2 {a : Nat} (ha : a < 60) {on ot : Int32} {pk po pt pm mo ma mh mu : Nat → Int32} (s : Int32) (hA : actsLike a pk po pt pm ma mh mo mu) (hM : midLike 2 on ot a mh mo mu) : rdB a 2 on ot pk po pt pm mo ma mh mu s ∨ rdG a 2 on ot pk po pt pm mo ma mh mu s := by
  have cl : (nI a).toNatClampNeg = a := nI_clamp (by omega)
  have m1 := hM.2.1 (by decide)
  have m2 := hM.2.2.2 (by decide)
  rcases letter s with ⟨l1, l2⟩ | ⟨l1, l2, hj⟩
  · refine Or.inl ⟨?_, ?_⟩
    · unfold f_X4_read f_X4_readAnotherHouse
      rw [if_neg (by decide), if_neg (by decide), if_pos rfl, if_pos l1] <;> rfl
    · unfold f_X10_readOn f_X10_name
      rw [if_neg (by decide), if_neg (by decide), if_pos rfl, if_pos l2] <;> rfl
  · refine Or.inr ⟨3, on, s - 65, pk, po, pt, pm, upd mo a (s - 65), ma, mh, mu, a, ?_, ?_, ?_, ?_, ?_⟩
    · exact Or.inl rfl
    · unfold f_X4_read f_X4_readAnotherHouse
      rw [if_neg (by decide), if_neg (by decide), if_pos rfl, if_neg l1, if_neg (by decide), if_pos rfl] <;> rfl
    · unfold f_X10_readOn f_X10_name
      rw [if_neg (by decide), if_neg (by decide), if_pos rfl, if_neg l2, if_neg (by decide), if_pos rfl, cl] <;> rfl
    · exact al_upd hA (sk _ _) (uk _ _ _) (sk _ _)
    · exact ⟨by decide, fun _ => m1, fun _ => ⟨pk_us, hj⟩, fun _ => m2⟩
theorem rd3 {a : Nat} (ha : a < 60) {on ot : Int32} {pk po pt pm mo ma mh mu : Nat → Int32} (s : Int32) (hA : actsLike a pk po pt pm ma mh mo mu) (hM : midLike 3 on ot a mh mo mu) : rdB a 3 on ot pk po pt pm mo ma mh mu s ∨ rdG a 3 on ot pk po pt pm mo ma mh mu s := by
  have cl : (nI a).toNatClampNeg = a := nI_clamp (by omega)
  have m1 := hM.2.1 (by decide)
  have m3 := hM.2.2.1 rfl
  have ei : f_X10_in s.toInt64 (49 : Int64) (57 : Int64) = f_X9_within s 49 57 := px_in s 49 57 (by decide) (by decide)
  rcases am_iff s with ⟨l1, l2 | ⟨l2, l3⟩⟩ | ⟨l1, l2, l3⟩
  · refine Or.inl ⟨?_, ?_⟩
    · unfold f_X4_read f_X4_readAmount
      rw [if_neg (by decide), if_neg (by decide), if_neg (by decide), if_pos rfl, if_pos l2] <;> rfl
    · unfold f_X10_readOn f_X10_amount
      rw [if_neg (by decide), if_neg (by decide), if_neg (by decide), if_pos rfl, ei, if_pos l1] <;> rfl
  · refine Or.inl ⟨?_, ?_⟩
    · unfold f_X4_read f_X4_readAmount
      rw [if_neg (by decide), if_neg (by decide), if_neg (by decide), if_pos rfl, if_neg l2, if_neg l3] <;> rfl
    · unfold f_X10_readOn f_X10_amount
      rw [if_neg (by decide), if_neg (by decide), if_neg (by decide), if_pos rfl, ei, if_pos l1] <;> rfl
  · refine Or.inr ⟨0, on, ot, upd pk a 2, upd po a on, upd pt a ot, upd pm a (s - 48), mo, upd ma a 2, mh, upd mu a (s - 48), a + 1, ?_, ?_, ?_, ?_, ?_⟩
    · exact Or.inr ⟨rfl, rfl⟩
    · unfold f_X4_read f_X4_readAmount
      rw [if_neg (by decide), if_neg (by decide), if_neg (by decide), if_pos rfl, if_neg l2, if_pos l3, add_eq ha] <;> rfl
    · unfold f_X10_readOn f_X10_amount
      rw [if_neg (by decide), if_neg (by decide), if_neg (by decide), if_pos rfl, ei, if_neg l1, cl_eq ha, cl] <;> rfl
    · exact al_snoc (al_upd hA (sk _ _) (sk _ _) (uk _ _ _)) ⟨2, by decide, rfl⟩ pk_us (fun _ => m1) (fun _ => m3)
    · exact ml0 _ _ _ _ _ _
theorem rd4 {a : Nat} (ha : a < 60) {on ot : Int32} {pk po pt pm mo ma mh mu : Nat → Int32} (s : Int32) (hA : actsLike a pk po pt pm ma mh mo mu) (hM : midLike 4 on ot a mh mo mu) : rdB a 4 on ot pk po pt pm mo ma mh mu s ∨ rdG a 4 on ot pk po pt pm mo ma mh mu s := by
  have cl : (nI a).toNatClampNeg = a := nI_clamp (by omega)
  have m2 := hM.2.2.2 (by decide)
  rcases letter s with ⟨l1, l2⟩ | ⟨l1, l2, hj⟩
  · refine Or.inl ⟨?_, ?_⟩
    · unfold f_X4_read f_X4_readAnotherHouse
      rw [if_neg (by decide), if_neg (by decide), if_neg (by decide), if_neg (by decide), if_pos l1] <;> rfl
    · unfold f_X10_readOn f_X10_name
      rw [if_neg (by decide), if_neg (by decide), if_neg (by decide), if_neg (by decide), if_pos l2] <;> rfl
  · refine Or.inr ⟨5, s - 65, ot, pk, po, pt, pm, mo, ma, upd mh a (s - 65), mu, a, ?_, ?_, ?_, ?_, ?_⟩
    · exact Or.inl rfl
    · unfold f_X4_read f_X4_readAnotherHouse
      rw [if_neg (by decide), if_neg (by decide), if_neg (by decide), if_neg (by decide), if_neg l1, if_pos rfl] <;> rfl
    · unfold f_X10_readOn f_X10_name
      rw [if_neg (by decide), if_neg (by decide), if_neg (by decide), if_neg (by decide), if_neg l2, if_pos rfl, cl] <;> rfl
    · exact al_upd hA (uk _ _ _) (sk _ _) (sk _ _)
    · exact ⟨by decide, fun _ => ⟨pk_us, hj⟩, fun e => absurd e (by decide), fun _ => m2⟩
theorem rd5 {a : Nat} (ha : a < 60) {on ot : Int32} {pk po pt pm mo ma mh mu : Nat → Int32} (s : Int32) (hA : actsLike a pk po pt pm ma mh mo mu) (hM : midLike 5 on ot a mh mo mu) : rdB a 5 on ot pk po pt pm mo ma mh mu s ∨ rdG a 5 on ot pk po pt pm mo ma mh mu s := by
  have cl : (nI a).toNatClampNeg = a := nI_clamp (by omega)
  have m1 := hM.2.1 (by decide)
  have m2 := hM.2.2.2 (by decide)
  rcases letter s with ⟨l1, l2⟩ | ⟨l1, l2, hj⟩
  · refine Or.inl ⟨?_, ?_⟩
    · unfold f_X4_read f_X4_readAnotherHouse
      rw [if_neg (by decide), if_neg (by decide), if_neg (by decide), if_neg (by decide), if_pos l1] <;> rfl
    · unfold f_X10_readOn f_X10_name
      rw [if_neg (by decide), if_neg (by decide), if_neg (by decide), if_neg (by decide), if_pos l2] <;> rfl
  · refine Or.inr ⟨0, on, s - 65, upd pk a 3, upd po a on, upd pt a (s - 65), upd pm a 0, upd mo a (s - 65), upd ma a 3, mh, mu, a + 1, ?_, ?_, ?_, ?_, ?_⟩
    · exact Or.inr ⟨rfl, rfl⟩
    · unfold f_X4_read f_X4_readAnotherHouse
      rw [if_neg (by decide), if_neg (by decide), if_neg (by decide), if_neg (by decide), if_neg l1, if_neg (by decide), if_neg (by decide), add_eq ha] <;> rfl
    · unfold f_X10_readOn f_X10_name
      rw [if_neg (by decide), if_neg (by decide), if_neg (by decide), if_neg (by decide), if_neg l2, if_neg (by decide), if_neg (by decide), cl_eq ha, cl] <;> rfl
    · exact al_snoc (al_upd hA (sk _ _) (uk _ _ _) (sk _ _)) ⟨3, by decide, rfl⟩ m2 (fun _ => m1) (fun _ => ⟨pk_us, hj⟩)
    · exact ml0 _ _ _ _ _ _
theorem rd {a : Nat} (ha : a < 60) {ex on ot : Int32} {pk po pt pm mo ma mh mu : Nat → Int32} (s : Int32) (hA : actsLike a pk po pt pm ma mh mo mu) (hM : midLike ex on ot a mh mo mu) : rdB a ex on ot pk po pt pm mo ma mh mu s ∨ rdG a ex on ot pk po pt pm mo ma mh mu s := by
  rcases hM.1 with rfl | rfl | rfl | rfl | rfl | rfl
  · exact rd0 ha s hA hM
  · exact rd1 ha s hA hM
  · exact rd2 ha s hA hM
  · exact rd3 ha s hA hM
  · exact rd4 ha s hA hM
  · exact rd5 ha s hA hM
