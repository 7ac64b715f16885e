/-! ACTS -/
theorem php : ∀ (n : Nat) (f : Nat → Nat), (∀ k, k < n + 1 → f k < n) → ∃ a b, a < b ∧ b < n + 1 ∧ f a = f b
  | 0, f, h => absurd (h 0 (by decide)) (Nat.not_lt_zero _)
  | n + 1, f, h => by
    by_cases e : ∃ k, k < n + 1 ∧ f k = f (n + 1)
    · obtain ⟨k, hk, ek⟩ := e
      exact ⟨k, n + 1, hk, by omega, ek⟩
    · have hy := h (n + 1) (by omega)
      have hne : ∀ k, k < n + 1 → ¬ f k = f (n + 1) := fun k hk q => e ⟨k, hk, q⟩
      obtain ⟨a, b, hab, hb, eg⟩ := php n (fun k => if f k = n then f (n + 1) else f k) (fun k hk => by
        have h1 := h k (by omega)
        have h2 := hne k hk
        show (if f k = n then f (n + 1) else f k) < n
        split
        · omega
        · omega)
      refine ⟨a, b, hab, by omega, ?_⟩
      replace eg : (if f a = n then f (n + 1) else f a) = if f b = n then f (n + 1) else f b := eg
      have ha2 := hne a (by omega)
      have hb2 := hne b (by omega)
      by_cases qa : f a = n
      · by_cases qb : f b = n
        · rw [qa, qb]
        · rw [if_pos qa, if_neg qb] at eg
          exact absurd eg.symm hb2
      · by_cases qb : f b = n
        · rw [if_neg qa, if_pos qb] at eg
          exact absurd eg ha2
        · rw [if_neg qa, if_neg qb] at eg
          exact eg
theorem p8_at {r : Nat → Int32} (h : perm8 r) {x : Nat} (hx : x < 8) : ∃ k, k < 8 ∧ ∀ i, i < 8 → (r i = nI x ↔ i = k) := by
  by_cases e : ∃ k, k < 8 ∧ r k = nI x
  · obtain ⟨k, hk, ek⟩ := e
    refine ⟨k, hk, fun i hi => ⟨fun q => h.2 i k hi hk (q.trans ek.symm), fun q => ?_⟩⟩
    rw [q]
    exact ek
  · have cl : ∀ k, k < 8 → (r k).toNatClampNeg < 8 ∧ r k = nI (r k).toNatClampNeg := by
      intro k hk
      obtain ⟨j, hj, ej⟩ := h.1 k hk
      rw [ej, nI_clamp (by omega)]
      exact ⟨hj, rfl⟩
    obtain ⟨a, b, hab, hb, eg⟩ := php 8 (fun k => if k < 8 then (r k).toNatClampNeg else x) (fun k hk => by
      show (if k < 8 then (r k).toNatClampNeg else x) < 8
      split
      · next q => exact (cl k q).1
      · exact hx)
    replace eg : (if a < 8 then (r a).toNatClampNeg else x) = if b < 8 then (r b).toNatClampNeg else x := eg
    rw [if_pos (show a < 8 by omega)] at eg
    have ca := cl a (by omega)
    by_cases qb : b < 8
    · rw [if_pos qb] at eg
      have cb := cl b qb
      have : r a = r b := by rw [ca.2, cb.2, eg]
      have := h.2 a b (by omega) qb this
      omega
    · rw [if_neg qb] at eg
      exact absurd ⟨a, by omega, by rw [ca.2, eg]⟩ e
theorem pl10_it {r : Nat → Int32} {x : Int32} {k : Nat} (h : ∀ i, i < 8 → (r i = x ↔ i = k)) : ∀ (n j : Nat) (v : Int32), j + n ≤ 8 → it (B_X10_placeOf_4 x r) j n v = if j ≤ k ∧ k < j + n then nI k else v
  | 0, j, v, _ => by
    rw [if_neg (by omega)]
    rfl
  | n + 1, j, v, hn => by
    by_cases q : j = k
    · have e : B_X10_placeOf_4 x r j v = nI k := by
        unfold B_X10_placeOf_4
        rw [if_pos ((h j (by omega)).mpr q), q]
      rw [it_c e, pl10_it h n (j + 1) _ (by omega), if_neg (by omega), if_pos (by omega)]
    · have e : B_X10_placeOf_4 x r j v = v := by
        unfold B_X10_placeOf_4
        rw [if_neg (fun z => q ((h j (by omega)).mp z))]
      rw [it_c e, pl10_it h n (j + 1) _ (by omega)]
      by_cases w : j + 1 ≤ k ∧ k < j + 1 + n
      · rw [if_pos w, if_pos (by omega)]
      · rw [if_neg w, if_neg (by omega)]
theorem pl10 {r : Nat → Int32} {x : Int32} {k : Nat} (hk : k < 8) (h : ∀ i, i < 8 → (r i = x ↔ i = k)) : f_X10_placeOf r x = nI k := by
  unfold f_X10_placeOf
  rw [pl10_it h 8 0 _ (by decide), if_pos (by omega)]
theorem pl5_lp {r : Nat → Int32} {x : Int32} {k : Nat} (h : ∀ i, i < 8 → (r i = x ↔ i = k)) : ∀ (n j : Nat), j ≤ k → k < j + n → j + n ≤ 8 → lp (B_X5_placeOf_2 x r) j n () = Sum.inr (nI k)
  | 0, j, h1, h2, _ => absurd h2 (by omega)
  | n + 1, j, h1, h2, h3 => by
    by_cases q : j = k
    · have e : B_X5_placeOf_2 x r j () = Sum.inr (Sum.inr (nI k)) := by
        unfold B_X5_placeOf_2
        rw [if_pos ((h j (by omega)).mpr q), q]
      exact lp_b e
    · have e : B_X5_placeOf_2 x r j () = Sum.inl () := by
        unfold B_X5_placeOf_2
        rw [if_neg (fun z => q ((h j (by omega)).mp z))]
      rw [lp_c e]
      exact pl5_lp h n (j + 1) (by omega) (by omega) (by omega)
theorem pl5 {r : Nat → Int32} {x : Int32} {k : Nat} (hk : k < 8) (h : ∀ i, i < 8 → (r i = x ↔ i = k)) : f_X5_placeOf r x = nI k := by
  unfold f_X5_placeOf
  rw [pl5_lp h 8 0 (by omega) (by omega) (by decide)]
  rfl
theorem pl_eq {r : Nat → Int32} (h : perm8 r) {x : Nat} (hx : x < 8) : f_X5_placeOf r (nI x) = f_X10_placeOf r (nI x) := by
  obtain ⟨k, hk, hi⟩ := p8_at h hx
  rw [pl5 hk hi, pl10 hk hi]
def swp (x y z : Int32) : Int32 := if z = x then y else if z = y then x else z
theorem swp_b (x y : Int32) (j : Nat) (v : Nat → Int32) : B_X5_changePlaces_2 x y j v = upd v j (swp x y (v j)) := by
  unfold B_X5_changePlaces_2 swp
  split
  · rfl
  · split
    · rfl
    · rw [upd_self]
theorem swp_it (x y : Int32) : ∀ (n j : Nat) (v : Nat → Int32), it (B_X5_changePlaces_2 x y) j n v = fun k => if j ≤ k ∧ k < j + n then swp x y (v k) else v k
  | 0, j, v => by
    funext k
    rw [if_neg (by omega)]
    rfl
  | n + 1, j, v => by
    rw [it_c (swp_b x y j v), swp_it x y n (j + 1) _]
    funext k
    by_cases q : k = j
    · subst q
      rw [if_neg (by omega), if_pos (by omega)]
      exact pk_us
    · rw [show upd v j (swp x y (v j)) k = v k from pk_un q]
      by_cases w : j + 1 ≤ k ∧ k < j + 1 + n
      · rw [if_pos w, if_pos (by omega)]
      · rw [if_neg w, if_neg (by omega)]
theorem swp_inj {x y a b : Int32} (h : swp x y a = swp x y b) : a = b := by
  unfold swp at h
  by_cases a1 : a = x
  · rw [if_pos a1] at h
    by_cases b1 : b = x
    · rw [a1, b1]
    · rw [if_neg b1] at h
      by_cases b2 : b = y
      · rw [if_pos b2] at h
        rw [a1, b2, h]
      · rw [if_neg b2] at h
        exact absurd h.symm b2
  · rw [if_neg a1] at h
    by_cases a2 : a = y
    · rw [if_pos a2] at h
      by_cases b1 : b = x
      · rw [if_pos b1] at h
        rw [a2, b1, h]
      · rw [if_neg b1] at h
        by_cases b2 : b = y
        · rw [a2, b2]
        · rw [if_neg b2] at h
          exact absurd h.symm b1
    · rw [if_neg a2] at h
      by_cases b1 : b = x
      · rw [if_pos b1] at h
        exact absurd h a2
      · rw [if_neg b1] at h
        by_cases b2 : b = y
        · rw [if_pos b2] at h
          exact absurd h a1
        · rw [if_neg b2] at h
          exact h
theorem ch_val (r : Nat → Int32) (x y : Int32) : f_X5_changePlaces r x y = fun k => if 0 ≤ k ∧ k < 0 + 8 then swp x y (r k) else r k := swp_it x y 8 0 r
theorem ch_perm {r : Nat → Int32} (h : perm8 r) {x y : Nat} (hx : x < 8) (hy : y < 8) : perm8 (f_X5_changePlaces r (nI x) (nI y)) := by
  rw [ch_val]
  refine ⟨fun k hk => ?_, fun a b ha hb e => ?_⟩
  · dsimp only
    rw [if_pos (by omega)]
    unfold swp
    split
    · exact ⟨y, hy, rfl⟩
    · split
      · exact ⟨x, hx, rfl⟩
      · exact h.1 k hk
  · dsimp only at e
    rw [if_pos (by omega), if_pos (by omega)] at e
    exact h.2 a b ha hb (swp_inj e)
theorem ch_tl {r : Nat → Int32} (h : tl 8 r) (x y : Int32) : tl 8 (f_X5_changePlaces r x y) := by
  rw [ch_val]
  intro k hk
  dsimp only
  rw [if_neg (by omega)]
  exact h k hk
theorem ch_eq {r : Nat → Int32} (h : perm8 r) {x y : Nat} (hx : x < 8) (hy : y < 8) (hn : ¬ x = y) : f_X10_change r (nI x) (nI y) = f_X5_changePlaces r (nI x) (nI y) := by
  obtain ⟨a, ha, ia⟩ := p8_at h hx
  obtain ⟨b, hb, ib⟩ := p8_at h hy
  have nxy : ¬ nI y = nI x := fun q => hn ((nI_eq (by omega) (by omega)).mp q).symm
  rw [ch_val]
  unfold f_X10_change
  rw [pl10 ha ia, pl10 hb ib, nI_clamp (by omega), nI_clamp (by omega)]
  funext k
  by_cases kb : k = b
  · subst kb
    rw [pk_us, if_pos (by omega), (ib k hb).mpr rfl]
    unfold swp
    rw [if_neg nxy, if_pos rfl]
  · rw [pk_un kb]
    by_cases ka : k = a
    · subst ka
      rw [pk_us, if_pos (by omega), (ia k ha).mpr rfl]
      unfold swp
      rw [if_pos rfl]
    · rw [pk_un ka]
      by_cases k8 : k < 8
      · rw [if_pos (by omega)]
        unfold swp
        rw [if_neg (fun q => ka ((ia k k8).mp q)), if_neg (fun q => kb ((ib k k8).mp q))]
      · rw [if_neg (by omega)]
theorem chg_ok {r : Nat → Int32} (h : perm8 r) {x y : Nat} (hx : x < 8) (hy : y < 8) : o_X10_change r (nI x) (nI y) := by
  obtain ⟨a, ha, ia⟩ := p8_at h hx
  obtain ⟨b, hb, ib⟩ := p8_at h hy
  unfold o_X10_change
  rw [pl10 ha ia, pl10 hb ib]
  exact ⟨vp_in_nI ha (by decide), vp_in_nI hb (by decide), trivial⟩
theorem wo_v (w : Nat → Int32) {c : Nat} (h : c < 8) : f_X5_wealthOf w (nI c) = w (nI c).toNatClampNeg := by
  unfold f_X5_wealthOf
  rw [if_neg (show ¬ nI c < 0 from nI_pos (by omega)), if_neg (show ¬ (8 : Int32) ≤ nI c from nI_ge (a := c) (b := 8) h (by decide))]
theorem wo_ok {c : Nat} (h : c < 8) : o_X5_wealthOf (nI c) := by
  unfold o_X5_wealthOf
  rw [if_neg (show ¬ nI c < 0 from nI_pos (by omega)), if_neg (show ¬ (8 : Int32) ≤ nI c from nI_ge (a := c) (b := 8) h (by decide))]
  exact ⟨vp_in_nI h (by decide), trivial⟩
theorem hn_v (r : Nat → Int32) {c : Nat} (h : c < 8) : f_X5_houseAtNext (nI c) r = r (nI c).toNatClampNeg := by
  unfold f_X5_houseAtNext
  rw [if_neg (show ¬ nI c < 0 from nI_pos (by omega)), if_neg (show ¬ (8 : Int32) ≤ nI c from nI_ge (a := c) (b := 8) h (by decide))]
theorem hn_ok {c : Nat} (h : c < 8) : o_X5_houseAtNext (nI c) := by
  unfold o_X5_houseAtNext
  rw [if_neg (show ¬ nI c < 0 from nI_pos (by omega)), if_neg (show ¬ (8 : Int32) ≤ nI c from nI_ge (a := c) (b := 8) h (by decide))]
  exact ⟨vp_in_nI h (by decide), trivial⟩
theorem gift_eq (i : Int32) (w : Nat → Int32) {c : Nat} (h : c < 8) (t m : Int32) : f_X10_whyNoGift i w (nI c) t m = f_X5_reasonAgainstGift i w (nI c) t m := by
  unfold f_X5_reasonAgainstGift
  rw [wo_v w h]
  rfl
/-- an act that both sides hold alike -/
def actOk (K o t o' t' : Int32) : Prop := (∃ j, j < 5 ∧ K = nI j) ∧ (¬ K = 4 → o' = o ∧ ∃ j, j < 8 ∧ o = nI j) ∧ ((K = 2 ∨ K = 3) → t' = t ∧ ∃ j, j < 8 ∧ t = nI j)
theorem wn_0 (i y : Int32) (w : Nat → Int32) (o t m : Int32) : f_X10_whyNot i y w (nI 0) o t m = (if f_X10_has i o = 0 then 0 else 1) := by
  unfold f_X10_whyNot
  rw [if_pos (show nI 0 = 0 from rfl)]
theorem ra_0 (i y : Int32) (w : Nat → Int32) (o t m : Int32) : f_X5_reasonAgainst i y w (nI 0) o t m = (if f_X5_isIn i o = 0 then 0 else 1) := by
  unfold f_X5_reasonAgainst
  rw [if_pos (show nI 0 = 0 from rfl)]
theorem wn_1 (i y : Int32) (w : Nat → Int32) (o t m : Int32) : f_X10_whyNot i y w (nI 1) o t m = (if f_X10_has i o = 0 then 1 else 0) := by
  unfold f_X10_whyNot
  rw [if_neg (show ¬ nI 1 = 0 by decide), if_pos (show nI 1 = 1 from rfl)]
theorem ra_1 (i y : Int32) (w : Nat → Int32) (o t m : Int32) : f_X5_reasonAgainst i y w (nI 1) o t m = (if f_X5_isIn i o = 0 then 1 else 0) := by
  unfold f_X5_reasonAgainst
  rw [if_neg (show ¬ nI 1 = 0 by decide), if_pos (show nI 1 = 1 from rfl)]
theorem wn_2 (i y : Int32) (w : Nat → Int32) (o t m : Int32) : f_X10_whyNot i y w (nI 2) o t m = f_X10_whyNoGift i w o t m := by
  unfold f_X10_whyNot
  rw [if_neg (show ¬ nI 2 = 0 by decide), if_neg (show ¬ nI 2 = 1 by decide), if_pos (show nI 2 = 2 from rfl)]
theorem ra_2 (i y : Int32) (w : Nat → Int32) (o t m : Int32) : f_X5_reasonAgainst i y w (nI 2) o t m = f_X5_reasonAgainstGift i w o t m := by
  unfold f_X5_reasonAgainst
  rw [if_neg (show ¬ nI 2 = 0 by decide), if_neg (show ¬ nI 2 = 1 by decide), if_pos (show nI 2 = 2 from rfl)]
theorem wn_3 (i y : Int32) (w : Nat → Int32) (o t m : Int32) : f_X10_whyNot i y w (nI 3) o t m = (if o = t then 2 else 0) := by
  unfold f_X10_whyNot
  rw [if_neg (show ¬ nI 3 = 0 by decide), if_neg (show ¬ nI 3 = 1 by decide), if_neg (show ¬ nI 3 = 2 by decide), if_pos (show nI 3 = 3 from rfl)]
theorem ra_3 (i y : Int32) (w : Nat → Int32) (o t m : Int32) : f_X5_reasonAgainst i y w (nI 3) o t m = (if o = t then 2 else 0) := by
  unfold f_X5_reasonAgainst
  rw [if_neg (show ¬ nI 3 = 0 by decide), if_neg (show ¬ nI 3 = 1 by decide), if_neg (show ¬ nI 3 = 2 by decide), if_pos (show nI 3 = 3 from rfl)]
theorem wn_4 (i y : Int32) (w : Nat → Int32) (o t m : Int32) : f_X10_whyNot i y w (nI 4) o t m = (if y = 99 then 5 else 0) := by
  unfold f_X10_whyNot
  rw [if_neg (show ¬ nI 4 = 0 by decide), if_neg (show ¬ nI 4 = 1 by decide), if_neg (show ¬ nI 4 = 2 by decide), if_neg (show ¬ nI 4 = 3 by decide)]
theorem ra_4 (i y : Int32) (w : Nat → Int32) (o t m : Int32) : f_X5_reasonAgainst i y w (nI 4) o t m = (if y < 99 then 0 else 5) := by
  unfold f_X5_reasonAgainst
  rw [if_neg (show ¬ nI 4 = 0 by decide), if_neg (show ¬ nI 4 = 1 by decide), if_neg (show ¬ nI 4 = 2 by decide), if_neg (show ¬ nI 4 = 3 by decide)]
theorem why_eq {i y : Int32} {w : Nat → Int32} {K o t o' t' m : Int32} (hA : actOk K o t o' t') (hy : ∃ j, j ≤ 99 ∧ y = nI j) : f_X10_whyNot i y w K o' t' m = f_X5_reasonAgainst i y w K o t m := by
  obtain ⟨⟨k, hk, rfl⟩, h1, h2⟩ := hA
  obtain ⟨j, hj, rfl⟩ := hy
  rcases (show k = 0 ∨ k = 1 ∨ k = 2 ∨ k = 3 ∨ k = 4 by omega) with rfl | rfl | rfl | rfl | rfl
  · rw [(h1 (by decide)).1, wn_0, ra_0]
    rfl
  · rw [(h1 (by decide)).1, wn_1, ra_1]
    rfl
  · obtain ⟨e, c, hc, f⟩ := h1 (by decide)
    rw [e, (h2 (by decide)).1, f, wn_2, ra_2]
    exact gift_eq i w hc t m
  · rw [(h1 (by decide)).1, (h2 (by decide)).1, wn_3, ra_3]
  · rw [wn_4, ra_4]
    by_cases q : j = 99
    · subst q
      rfl
    · rw [if_neg (show ¬ nI j = 99 from fun e => q ((nI_eq (b := 99) (by omega) (by decide)).mp e)), if_pos (show nI j < 99 from nI_lt (b := 99) (by omega) (by decide))]
