theorem fb_holes : ∀ (m n : Nat) (f : Nat → Nat), (∀ i, i < n → f i < m) → (∀ i j, i < j → j < n → f i ≠ f j) → n ≤ m := by
  intro m
  induction m with
  | zero =>
    intro n f h1 _
    rcases Nat.eq_zero_or_pos n with h | h
    · omega
    · exact absurd (h1 0 h) (Nat.not_lt_zero _)
  | succ m ih =>
    intro n f h1 h2
    by_cases hx : ∃ i, i < n ∧ f i = m
    · obtain ⟨a, ha, hfa⟩ := hx
      have hg := ih (n - 1) (fun i => if i < a then f i else f (i + 1)) (by
        intro i hi
        by_cases q : i < a
        · simp only [if_pos q]
          have b1 := h1 i (by omega)
          have b2 := h2 i a q ha
          omega
        · simp only [if_neg q]
          have b1 := h1 (i + 1) (by omega)
          have b2 := h2 a (i + 1) (by omega) (by omega)
          omega) (by
        intro i j hij hj
        by_cases q : i < a
        · by_cases r : j < a
          · simp only [if_pos q, if_pos r]
            exact h2 i j hij (by omega)
          · simp only [if_pos q, if_neg r]
            exact h2 i (j + 1) (by omega) (by omega)
        · have r : ¬ j < a := by omega
          simp only [if_neg q, if_neg r]
          exact h2 (i + 1) (j + 1) (by omega) (by omega))
      omega
    · have hg := ih n f (fun i hi => by
        have b1 := h1 i hi
        have b2 : f i ≠ m := fun e => hx ⟨i, hi, e⟩
        omega) h2
      omega
theorem fa_or (a b : Nat) : nI a ||| nI b = nI (a ||| b) := by
  apply Int32.toBitVec_inj.1
  show BitVec.ofNat 32 a ||| BitVec.ofNat 32 b = BitVec.ofNat 32 (a ||| b)
  apply BitVec.eq_of_getLsbD_eq
  intro i hi
  simp [hi]
/-- what goes onto 0 to n-1 from there is one to one -/
theorem onto_inj {n : Nat} {f : Nat → Nat} (hs : ∀ y, y < n → ∃ i, i < n ∧ f i = y) : ∀ a b, a < n → b < n → f a = f b → a = b := by
  have hc : ∀ y : Nat, ∃ i, y < n → i < n ∧ f i = y := by
    intro y
    by_cases h : y < n
    · obtain ⟨i, h1, h2⟩ := hs y h
      exact ⟨i, fun _ => ⟨h1, h2⟩⟩
    · exact ⟨0, fun q => absurd q h⟩
  have hg := Classical.axiomOfChoice hc
  obtain ⟨g, hg⟩ := hg
  have gi : ∀ i j, i < j → j < n → g i ≠ g j := by
    intro i j h1 h2 e
    have e1 := (hg i (by omega)).2
    have e2 := (hg j h2).2
    rw [e, e2] at e1
    omega
  have go : ∀ y, y < n → ∃ i, i < n ∧ g i = y := by
    intro y hy
    refine Classical.byContradiction (fun hno => ?_)
    have h1 := fb_holes n (n + 1) (fun i => if i < n then g i else y) (fun i hi => by
      by_cases q : i < n
      · simp only [if_pos q]
        exact (hg i q).1
      · simp only [if_neg q]
        exact hy) (fun i j hij hj => by
      have q : i < n := by omega
      simp only [if_pos q]
      by_cases r : j < n
      · simp only [if_pos r]
        exact gi i j hij r
      · simp only [if_neg r]
        exact fun e => hno ⟨i, q, e⟩)
    omega
  intro a b ha hb e
  obtain ⟨x, hx, ex⟩ := go a ha
  obtain ⟨y, hy, ey⟩ := go b hb
  have e1 := (hg x hx).2
  have e2 := (hg y hy).2
  rw [ex] at e1
  rw [ey] at e2
  rw [← ex, ← ey]
  have : x = y := by omega
  rw [this]
def dv : Nat → Nat → Nat
  | N, 0 => N
  | N, m + 1 => dv N m / 10
theorem dv_in (N : Nat) : ∀ m, dv (N / 10) m = dv N (m + 1)
  | 0 => rfl
  | m + 1 => by
    show dv (N / 10) m / 10 = dv N (m + 1) / 10
    rw [dv_in N m]
def mt : Nat → Nat → Nat → Nat
  | _, 0, S => S
  | N, n + 1, S => mt (N / 10) n (S ||| 2 ^ (N % 10))
theorem mt_bit (k : Nat) : ∀ (n N S : Nat), (mt N n S).testBit k = true ↔ S.testBit k = true ∨ ∃ m, m < n ∧ dv N m % 10 = k
  | 0, N, S => ⟨fun h => Or.inl h, fun h => h.elim id (fun ⟨m, hm, _⟩ => absurd hm (Nat.not_lt_zero m))⟩
  | n + 1, N, S => by
    show (mt (N / 10) n (S ||| 2 ^ (N % 10))).testBit k = true ↔ _
    rw [mt_bit k n (N / 10) _, Nat.testBit_or, Nat.testBit_two_pow, Bool.or_eq_true, decide_eq_true_eq]
    constructor
    · rintro ((h | h) | ⟨m, hm, h⟩)
      · exact Or.inl h
      · exact Or.inr ⟨0, Nat.succ_pos n, h⟩
      · exact Or.inr ⟨m + 1, by omega, by rw [← dv_in]; exact h⟩
    · rintro (h | ⟨m, hm, h⟩)
      · exact Or.inl (Or.inl h)
      · cases m with
        | zero => exact Or.inl (Or.inr h)
        | succ m => exact Or.inr ⟨m, by omega, by rw [dv_in]; exact h⟩
theorem d10 {N : Nat} (h : N < 2147483648) : nI N / 10 = nI (N / 10) ∧ nI N - nI N / 10 * 10 = nI (N % 10) := ⟨pk_div (d := 10) h (by decide) (by decide), pk_rem (d := 10) h (by decide) (by decide)⟩
theorem sh10 : ∀ d : Fin 10, (1 : Int32) <<< (nI d.val &&& 31) = nI (2 ^ d.val) := by decide +kernel
theorem sh_d (N : Nat) : (1 : Int32) <<< (nI (N % 10) &&& 31) = nI (2 ^ (N % 10)) := sh10 ⟨N % 10, Nat.mod_lt _ (by decide)⟩
def dgR (N n : Nat) (r : Nat → Int32) : Nat → Int32 := fun k => if k < n then nI (dv N (n - 1 - k) % 10) else r k
theorem dgR_s (N n : Nat) (r : Nat → Int32) : dgR (N / 10) n (upd r n (nI (N % 10))) = dgR N (n + 1) r := by
  funext k
  unfold dgR
  by_cases h : k < n
  · rw [if_pos h, if_pos (by omega), dv_in, show n - 1 - k + 1 = n + 1 - 1 - k by omega]
  · rw [if_neg h]
    by_cases e : k = n
    · subst e
      rw [pk_us, if_pos (by omega), show k + 1 - 1 - k = 0 by omega]
      rfl
    · rw [pk_un e, if_neg (by omega)]
theorem setRow_dg : ∀ (n N : Nat) (r : Nat → Int32), N < 2147483648 → itD B_X5_setRow_5 n (nI N, r) = (nI (dv N n), dgR N n r)
  | 0, N, r, _ => by
    show (nI N, r) = _
    congr 1
  | n + 1, N, r, h => by
    show itD B_X5_setRow_5 n (B_X5_setRow_5 n (nI N, r)) = _
    have e : B_X5_setRow_5 n (nI N, r) = (nI (N / 10), upd r n (nI (N % 10))) := by
      unfold B_X5_setRow_5
      rw [(d10 h).2, (d10 h).1]
    rw [e, setRow_dg n (N / 10) _ (by omega), dgR_s, dv_in]
theorem readRow_dg : ∀ (n N S : Nat) (r : Nat → Int32), N < 2147483648 → itD B_X10_readRow_8 n (nI N, nI S, r) = (nI (dv N n), nI (mt N n S), dgR N n r)
  | 0, N, S, r, _ => by
    show (nI N, nI S, r) = _
    congr 1
  | n + 1, N, S, r, h => by
    show itD B_X10_readRow_8 n (B_X10_readRow_8 n (nI N, nI S, r)) = _
    have e : B_X10_readRow_8 n (nI N, nI S, r) = (nI (N / 10), nI (S ||| 2 ^ (N % 10)), upd r n (nI (N % 10))) := by
      unfold B_X10_readRow_8
      rw [(d10 h).2, (d10 h).1, sh_d, fa_or]
    rw [e, readRow_dg n (N / 10) _ _ (by omega), dgR_s, dv_in]
    rfl
theorem isRow_dg : ∀ (n j N S : Nat), N < 2147483648 → lp B_X9_isRow_12 j n (nI N, nI S) = if (∀ m, m < n → dv N m % 10 < 8) then Sum.inl (nI (dv N n), nI (mt N n S)) else Sum.inr 0
  | 0, j, N, S, _ => by
    rw [if_pos (fun m hm => absurd hm (Nat.not_lt_zero m))]
    rfl
  | n + 1, j, N, S, h => by
    have hlt : (nI (N % 10) < 8) ↔ N % 10 < 8 := nI_ltI (b := 8) (by omega) (by decide)
    by_cases q : N % 10 < 8
    · have e : B_X9_isRow_12 j (nI N, nI S) = Sum.inl (nI (N / 10), nI (S ||| 2 ^ (N % 10))) := by
        unfold B_X9_isRow_12
        show (if (nI N - nI N / 10 * 10) < 8 then _ else _) = _
        rw [(d10 h).2, if_pos (hlt.mpr q)]
        show Sum.inl (nI N / 10, nI S ||| (1 : Int32) <<< (nI (N % 10) &&& 31)) = _
        rw [(d10 h).1, sh_d, fa_or]
      rw [lp_c e, isRow_dg n (j + 1) (N / 10) _ (by omega)]
      by_cases q2 : ∀ m, m < n → dv (N / 10) m % 10 < 8
      · rw [if_pos q2, if_pos, dv_in]
        · rfl
        · intro m hm
          cases m with
          | zero => exact q
          | succ m =>
            rw [← dv_in]
            exact q2 m (by omega)
      · rw [if_neg q2, if_neg]
        intro q3
        exact q2 (fun m hm => by rw [dv_in]; exact q3 (m + 1) (by omega))
    · have e : B_X9_isRow_12 j (nI N, nI S) = Sum.inr (Sum.inr 0) := by
        unfold B_X9_isRow_12
        show (if (nI N - nI N / 10 * 10) < 8 then _ else _) = _
        rw [(d10 h).2, if_neg (fun z => q (hlt.mp z))]
      rw [lp_b e, if_neg (fun z => q (z 0 (by omega)))]
theorem mt_lt : ∀ (n N S : Nat), S < 1024 → mt N n S < 1024
  | 0, _, _, h => h
  | n + 1, N, S, h => mt_lt n (N / 10) _ (Nat.or_lt_two_pow (n := 10) h (Nat.pow_lt_pow_right (by decide) (Nat.mod_lt _ (by decide))))
def okRow (N : Nat) : Prop := dv N 8 = 0 ∧ mt N 8 0 = 255
theorem ok_cover {N : Nat} (h : okRow N) (k : Nat) (hk : k < 8) : ∃ m, m < 8 ∧ dv N m % 10 = k := by
  have h1 : (mt N 8 0).testBit k = true := by
    rw [h.2]
    exact (by decide : ∀ k : Fin 8, (255 : Nat).testBit k.val = true) ⟨k, hk⟩
  rcases (mt_bit k 8 N 0).mp h1 with q | q
  · simp at q
  · exact q
theorem ok_lt {N : Nat} (h : okRow N) (m : Nat) (hm : m < 8) : dv N m % 10 < 8 := by
  refine Classical.byContradiction (fun hno => ?_)
  have h1 := (mt_bit (dv N m % 10) 8 N 0).mpr (Or.inr ⟨m, hm, rfl⟩)
  rw [h.2] at h1
  have h2 : dv N m % 10 = 8 ∨ dv N m % 10 = 9 := by omega
  rcases h2 with q | q
  · rw [q] at h1
    exact absurd h1 (by decide)
  · rw [q] at h1
    exact absurd h1 (by decide)
theorem ok_inj {N : Nat} (h : okRow N) : ∀ a b, a < 8 → b < 8 → dv N a % 10 = dv N b % 10 → a = b := onto_inj (f := fun m => dv N m % 10) (fun y hy => ok_cover h y hy)
theorem step_le {v u M d : Nat} (hs : u = v / 10) (hl : v % 10 < 8) (hu : u ≤ M) (hM : u = M → v % 10 ≤ d) : v ≤ 10 * M + d := by
  by_cases q : u = M
  · have := hM q
    omega
  · omega
theorem ok_le {N : Nat} (h : okRow N) : N ≤ 76543210 := by
  have l0 := ok_lt h 0 (by decide)
  have l1 := ok_lt h 1 (by decide)
  have l2 := ok_lt h 2 (by decide)
  have l3 := ok_lt h 3 (by decide)
  have l4 := ok_lt h 4 (by decide)
  have l5 := ok_lt h 5 (by decide)
  have l6 := ok_lt h 6 (by decide)
  have l7 := ok_lt h 7 (by decide)
  have ne : ∀ a b, a < 8 → b < 8 → ¬ a = b → ¬ dv N a % 10 = dv N b % 10 := fun a b ha hb hab e => hab (ok_inj h a b ha hb e)
  have s0 : dv N 0 = N := rfl
  have s1 : dv N 1 = dv N 0 / 10 := rfl
  have s2 : dv N 2 = dv N 1 / 10 := rfl
  have s3 : dv N 3 = dv N 2 / 10 := rfl
  have s4 : dv N 4 = dv N 3 / 10 := rfl
  have s5 : dv N 5 = dv N 4 / 10 := rfl
  have s6 : dv N 6 = dv N 5 / 10 := rfl
  have s7 : dv N 7 = dv N 6 / 10 := rfl
  have s8 : dv N 8 = dv N 7 / 10 := rfl
  have z := h.1
  have t7 : dv N 7 ≤ 7 := by omega
  have t6 : dv N 6 ≤ 76 := step_le (M := 7) (d := 6) s7 l6 t7 (fun q => by have n7 := ne 7 6 (by decide) (by decide) (by decide); omega)
  have t5 : dv N 5 ≤ 765 := step_le (M := 76) (d := 5) s6 l5 t6 (fun q => by have n7 := ne 7 5 (by decide) (by decide) (by decide); have n6 := ne 6 5 (by decide) (by decide) (by decide); omega)
  have t4 : dv N 4 ≤ 7654 := step_le (M := 765) (d := 4) s5 l4 t5 (fun q => by have n7 := ne 7 4 (by decide) (by decide) (by decide); have n6 := ne 6 4 (by decide) (by decide) (by decide); have n5 := ne 5 4 (by decide) (by decide) (by decide); omega)
  have t3 : dv N 3 ≤ 76543 := step_le (M := 7654) (d := 3) s4 l3 t4 (fun q => by have n7 := ne 7 3 (by decide) (by decide) (by decide); have n6 := ne 6 3 (by decide) (by decide) (by decide); have n5 := ne 5 3 (by decide) (by decide) (by decide); have n4 := ne 4 3 (by decide) (by decide) (by decide); omega)
  have t2 : dv N 2 ≤ 765432 := step_le (M := 76543) (d := 2) s3 l2 t3 (fun q => by have n7 := ne 7 2 (by decide) (by decide) (by decide); have n6 := ne 6 2 (by decide) (by decide) (by decide); have n5 := ne 5 2 (by decide) (by decide) (by decide); have n4 := ne 4 2 (by decide) (by decide) (by decide); have n3 := ne 3 2 (by decide) (by decide) (by decide); omega)
  have t1 : dv N 1 ≤ 7654321 := step_le (M := 765432) (d := 1) s2 l1 t2 (fun q => by have n7 := ne 7 1 (by decide) (by decide) (by decide); have n6 := ne 6 1 (by decide) (by decide) (by decide); have n5 := ne 5 1 (by decide) (by decide) (by decide); have n4 := ne 4 1 (by decide) (by decide) (by decide); have n3 := ne 3 1 (by decide) (by decide) (by decide); have n2 := ne 2 1 (by decide) (by decide) (by decide); omega)
  have t0 : dv N 0 ≤ 76543210 := step_le (M := 7654321) (d := 0) s1 l0 t1 (fun q => by have n7 := ne 7 0 (by decide) (by decide) (by decide); have n6 := ne 6 0 (by decide) (by decide) (by decide); have n5 := ne 5 0 (by decide) (by decide) (by decide); have n4 := ne 4 0 (by decide) (by decide) (by decide); have n3 := ne 3 0 (by decide) (by decide) (by decide); have n2 := ne 2 0 (by decide) (by decide) (by decide); have n1 := ne 1 0 (by decide) (by decide) (by decide); omega)
  exact t0
theorem isRow_iff {N : Nat} (h : N < 2147483648) : f_X9_isRow (nI N) = 0 ↔ ¬ okRow N := by
  unfold f_X9_isRow
  rw [if_pos (nI_pos' (by omega))]
  have e := isRow_dg 8 0 N 0 h
  rw [show ((0 : Int32)) = nI 0 from rfl, e]
  by_cases q : ∀ m, m < 8 → dv N m % 10 < 8
  · rw [if_pos q]
    show (if nI (dv N 8) = 0 then (if nI (mt N 8 0) = 255 then (1 : Int32) else 0) else 0) = 0 ↔ _
    have hd : ∀ m, dv N m ≤ N := by
      intro m
      induction m with
      | zero => exact Nat.le_refl _
      | succ m ih => exact Nat.le_trans (Nat.div_le_self _ _) ih
    have e0 : nI (dv N 8) = 0 ↔ dv N 8 = 0 := nI_eq (b := 0) (by have := hd 8; omega) (by decide)
    have e1 : nI (mt N 8 0) = 255 ↔ mt N 8 0 = 255 := nI_eq (b := 255) (by have := mt_lt 8 N 0 (by decide); omega) (by decide)
    by_cases c0 : dv N 8 = 0
    · rw [if_pos (e0.mpr c0)]
      by_cases c1 : mt N 8 0 = 255
      · rw [if_pos (e1.mpr c1)]
        exact ⟨fun z => absurd z (by decide), fun z => absurd ⟨c0, c1⟩ z⟩
      · rw [if_neg (fun z => c1 (e1.mp z))]
        exact ⟨fun _ z => c1 z.2, fun _ => rfl⟩
    · rw [if_neg (fun z => c0 (e0.mp z))]
      exact ⟨fun _ z => c0 z.1, fun _ => rfl⟩
  · rw [if_neg q]
    exact ⟨fun _ z => q (fun m hm => ok_lt z m hm), fun _ => rfl⟩
theorem readRow_iff {N : Nat} (h : N < 2147483648) (r : Nat → Int32) : ((f_X10_readRow r (nI N)).1 = 0 ↔ ¬ okRow N) ∧ (f_X10_readRow r (nI N)).2 = dgR N 8 r := by
  unfold f_X10_readRow
  rw [show ((0 : Int32)) = nI 0 from rfl, readRow_dg 8 N 0 r h]
  have hd : ∀ m, dv N m ≤ N := by
    intro m
    induction m with
    | zero => exact Nat.le_refl _
    | succ m ih => exact Nat.le_trans (Nat.div_le_self _ _) ih
  have e0 : nI (dv N 8) = nI 0 ↔ dv N 8 = 0 := nI_eq (b := 0) (by have := hd 8; omega) (by decide)
  have e1 : nI (mt N 8 0) = 255 ↔ mt N 8 0 = 255 := nI_eq (b := 255) (by have := mt_lt 8 N 0 (by decide); omega) (by decide)
  by_cases c0 : dv N 8 = 0
  · rw [if_pos (e0.mpr c0)]
    by_cases c1 : mt N 8 0 = 255
    · rw [if_pos (e1.mpr c1)]
      exact ⟨⟨fun z => absurd (show (1 : Int32) = 0 from z) (by decide), fun z => absurd ⟨c0, c1⟩ z⟩, rfl⟩
    · rw [if_neg (fun z => c1 (e1.mp z))]
      exact ⟨⟨fun _ z => c1 z.2, fun _ => rfl⟩, rfl⟩
  · rw [if_neg (fun z => c0 (e0.mp z))]
    exact ⟨⟨fun _ z => c0 z.1, fun _ => rfl⟩, rfl⟩
/-- a row written place by place -/
theorem it_fill (d : Nat → Int32) : ∀ (n j : Nat) (r : Nat → Int32), it (fun j v => upd v j (d j)) j n r = fun k => if j ≤ k ∧ k < j + n then d k else r k
  | 0, j, r => by
    funext k
    rw [if_neg (by omega)]
    rfl
  | n + 1, j, r => by
    show it (fun j v => upd v j (d j)) (j + 1) n (upd r j (d j)) = _
    rw [it_fill d n (j + 1) _]
    funext k
    by_cases h : k = j
    · subst h
      rw [if_neg (by omega), if_pos (by omega), pk_us]
    · rw [pk_un h]
      by_cases q : j + 1 ≤ k ∧ k < j + 1 + n
      · rw [if_pos q, if_pos (by omega)]
      · rw [if_neg q, if_neg (by omega)]
theorem map_copy (d r : Nat → Int32) : it (B_X10_map_46 d) 0 8 r = fun k => if k < 8 then d k else r k := by
  rw [it_fun (f := B_X10_map_46 d) (g := fun j v => upd v j (d j)) (fun j v => rfl), it_fill]
  funext k
  by_cases q : k < 8
  · rw [if_pos q, if_pos (by omega)]
  · rw [if_neg q, if_neg (by omega)]
theorem map_row (N : Nat) (md r : Nat → Int32) : (fun k => if k < 8 then dgR N 8 md k else r k) = dgR N 8 r := by
  funext k
  unfold dgR
  by_cases q : k < 8
  · rw [if_pos q, if_pos q, if_pos q]
  · rw [if_neg q, if_neg q]
theorem dgR_perm {N : Nat} (h : okRow N) (r : Nat → Int32) : perm8 (dgR N 8 r) := by
  have e : ∀ k, k < 8 → dgR N 8 r k = nI (dv N (7 - k) % 10) := by
    intro k hk
    unfold dgR
    rw [if_pos hk]
  refine ⟨fun k hk => ⟨dv N (7 - k) % 10, ok_lt h (7 - k) (by omega), e k hk⟩, fun a b ha hb hab => ?_⟩
  rw [e a ha, e b hb] at hab
  have h1 := (nI_eq (by omega) (by omega)).mp hab
  have h2 := ok_inj h (7 - a) (7 - b) (by omega) (by omega) h1
  omega
theorem dgR_tl {N : Nat} {r : Nat → Int32} (h : tl 8 r) : tl 8 (dgR N 8 r) := by
  intro k hk
  unfold dgR
  rw [if_neg (by omega)]
  exact h k hk
theorem Q_map (ww : Nat → Int32) (gg : Nat → Int32) (rr : Nat → Int32) (ii : Int32) (nx : Int32) (yr : Int32) (kn : Nat → Int32) (ss : Nat → Int32) (sc : Nat → Int32) (sn : Int32) (sg : Int32) (pd : Nat → Int32) (pk : Nat → Int32) (po : Nat → Int32) (pt : Nat → Int32) (pm : Nat → Int32) (pa : Int32) (wp : Int32) (ex : Int32) (on : Int32) (ot : Int32) (tw : Nat → Int32) (tg : Nat → Int32) (tr : Nat → Int32) (uw : Nat → Int32) (ug : Nat → Int32) (ur : Nat → Int32) (ui : Int32) (un : Int32) (uy : Int32) (uk : Nat → Int32) (us : Nat → Int32) (uc : Nat → Int32) (um : Int32) (uf : Int32) (zw : Nat → Int32) (zg : Nat → Int32) (zr : Nat → Int32) (zi : Int32) (zn : Int32) (zy : Int32) (zk : Nat → Int32) (zs : Nat → Int32) (zc : Nat → Int32) (zm : Int32) (zf : Int32) (kp : Nat → Int32) (ik : Nat → Int32) (md : Nat → Int32) (a1 : Int32) (a2 : Int32) (h : RA ww gg rr ii nx yr kn ss sc sn sg pd pk po pt pm pa wp ex on ot tw tg tr uw ug ur ui un uy uk us uc um uf zw zg zr zi zn zy zk zs zc zm zf kp ik) : o_X10_map md a1 a2 ∧ (f_X9_map nx rr a1 a2).1 = (f_X10_map nx md rr a1 a2).1 ∧ (f_X10_map nx md rr a1 a2).2.2.2 = (f_X9_map nx rr a1 a2).2.2 ∧ (f_X10_map nx md rr a1 a2).2.1 = (f_X9_map nx rr a1 a2).2.1 ∧ RA ww gg ((f_X9_map nx rr a1 a2).2.2) ii ((f_X9_map nx rr a1 a2).2.1) yr kn ss sc sn sg pd pk po pt pm pa wp ex on ot tw tg tr uw ug ur ui un uy uk us uc um uf zw zg zr zi zn zy zk zs zc zm zf kp ik := by
  obtain ⟨hP, hK, hPd, hT, hI0, hI1⟩ := h
  obtain ⟨hw, hg, hr, hp, hn, hy⟩ := hP
  have cs : (∃ N, N < 2147483648 ∧ a1 = nI N ∧ okRow N ∧ (¬ f_X9_isHouse a2 = 0)) ∨ (f_X9_map nx rr a1 a2 = (-2, nx, rr) ∧ (f_X10_map nx md rr a1 a2).1 = -2 ∧ (f_X10_map nx md rr a1 a2).2.1 = nx ∧ (f_X10_map nx md rr a1 a2).2.2.2 = rr) := by
    have hno : ∀ N, N < 2147483648 → a1 = nI N → ¬ okRow N → (f_X9_map nx rr a1 a2 = (-2, nx, rr) ∧ (f_X10_map nx md rr a1 a2).1 = -2 ∧ (f_X10_map nx md rr a1 a2).2.1 = nx ∧ (f_X10_map nx md rr a1 a2).2.2.2 = rr) := by
      intro N hN e q
      subst e
      refine ⟨?_, ?_⟩
      · unfold f_X9_map
        rw [if_pos ((isRow_iff hN).mpr q)]
      · unfold f_X10_map
        split
        · exact ⟨rfl, rfl, rfl⟩
        · dsimp only [lt]
          rw [if_pos ((readRow_iff hN md).1.mpr q)]
          exact ⟨rfl, rfl, rfl⟩
    by_cases h0 : 0 ≤ a1
    · have e := nI_self h0
      have hlt := clamp_lt a1
      generalize a1.toNatClampNeg = N at e hlt
      by_cases q : okRow N
      · by_cases q2 : f_X9_isHouse a2 = 0
        · refine Or.inr ?_
          subst e
          refine ⟨?_, ?_⟩
          · unfold f_X9_map
            rw [if_neg (fun z => (isRow_iff hlt).mp z q), ← hs_wi, if_pos q2]
          · unfold f_X10_map
            split
            · exact ⟨rfl, rfl, rfl⟩
            · dsimp only [lt]
              rw [if_neg (fun z => (readRow_iff hlt md).1.mp z q), isH, if_pos q2]
              exact ⟨rfl, rfl, rfl⟩
        · exact Or.inl ⟨N, hlt, e, q, q2⟩
      · exact Or.inr (hno N hlt e q)
    · refine Or.inr ⟨?_, ?_⟩
      · unfold f_X9_map f_X9_isRow
        rw [if_neg h0, if_pos rfl]
      · have : f_X9_within a1 0 76543210 = 0 := by
          rw [wi_0]
          intro z
          exact h0 (Int32.le_iff_toInt_le.mpr z.1)
        unfold f_X10_map
        rw [in_0_76543210, if_pos this]
        exact ⟨rfl, rfl, rfl⟩
  have okm : o_X10_map md a1 a2 := by
    unfold o_X10_map
    split
    · trivial
    · dsimp only [lt]
      split
      · trivial
      · exact ⟨oIsH a2, trivial⟩
  rcases cs with ⟨N, hN, e, q, q2⟩ | ⟨e1, e2, e3, e4⟩
  · subst e
    have c1 : ¬ f_X9_isRow (nI N) = 0 := fun z => (isRow_iff hN).mp z q
    have c2 : ¬ f_X9_within a2 0 7 = 0 := by rw [← hs_wi]; exact q2
    have c3 : ¬ (f_X10_readRow md (nI N)).1 = 0 := fun z => (readRow_iff hN md).1.mp z q
    have c4 : ¬ f_X9_within (nI N) 0 76543210 = 0 := by
      rw [wi_iff, nI_toInt hN]
      have := ok_le q
      have z1 : (0 : Int32).toInt = 0 := by decide
      have z2 : (76543210 : Int32).toInt = 76543210 := by decide
      rw [z1, z2]
      omega
    have ex : f_X9_map nx rr (nI N) a2 = ((f_X5_rowNumber rr) * 10 + nx, a2, dgR N 8 rr) := by
      unfold f_X9_map
      rw [if_neg c1, if_neg c2]
      show (_, _, f_X5_setRow rr (nI N)) = _
      unfold f_X5_setRow
      rw [setRow_dg 8 N rr hN]
    have em : f_X10_map nx md rr (nI N) a2 = ((f_X5_rowNumber rr) * 10 + nx, a2, dgR N 8 md, dgR N 8 rr) := by
      unfold f_X10_map
      rw [in_0_76543210, if_neg c4]
      dsimp only [lt]
      rw [if_neg c3, isH, if_neg q2, (readRow_iff hN md).2, map_copy, map_row, row_eq, Int32.mul_comm 10]
    rw [ex, em]
    refine ⟨okm, rfl, rfl, rfl, ⟨hw, hg, dgR_tl hr, dgR_perm q rr, hs_nat q2, hy⟩, hK, hPd, hT, hI0, hI1⟩
  · rw [e1]
    exact ⟨okm, e2.symm, e4, e3, ⟨hw, hg, hr, hp, hn, hy⟩, hK, hPd, hT, hI0, hI1⟩
