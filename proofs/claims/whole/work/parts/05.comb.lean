/-! loops as functions: it (counted), itD (counted down), lb (with a break), lp (with a return inside); their safety itA, itDA, lbA, lpA, and lbS (it comes to its end) -/
def it {V : Type} (f : Nat → V → V) : Nat → Nat → V → V
  | _, 0, v => v
  | j, n + 1, v => it f (j + 1) n (f j v)
def itA {V : Type} (o : Nat → V → Prop) (f : Nat → V → V) : Nat → Nat → V → Prop
  | _, 0, _ => True
  | j, n + 1, v => o j v ∧ itA o f (j + 1) n (f j v)
def itD {V : Type} (f : Nat → V → V) : Nat → V → V
  | 0, v => v
  | n + 1, v => itD f n (f n v)
def itDA {V : Type} (o : Nat → V → Prop) (f : Nat → V → V) : Nat → V → Prop
  | 0, _ => True
  | n + 1, v => o n v ∧ itDA o f n (f n v)
def lb {V : Type} (f : Nat → V → V ⊕ V) : Nat → Nat → V → V
  | _, 0, v => v
  | j, n + 1, v => Sum.elim (fun v' => lb f (j + 1) n v') id (f j v)
def lbA {V : Type} (o : Nat → V → Prop) (f : Nat → V → V ⊕ V) : Nat → Nat → V → Prop
  | _, 0, _ => True
  | j, n + 1, v => o j v ∧ Sum.elim (fun v' => lbA o f (j + 1) n v') (fun _ => True) (f j v)
def lbS {V : Type} (o : Nat → V → Prop) (f : Nat → V → V ⊕ V) : Nat → Nat → V → Prop
  | _, 0, _ => False
  | j, n + 1, v => o j v ∧ Sum.elim (fun v' => lbS o f (j + 1) n v') (fun _ => True) (f j v)
def lp {V U : Type} (f : Nat → V → V ⊕ (V ⊕ U)) : Nat → Nat → V → V ⊕ U
  | _, 0, v => Sum.inl v
  | j, n + 1, v => Sum.elim (fun v' => lp f (j + 1) n v') id (f j v)
def lpA {V U : Type} (o : Nat → V → Prop) (f : Nat → V → V ⊕ (V ⊕ U)) : Nat → Nat → V → Prop
  | _, 0, _ => True
  | j, n + 1, v => o j v ∧ Sum.elim (fun v' => lpA o f (j + 1) n v') (fun _ => True) (f j v)
def lt {α β : Type} (x : α) (f : α → β) : β := f x
theorem lt_c {α β : Type} {x z : α} {f : α → β} (h : x = z) : lt x f = f z := by rw [h]; rfl
theorem it_c {V : Type} {f : Nat → V → V} {j n : Nat} {v w : V} (h : f j v = w) : it f j (n + 1) v = it f (j + 1) n w := by rw [← h]; rfl
theorem itA_c {V : Type} {o : Nat → V → Prop} {f : Nat → V → V} {j n : Nat} {v w : V} (h : f j v = w) (a : itA o f j (n + 1) v) : itA o f (j + 1) n w := by rw [← h]; exact a.2
theorem itD_c {V : Type} {f : Nat → V → V} {n : Nat} {v w : V} (h : f n v = w) : itD f (n + 1) v = itD f n w := by rw [← h]; rfl
theorem itDA_c {V : Type} {o : Nat → V → Prop} {f : Nat → V → V} {n : Nat} {v w : V} (h : f n v = w) (a : itDA o f (n + 1) v) : itDA o f n w := by rw [← h]; exact a.2
theorem lb_s {V : Type} (f : Nat → V → V ⊕ V) (j n : Nat) (v : V) : lb f j (n + 1) v = Sum.elim (fun v' => lb f (j + 1) n v') id (f j v) := rfl
theorem lb_c {V : Type} {f : Nat → V → V ⊕ V} {j n : Nat} {v w : V} (h : f j v = Sum.inl w) : lb f j (n + 1) v = lb f (j + 1) n w := by rw [lb_s, h]; rfl
theorem lb_b {V : Type} {f : Nat → V → V ⊕ V} {j n : Nat} {v w : V} (h : f j v = Sum.inr w) : lb f j (n + 1) v = w := by rw [lb_s, h]; rfl
theorem lbA_c {V : Type} {o : Nat → V → Prop} {f : Nat → V → V ⊕ V} {j n : Nat} {v w : V} (h : f j v = Sum.inl w) (a : lbA o f j (n + 1) v) : lbA o f (j + 1) n w := by
  have b : Sum.elim (fun v' => lbA o f (j + 1) n v') (fun _ => True) (f j v) := a.2
  rw [h] at b
  exact b
theorem lbS_c {V : Type} {o : Nat → V → Prop} {f : Nat → V → V ⊕ V} {j n : Nat} {v w : V} (h : f j v = Sum.inl w) (a : lbS o f j (n + 1) v) : lbS o f (j + 1) n w := by
  have b : Sum.elim (fun v' => lbS o f (j + 1) n v') (fun _ => True) (f j v) := a.2
  rw [h] at b
  exact b
theorem lp_s {V U : Type} (f : Nat → V → V ⊕ (V ⊕ U)) (j n : Nat) (v : V) : lp f j (n + 1) v = Sum.elim (fun v' => lp f (j + 1) n v') id (f j v) := rfl
theorem lp_c {V U : Type} {f : Nat → V → V ⊕ (V ⊕ U)} {j n : Nat} {v w : V} (h : f j v = Sum.inl w) : lp f j (n + 1) v = lp f (j + 1) n w := by rw [lp_s, h]; rfl
theorem lp_b {V U : Type} {f : Nat → V → V ⊕ (V ⊕ U)} {j n : Nat} {v : V} {w : V ⊕ U} (h : f j v = Sum.inr w) : lp f j (n + 1) v = w := by rw [lp_s, h]; rfl
theorem lpA_c {V U : Type} {o : Nat → V → Prop} {f : Nat → V → V ⊕ (V ⊕ U)} {j n : Nat} {v w : V} (h : f j v = Sum.inl w) (a : lpA o f j (n + 1) v) : lpA o f (j + 1) n w := by
  have b : Sum.elim (fun v' => lpA o f (j + 1) n v') (fun _ => True) (f j v) := a.2
  rw [h] at b
  exact b
theorem clamp_lt (x : Int32) : x.toNatClampNeg < 2147483648 := by
  have h := x.toInt_lt
  rw [← Int32.toNat_toInt]
  omega
theorem nI_self {x : Int32} (h : 0 ≤ x) : x = nI x.toNatClampNeg := by
  obtain ⟨j, hj, rfl⟩ := nI_of (x := x) (fun q => by
    have h1 := Int32.le_iff_toInt_le.mp h
    have h2 := Int32.lt_iff_toInt_lt.mp q
    omega)
  rw [nI_clamp hj]
theorem tab_out4 {x : Int32} (h0 : ¬ x = 0) (h1 : ¬ x = 1) (h2 : ¬ x = 2) (h3 : ¬ x = 3) : x.toInt < (0 : Int) ∨ (3 : Int) < x.toInt := by
  have a0 := lv_neT (a := 0) h0 (by decide)
  have a1 := lv_neT (a := 1) h1 (by decide)
  have a2 := lv_neT (a := 2) h2 (by decide)
  have a3 := lv_neT (a := 3) h3 (by decide)
  omega
theorem tab_out5 {x : Int32} (h0 : ¬ x = 0) (h1 : ¬ x = 1) (h2 : ¬ x = 2) (h3 : ¬ x = 3) (h4 : ¬ x = 4) : x.toInt < (0 : Int) ∨ (4 : Int) < x.toInt := by
  have a0 := lv_neT (a := 0) h0 (by decide)
  have a1 := lv_neT (a := 1) h1 (by decide)
  have a2 := lv_neT (a := 2) h2 (by decide)
  have a3 := lv_neT (a := 3) h3 (by decide)
  have a4 := lv_neT (a := 4) h4 (by decide)
  omega
theorem tab_out6 {x : Int32} (h0 : ¬ x = 0) (h1 : ¬ x = 1) (h2 : ¬ x = 2) (h3 : ¬ x = 3) (h4 : ¬ x = 4) (h5 : ¬ x = 5) : x.toInt < (0 : Int) ∨ (5 : Int) < x.toInt := by
  have a0 := lv_neT (a := 0) h0 (by decide)
  have a1 := lv_neT (a := 1) h1 (by decide)
  have a2 := lv_neT (a := 2) h2 (by decide)
  have a3 := lv_neT (a := 3) h3 (by decide)
  have a4 := lv_neT (a := 4) h4 (by decide)
  have a5 := lv_neT (a := 5) h5 (by decide)
  omega
theorem tab_out8 {x : Int32} (h0 : ¬ x = 0) (h1 : ¬ x = 1) (h2 : ¬ x = 2) (h3 : ¬ x = 3) (h4 : ¬ x = 4) (h5 : ¬ x = 5) (h6 : ¬ x = 6) (h7 : ¬ x = 7) : x.toInt < (0 : Int) ∨ (7 : Int) < x.toInt := by
  have a0 := lv_neT (a := 0) h0 (by decide)
  have a1 := lv_neT (a := 1) h1 (by decide)
  have a2 := lv_neT (a := 2) h2 (by decide)
  have a3 := lv_neT (a := 3) h3 (by decide)
  have a4 := lv_neT (a := 4) h4 (by decide)
  have a5 := lv_neT (a := 5) h5 (by decide)
  have a6 := lv_neT (a := 6) h6 (by decide)
  have a7 := lv_neT (a := 7) h7 (by decide)
  omega
theorem tab_out26 {x : Int32} (h0 : ¬ x = 0) (h1 : ¬ x = 1) (h2 : ¬ x = 2) (h3 : ¬ x = 3) (h4 : ¬ x = 4) (h5 : ¬ x = 5) (h6 : ¬ x = 6) (h7 : ¬ x = 7) (h8 : ¬ x = 8) (h9 : ¬ x = 9) (h10 : ¬ x = 10) (h11 : ¬ x = 11) (h12 : ¬ x = 12) (h13 : ¬ x = 13) (h14 : ¬ x = 14) (h15 : ¬ x = 15) (h16 : ¬ x = 16) (h17 : ¬ x = 17) (h18 : ¬ x = 18) (h19 : ¬ x = 19) (h20 : ¬ x = 20) (h21 : ¬ x = 21) (h22 : ¬ x = 22) (h23 : ¬ x = 23) (h24 : ¬ x = 24) (h25 : ¬ x = 25) : x.toInt < (0 : Int) ∨ (25 : Int) < x.toInt := by
  have a0 := lv_neT (a := 0) h0 (by decide)
  have a1 := lv_neT (a := 1) h1 (by decide)
  have a2 := lv_neT (a := 2) h2 (by decide)
  have a3 := lv_neT (a := 3) h3 (by decide)
  have a4 := lv_neT (a := 4) h4 (by decide)
  have a5 := lv_neT (a := 5) h5 (by decide)
  have a6 := lv_neT (a := 6) h6 (by decide)
  have a7 := lv_neT (a := 7) h7 (by decide)
  have a8 := lv_neT (a := 8) h8 (by decide)
  have a9 := lv_neT (a := 9) h9 (by decide)
  have a10 := lv_neT (a := 10) h10 (by decide)
  have a11 := lv_neT (a := 11) h11 (by decide)
  have a12 := lv_neT (a := 12) h12 (by decide)
  have a13 := lv_neT (a := 13) h13 (by decide)
  have a14 := lv_neT (a := 14) h14 (by decide)
  have a15 := lv_neT (a := 15) h15 (by decide)
  have a16 := lv_neT (a := 16) h16 (by decide)
  have a17 := lv_neT (a := 17) h17 (by decide)
  have a18 := lv_neT (a := 18) h18 (by decide)
  have a19 := lv_neT (a := 19) h19 (by decide)
  have a20 := lv_neT (a := 20) h20 (by decide)
  have a21 := lv_neT (a := 21) h21 (by decide)
  have a22 := lv_neT (a := 22) h22 (by decide)
  have a23 := lv_neT (a := 23) h23 (by decide)
  have a24 := lv_neT (a := 24) h24 (by decide)
  have a25 := lv_neT (a := 25) h25 (by decide)
  omega
