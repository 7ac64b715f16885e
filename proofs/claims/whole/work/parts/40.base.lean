/-! the relation between the class's values and the reference's -/
def tl (n : Nat) (f : Nat → Int32) : Prop := ∀ k, n ≤ k → f k = 0
def perm8 (r : Nat → Int32) : Prop := (∀ k, k < 8 → ∃ j, j < 8 ∧ r k = nI j) ∧ ∀ a b, a < 8 → b < 8 → r a = r b → a = b
def InvP (w g r : Nat → Int32) (n y : Int32) : Prop := tl 8 w ∧ tl 64 g ∧ tl 8 r ∧ perm8 r ∧ (∃ j, j < 8 ∧ n = nI j) ∧ ∃ j, j ≤ 99 ∧ y = nI j
def InvK (kn ss sc : Nat → Int32) (sn : Int32) : Prop := tl 8 kn ∧ (∀ k, k < 8 → ∃ j, j < 256 ∧ kn k = nI j) ∧ tl 8 ss ∧ (∀ k, k < 8 → ∃ j, j < 256 ∧ ss k = nI j) ∧ tl 8 sc ∧ ∃ j, j ≤ 8 ∧ sn = nI j
/-- the acts that stand in the reference's rows and in the class's are alike where it matters -/
def actsLike (pa : Nat) (pk po pt pm ma mh mo mu : Nat → Int32) : Prop := ∀ k, k < pa → ma k = pk k ∧ (∃ j, j < 5 ∧ pk k = nI j) ∧ mu k = pm k ∧ (¬ pk k = 4 → mh k = po k ∧ ∃ j, j < 8 ∧ po k = nI j) ∧ ((pk k = 2 ∨ pk k = 3) → mo k = pt k ∧ ∃ j, j < 8 ∧ pt k = nI j)
/-- what the reference's reader has in hand in the midst of an act -/
def midLike (ex on ot : Int32) (pa : Nat) (mh mo mu : Nat → Int32) : Prop := (ex = 0 ∨ ex = 1 ∨ ex = 2 ∨ ex = 3 ∨ ex = 4 ∨ ex = 5) ∧ ((ex = 1 ∨ ex = 2 ∨ ex = 3 ∨ ex = 5) → mh pa = on ∧ ∃ j, j < 8 ∧ on = nI j) ∧ (ex = 3 → mo pa = ot ∧ ∃ j, j < 8 ∧ ot = nI j) ∧ (¬ ex = 0 → mu pa = 0)
/-- the class's PAD is what the reference reads of the same text, whatever its rows hold before -/
def RelPad (sg : Int32) (pd pk po pt pm : Nat → Int32) (pa wp ex on ot : Int32) : Prop :=
  ∃ q a : Nat, q ≤ 60 ∧ sg = nI q ∧ a ≤ q ∧ pa = nI a ∧ (ex = 0 ∨ a < q) ∧ (wp = -6 ∨ ∃ j, j < q ∧ wp = nI j) ∧ ∀ mo ma mh mu : Nat → Int32,
    (wp = -6 → ∃ mo' ma' mh' mu' : Nat → Int32, lp (B_X10_fault_9 pd) 0 q ((0 : Int32), (0 : Int32), mo, ma, mh, mu) = Sum.inl (ex, pa, mo', ma', mh', mu') ∧ actsLike a pk po pt pm ma' mh' mo' mu' ∧ midLike ex on ot a mh' mo' mu') ∧
    (¬ wp = -6 → ∃ (ac : Int32) (mo' ma' mh' mu' : Nat → Int32), lp (B_X10_fault_9 pd) 0 q ((0 : Int32), (0 : Int32), mo, ma, mh, mu) = Sum.inr (wp, ac, mo', ma', mh', mu'))
/-- what an IMAGE is in the reference's long row -/
def enc (w g r : Nat → Int32) (i n y : Int32) (kn ss sc : Nat → Int32) (sn : Int32) (k : Nat) : Int32 :=
  if k = 0 then i else if k = 1 then n else if k = 2 then y else if k = 3 then sn else if k < 12 then w (k - 4) else if k < 76 then g (k - 12) else if k < 84 then r (k - 76) else if k < 92 then kn (k - 84) else if k < 100 then ss (k - 92) else sc (k - 100)
def RelI (kp ik : Nat → Int32) (q : Nat) (w g r : Nat → Int32) (i n y : Int32) (kn ss sc : Nat → Int32) (sn fl : Int32) : Prop :=
  tl 8 w ∧ tl 64 g ∧ tl 8 r ∧ tl 8 kn ∧ tl 8 ss ∧ tl 8 sc ∧ ik q = fl ∧ (fl = 0 ∨ fl = 1) ∧ (fl = 1 → InvP w g r n y ∧ InvK kn ss sc sn ∧ ∀ k, k < 108 → kp (120 * q + k) = enc w g r i n y kn ss sc sn k)
def RA (ww : Nat → Int32) (gg : Nat → Int32) (rr : Nat → Int32) (ii : Int32) (nx : Int32) (yr : Int32) (kn : Nat → Int32) (ss : Nat → Int32) (sc : Nat → Int32) (sn : Int32) (sg : Int32) (pd : Nat → Int32) (pk : Nat → Int32) (po : Nat → Int32) (pt : Nat → Int32) (pm : Nat → Int32) (pa : Int32) (wp : Int32) (ex : Int32) (on : Int32) (ot : Int32) (tw : Nat → Int32) (tg : Nat → Int32) (tr : Nat → Int32) (uw : Nat → Int32) (ug : Nat → Int32) (ur : Nat → Int32) (ui : Int32) (un : Int32) (uy : Int32) (uk : Nat → Int32) (us : Nat → Int32) (uc : Nat → Int32) (um : Int32) (uf : Int32) (zw : Nat → Int32) (zg : Nat → Int32) (zr : Nat → Int32) (zi : Int32) (zn : Int32) (zy : Int32) (zk : Nat → Int32) (zs : Nat → Int32) (zc : Nat → Int32) (zm : Int32) (zf : Int32) (kp : Nat → Int32) (ik : Nat → Int32) : Prop :=
  InvP ww gg rr nx yr ∧ InvK kn ss sc sn ∧ RelPad sg pd pk po pt pm pa wp ex on ot ∧ (tl 8 tw ∧ tl 64 tg ∧ tl 8 tr) ∧ RelI kp ik 0 uw ug ur ui un uy uk us uc um uf ∧ RelI kp ik 1 zw zg zr zi zn zy zk zs zc zm zf
