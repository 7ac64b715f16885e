/-! ORDERS: bits -/
theorem ob0 (y : Int32) : (y &&& 1) = 1 ↔ y.toBitVec.getLsbD 0 = true := by
  have e : (y &&& 1).toBitVec.getLsbD 0 = y.toBitVec.getLsbD 0 := by
    rw [Int32.toBitVec_and, BitVec.getLsbD_and, show (1 : Int32).toBitVec.getLsbD 0 = true by decide, Bool.and_true]
  rcases bit_01 y with h | h
  · rw [h] at e ⊢
    rw [← e]
    exact ⟨fun q => absurd q (by decide), fun q => absurd q (by decide)⟩
  · rw [h] at e ⊢
    rw [← e]
    exact ⟨fun _ => by decide, fun _ => rfl⟩
theorem osh : ∀ k : Fin 8, ((nI k.val &&& 31).toBitVec.smod 32).toNat = k.val := by decide +kernel
theorem obit (x : Int32) {k : Nat} (hk : k < 8) : ((x >>> (nI k &&& 31)) &&& 1) = 1 ↔ x.toBitVec.getLsbD k = true := by
  rw [ob0, Int32.toBitVec_shiftRight]
  show (x.toBitVec.sshiftRight ((nI k &&& 31).toBitVec.smod 32).toNat).getLsbD 0 = true ↔ _
  rw [osh ⟨k, hk⟩, BitVec.getLsbD_sshiftRight]
  simp [show k < 32 by omega]
theorem o255 : ∀ k : Fin 8, (255 : Int32).toBitVec.getLsbD k.val = true ∧ (-1 : Int32).toBitVec.getLsbD k.val = true := by decide +kernel
theorem ofree (x y : Int32) {k : Nat} (hk : k < 8) : ((((255 &&& (x ^^^ (-1))) &&& (y ^^^ (-1))) >>> (nI k &&& 31)) &&& 1) = 1 ↔ f_X10_has x (nI k) = 0 ∧ f_X10_has y (nI k) = 0 := by
  rw [has_1, has_1, obit _ hk, obit _ hk, obit _ hk, Int32.toBitVec_and, BitVec.getLsbD_and, Int32.toBitVec_and, BitVec.getLsbD_and, Int32.toBitVec_xor, BitVec.getLsbD_xor, Int32.toBitVec_xor, BitVec.getLsbD_xor, (o255 ⟨k, hk⟩).1, (o255 ⟨k, hk⟩).2]
  cases x.toBitVec.getLsbD k <;> cases y.toBitVec.getLsbD k <;> decide
theorem oset_tab : ∀ s : Fin 256, ∀ k : Fin 8, (nI s.val ||| ((1 : Int32) <<< (nI k.val &&& 31))) = nI (s.val ||| 2 ^ k.val) ∧ s.val ||| 2 ^ k.val < 256 ∧ f_X10_has (nI (s.val ||| 2 ^ k.val)) (nI k.val) = 1 ∧ (f_X10_has (nI s.val) (nI k.val) = 0 → s.val < s.val ||| 2 ^ k.val) := by decide +kernel
theorem oset {s k : Nat} (hs : s < 256) (hk : k < 8) : (nI s ||| ((1 : Int32) <<< (nI k &&& 31))) = nI (s ||| 2 ^ k) ∧ s ||| 2 ^ k < 256 ∧ f_X10_has (nI (s ||| 2 ^ k)) (nI k) = 1 ∧ (f_X10_has (nI s) (nI k) = 0 → s < s ||| 2 ^ k) := oset_tab ⟨s, hs⟩ ⟨k, hk⟩
/-- how many houses are missing -/
def oms (s : Nat) : Nat := (if s.testBit 0 then 0 else 1) + (if s.testBit 1 then 0 else 1) + (if s.testBit 2 then 0 else 1) + (if s.testBit 3 then 0 else 1) + (if s.testBit 4 then 0 else 1) + (if s.testBit 5 then 0 else 1) + (if s.testBit 6 then 0 else 1) + (if s.testBit 7 then 0 else 1)
theorem oms_tab : ∀ s : Fin 256, ∀ k : Fin 8, f_X10_has (nI s.val) (nI k.val) = 0 → oms (s.val ||| 2 ^ k.val) + 1 = oms s.val := by decide +kernel
theorem oms_le : ∀ s : Fin 256, oms s.val ≤ 8 := by decide +kernel
theorem oms_255 : ∀ s : Fin 256, s.val ≠ 255 → 0 < oms s.val := by decide +kernel
theorem o0_tab : ∀ k : Fin 8, ((1 : Int32) <<< (nI k.val &&& 31)) = nI (2 ^ k.val) ∧ ((0 : Int32) ||| ((1 : Int32) <<< (nI k.val &&& 31))) = nI (2 ^ k.val) ∧ 2 ^ k.val < 256 ∧ f_X10_has (nI (2 ^ k.val)) (nI k.val) = 1 ∧ (((255 : Int32) >>> (nI k.val &&& 31)) &&& 1) = 1 ∧ f_X10_has 0 (nI k.val) = 0 := by decide +kernel
