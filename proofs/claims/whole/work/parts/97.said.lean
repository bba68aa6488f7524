/-! SAID: a stack of bits -/
theorem nI_inj' {a b : Int32} (h : a.toBitVec.toNat = b.toBitVec.toNat) : a = b := by
  have : a.toBitVec = b.toBitVec := BitVec.eq_of_toNat_eq h
  exact Int32.toBitVec_inj.mp this
theorem nI_bv {n : Nat} (h : n < 2 ^ 32) : (nI n).toBitVec.toNat = n := by
  show (BitVec.ofNat 32 n).toNat = n
  rw [BitVec.toNat_ofNat]
  exact Nat.mod_eq_of_lt h
theorem nat_xor1 (x : Nat) (b : Bool) : (2 * x + b.toNat) ^^^ 1 = 2 * x + (!b).toNat := by
  apply Nat.eq_of_testBit_eq
  intro i
  rw [Nat.testBit_xor]
  cases i with
  | zero => cases b <;> simp [Nat.testBit_zero, Nat.add_mod]
  | succ i => cases b <;> simp [Nat.testBit_succ, Nat.add_div, Nat.mul_div_cancel_left]
theorem bit_not {x : Nat} (hx : x < 2 ^ 30) (b : Bool) : nI (2 * x + b.toNat) ^^^ nI 1 = nI (2 * x + (!b).toNat) := by
  have hb : b.toNat ≤ 1 := Bool.toNat_le b
  have hb2 : (!b).toNat ≤ 1 := Bool.toNat_le _
  apply nI_inj'
  rw [Int32.toBitVec_xor, BitVec.toNat_xor, nI_bv (by omega), nI_bv (by omega), nI_bv (by omega)]
  exact nat_xor1 x b
