/-! SAID: a stack of bits -/
theorem nI_inj' {a b : Int32} (h : a.toBitVec.toNat = b.toBitVec.toNat) : a = b := by
  have : a.toBitVec = b.toBitVec := BitVec.eq_of_toNat_eq h
  exact Int32.toBitVec_inj.mp this
theorem nI_bv {n : Nat} (h : n < 2 ^ 32) : (nI n).toBitVec.toNat = n := by
  show (BitVec.ofNat 32 n).toNat = n
  rw [BitVec.toNat_ofNat]
  exact Nat.mod_eq_of_lt h
theorem nat_xor1 (x : Nat) (b : Bool) : (2 * x + b.toNat) ^^^ 1 = 2 * x + (!b).toNat := by
  apply Nat.eq_of_testBit_eq
  intro i
  rw [Nat.testBit_xor]
  cases i with
  | zero => cases b <;> simp [Nat.testBit_zero, Nat.add_mod]
  | succ i => cases b <;> simp [Nat.testBit_succ, Nat.add_div, Nat.mul_div_cancel_left]
theorem bit_not {x : Nat} (hx : x < 2 ^ 30) (b : Bool) : nI (2 * x + b.toNat) ^^^ nI 1 = nI (2 * x + (!b).toNat) := by
  have hb : b.toNat ≤ 1 := Bool.toNat_le b
  have hb2 : (!b).toNat ≤ 1 := Bool.toNat_le _
  apply nI_inj'
  rw [Int32.toBitVec_xor, BitVec.toNat_xor, nI_bv (by omega), nI_bv (by omega), nI_bv (by omega)]
  exact nat_xor1 x b
theorem nat_and1 (x : Nat) (b : Bool) : (2 * x + b.toNat) &&& 1 = b.toNat := by
  rw [Nat.and_one_is_mod]
  cases b <;> simp [Nat.add_mod]
theorem nat_or1 (x : Nat) (b : Bool) : (2 * x) ||| b.toNat = 2 * x + b.toNat := by
  cases b with
  | false => simp
  | true =>
    apply Nat.eq_of_testBit_eq
    intro i
    rw [Nat.testBit_or]
    cases i with
    | zero => simp [Nat.testBit_zero, Nat.add_mod]
    | succ i => simp [Nat.testBit_succ, Nat.add_div, Nat.mul_div_cancel_left]
theorem bit_low {x : Nat} (hx : x < 2 ^ 30) (b : Bool) : nI (2 * x + b.toNat) &&& nI 1 = nI b.toNat := by
  have hb : b.toNat ≤ 1 := Bool.toNat_le b
  apply nI_inj'
  rw [Int32.toBitVec_and, BitVec.toNat_and, nI_bv (by omega), nI_bv (by omega), nI_bv (by omega)]
  exact nat_and1 x b
theorem bit_shl {x : Nat} (hx : x < 2 ^ 30) : nI x <<< nI 1 = nI (2 * x) := by
  apply nI_inj'
  rw [Int32.toBitVec_shiftLeft, nI_bv (by omega)]
  rw [show (nI 1).toBitVec.smod 32 = 1#32 by decide]
  rw [BitVec.shiftLeft_eq', BitVec.toNat_shiftLeft, nI_bv (by omega)]
  rw [show (1#32).toNat = 1 by decide, Nat.shiftLeft_eq]
  omega
theorem bit_push {x : Nat} (hx : x < 2 ^ 30) (b : Bool) : (nI x <<< nI 1) ||| nI b.toNat = nI (2 * x + b.toNat) := by
  have hb : b.toNat ≤ 1 := Bool.toNat_le b
  rw [bit_shl hx]
  apply nI_inj'
  rw [Int32.toBitVec_or, BitVec.toNat_or, nI_bv (by omega), nI_bv (by omega), nI_bv (by omega)]
  exact nat_or1 x b
theorem bit_ushr {n : Nat} (hn : n < 2 ^ 31) : ((nI n).toUInt32 >>> ((nI 1).toUInt32 &&& Int32.toUInt32 31)).toInt32 = nI (n / 2) := by
  apply nI_inj'
  have h1 : ((nI 1).toUInt32 &&& Int32.toUInt32 31) = 1 := by decide
  rw [h1]
  show ((nI n).toUInt32 >>> 1).toBitVec.toNat = _
  rw [UInt32.toBitVec_shiftRight]
  rw [show ((1 : UInt32).toBitVec % 32) = 1#32 by decide, BitVec.ushiftRight_eq', BitVec.toNat_ushiftRight]
  show (nI n).toBitVec.toNat >>> _ = _
  rw [nI_bv (by omega), nI_bv (by omega), show (1#32).toNat = 1 by decide, Nat.shiftRight_eq_div_pow]
theorem bit_or {x : Nat} (hx : x < 2 ^ 29) (b c : Bool) : ((nI (2 * (2 * x + b.toNat) + c.toNat)).toUInt32 >>> ((nI 1).toUInt32 &&& Int32.toUInt32 31)).toInt32 ||| nI c.toNat = nI (2 * x + (b || c).toNat) := by
  have hb : b.toNat ≤ 1 := Bool.toNat_le b
  have hc : c.toNat ≤ 1 := Bool.toNat_le c
  have hbc : (b || c).toNat ≤ 1 := Bool.toNat_le _
  rw [bit_ushr (by omega), show (2 * (2 * x + b.toNat) + c.toNat) / 2 = 2 * x + b.toNat by omega]
  apply nI_inj'
  rw [Int32.toBitVec_or, BitVec.toNat_or, nI_bv (by omega), nI_bv (by omega), nI_bv (by omega)]
  rw [← nat_or1 x b, Nat.or_assoc, ← nat_or1 x (b || c)]
  congr 1
  cases b <;> cases c <;> rfl
theorem nat_odd (x : Nat) : (2 * x + 1) &&& 4294967294 = (2 * x) &&& 4294967294 := by
  apply Nat.eq_of_testBit_eq
  intro i
  rw [Nat.testBit_and, Nat.testBit_and]
  cases i with
  | zero => simp [Nat.testBit_zero, Nat.add_mod]
  | succ i => simp [Nat.testBit_succ, Nat.add_div, Nat.mul_div_cancel_left]
theorem nat_clr {x : Nat} (hx : x < 2 ^ 31) (b : Bool) : (2 * x + b.toNat) &&& 4294967294 = 2 * x := by
  have h : (2 * x + b.toNat) &&& 4294967294 = 2 * (x &&& 2147483647) := by
    apply Nat.eq_of_testBit_eq
    intro i
    rw [Nat.testBit_and]
    cases i with
    | zero => simp [Nat.testBit_zero]
    | succ i =>
      rw [Nat.testBit_succ, Nat.testBit_succ, Nat.testBit_succ]
      rw [show (2 * x + b.toNat) / 2 = x by cases b <;> simp <;> omega, show 4294967294 / 2 = 2147483647 by decide, show 2 * (x &&& 2147483647) / 2 = (x &&& 2147483647) by omega, Nat.testBit_and]
  rw [h, show (2147483647 : Nat) = 2 ^ 31 - 1 by decide, Nat.and_two_pow_sub_one_eq_mod, Nat.mod_eq_of_lt hx]
theorem bit_and {x : Nat} (hx : x < 2 ^ 29) (b c : Bool) : ((nI (2 * (2 * x + b.toNat) + c.toNat)).toUInt32 >>> ((nI 1).toUInt32 &&& Int32.toUInt32 31)).toInt32 &&& (nI c.toNat ||| (-2)) = nI (2 * x + (b && c).toNat) := by
  have hb : b.toNat ≤ 1 := Bool.toNat_le b
  have hc : c.toNat ≤ 1 := Bool.toNat_le c
  rw [bit_ushr (by omega), show (2 * (2 * x + b.toNat) + c.toNat) / 2 = 2 * x + b.toNat by omega]
  cases c with
  | true =>
    rw [show (nI (true.toNat) ||| (-2 : Int32)) = -1 by decide, Bool.and_true]
    exact Int32.and_neg_one
  | false =>
    rw [show (nI (false.toNat) ||| (-2 : Int32)) = -2 by decide, Bool.and_false]
    apply nI_inj'
    rw [Int32.toBitVec_and, BitVec.toNat_and, nI_bv (by omega), show (-2 : Int32).toBitVec.toNat = 4294967294 by decide, nat_clr (by omega)]
    rw [nI_bv (by simp; omega)]
    simp
