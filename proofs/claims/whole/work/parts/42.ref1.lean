/-! THE REFERENCE'S SMALL METHODS -/
theorem n_31 {k : Nat} (h : k < 32) : nI k &&& nI 31 = nI k := by
  have : ∀ k : Fin 32, nI k.val &&& nI 31 = nI k.val := by decide +kernel
  exact this ⟨k, h⟩
theorem xb_0 (b : Bool) : decide (x_b b = nI 0) = !b := by cases b <;> rfl
theorem xb_1 (b : Bool) : decide (x_b b = nI 1) = b := by cases b <;> rfl
/-- the set of those that P holds of -/
def mkN (P : Nat → Bool) (m : Nat) : Nat := x_it (fun k s => cond (P k) (s ||| (1 <<< k)) s) 0 m 0
def has_ (s : Int32) (k : Nat) : Bool := decide ((s >>> nI k) &&& nI 1 = nI 1)
def op_ (n : Nat → Int32) (k : Nat) : Bool := decide (nI 0 < n (103 + k))
def ol_ (n : Nat → Int32) (j k : Nat) : Bool := decide (n (115 + k) < n (115 + j)) || (decide (n (115 + j) = n (115 + k)) && decide (j < k))
def sum_ (n : Nat → Int32) (b m : Nat) (h : Int32) : Int32 := x_it (fun k s => if n (b + k) = h then s + n (103 + k) else s) 0 m (nI 0)
def open_ (n : Nat → Int32) (m : Nat) (h : Int32) : Nat := mkN (fun k => op_ n k && decide (n (79 + k) = h)) m
def older_ (n : Nat → Int32) (m j : Nat) : Nat := mkN (fun k => op_ n k && (decide (n (79 + k) = n (79 + j)) && ol_ n k j)) m
def left_ (n : Nat → Int32) (x : Nat) : Int32 := x_it (fun k t => cond (x.testBit k) (t + n (103 + k)) t) 0 12 (nI 0)
def broke_ (n : Nat → Int32) (m h : Nat) : Bool := decide (n (73 + h) < sum_ n 79 m (nI h))
/-- how many: by taking the lowest away -/
def popF : Nat → Nat → Nat
  | 0, _ => 0
  | f + 1, x => if x = 0 then 0 else popF f (x &&& (x - 1)) + 1
def zF : Nat → Nat → Bool
  | 0, x => decide (x = 0)
  | f + 1, x => decide (x = 0) || zF f (x &&& (x - 1))
theorem nI_and {a b : Nat} (ha : a < 2 ^ 31) (hb : b < 2 ^ 31) : nI a &&& nI b = nI (a &&& b) := by
  have h1 : a &&& b < 2 ^ 31 := Nat.lt_of_le_of_lt Nat.and_le_left ha
  apply Int32.toBitVec_inj.mp
  simp only [nI, Int32.toBitVec_and, Int32.toBitVec_ofNat']
  apply BitVec.eq_of_toNat_eq
  simp only [BitVec.toNat_and, BitVec.toNat_ofNat]
  rw [Nat.mod_eq_of_lt (by omega), Nat.mod_eq_of_lt (by omega), Nat.mod_eq_of_lt (by omega)]
theorem nI_or {a b : Nat} (ha : a < 2 ^ 31) (hb : b < 2 ^ 31) : nI a ||| nI b = nI (a ||| b) := by
  have h1 : a ||| b < 2 ^ 31 := Nat.or_lt_two_pow ha hb
  apply Int32.toBitVec_inj.mp
  simp only [nI, Int32.toBitVec_or, Int32.toBitVec_ofNat']
  apply BitVec.eq_of_toNat_eq
  simp only [BitVec.toNat_or, BitVec.toNat_ofNat]
  rw [Nat.mod_eq_of_lt (by omega), Nat.mod_eq_of_lt (by omega), Nat.mod_eq_of_lt (by omega)]
theorem nI_shl {k : Nat} (h : k < 31) : nI 1 <<< nI k = nI (1 <<< k) := by
  have : ∀ k : Fin 31, nI 1 <<< nI k.val = nI (1 <<< k.val) := by decide +kernel
  exact this ⟨k, h⟩
theorem shl_lt {k : Nat} : 1 <<< k < 2 ^ (k + 1) := by
  rw [Nat.one_shiftLeft, Nat.pow_succ]
  have := Nat.two_pow_pos k
  omega
theorem mkN_lt (P : Nat → Bool) (m : Nat) : mkN P m < 2 ^ m := by
  have := x_it_inv (f := fun k s => cond (P k) (s ||| (1 <<< k)) s) (fun k s => s < 2 ^ k) m 0 0 (by decide) (fun j s _ _ h => by
    have h1 : s < 2 ^ (j + 1) := by rw [Nat.pow_succ]; omega
    cases P j with
    | false => exact h1
    | true => exact Nat.or_lt_two_pow h1 shl_lt)
  rwa [Nat.zero_add] at this
theorem mkN_succ (P : Nat → Bool) (m : Nat) : mkN P (m + 1) = cond (P m) (mkN P m ||| (1 <<< m)) (mkN P m) := by
  unfold mkN
  rw [x_it_succ, Nat.zero_add]
theorem mk_eq (P : Nat → Bool) : ∀ (m : Nat), m ≤ 31 → x_it (fun k s => cond (P k) (s ||| (nI 1 <<< nI k)) s) 0 m (nI 0) = nI (mkN P m)
  | 0, _ => rfl
  | m + 1, h => by
    have h1 := mkN_lt P m
    have h2 : 2 ^ m ≤ 2 ^ 30 := Nat.pow_le_pow_right (by decide) (by omega)
    have h3 : (1 <<< m) < 2 ^ 31 := Nat.lt_of_lt_of_le shl_lt (Nat.pow_le_pow_right (by decide) h)
    rw [x_it_succ, Nat.zero_add, mk_eq P m (by omega), mkN_succ]
    cases P m with
    | false => rfl
    | true =>
      show nI (mkN P m) ||| nI 1 <<< nI m = nI (mkN P m ||| 1 <<< m)
      rw [nI_shl (by omega), nI_or (by omega) h3]
theorem mkN_bit (P : Nat → Bool) (k : Nat) : ∀ (m : Nat), (mkN P m).testBit k = (decide (k < m) && P k)
  | 0 => by simp [mkN, x_it]
  | m + 1 => by
    rw [mkN_succ]
    have ih := mkN_bit P k m
    by_cases h : k = m
    · subst h
      have h0 : (mkN P k).testBit k = false := by rw [ih]; simp
      cases hp : P k with
      | false => simp [h0]
      | true => simp [Nat.testBit_or, h0, Nat.one_shiftLeft, Nat.testBit_two_pow]
    · have h2 : decide (k < m + 1) = decide (k < m) := by simp; omega
      rw [h2, ← ih]
      cases P m with
      | false => rfl
      | true => simp [Nat.testBit_or, Nat.one_shiftLeft, Nat.testBit_two_pow]; omega
theorem lpM {ρ : Type} (H : Nat → Int32 → ρ) (P : Nat → Bool) (m : Nat) (hm : m ≤ 31) (r : Int32 → ρ) (hs : ∀ k s, k < m → H k s = H (k + 1) (cond (P k) (s ||| (nI 1 <<< nI k)) s)) (he : ∀ s, H m s = r s) : H 0 (nI 0) = r (nI (mkN P m)) := by
  rw [← mk_eq P m hm]
  exact lp0 H _ m r hs he (nI 0)
theorem has_n {x k : Nat} (hx : x < 2 ^ 31) (hk : k < 31) : has_ (nI x) k = x.testBit k := by
  unfold has_
  have h0 : (nI x >>> nI k) = nI (x >>> k) := by
    have h1 : ∀ k : Fin 31, (((nI k.val).toBitVec).smod 32).toNat = k.val := by decide +kernel
    rw [pk_shrN hx (nI k) k (h1 ⟨k, hk⟩), Nat.shiftRight_eq_div_pow]
  have h2 : x >>> k < 2 ^ 31 := Nat.lt_of_le_of_lt (Nat.shiftRight_le x k) hx
  rw [h0, nI_and h2 (by decide), Nat.testBit]
  simp only [deq_e (Nat.lt_of_le_of_lt Nat.and_le_left h2) (show 1 < 2 ^ 31 by decide)]
  have h3 : (x >>> k) &&& 1 = (x >>> k) % 2 := Nat.and_one_is_mod _
  rw [Nat.and_comm 1, h3]
  rcases Nat.mod_two_eq_zero_or_one (x >>> k) with h4 | h4 <;> rw [h4] <;> rfl
theorem nI_z (x : Int32) : x + nI 0 = x := Int32.add_zero x
section RF1
variable (d sl : Nat) (I : Nat → Int32) (w : Int64) (A : Nat → Nat → Int32) (N : Nat → Nat → Int64)
theorem c160 : C d 160 [.ref 0] sl (RH I w A N) = some ([.int (I 0)], sl, RH I w A N) := by
  rw [e160, m160_0]; rfl
theorem c161 : C d 161 [.ref 0] sl (RH I w A N) = some ([.int (nI 0)], sl, RH (up1 I 0 (nI 1)) w A N) := by
  rw [e161, m161_0]; rfl
theorem c165 : C d 165 [.ref 0] sl (RH I w A N) = some ([.int (I 2)], sl, RH (up1 I 2 (nI 0)) w A N) := by
  rw [e165, m165_0]; rfl
theorem c166 (a b c : Int32) : C d 166 [.int a, .int b, .int c] sl (RH I w A N) = some ([.int (x_b (decide (b ≤ a) && decide (a ≤ c)))], sl, RH I w A N) := by
  rw [e166, m166_0]
  by_cases h1 : a < b
  · have : ¬ b ≤ a := Int32.not_le.mpr h1
    simp (disch := omega) only [rt_c, b_some, List.cons_append, List.nil_append, Bool.cond_not, cond_true, cond_false, Bool.cond_decide, nI_add, nI_clamp, xin_n, dle_e, dlt_e, deq_e, xb_0, xb_1, decide_true, decide_false, Bool.not_true, Bool.not_false, Bool.and_true, Bool.true_and, Bool.and_false, Bool.false_and, Bool.true_or, Bool.false_or, Bool.or_true, Bool.or_false, if_true, if_false, up1_s, n_31, Int32.lt_irrefl, h1, this, t166_15_0]
  · have h1' : b ≤ a := Int32.not_lt.mp h1
    by_cases h2 : c < a
    · have : ¬ a ≤ c := Int32.not_le.mpr h2
      simp (disch := omega) only [rt_c, b_some, List.cons_append, List.nil_append, Bool.cond_not, cond_true, cond_false, Bool.cond_decide, nI_add, nI_clamp, xin_n, dle_e, dlt_e, deq_e, xb_0, xb_1, decide_true, decide_false, Bool.not_true, Bool.not_false, Bool.and_true, Bool.true_and, Bool.and_false, Bool.false_and, Bool.true_or, Bool.false_or, Bool.or_true, Bool.or_false, if_true, if_false, up1_s, n_31, Int32.lt_irrefl, h1, h1', h2, this, t166_15_0]
    · have h2' : a ≤ c := Int32.not_lt.mp h2
      simp (disch := omega) only [rt_c, b_some, List.cons_append, List.nil_append, Bool.cond_not, cond_true, cond_false, Bool.cond_decide, nI_add, nI_clamp, xin_n, dle_e, dlt_e, deq_e, xb_0, xb_1, decide_true, decide_false, Bool.not_true, Bool.not_false, Bool.and_true, Bool.true_and, Bool.and_false, Bool.false_and, Bool.true_or, Bool.false_or, Bool.or_true, Bool.or_false, if_true, if_false, up1_s, n_31, Int32.lt_irrefl, h1, h1', h2, h2', t166_15_1]
theorem c167 (a : Int32) {k : Nat} (hk : k < 32) : C d 167 [.int a, .int (nI k)] sl (RH I w A N) = some ([.int (x_b (has_ a k))], sl, RH I w A N) := by
  rw [e167, m167_0]
  unfold has_
  by_cases h1 : (a >>> nI k) &&& nI 1 = nI 1 <;> simp (disch := omega) only [rt_c, b_some, List.cons_append, List.nil_append, Bool.cond_not, cond_true, cond_false, Bool.cond_decide, nI_add, nI_clamp, xin_n, dle_e, dlt_e, deq_e, xb_0, xb_1, decide_true, decide_false, Bool.not_true, Bool.not_false, Bool.and_true, Bool.true_and, Bool.and_false, Bool.false_and, Bool.true_or, Bool.false_or, Bool.or_true, Bool.or_false, if_true, if_false, up1_s, n_31, Int32.lt_irrefl, h1, t167_14_0, t167_14_1]
theorem c168 {f : Nat} : ∀ {x : Nat} (a c : Int32), x < 2 ^ 31 → zF f x = true → rt 168 (R d 168 (4, [some (.int a), some (.int c), some (.int (nI x))], [], sl, RH I w A N)) = some ([.int (c + nI (popF f x))], sl, RH I w A N) := by
  induction f with
  | zero =>
    intro x a c hx hz
    have h0 : x = 0 := of_decide_eq_true hz
    subst h0
    rw [m168_4]
    simp (disch := omega) only [rt_c, b_some, List.cons_append, List.nil_append, Bool.cond_not, cond_true, cond_false, Bool.cond_decide, nI_add, nI_clamp, xin_n, dle_e, dlt_e, deq_e, xb_0, xb_1, decide_true, decide_false, Bool.not_true, Bool.not_false, Bool.and_true, Bool.true_and, Bool.and_false, Bool.false_and, Bool.true_or, Bool.false_or, Bool.or_true, Bool.or_false, if_true, if_false, up1_s, n_31, Int32.lt_irrefl, popF, t168_21, nI_z]
  | succ f ih =>
    intro x a c hx hz
    rw [m168_4]
    by_cases h0 : x = 0
    · subst h0
      simp (disch := omega) only [rt_c, b_some, List.cons_append, List.nil_append, Bool.cond_not, cond_true, cond_false, Bool.cond_decide, nI_add, nI_clamp, xin_n, dle_e, dlt_e, deq_e, xb_0, xb_1, decide_true, decide_false, Bool.not_true, Bool.not_false, Bool.and_true, Bool.true_and, Bool.and_false, Bool.false_and, Bool.true_or, Bool.false_or, Bool.or_true, Bool.or_false, if_true, if_false, up1_s, n_31, Int32.lt_irrefl, popF, t168_21, nI_z]
    · have h1 : nI x - nI 1 = nI (x - 1) := by
        have := nI_pred (x - 1)
        rwa [show x - 1 + 1 = x by omega] at this
      have h2 : x &&& (x - 1) < 2 ^ 31 := Nat.lt_of_le_of_lt Nat.and_le_left hx
      have hz' : zF f (x &&& (x - 1)) = true := by
        unfold zF at hz
        simpa [h0] using hz
      have h3 := ih a (c + nI 1) h2 hz'
      simp (disch := omega) only [rt_c, b_some, List.cons_append, List.nil_append, Bool.cond_not, cond_true, cond_false, Bool.cond_decide, nI_add, nI_clamp, xin_n, dle_e, dlt_e, deq_e, xb_0, xb_1, decide_true, decide_false, Bool.not_true, Bool.not_false, Bool.and_true, Bool.true_and, Bool.and_false, Bool.false_and, Bool.true_or, Bool.false_or, Bool.or_true, Bool.or_false, if_true, if_false, up1_s, n_31, Int32.lt_irrefl, h0, h1]
      rw [nI_and hx (by omega), h3]
      simp only [popF, h0, if_false]
      rw [← nI_add, Int32.add_assoc, Int32.add_comm (nI 1)]
set_option maxRecDepth 100000 in
theorem z12 : ∀ x : Fin 4096, zF 12 x.val = true := by decide +kernel
theorem c168' {x : Nat} (hx : x < 4096) : C d 168 [.int (nI x)] sl (RH I w A N) = some ([.int (nI (popF 12 x))], sl, RH I w A N) := by
  rw [e168, m168_0, c168 d sl I w A N _ _ (by omega) (z12 ⟨x, hx⟩), show nI 0 = 0 from rfl, Int32.zero_add]
theorem c169 (a b : Int32) : C d 169 [.int a, .int b] sl (RH I w A N) = some ([.int (x_min a b)], sl, RH I w A N) := by
  rw [e169, m169_0]
  unfold x_min
  by_cases h1 : b ≤ a
  · by_cases h2 : b < a
    · simp (disch := omega) only [rt_c, b_some, List.cons_append, List.nil_append, Bool.cond_not, cond_true, cond_false, Bool.cond_decide, nI_add, nI_clamp, xin_n, dle_e, dlt_e, deq_e, xb_0, xb_1, decide_true, decide_false, Bool.not_true, Bool.not_false, Bool.and_true, Bool.true_and, Bool.and_false, Bool.false_and, Bool.true_or, Bool.false_or, Bool.or_true, Bool.or_false, if_true, if_false, up1_s, n_31, Int32.lt_irrefl, h1, h2, t169_10]
    · have h3 : a = b := Int32.le_antisymm (Int32.not_lt.mp h2) h1
      subst h3
      simp (disch := omega) only [rt_c, b_some, List.cons_append, List.nil_append, Bool.cond_not, cond_true, cond_false, Bool.cond_decide, nI_add, nI_clamp, xin_n, dle_e, dlt_e, deq_e, xb_0, xb_1, decide_true, decide_false, Bool.not_true, Bool.not_false, Bool.and_true, Bool.true_and, Bool.and_false, Bool.false_and, Bool.true_or, Bool.false_or, Bool.or_true, Bool.or_false, if_true, if_false, up1_s, n_31, Int32.lt_irrefl, h1, h2, t169_10]
  · have : ¬ b < a := fun h => h1 (Int32.le_of_lt h)
    simp (disch := omega) only [rt_c, b_some, List.cons_append, List.nil_append, Bool.cond_not, cond_true, cond_false, Bool.cond_decide, nI_add, nI_clamp, xin_n, dle_e, dlt_e, deq_e, xb_0, xb_1, decide_true, decide_false, Bool.not_true, Bool.not_false, Bool.and_true, Bool.true_and, Bool.and_false, Bool.false_and, Bool.true_or, Bool.false_or, Bool.or_true, Bool.or_false, if_true, if_false, up1_s, n_31, Int32.lt_irrefl, h1, this, t169_10]
theorem c196 (h : Int32) : C (d + 1) 196 [.ref 0, .int h] sl (RH I w A N) = some ([.int (x_b (decide (nI 0 ≤ h) && decide (h ≤ A 2 0 - nI 1)))], sl, RH I w A N) := by
  rw [e196, m196_0, c166]
  simp (disch := omega) only [rt_c, b_some, List.cons_append, List.nil_append, Bool.cond_not, cond_true, cond_false, Bool.cond_decide, nI_add, nI_clamp, xin_n, dle_e, dlt_e, deq_e, xb_0, xb_1, decide_true, decide_false, Bool.not_true, Bool.not_false, Bool.and_true, Bool.true_and, Bool.and_false, Bool.false_and, Bool.true_or, Bool.false_or, Bool.or_true, Bool.or_false, if_true, if_false, up1_s, n_31, Int32.lt_irrefl, m196_13, t196_13]
theorem c197 (h : Int32) : C (d + 1) 197 [.ref 0, .int h] sl (RH I w A N) = some ([.int (x_b (decide (nI 0 ≤ h) && decide (h ≤ A 2 72 - nI 1)))], sl, RH I w A N) := by
  rw [e197, m197_0, c166]
  simp (disch := omega) only [rt_c, b_some, List.cons_append, List.nil_append, Bool.cond_not, cond_true, cond_false, Bool.cond_decide, nI_add, nI_clamp, xin_n, dle_e, dlt_e, deq_e, xb_0, xb_1, decide_true, decide_false, Bool.not_true, Bool.not_false, Bool.and_true, Bool.true_and, Bool.and_false, Bool.false_and, Bool.true_or, Bool.false_or, Bool.or_true, Bool.or_false, if_true, if_false, up1_s, n_31, Int32.lt_irrefl, m197_14, t197_14]
theorem c198 {k : Nat} (hk : k < 12) : C d 198 [.ref 0, .int (nI k)] sl (RH I w A N) = some ([.int (x_b (op_ (A 2) k))], sl, RH I w A N) := by
  rw [e198, m198_0]
  unfold op_
  by_cases h1 : A 2 (103 + k) ≤ nI 0
  · have : ¬ nI 0 < A 2 (103 + k) := Int32.not_lt.mpr h1
    simp (disch := omega) only [rt_c, b_some, List.cons_append, List.nil_append, Bool.cond_not, cond_true, cond_false, Bool.cond_decide, nI_add, nI_clamp, xin_n, dle_e, dlt_e, deq_e, xb_0, xb_1, decide_true, decide_false, Bool.not_true, Bool.not_false, Bool.and_true, Bool.true_and, Bool.and_false, Bool.false_and, Bool.true_or, Bool.false_or, Bool.or_true, Bool.or_false, if_true, if_false, up1_s, n_31, Int32.lt_irrefl, h1, this, t198_17_0]
  · have : nI 0 < A 2 (103 + k) := Int32.not_le.mp h1
    simp (disch := omega) only [rt_c, b_some, List.cons_append, List.nil_append, Bool.cond_not, cond_true, cond_false, Bool.cond_decide, nI_add, nI_clamp, xin_n, dle_e, dlt_e, deq_e, xb_0, xb_1, decide_true, decide_false, Bool.not_true, Bool.not_false, Bool.and_true, Bool.true_and, Bool.and_false, Bool.false_and, Bool.true_or, Bool.false_or, Bool.or_true, Bool.or_false, if_true, if_false, up1_s, n_31, Int32.lt_irrefl, h1, this, t198_17_1]
theorem c199 {j k : Nat} (hj : j < 12) (hk : k < 12) : C d 199 [.ref 0, .int (nI j), .int (nI k)] sl (RH I w A N) = some ([.int (x_b (ol_ (A 2) j k))], sl, RH I w A N) := by
  rw [e199, m199_0]
  unfold ol_
  by_cases h1 : A 2 (115 + k) < A 2 (115 + j)
  · simp (disch := omega) only [rt_c, b_some, List.cons_append, List.nil_append, Bool.cond_not, cond_true, cond_false, Bool.cond_decide, nI_add, nI_clamp, xin_n, dle_e, dlt_e, deq_e, xb_0, xb_1, decide_true, decide_false, Bool.not_true, Bool.not_false, Bool.and_true, Bool.true_and, Bool.and_false, Bool.false_and, Bool.true_or, Bool.false_or, Bool.or_true, Bool.or_false, if_true, if_false, up1_s, n_31, Int32.lt_irrefl, h1, t199_52_1, Bool.true_or]
  · by_cases h2 : A 2 (115 + j) = A 2 (115 + k)
    · by_cases h3 : k ≤ j
      · have h4 : ¬ j < k := by omega
        simp (disch := omega) only [rt_c, b_some, List.cons_append, List.nil_append, Bool.cond_not, cond_true, cond_false, Bool.cond_decide, nI_add, nI_clamp, xin_n, dle_e, dlt_e, deq_e, xb_0, xb_1, decide_true, decide_false, Bool.not_true, Bool.not_false, Bool.and_true, Bool.true_and, Bool.and_false, Bool.false_and, Bool.true_or, Bool.false_or, Bool.or_true, Bool.or_false, if_true, if_false, up1_s, n_31, Int32.lt_irrefl, h1, h2, h3, h4, t199_52_0, Bool.false_or]
      · have h4 : j < k := by omega
        simp (disch := omega) only [rt_c, b_some, List.cons_append, List.nil_append, Bool.cond_not, cond_true, cond_false, Bool.cond_decide, nI_add, nI_clamp, xin_n, dle_e, dlt_e, deq_e, xb_0, xb_1, decide_true, decide_false, Bool.not_true, Bool.not_false, Bool.and_true, Bool.true_and, Bool.and_false, Bool.false_and, Bool.true_or, Bool.false_or, Bool.or_true, Bool.or_false, if_true, if_false, up1_s, n_31, Int32.lt_irrefl, h1, h2, h3, h4, t199_52_1, Bool.false_or]
    · simp (disch := omega) only [rt_c, b_some, List.cons_append, List.nil_append, Bool.cond_not, cond_true, cond_false, Bool.cond_decide, nI_add, nI_clamp, xin_n, dle_e, dlt_e, deq_e, xb_0, xb_1, decide_true, decide_false, Bool.not_true, Bool.not_false, Bool.and_true, Bool.true_and, Bool.and_false, Bool.false_and, Bool.true_or, Bool.false_or, Bool.or_true, Bool.or_false, if_true, if_false, up1_s, n_31, Int32.lt_irrefl, h1, h2, t199_52_0, Bool.false_or]
theorem c200 {b m : Nat} (hb : b ≤ 200) (hm : m ≤ 12) (hD : A 2 72 = nI m) (h : Int32) : C d 200 [.ref 0, .int (nI b), .int h] sl (RH I w A N) = some ([.int (sum_ (A 2) b m h)], sl, RH I w A N) := by
  rw [e200, m200_0]
  refine lp0 (fun k s => rt 200 (R d 200 (5, [some (.ref 0), some (.int (nI b)), some (.int h), some (.int s), some (.int (nI k))], [], sl, RH I w A N))) (fun k s => if A 2 (b + k) = h then s + A 2 (103 + k) else s) m (fun s => some ([.int s], sl, RH I w A N)) ?_ ?_ (nI 0)
  · intro k s hk
    have h1 : ¬ m ≤ k := by omega
    rw [m200_5]
    simp (disch := omega) only [rt_c, b_some, List.cons_append, List.nil_append, Bool.cond_not, cond_true, cond_false, Bool.cond_decide, nI_add, nI_clamp, xin_n, dle_e, dlt_e, deq_e, xb_0, xb_1, decide_true, decide_false, Bool.not_true, Bool.not_false, Bool.and_true, Bool.true_and, Bool.and_false, Bool.false_and, Bool.true_or, Bool.false_or, Bool.or_true, Bool.or_false, if_true, if_false, up1_s, n_31, Int32.lt_irrefl, hD, h1]
    by_cases h2 : A 2 (b + k) = h <;> simp (disch := omega) only [rt_c, b_some, List.cons_append, List.nil_append, Bool.cond_not, cond_true, cond_false, Bool.cond_decide, nI_add, nI_clamp, xin_n, dle_e, dlt_e, deq_e, xb_0, xb_1, decide_true, decide_false, Bool.not_true, Bool.not_false, Bool.and_true, Bool.true_and, Bool.and_false, Bool.false_and, Bool.true_or, Bool.false_or, Bool.or_true, Bool.or_false, if_true, if_false, up1_s, n_31, Int32.lt_irrefl, h2]
  · intro s
    rw [m200_5]
    simp (disch := omega) only [rt_c, b_some, List.cons_append, List.nil_append, Bool.cond_not, cond_true, cond_false, Bool.cond_decide, nI_add, nI_clamp, xin_n, dle_e, dlt_e, deq_e, xb_0, xb_1, decide_true, decide_false, Bool.not_true, Bool.not_false, Bool.and_true, Bool.true_and, Bool.and_false, Bool.false_and, Bool.true_or, Bool.false_or, Bool.or_true, Bool.or_false, if_true, if_false, up1_s, n_31, Int32.lt_irrefl, hD, Nat.le_refl, t200_50]
end RF1
