/-! THE REFERENCE'S TABLES AND ACTS -/
section RF2
variable (d sl : Nat) (I : Nat → Int32) (w : Int64) (A : Nat → Nat → Int32) (N : Nat → Nat → Int64)
theorem c201 {m : Nat} (hm : m ≤ 12) (hD : A 2 72 = nI m) (h : Int32) : C (d + 1) 201 [.ref 0, .int h] sl (RH I w A N) = some ([.int (nI (open_ (A 2) m h))], sl, RH I w A N) := by
  rw [e201, m201_0]
  refine lpM (fun k s => rt 201 (R (d + 1) 201 (4, [some (.ref 0), some (.int h), some (.int s), some (.int (nI k))], [], sl, RH I w A N))) (fun k => op_ (A 2) k && decide (A 2 (79 + k) = h)) m (by omega) (fun s => some ([.int s], sl, RH I w A N)) ?_ ?_
  · intro k s hk
    have h1 : ¬ m ≤ k := by omega
    rw [m201_4]
    simp (disch := omega) only [rt_c, b_some, List.cons_append, List.nil_append, Bool.cond_not, cond_true, cond_false, Bool.cond_decide, nI_add, nI_clamp, xin_n, dle_e, dlt_e, deq_e, xb_0, xb_1, decide_true, decide_false, Bool.not_true, Bool.not_false, Bool.and_true, Bool.true_and, Bool.and_false, Bool.false_and, Bool.true_or, Bool.false_or, Bool.or_true, Bool.or_false, if_true, if_false, up1_s, n_31, Int32.lt_irrefl, hD, h1, c198, m201_20]
    cases op_ (A 2) k <;> by_cases h2 : A 2 (79 + k) = h <;> simp (disch := omega) only [rt_c, b_some, List.cons_append, List.nil_append, Bool.cond_not, cond_true, cond_false, Bool.cond_decide, nI_add, nI_clamp, xin_n, dle_e, dlt_e, deq_e, xb_0, xb_1, decide_true, decide_false, Bool.not_true, Bool.not_false, Bool.and_true, Bool.true_and, Bool.and_false, Bool.false_and, Bool.true_or, Bool.false_or, Bool.or_true, Bool.or_false, if_true, if_false, up1_s, n_31, Int32.lt_irrefl, h2]
  · intro s
    rw [m201_4]
    simp (disch := omega) only [rt_c, b_some, List.cons_append, List.nil_append, Bool.cond_not, cond_true, cond_false, Bool.cond_decide, nI_add, nI_clamp, xin_n, dle_e, dlt_e, deq_e, xb_0, xb_1, decide_true, decide_false, Bool.not_true, Bool.not_false, Bool.and_true, Bool.true_and, Bool.and_false, Bool.false_and, Bool.true_or, Bool.false_or, Bool.or_true, Bool.or_false, if_true, if_false, up1_s, n_31, Int32.lt_irrefl, hD, Nat.le_refl, t201_49]
theorem c202 {m j : Nat} (hm : m ≤ 12) (hD : A 2 72 = nI m) (hj : j < 12) : C (d + 1) 202 [.ref 0, .int (nI j)] sl (RH I w A N) = some ([.int (nI (older_ (A 2) m j))], sl, RH I w A N) := by
  rw [e202, m202_0]
  refine lpM (fun k s => rt 202 (R (d + 1) 202 (4, [some (.ref 0), some (.int (nI j)), some (.int s), some (.int (nI k))], [], sl, RH I w A N))) (fun k => op_ (A 2) k && (decide (A 2 (79 + k) = A 2 (79 + j)) && ol_ (A 2) k j)) m (by omega) (fun s => some ([.int s], sl, RH I w A N)) ?_ ?_
  · intro k s hk
    have h1 : ¬ m ≤ k := by omega
    rw [m202_4]
    simp (disch := omega) only [rt_c, b_some, List.cons_append, List.nil_append, Bool.cond_not, cond_true, cond_false, Bool.cond_decide, nI_add, nI_clamp, xin_n, dle_e, dlt_e, deq_e, xb_0, xb_1, decide_true, decide_false, Bool.not_true, Bool.not_false, Bool.and_true, Bool.true_and, Bool.and_false, Bool.false_and, Bool.true_or, Bool.false_or, Bool.or_true, Bool.or_false, if_true, if_false, up1_s, n_31, Int32.lt_irrefl, hD, h1, c198, m202_20, c199, m202_50]
    cases op_ (A 2) k <;> by_cases h2 : A 2 (79 + k) = A 2 (79 + j) <;> cases ol_ (A 2) k j <;> simp (disch := omega) only [rt_c, b_some, List.cons_append, List.nil_append, Bool.cond_not, cond_true, cond_false, Bool.cond_decide, nI_add, nI_clamp, xin_n, dle_e, dlt_e, deq_e, xb_0, xb_1, decide_true, decide_false, Bool.not_true, Bool.not_false, Bool.and_true, Bool.true_and, Bool.and_false, Bool.false_and, Bool.true_or, Bool.false_or, Bool.or_true, Bool.or_false, if_true, if_false, up1_s, n_31, Int32.lt_irrefl, h2]
  · intro s
    rw [m202_4]
    simp (disch := omega) only [rt_c, b_some, List.cons_append, List.nil_append, Bool.cond_not, cond_true, cond_false, Bool.cond_decide, nI_add, nI_clamp, xin_n, dle_e, dlt_e, deq_e, xb_0, xb_1, decide_true, decide_false, Bool.not_true, Bool.not_false, Bool.and_true, Bool.true_and, Bool.and_false, Bool.false_and, Bool.true_or, Bool.false_or, Bool.or_true, Bool.or_false, if_true, if_false, up1_s, n_31, Int32.lt_irrefl, hD, Nat.le_refl, t202_66]
theorem c203 {x : Nat} (hx : x < 2 ^ 31) : C (d + 1) 203 [.ref 0, .int (nI x)] sl (RH I w A N) = some ([.int (left_ (A 2) x)], sl, RH I w A N) := by
  rw [e203, m203_0]
  refine lp0 (fun k s => rt 203 (R (d + 1) 203 (4, [some (.ref 0), some (.int (nI x)), some (.int s), some (.int (nI k))], [], sl, RH I w A N))) (fun k t => cond (x.testBit k) (t + A 2 (103 + k)) t) 12 (fun s => some ([.int s], sl, RH I w A N)) ?_ ?_ (nI 0)
  · intro k s hk
    have h1 : ¬ 12 ≤ k := by omega
    rw [m203_4]
    simp (disch := omega) only [rt_c, b_some, List.cons_append, List.nil_append, Bool.cond_not, cond_true, cond_false, Bool.cond_decide, nI_add, nI_clamp, xin_n, dle_e, dlt_e, deq_e, xb_0, xb_1, decide_true, decide_false, Bool.not_true, Bool.not_false, Bool.and_true, Bool.true_and, Bool.and_false, Bool.false_and, Bool.true_or, Bool.false_or, Bool.or_true, Bool.or_false, if_true, if_false, up1_s, n_31, Int32.lt_irrefl, h1, c167, has_n, m203_15]
    cases x.testBit k <;> simp (disch := omega) only [rt_c, b_some, List.cons_append, List.nil_append, Bool.cond_not, cond_true, cond_false, Bool.cond_decide, nI_add, nI_clamp, xin_n, dle_e, dlt_e, deq_e, xb_0, xb_1, decide_true, decide_false, Bool.not_true, Bool.not_false, Bool.and_true, Bool.true_and, Bool.and_false, Bool.false_and, Bool.true_or, Bool.false_or, Bool.or_true, Bool.or_false, if_true, if_false, up1_s, n_31, Int32.lt_irrefl]
  · intro s
    rw [m203_4]
    simp (disch := omega) only [rt_c, b_some, List.cons_append, List.nil_append, Bool.cond_not, cond_true, cond_false, Bool.cond_decide, nI_add, nI_clamp, xin_n, dle_e, dlt_e, deq_e, xb_0, xb_1, decide_true, decide_false, Bool.not_true, Bool.not_false, Bool.and_true, Bool.true_and, Bool.and_false, Bool.false_and, Bool.true_or, Bool.false_or, Bool.or_true, Bool.or_false, if_true, if_false, up1_s, n_31, Int32.lt_irrefl, Nat.le_refl, t203_37]
theorem c204 {m h : Nat} (hm : m ≤ 12) (hD : A 2 72 = nI m) (hh : h < 6) : C (d + 1) 204 [.ref 0, .int (nI h)] sl (RH I w A N) = some ([.int (x_b (broke_ (A 2) m h))], sl, RH I w A N) := by
  rw [e204, m204_0, c200 d sl I w A N (by decide) hm hD]
  unfold broke_
  simp (disch := omega) only [rt_c, b_some, List.cons_append, List.nil_append, Bool.cond_not, cond_true, cond_false, Bool.cond_decide, nI_add, nI_clamp, xin_n, dle_e, dlt_e, deq_e, xb_0, xb_1, decide_true, decide_false, Bool.not_true, Bool.not_false, Bool.and_true, Bool.true_and, Bool.and_false, Bool.false_and, Bool.true_or, Bool.false_or, Bool.or_true, Bool.or_false, if_true, if_false, up1_s, n_31, Int32.lt_irrefl, m204_7]
  by_cases h1 : sum_ (A 2) 79 m (nI h) ≤ A 2 (73 + h)
  · have h2 : ¬ A 2 (73 + h) < sum_ (A 2) 79 m (nI h) := Int32.not_lt.mpr h1
    simp (disch := omega) only [rt_c, b_some, List.cons_append, List.nil_append, Bool.cond_not, cond_true, cond_false, Bool.cond_decide, nI_add, nI_clamp, xin_n, dle_e, dlt_e, deq_e, xb_0, xb_1, decide_true, decide_false, Bool.not_true, Bool.not_false, Bool.and_true, Bool.true_and, Bool.and_false, Bool.false_and, Bool.true_or, Bool.false_or, Bool.or_true, Bool.or_false, if_true, if_false, up1_s, n_31, Int32.lt_irrefl, h1, h2, t204_24_0]
  · have h2 : A 2 (73 + h) < sum_ (A 2) 79 m (nI h) := Int32.not_le.mp h1
    simp (disch := omega) only [rt_c, b_some, List.cons_append, List.nil_append, Bool.cond_not, cond_true, cond_false, Bool.cond_decide, nI_add, nI_clamp, xin_n, dle_e, dlt_e, deq_e, xb_0, xb_1, decide_true, decide_false, Bool.not_true, Bool.not_false, Bool.and_true, Bool.true_and, Bool.and_false, Bool.false_and, Bool.true_or, Bool.false_or, Bool.or_true, Bool.or_false, if_true, if_false, up1_s, n_31, Int32.lt_irrefl, h1, h2, t204_24_1]
/-- the chair of a debt -/
def chair_ (n : Nat → Int32) (m k : Nat) : Int32 := cond (op_ n k) (nI (popF 12 (older_ n m k))) (-1)
theorem old_lt {n : Nat → Int32} {m j : Nat} (hm : m ≤ 12) : older_ n m j < 4096 := Nat.lt_of_lt_of_le (mkN_lt _ m) (Nat.pow_le_pow_right (n := 2) (by decide) hm)
theorem open_lt {n : Nat → Int32} {m : Nat} {h : Int32} (hm : m ≤ 12) : open_ n m h < 4096 := Nat.lt_of_lt_of_le (mkN_lt _ m) (Nat.pow_le_pow_right (n := 2) (by decide) hm)
theorem c207 {m j : Nat} (hm : m ≤ 12) (hD : A 2 72 = nI m) (hj : j < 12) : C (d + 2) 207 [.ref 0, .int (nI j)] sl (RH I w A N) = some ([.int (chair_ (A 2) m j)], sl, RH I w A N) := by
  rw [e207, m207_0, c198 _ _ _ _ _ _ hj]
  unfold chair_
  simp (disch := omega) only [rt_c, b_some, List.cons_append, List.nil_append, Bool.cond_not, cond_true, cond_false, Bool.cond_decide, nI_add, nI_clamp, xin_n, dle_e, dlt_e, deq_e, xb_0, xb_1, decide_true, decide_false, Bool.not_true, Bool.not_false, Bool.and_true, Bool.true_and, Bool.and_false, Bool.false_and, Bool.true_or, Bool.false_or, Bool.or_true, Bool.or_false, if_true, if_false, up1_s, n_31, Int32.lt_irrefl, m207_5]
  cases op_ (A 2) j
  · simp (disch := omega) only [rt_c, b_some, List.cons_append, List.nil_append, Bool.cond_not, cond_true, cond_false, Bool.cond_decide, nI_add, nI_clamp, xin_n, dle_e, dlt_e, deq_e, xb_0, xb_1, decide_true, decide_false, Bool.not_true, Bool.not_false, Bool.and_true, Bool.true_and, Bool.and_false, Bool.false_and, Bool.true_or, Bool.false_or, Bool.or_true, Bool.or_false, if_true, if_false, up1_s, n_31, Int32.lt_irrefl, t207_20]
  · simp (disch := omega) only [rt_c, b_some, List.cons_append, List.nil_append, Bool.cond_not, cond_true, cond_false, Bool.cond_decide, nI_add, nI_clamp, xin_n, dle_e, dlt_e, deq_e, xb_0, xb_1, decide_true, decide_false, Bool.not_true, Bool.not_false, Bool.and_true, Bool.true_and, Bool.and_false, Bool.false_and, Bool.true_or, Bool.false_or, Bool.or_true, Bool.or_false, if_true, if_false, up1_s, n_31, Int32.lt_irrefl, c202 d sl I w A N hm hD hj, m207_13, c168' (d + 1) sl I w A N (old_lt hm), m207_16, t207_20]
/-- does house a owe house b -/
def owe_ (n : Nat → Int32) (m : Nat) (a b : Int32) : Bool := (x_fd (fun k => cond (op_ n k && (decide (n (79 + k) = a) && decide (n (91 + k) = b))) (some true) none) 0 m).getD false
theorem c210 {m : Nat} (hm : m ≤ 12) (hD : A 2 72 = nI m) (a b : Int32) : C (d + 1) 210 [.ref 0, .int a, .int b] sl (RH I w A N) = some ([.int (x_b (owe_ (A 2) m a b))], sl, RH I w A N) := by
  rw [e210, m210_0]
  have key : ∀ k i, i + k = m → rt 210 (R (d + 1) 210 (2, [some (.ref 0), some (.int a), some (.int b), some (.int (nI i))], [], sl, RH I w A N)) = some ([.int (x_b ((x_fd (fun k => cond (op_ (A 2) k && (decide (A 2 (79 + k) = a) && decide (A 2 (91 + k) = b))) (some true) none) i k).getD false))], sl, RH I w A N) := by
    intro k
    induction k with
    | zero =>
      intro i hi
      have h1 : m ≤ i := by omega
      rw [m210_2]
      simp (disch := omega) only [rt_c, b_some, List.cons_append, List.nil_append, Bool.cond_not, cond_true, cond_false, Bool.cond_decide, nI_add, nI_clamp, xin_n, dle_e, dlt_e, deq_e, xb_0, xb_1, decide_true, decide_false, Bool.not_true, Bool.not_false, Bool.and_true, Bool.true_and, Bool.and_false, Bool.false_and, Bool.true_or, Bool.false_or, Bool.or_true, Bool.or_false, if_true, if_false, up1_s, n_31, Int32.lt_irrefl, hD, h1, t210_56_0, x_fd, Option.getD_none]
    | succ k ih =>
      intro i hi
      have h1 : ¬ m ≤ i := by omega
      have h3 := ih (i + 1) (by omega)
      rw [m210_2]
      simp (disch := omega) only [rt_c, b_some, List.cons_append, List.nil_append, Bool.cond_not, cond_true, cond_false, Bool.cond_decide, nI_add, nI_clamp, xin_n, dle_e, dlt_e, deq_e, xb_0, xb_1, decide_true, decide_false, Bool.not_true, Bool.not_false, Bool.and_true, Bool.true_and, Bool.and_false, Bool.false_and, Bool.true_or, Bool.false_or, Bool.or_true, Bool.or_false, if_true, if_false, up1_s, n_31, Int32.lt_irrefl, hD, h1, c198, m210_18, x_fd]
      cases op_ (A 2) i <;> by_cases h4 : A 2 (79 + i) = a <;> by_cases h5 : A 2 (91 + i) = b <;> simp (disch := omega) only [rt_c, b_some, List.cons_append, List.nil_append, Bool.cond_not, cond_true, cond_false, Bool.cond_decide, nI_add, nI_clamp, xin_n, dle_e, dlt_e, deq_e, xb_0, xb_1, decide_true, decide_false, Bool.not_true, Bool.not_false, Bool.and_true, Bool.true_and, Bool.and_false, Bool.false_and, Bool.true_or, Bool.false_or, Bool.or_true, Bool.or_false, if_true, if_false, up1_s, n_31, Int32.lt_irrefl, h4, h5, h3, t210_48_1, Option.getD_some]
  exact key m 0 (by omega)
theorem c215 {b m : Nat} (hb : b + m ≤ 369) : C d 215 [.ref 0, .int (nI b), .int (nI m)] sl (RH I w A N) = some ([.int (x_it (fun k s => s + A 2 (b + k)) 0 m (nI 0))], sl, RH I w A N) := by
  rw [e215, m215_0]
  refine lp0 (fun k s => rt 215 (R d 215 (5, [some (.ref 0), some (.int (nI b)), some (.int (nI m)), some (.int s), some (.int (nI k))], [], sl, RH I w A N))) _ m (fun s => some ([.int s], sl, RH I w A N)) ?_ ?_ (nI 0)
  · intro k s hk
    have h1 : ¬ m ≤ k := by omega
    rw [m215_5]
    simp (disch := omega) only [rt_c, b_some, List.cons_append, List.nil_append, Bool.cond_not, cond_true, cond_false, Bool.cond_decide, nI_add, nI_clamp, xin_n, dle_e, dlt_e, deq_e, xb_0, xb_1, decide_true, decide_false, Bool.not_true, Bool.not_false, Bool.and_true, Bool.true_and, Bool.and_false, Bool.false_and, Bool.true_or, Bool.false_or, Bool.or_true, Bool.or_false, if_true, if_false, up1_s, n_31, Int32.lt_irrefl, h1]
  · intro s
    rw [m215_5]
    simp (disch := omega) only [rt_c, b_some, List.cons_append, List.nil_append, Bool.cond_not, cond_true, cond_false, Bool.cond_decide, nI_add, nI_clamp, xin_n, dle_e, dlt_e, deq_e, xb_0, xb_1, decide_true, decide_false, Bool.not_true, Bool.not_false, Bool.and_true, Bool.true_and, Bool.and_false, Bool.false_and, Bool.true_or, Bool.false_or, Bool.or_true, Bool.or_false, if_true, if_false, up1_s, n_31, Int32.lt_irrefl, Nat.le_refl, t215_30]
end RF2
