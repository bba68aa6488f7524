/-! SAID: compared -/
def cmp_ (g v y : Int32) : Bool := if g = nI 60 then decide (v < y) else if g = nI 61 then decide (v = y) else decide (y < v)
section SAE
variable (d sl : Nat) (I : Nat → Nat → Int32) (A : Nat → Nat → Int32) (N : Nat → Nat → Int64) (V : Nat → Nat → Option Nat) (lt : Int64) (tw : Option Nat) (sp sr : Nat) (X : List AC)
theorem q35_108 {i : Nat} (hi : i < 40) (v : Int32) : C d 35 [.ref 108, .int v, .int (nI i)] sl (CH I A N V lt tw sp sr X) = some ([.int (x_b (cmp_ (A 110 i) v (A 111 i)))], sl, CH I A N V lt tw sp sr X) := by
  rw [e35, k35_r108_0]
  unfold cmp_
  by_cases h1 : A 110 i = nI 60
  · have h1' : (A 110 i = nI 60) = True := eq_true h1
    by_cases h2 : v < A 111 i
    · have h3 : ¬ A 111 i ≤ v := Int32.not_le.mpr h2
      simp (disch := omega) only [rt_c, b_some, List.cons_append, List.nil_append, Bool.cond_not, cond_true, cond_false, Bool.cond_decide, nI_add, nI_clamp, xin_n, dle_e, dlt_e, deq_e, xb_0, xb_1, decide_true, decide_false, Bool.not_true, Bool.not_false, Bool.and_true, Bool.true_and, Bool.and_false, Bool.false_and, Bool.true_or, Bool.false_or, Bool.or_true, Bool.or_false, if_true, if_false, up1_s, n_31, Int32.lt_irrefl, h1', h2, h3, t35_26, t35_26_0, t35_26_1, t35_71, t35_71_0, t35_71_1]
    · have h3 : A 111 i ≤ v := Int32.not_lt.mp h2
      simp (disch := omega) only [rt_c, b_some, List.cons_append, List.nil_append, Bool.cond_not, cond_true, cond_false, Bool.cond_decide, nI_add, nI_clamp, xin_n, dle_e, dlt_e, deq_e, xb_0, xb_1, decide_true, decide_false, Bool.not_true, Bool.not_false, Bool.and_true, Bool.true_and, Bool.and_false, Bool.false_and, Bool.true_or, Bool.false_or, Bool.or_true, Bool.or_false, if_true, if_false, up1_s, n_31, Int32.lt_irrefl, h1', h2, h3, t35_26, t35_26_0, t35_26_1, t35_71, t35_71_0, t35_71_1]
  · by_cases h4 : A 110 i = nI 61
    · have h4' : (A 110 i = nI 61) = True := eq_true h4
      have h1' : (A 110 i = nI 60) = False := eq_false h1
      by_cases h2 : v = A 111 i
      · have h2' : (v = A 111 i) = True := eq_true h2
        simp (disch := omega) only [rt_c, b_some, List.cons_append, List.nil_append, Bool.cond_not, cond_true, cond_false, Bool.cond_decide, nI_add, nI_clamp, xin_n, dle_e, dlt_e, deq_e, xb_0, xb_1, decide_true, decide_false, Bool.not_true, Bool.not_false, Bool.and_true, Bool.true_and, Bool.and_false, Bool.false_and, Bool.true_or, Bool.false_or, Bool.or_true, Bool.or_false, if_true, if_false, up1_s, n_31, Int32.lt_irrefl, h1', h4', h2', t35_26, t35_26_0, t35_26_1, t35_71, t35_71_0, t35_71_1]
      · simp (disch := omega) only [rt_c, b_some, List.cons_append, List.nil_append, Bool.cond_not, cond_true, cond_false, Bool.cond_decide, nI_add, nI_clamp, xin_n, dle_e, dlt_e, deq_e, xb_0, xb_1, decide_true, decide_false, Bool.not_true, Bool.not_false, Bool.and_true, Bool.true_and, Bool.and_false, Bool.false_and, Bool.true_or, Bool.false_or, Bool.or_true, Bool.or_false, if_true, if_false, up1_s, n_31, Int32.lt_irrefl, h1', h4', h2, t35_26, t35_26_0, t35_26_1, t35_71, t35_71_0, t35_71_1]
    · by_cases h2 : A 111 i < v
      · have h3 : ¬ v ≤ A 111 i := Int32.not_le.mpr h2
        simp (disch := omega) only [rt_c, b_some, List.cons_append, List.nil_append, Bool.cond_not, cond_true, cond_false, Bool.cond_decide, nI_add, nI_clamp, xin_n, dle_e, dlt_e, deq_e, xb_0, xb_1, decide_true, decide_false, Bool.not_true, Bool.not_false, Bool.and_true, Bool.true_and, Bool.and_false, Bool.false_and, Bool.true_or, Bool.false_or, Bool.or_true, Bool.or_false, if_true, if_false, up1_s, n_31, Int32.lt_irrefl, h1, h4, h2, h3, t35_26, t35_26_0, t35_26_1, t35_71, t35_71_0, t35_71_1]
      · have h3 : v ≤ A 111 i := Int32.not_lt.mp h2
        simp (disch := omega) only [rt_c, b_some, List.cons_append, List.nil_append, Bool.cond_not, cond_true, cond_false, Bool.cond_decide, nI_add, nI_clamp, xin_n, dle_e, dlt_e, deq_e, xb_0, xb_1, decide_true, decide_false, Bool.not_true, Bool.not_false, Bool.and_true, Bool.true_and, Bool.and_false, Bool.false_and, Bool.true_or, Bool.false_or, Bool.or_true, Bool.or_false, if_true, if_false, up1_s, n_31, Int32.lt_irrefl, h1, h4, h2, h3, t35_26, t35_26_0, t35_26_1, t35_71, t35_71_0, t35_71_1]
theorem q35_112 {i : Nat} (hi : i < 40) (v : Int32) : C d 35 [.ref 112, .int v, .int (nI i)] sl (CH I A N V lt tw sp sr X) = some ([.int (x_b (cmp_ (A 114 i) v (A 115 i)))], sl, CH I A N V lt tw sp sr X) := by
  rw [e35, k35_r112_0]
  unfold cmp_
  by_cases h1 : A 114 i = nI 60
  · have h1' : (A 114 i = nI 60) = True := eq_true h1
    by_cases h2 : v < A 115 i
    · have h3 : ¬ A 115 i ≤ v := Int32.not_le.mpr h2
      simp (disch := omega) only [rt_c, b_some, List.cons_append, List.nil_append, Bool.cond_not, cond_true, cond_false, Bool.cond_decide, nI_add, nI_clamp, xin_n, dle_e, dlt_e, deq_e, xb_0, xb_1, decide_true, decide_false, Bool.not_true, Bool.not_false, Bool.and_true, Bool.true_and, Bool.and_false, Bool.false_and, Bool.true_or, Bool.false_or, Bool.or_true, Bool.or_false, if_true, if_false, up1_s, n_31, Int32.lt_irrefl, h1', h2, h3, t35_26, t35_26_0, t35_26_1, t35_71, t35_71_0, t35_71_1]
    · have h3 : A 115 i ≤ v := Int32.not_lt.mp h2
      simp (disch := omega) only [rt_c, b_some, List.cons_append, List.nil_append, Bool.cond_not, cond_true, cond_false, Bool.cond_decide, nI_add, nI_clamp, xin_n, dle_e, dlt_e, deq_e, xb_0, xb_1, decide_true, decide_false, Bool.not_true, Bool.not_false, Bool.and_true, Bool.true_and, Bool.and_false, Bool.false_and, Bool.true_or, Bool.false_or, Bool.or_true, Bool.or_false, if_true, if_false, up1_s, n_31, Int32.lt_irrefl, h1', h2, h3, t35_26, t35_26_0, t35_26_1, t35_71, t35_71_0, t35_71_1]
  · by_cases h4 : A 114 i = nI 61
    · have h4' : (A 114 i = nI 61) = True := eq_true h4
      have h1' : (A 114 i = nI 60) = False := eq_false h1
      by_cases h2 : v = A 115 i
      · have h2' : (v = A 115 i) = True := eq_true h2
        simp (disch := omega) only [rt_c, b_some, List.cons_append, List.nil_append, Bool.cond_not, cond_true, cond_false, Bool.cond_decide, nI_add, nI_clamp, xin_n, dle_e, dlt_e, deq_e, xb_0, xb_1, decide_true, decide_false, Bool.not_true, Bool.not_false, Bool.and_true, Bool.true_and, Bool.and_false, Bool.false_and, Bool.true_or, Bool.false_or, Bool.or_true, Bool.or_false, if_true, if_false, up1_s, n_31, Int32.lt_irrefl, h1', h4', h2', t35_26, t35_26_0, t35_26_1, t35_71, t35_71_0, t35_71_1]
      · simp (disch := omega) only [rt_c, b_some, List.cons_append, List.nil_append, Bool.cond_not, cond_true, cond_false, Bool.cond_decide, nI_add, nI_clamp, xin_n, dle_e, dlt_e, deq_e, xb_0, xb_1, decide_true, decide_false, Bool.not_true, Bool.not_false, Bool.and_true, Bool.true_and, Bool.and_false, Bool.false_and, Bool.true_or, Bool.false_or, Bool.or_true, Bool.or_false, if_true, if_false, up1_s, n_31, Int32.lt_irrefl, h1', h4', h2, t35_26, t35_26_0, t35_26_1, t35_71, t35_71_0, t35_71_1]
    · by_cases h2 : A 115 i < v
      · have h3 : ¬ v ≤ A 115 i := Int32.not_le.mpr h2
        simp (disch := omega) only [rt_c, b_some, List.cons_append, List.nil_append, Bool.cond_not, cond_true, cond_false, Bool.cond_decide, nI_add, nI_clamp, xin_n, dle_e, dlt_e, deq_e, xb_0, xb_1, decide_true, decide_false, Bool.not_true, Bool.not_false, Bool.and_true, Bool.true_and, Bool.and_false, Bool.false_and, Bool.true_or, Bool.false_or, Bool.or_true, Bool.or_false, if_true, if_false, up1_s, n_31, Int32.lt_irrefl, h1, h4, h2, h3, t35_26, t35_26_0, t35_26_1, t35_71, t35_71_0, t35_71_1]
      · have h3 : v ≤ A 115 i := Int32.not_lt.mp h2
        simp (disch := omega) only [rt_c, b_some, List.cons_append, List.nil_append, Bool.cond_not, cond_true, cond_false, Bool.cond_decide, nI_add, nI_clamp, xin_n, dle_e, dlt_e, deq_e, xb_0, xb_1, decide_true, decide_false, Bool.not_true, Bool.not_false, Bool.and_true, Bool.true_and, Bool.and_false, Bool.false_and, Bool.true_or, Bool.false_or, Bool.or_true, Bool.or_false, if_true, if_false, up1_s, n_31, Int32.lt_irrefl, h1, h4, h2, h3, t35_26, t35_26_0, t35_26_1, t35_71, t35_71_0, t35_71_1]
end SAE
