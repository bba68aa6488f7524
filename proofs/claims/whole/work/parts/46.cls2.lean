/-! THE CLASS'S QUESTIONS -/
theorem neg1_ne {k : Int32} (h : nI 0 ≤ k) : ¬ (-1 : Int32) = k := by
  intro e
  rw [← e] at h
  exact absurd h (by decide)
section CL2
variable (d sl : Nat) (I : Nat → Nat → Int32) (A : Nat → Nat → Int32) (N : Nat → Nat → Int64) (V : Nat → Nat → Option Nat) (lt : Int64) (tw : Option Nat) (sp sr : Nat) (X : List AC) {n : Nat → Int32} {H m : Nat}
theorem q56 (hS : Sh I A 3 n H m) {j k : Nat} (hj : j < m) (hk : k ≤ 4) : C (d + 3) 56 [.ref 3, .int (nI j), .int (nI k)] sl (CH I A N V lt tw sp sr X) = some ([.int (trait_ n m j k)], sl, CH I A N V lt tw sp sr X) := by
  have h53 := q53_3 d sl I A N V lt tw sp sr X hS hj
  obtain ⟨⟨hH, hD, hH6, hm⟩, -, hC, hIn, hCh, hW, hT, hL, hG⟩ := sh_3 hS
  rw [e56, k56_r3_0]
  rcases (show k = 0 ∨ k = 1 ∨ k = 2 ∨ k = 3 ∨ k = 4 by omega) with rfl | rfl | rfl | rfl | rfl
  · simp (disch := omega) only [rt_c, b_some, List.cons_append, List.nil_append, Bool.cond_not, cond_true, cond_false, Bool.cond_decide, nI_add, nI_clamp, xin_n, dle_e, dlt_e, deq_e, xb_0, xb_1, decide_true, decide_false, Bool.not_true, Bool.not_false, Bool.and_true, Bool.true_and, Bool.and_false, Bool.false_and, Bool.true_or, Bool.false_or, Bool.or_true, Bool.or_false, if_true, if_false, up1_s, n_31, Int32.lt_irrefl, k56_r3_0, k56_r3_1_c0, k56_r3_1_c1, k56_r3_1_c2, k56_r3_1_c3, k56_r3_1_c4, k56_r3_70, k56_r3_36, k56_r3_43, k56_r3_50, k56_r3_57, k56_r3_64, k56_r3_69, t56_42, t56_49, t56_56, t56_63, t56_69, t56_71, trait_, hW]
  · simp (disch := omega) only [rt_c, b_some, List.cons_append, List.nil_append, Bool.cond_not, cond_true, cond_false, Bool.cond_decide, nI_add, nI_clamp, xin_n, dle_e, dlt_e, deq_e, xb_0, xb_1, decide_true, decide_false, Bool.not_true, Bool.not_false, Bool.and_true, Bool.true_and, Bool.and_false, Bool.false_and, Bool.true_or, Bool.false_or, Bool.or_true, Bool.or_false, if_true, if_false, up1_s, n_31, Int32.lt_irrefl, k56_r3_0, k56_r3_1_c0, k56_r3_1_c1, k56_r3_1_c2, k56_r3_1_c3, k56_r3_1_c4, k56_r3_70, k56_r3_36, k56_r3_43, k56_r3_50, k56_r3_57, k56_r3_64, k56_r3_69, t56_42, t56_49, t56_56, t56_63, t56_69, t56_71, trait_, hT]
  · simp (disch := omega) only [rt_c, b_some, List.cons_append, List.nil_append, Bool.cond_not, cond_true, cond_false, Bool.cond_decide, nI_add, nI_clamp, xin_n, dle_e, dlt_e, deq_e, xb_0, xb_1, decide_true, decide_false, Bool.not_true, Bool.not_false, Bool.and_true, Bool.true_and, Bool.and_false, Bool.false_and, Bool.true_or, Bool.false_or, Bool.or_true, Bool.or_false, if_true, if_false, up1_s, n_31, Int32.lt_irrefl, k56_r3_0, k56_r3_1_c0, k56_r3_1_c1, k56_r3_1_c2, k56_r3_1_c3, k56_r3_1_c4, k56_r3_70, k56_r3_36, k56_r3_43, k56_r3_50, k56_r3_57, k56_r3_64, k56_r3_69, t56_42, t56_49, t56_56, t56_63, t56_69, t56_71, trait_, hL]
  · simp (disch := omega) only [rt_c, b_some, List.cons_append, List.nil_append, Bool.cond_not, cond_true, cond_false, Bool.cond_decide, nI_add, nI_clamp, xin_n, dle_e, dlt_e, deq_e, xb_0, xb_1, decide_true, decide_false, Bool.not_true, Bool.not_false, Bool.and_true, Bool.true_and, Bool.and_false, Bool.false_and, Bool.true_or, Bool.false_or, Bool.or_true, Bool.or_false, if_true, if_false, up1_s, n_31, Int32.lt_irrefl, k56_r3_0, k56_r3_1_c0, k56_r3_1_c1, k56_r3_1_c2, k56_r3_1_c3, k56_r3_1_c4, k56_r3_70, k56_r3_36, k56_r3_43, k56_r3_50, k56_r3_57, k56_r3_64, k56_r3_69, t56_42, t56_49, t56_56, t56_63, t56_69, t56_71, trait_, hG]
  · simp (disch := omega) only [rt_c, b_some, List.cons_append, List.nil_append, Bool.cond_not, cond_true, cond_false, Bool.cond_decide, nI_add, nI_clamp, xin_n, dle_e, dlt_e, deq_e, xb_0, xb_1, decide_true, decide_false, Bool.not_true, Bool.not_false, Bool.and_true, Bool.true_and, Bool.and_false, Bool.false_and, Bool.true_or, Bool.false_or, Bool.or_true, Bool.or_false, if_true, if_false, up1_s, n_31, Int32.lt_irrefl, k56_r3_0, k56_r3_1_c0, k56_r3_1_c1, k56_r3_1_c2, k56_r3_1_c3, k56_r3_1_c4, k56_r3_70, k56_r3_36, k56_r3_43, k56_r3_50, k56_r3_57, k56_r3_64, k56_r3_69, t56_42, t56_49, t56_56, t56_63, t56_69, t56_71, trait_, h53]
theorem q56_out (j x : Int32) (hx : (decide (x.toInt < (0 : Int)) || decide ((4 : Int) < x.toInt)) = true) : C (d + 3) 56 [.ref 3, .int j, .int x] sl (CH I A N V lt tw sp sr X) = some ([.int (-1)], sl, CH I A N V lt tw sp sr X) := by
  rw [e56, k56_r3_0, k56_r3_1_out _ _ _ _ _ _ _ _ _ _ _ _ _ _ hx]
  simp (disch := omega) only [rt_c, b_some, List.cons_append, List.nil_append, Bool.cond_not, cond_true, cond_false, Bool.cond_decide, nI_add, nI_clamp, xin_n, dle_e, dlt_e, deq_e, xb_0, xb_1, decide_true, decide_false, Bool.not_true, Bool.not_false, Bool.and_true, Bool.true_and, Bool.and_false, Bool.false_and, Bool.true_or, Bool.false_or, Bool.or_true, Bool.or_false, if_true, if_false, up1_s, n_31, Int32.lt_irrefl, k56_r3_0, k56_r3_1_c0, k56_r3_1_c1, k56_r3_1_c2, k56_r3_1_c3, k56_r3_1_c4, k56_r3_70, k56_r3_36, k56_r3_43, k56_r3_50, k56_r3_57, k56_r3_64, k56_r3_69, t56_42, t56_49, t56_56, t56_63, t56_69, t56_71]
theorem q55 (hS : Sh I A 3 n H m) (h k : Int32) (hk : nI 0 ≤ k) : C (d + 3) 55 [.ref 3, .int h, .int k] sl (CH I A N V lt tw sp sr X) = some ([.int (inPlace_ n m h k)], sl, CH I A N V lt tw sp sr X) := by
  have h51 := fun j hj => q51_3 (d + 2) sl I A N V lt tw sp sr X hS h (k := j) hj
  have h53 := fun j hj => q53_3 d sl I A N V lt tw sp sr X hS (j := j) hj
  obtain ⟨⟨hH, hD, hH6, hm⟩, -, hC, hIn, hCh, hW, hT, hL, hG⟩ := sh_3 hS
  rw [e55, k55_r3_0]
  have key : ∀ q i, i + q = m → rt 55 (R (d + 3) 55 (2, [some (.ref 3), some (.int h), some (.int k), some (.int (nI i))], [], sl, CH I A N V lt tw sp sr X)) = some ([.int ((x_fd (fun i => cond (decide (n (79 + i) = h) && decide (chair_ n m i = k)) (some (nI i)) none) i q).getD (-1))], sl, CH I A N V lt tw sp sr X) := by
    intro q
    induction q with
    | zero =>
      intro i hi
      have h1 : m ≤ i := by omega
      rw [k55_r3_2]
      simp (disch := omega) only [rt_c, b_some, List.cons_append, List.nil_append, Bool.cond_not, cond_true, cond_false, Bool.cond_decide, nI_add, nI_clamp, xin_n, dle_e, dlt_e, deq_e, xb_0, xb_1, decide_true, decide_false, Bool.not_true, Bool.not_false, Bool.and_true, Bool.true_and, Bool.and_false, Bool.false_and, Bool.true_or, Bool.false_or, Bool.or_true, Bool.or_false, if_true, if_false, up1_s, n_31, Int32.lt_irrefl, hD, h1, t55_29, t55_37, x_fd, Option.getD_none]
    | succ q ih =>
      intro i hi
      have h1 : ¬ m ≤ i := by omega
      have h3 := ih (i + 1) (by omega)
      rw [k55_r3_2]
      simp (disch := omega) only [rt_c, b_some, List.cons_append, List.nil_append, Bool.cond_not, cond_true, cond_false, Bool.cond_decide, nI_add, nI_clamp, xin_n, dle_e, dlt_e, deq_e, xb_0, xb_1, decide_true, decide_false, Bool.not_true, Bool.not_false, Bool.and_true, Bool.true_and, Bool.and_false, Bool.false_and, Bool.true_or, Bool.false_or, Bool.or_true, Bool.or_false, if_true, if_false, up1_s, n_31, Int32.lt_irrefl, hD, h1, h51, k55_r3_16, x_fd]
      cases ho : op_ n i with
      | false =>
        have h6 : chair_ n m i = -1 := by unfold chair_; rw [ho]; rfl
        have h7 : decide (chair_ n m i = k) = false := by rw [h6]; exact decide_eq_false (neg1_ne hk)
        simp (disch := omega) only [rt_c, b_some, List.cons_append, List.nil_append, Bool.cond_not, cond_true, cond_false, Bool.cond_decide, nI_add, nI_clamp, xin_n, dle_e, dlt_e, deq_e, xb_0, xb_1, decide_true, decide_false, Bool.not_true, Bool.not_false, Bool.and_true, Bool.true_and, Bool.and_false, Bool.false_and, Bool.true_or, Bool.false_or, Bool.or_true, Bool.or_false, if_true, if_false, up1_s, n_31, Int32.lt_irrefl, h7, h3]
      | true =>
        by_cases h4 : n (79 + i) = h
        · simp (disch := omega) only [rt_c, b_some, List.cons_append, List.nil_append, Bool.cond_not, cond_true, cond_false, Bool.cond_decide, nI_add, nI_clamp, xin_n, dle_e, dlt_e, deq_e, xb_0, xb_1, decide_true, decide_false, Bool.not_true, Bool.not_false, Bool.and_true, Bool.true_and, Bool.and_false, Bool.false_and, Bool.true_or, Bool.false_or, Bool.or_true, Bool.or_false, if_true, if_false, up1_s, n_31, Int32.lt_irrefl, h4, h53, k55_r3_24]
          by_cases h5 : chair_ n m i = k <;> simp (disch := omega) only [rt_c, b_some, List.cons_append, List.nil_append, Bool.cond_not, cond_true, cond_false, Bool.cond_decide, nI_add, nI_clamp, xin_n, dle_e, dlt_e, deq_e, xb_0, xb_1, decide_true, decide_false, Bool.not_true, Bool.not_false, Bool.and_true, Bool.true_and, Bool.and_false, Bool.false_and, Bool.true_or, Bool.false_or, Bool.or_true, Bool.or_false, if_true, if_false, up1_s, n_31, Int32.lt_irrefl, h5, h3, t55_29, t55_37, Option.getD_some]
        · simp (disch := omega) only [rt_c, b_some, List.cons_append, List.nil_append, Bool.cond_not, cond_true, cond_false, Bool.cond_decide, nI_add, nI_clamp, xin_n, dle_e, dlt_e, deq_e, xb_0, xb_1, decide_true, decide_false, Bool.not_true, Bool.not_false, Bool.and_true, Bool.true_and, Bool.and_false, Bool.false_and, Bool.true_or, Bool.false_or, Bool.or_true, Bool.or_false, if_true, if_false, up1_s, n_31, Int32.lt_irrefl, h4, h3]
  exact key m 0 (by omega)
theorem q120_in (hS : Sh I A 3 n H m) {h k : Nat} (hh : h < H) (hk : k ≤ 6) : C (d + 3) 120 [.ref 0, .int (nI h), .int (nI k)] sl (CH I A N V lt tw sp sr X) = some ([.int (house_ n m h k)], sl, CH I A N V lt tw sp sr X) := by
  have h45 := q45_3 (d + 2) sl I A N V lt tw sp sr X hS (nI h)
  have h57 := q57_3 (d + 2) sl I A N V lt tw sp sr X hS (nI h)
  have h58 := q58_3 (d + 2) sl I A N V lt tw sp sr X hS (nI h)
  have h59 := q59_3 (d + 1) sl I A N V lt tw sp sr X hS (nI h)
  have h60 := q60_3 d sl I A N V lt tw sp sr X hS (nI h)
  obtain ⟨⟨hH, hD, hH6, hm⟩, -, hC, hIn, hCh, hW, hT, hL, hG⟩ := sh_3 hS
  rw [e120, k120_0, h45, isN_n hh (by omega)]
  simp (disch := omega) only [rt_c, b_some, List.cons_append, List.nil_append, Bool.cond_not, cond_true, cond_false, Bool.cond_decide, nI_add, nI_clamp, xin_n, dle_e, dlt_e, deq_e, xb_0, xb_1, decide_true, decide_false, Bool.not_true, Bool.not_false, Bool.and_true, Bool.true_and, Bool.and_false, Bool.false_and, Bool.true_or, Bool.false_or, Bool.or_true, Bool.or_false, if_true, if_false, up1_s, n_31, Int32.lt_irrefl, k120_8]
  rcases (show k = 0 ∨ k = 1 ∨ k = 2 ∨ k = 3 ∨ k = 4 ∨ k = 5 ∨ k = 6 by omega) with rfl | rfl | rfl | rfl | rfl | rfl | rfl
  · simp (disch := omega) only [rt_c, b_some, List.cons_append, List.nil_append, Bool.cond_not, cond_true, cond_false, Bool.cond_decide, nI_add, nI_clamp, xin_n, dle_e, dlt_e, deq_e, xb_0, xb_1, decide_true, decide_false, Bool.not_true, Bool.not_false, Bool.and_true, Bool.true_and, Bool.and_false, Bool.false_and, Bool.true_or, Bool.false_or, Bool.or_true, Bool.or_false, if_true, if_false, up1_s, n_31, Int32.lt_irrefl, k120_0, k120_8, k120_22_c0, k120_22_c1, k120_22_c2, k120_22_c3, k120_22_c4, k120_22_c5, k120_22_c6, k120_144, k120_64, k120_74, k120_84, k120_94, k120_103, k120_112, k120_121, k120_102, k120_111, k120_120, k120_130, t120_73, t120_83, t120_93, t120_102, t120_111, t120_120, t120_143, house_, hC]
  · simp (disch := omega) only [rt_c, b_some, List.cons_append, List.nil_append, Bool.cond_not, cond_true, cond_false, Bool.cond_decide, nI_add, nI_clamp, xin_n, dle_e, dlt_e, deq_e, xb_0, xb_1, decide_true, decide_false, Bool.not_true, Bool.not_false, Bool.and_true, Bool.true_and, Bool.and_false, Bool.false_and, Bool.true_or, Bool.false_or, Bool.or_true, Bool.or_false, if_true, if_false, up1_s, n_31, Int32.lt_irrefl, k120_0, k120_8, k120_22_c0, k120_22_c1, k120_22_c2, k120_22_c3, k120_22_c4, k120_22_c5, k120_22_c6, k120_144, k120_64, k120_74, k120_84, k120_94, k120_103, k120_112, k120_121, k120_102, k120_111, k120_120, k120_130, t120_73, t120_83, t120_93, t120_102, t120_111, t120_120, t120_143, house_, hIn]
  · simp (disch := omega) only [rt_c, b_some, List.cons_append, List.nil_append, Bool.cond_not, cond_true, cond_false, Bool.cond_decide, nI_add, nI_clamp, xin_n, dle_e, dlt_e, deq_e, xb_0, xb_1, decide_true, decide_false, Bool.not_true, Bool.not_false, Bool.and_true, Bool.true_and, Bool.and_false, Bool.false_and, Bool.true_or, Bool.false_or, Bool.or_true, Bool.or_false, if_true, if_false, up1_s, n_31, Int32.lt_irrefl, k120_0, k120_8, k120_22_c0, k120_22_c1, k120_22_c2, k120_22_c3, k120_22_c4, k120_22_c5, k120_22_c6, k120_144, k120_64, k120_74, k120_84, k120_94, k120_103, k120_112, k120_121, k120_102, k120_111, k120_120, k120_130, t120_73, t120_83, t120_93, t120_102, t120_111, t120_120, t120_143, house_, hCh]
  · simp (disch := omega) only [rt_c, b_some, List.cons_append, List.nil_append, Bool.cond_not, cond_true, cond_false, Bool.cond_decide, nI_add, nI_clamp, xin_n, dle_e, dlt_e, deq_e, xb_0, xb_1, decide_true, decide_false, Bool.not_true, Bool.not_false, Bool.and_true, Bool.true_and, Bool.and_false, Bool.false_and, Bool.true_or, Bool.false_or, Bool.or_true, Bool.or_false, if_true, if_false, up1_s, n_31, Int32.lt_irrefl, k120_0, k120_8, k120_22_c0, k120_22_c1, k120_22_c2, k120_22_c3, k120_22_c4, k120_22_c5, k120_22_c6, k120_144, k120_64, k120_74, k120_84, k120_94, k120_103, k120_112, k120_121, k120_102, k120_111, k120_120, k120_130, t120_73, t120_83, t120_93, t120_102, t120_111, t120_120, t120_143, house_, h57]
  · simp (disch := omega) only [rt_c, b_some, List.cons_append, List.nil_append, Bool.cond_not, cond_true, cond_false, Bool.cond_decide, nI_add, nI_clamp, xin_n, dle_e, dlt_e, deq_e, xb_0, xb_1, decide_true, decide_false, Bool.not_true, Bool.not_false, Bool.and_true, Bool.true_and, Bool.and_false, Bool.false_and, Bool.true_or, Bool.false_or, Bool.or_true, Bool.or_false, if_true, if_false, up1_s, n_31, Int32.lt_irrefl, k120_0, k120_8, k120_22_c0, k120_22_c1, k120_22_c2, k120_22_c3, k120_22_c4, k120_22_c5, k120_22_c6, k120_144, k120_64, k120_74, k120_84, k120_94, k120_103, k120_112, k120_121, k120_102, k120_111, k120_120, k120_130, t120_73, t120_83, t120_93, t120_102, t120_111, t120_120, t120_143, house_, h58]
  · simp (disch := omega) only [rt_c, b_some, List.cons_append, List.nil_append, Bool.cond_not, cond_true, cond_false, Bool.cond_decide, nI_add, nI_clamp, xin_n, dle_e, dlt_e, deq_e, xb_0, xb_1, decide_true, decide_false, Bool.not_true, Bool.not_false, Bool.and_true, Bool.true_and, Bool.and_false, Bool.false_and, Bool.true_or, Bool.false_or, Bool.or_true, Bool.or_false, if_true, if_false, up1_s, n_31, Int32.lt_irrefl, k120_0, k120_8, k120_22_c0, k120_22_c1, k120_22_c2, k120_22_c3, k120_22_c4, k120_22_c5, k120_22_c6, k120_144, k120_64, k120_74, k120_84, k120_94, k120_103, k120_112, k120_121, k120_102, k120_111, k120_120, k120_130, t120_73, t120_83, t120_93, t120_102, t120_111, t120_120, t120_143, house_, h59]
  · simp (disch := omega) only [rt_c, b_some, List.cons_append, List.nil_append, Bool.cond_not, cond_true, cond_false, Bool.cond_decide, nI_add, nI_clamp, xin_n, dle_e, dlt_e, deq_e, xb_0, xb_1, decide_true, decide_false, Bool.not_true, Bool.not_false, Bool.and_true, Bool.true_and, Bool.and_false, Bool.false_and, Bool.true_or, Bool.false_or, Bool.or_true, Bool.or_false, if_true, if_false, up1_s, n_31, Int32.lt_irrefl, k120_0, k120_8, k120_22_c0, k120_22_c1, k120_22_c2, k120_22_c3, k120_22_c4, k120_22_c5, k120_22_c6, k120_144, k120_64, k120_74, k120_84, k120_94, k120_103, k120_112, k120_121, k120_102, k120_111, k120_120, k120_130, t120_73, t120_83, t120_93, t120_102, t120_111, t120_120, t120_143, house_, h60, hCh]
theorem q120_out (hS : Sh I A 3 n H m) (h x : Int32) (hx : isN H h = false ∨ (decide (x.toInt < (0 : Int)) || decide ((6 : Int) < x.toInt)) = true) : R (d + 3) 120 (0, [some (.ref 0), some (.int h), some (.int x)], [], sl, CH I A N V lt tw sp sr X) = some (11, [some (.ref 0), some (.int h), some (.int x)], [], sl, CH I A N V lt tw sp sr X) ∨ R (d + 3) 120 (0, [some (.ref 0), some (.int h), some (.int x)], [], sl, CH I A N V lt tw sp sr X) = some (144, [some (.ref 0), some (.int h), some (.int x)], [], sl, CH I A N V lt tw sp sr X) := by
  have h45 := q45_3 (d + 2) sl I A N V lt tw sp sr X hS h
  rw [k120_0, h45]
  simp (disch := omega) only [rt_c, b_some, List.cons_append, List.nil_append, Bool.cond_not, cond_true, cond_false, Bool.cond_decide, nI_add, nI_clamp, xin_n, dle_e, dlt_e, deq_e, xb_0, xb_1, decide_true, decide_false, Bool.not_true, Bool.not_false, Bool.and_true, Bool.true_and, Bool.and_false, Bool.false_and, Bool.true_or, Bool.false_or, Bool.or_true, Bool.or_false, if_true, if_false, up1_s, n_31, Int32.lt_irrefl, k120_8]
  cases hb : isN H h with
  | false => left; simp (disch := omega) only [rt_c, b_some, List.cons_append, List.nil_append, Bool.cond_not, cond_true, cond_false, Bool.cond_decide, nI_add, nI_clamp, xin_n, dle_e, dlt_e, deq_e, xb_0, xb_1, decide_true, decide_false, Bool.not_true, Bool.not_false, Bool.and_true, Bool.true_and, Bool.and_false, Bool.false_and, Bool.true_or, Bool.false_or, Bool.or_true, Bool.or_false, if_true, if_false, up1_s, n_31, Int32.lt_irrefl]
  | true =>
    rcases hx with hx | hx
    · rw [hx] at hb; cases hb
    · right
      simp (disch := omega) only [rt_c, b_some, List.cons_append, List.nil_append, Bool.cond_not, cond_true, cond_false, Bool.cond_decide, nI_add, nI_clamp, xin_n, dle_e, dlt_e, deq_e, xb_0, xb_1, decide_true, decide_false, Bool.not_true, Bool.not_false, Bool.and_true, Bool.true_and, Bool.and_false, Bool.false_and, Bool.true_or, Bool.false_or, Bool.or_true, Bool.or_false, if_true, if_false, up1_s, n_31, Int32.lt_irrefl, k120_22_out _ _ _ _ _ _ _ _ _ _ _ _ _ _ hx, k120_144]
theorem q121_in (hS : Sh I A 3 n H m) {h : Nat} (hh : h < H) : C (d + 3) 121 [.ref 0, .int (nI h)] sl (CH I A N V lt tw sp sr X) = some ([.int (n (73 + h) + sum_ n 91 m (nI h) - sum_ n 79 m (nI h))], sl, CH I A N V lt tw sp sr X) := by
  have h45 := q45_3 (d + 2) sl I A N V lt tw sp sr X hS (nI h)
  have h57 := q57_3 (d + 2) sl I A N V lt tw sp sr X hS (nI h)
  have h58 := q58_3 (d + 2) sl I A N V lt tw sp sr X hS (nI h)
  obtain ⟨⟨hH, hD, hH6, hm⟩, -, hC, hIn, hCh, hW, hT, hL, hG⟩ := sh_3 hS
  rw [e121, k121_0, h45, isN_n hh (by omega)]
  simp (disch := omega) only [rt_c, b_some, List.cons_append, List.nil_append, Bool.cond_not, cond_true, cond_false, Bool.cond_decide, nI_add, nI_clamp, xin_n, dle_e, dlt_e, deq_e, xb_0, xb_1, decide_true, decide_false, Bool.not_true, Bool.not_false, Bool.and_true, Bool.true_and, Bool.and_false, Bool.false_and, Bool.true_or, Bool.false_or, Bool.or_true, Bool.or_false, if_true, if_false, up1_s, n_31, Int32.lt_irrefl, k121_0, k121_8, k121_38, k121_47, t121_48, h57, h58, hC]
theorem q121_out (hS : Sh I A 3 n H m) (h : Int32) (hx : isN H h = false) : R (d + 3) 121 (0, [some (.ref 0), some (.int h)], [], sl, CH I A N V lt tw sp sr X) = some (11, [some (.ref 0), some (.int h)], [], sl, CH I A N V lt tw sp sr X) := by
  have h45 := q45_3 (d + 2) sl I A N V lt tw sp sr X hS h
  rw [k121_0, h45, hx]
  simp (disch := omega) only [rt_c, b_some, List.cons_append, List.nil_append, Bool.cond_not, cond_true, cond_false, Bool.cond_decide, nI_add, nI_clamp, xin_n, dle_e, dlt_e, deq_e, xb_0, xb_1, decide_true, decide_false, Bool.not_true, Bool.not_false, Bool.and_true, Bool.true_and, Bool.and_false, Bool.false_and, Bool.true_or, Bool.false_or, Bool.or_true, Bool.or_false, if_true, if_false, up1_s, n_31, Int32.lt_irrefl, k121_8]
theorem q122_in (hS : Sh I A 3 n H m) {j k : Nat} (hj : j < m) (hk : k ≤ 4) : C (d + 4) 122 [.ref 0, .int (nI j), .int (nI k)] sl (CH I A N V lt tw sp sr X) = some ([.int (trait_ n m j k)], sl, CH I A N V lt tw sp sr X) := by
  have h46 := q46_3 (d + 3) sl I A N V lt tw sp sr X hS (nI j)
  have h56 := q56 d sl I A N V lt tw sp sr X hS hj hk
  rw [e122, k122_0, h46, isN_n hj (Nat.lt_of_le_of_lt hS.1.2.2.2 (by decide))]
  simp (disch := omega) only [rt_c, b_some, List.cons_append, List.nil_append, Bool.cond_not, cond_true, cond_false, Bool.cond_decide, nI_add, nI_clamp, xin_n, dle_e, dlt_e, deq_e, xb_0, xb_1, decide_true, decide_false, Bool.not_true, Bool.not_false, Bool.and_true, Bool.true_and, Bool.and_false, Bool.false_and, Bool.true_or, Bool.false_or, Bool.or_true, Bool.or_false, if_true, if_false, up1_s, n_31, Int32.lt_irrefl, k122_0, k122_8, k122_20, t122_24, h56]
theorem q122_out (hS : Sh I A 3 n H m) (j x : Int32) (hx : isN m j = false ∨ (decide (x.toInt < (0 : Int)) || decide ((4 : Int) < x.toInt)) = true) : C (d + 4) 122 [.ref 0, .int j, .int x] sl (CH I A N V lt tw sp sr X) = some ([.int (-1)], sl, CH I A N V lt tw sp sr X) := by
  have h46 := q46_3 (d + 3) sl I A N V lt tw sp sr X hS j
  rw [e122, k122_0, h46]
  simp (disch := omega) only [rt_c, b_some, List.cons_append, List.nil_append, Bool.cond_not, cond_true, cond_false, Bool.cond_decide, nI_add, nI_clamp, xin_n, dle_e, dlt_e, deq_e, xb_0, xb_1, decide_true, decide_false, Bool.not_true, Bool.not_false, Bool.and_true, Bool.true_and, Bool.and_false, Bool.false_and, Bool.true_or, Bool.false_or, Bool.or_true, Bool.or_false, if_true, if_false, up1_s, n_31, Int32.lt_irrefl, k122_8]
  cases hb : isN m j with
  | false => simp (disch := omega) only [rt_c, b_some, List.cons_append, List.nil_append, Bool.cond_not, cond_true, cond_false, Bool.cond_decide, nI_add, nI_clamp, xin_n, dle_e, dlt_e, deq_e, xb_0, xb_1, decide_true, decide_false, Bool.not_true, Bool.not_false, Bool.and_true, Bool.true_and, Bool.and_false, Bool.false_and, Bool.true_or, Bool.false_or, Bool.or_true, Bool.or_false, if_true, if_false, up1_s, n_31, Int32.lt_irrefl, t122_24]
  | true =>
    rcases hx with hx | hx
    · rw [hx] at hb; cases hb
    · have h56 := q56_out d sl I A N V lt tw sp sr X j x hx
      simp (disch := omega) only [rt_c, b_some, List.cons_append, List.nil_append, Bool.cond_not, cond_true, cond_false, Bool.cond_decide, nI_add, nI_clamp, xin_n, dle_e, dlt_e, deq_e, xb_0, xb_1, decide_true, decide_false, Bool.not_true, Bool.not_false, Bool.and_true, Bool.true_and, Bool.and_false, Bool.false_and, Bool.true_or, Bool.false_or, Bool.or_true, Bool.or_false, if_true, if_false, up1_s, n_31, Int32.lt_irrefl, h56, k122_20, t122_24]
theorem q123 (hS : Sh I A 3 n H m) (h k : Int32) : C (d + 4) 123 [.ref 0, .int h, .int k] sl (CH I A N V lt tw sp sr X) = some ([.int (cond (isN H h && (decide (nI 0 ≤ k) && decide (k < n (16 + h.toNatClampNeg)))) (inPlace_ n m h k) (-1))], sl, CH I A N V lt tw sp sr X) := by
  have h45 := q45_3 (d + 3) sl I A N V lt tw sp sr X hS h
  rw [e123, k123_0, h45]
  simp (disch := omega) only [rt_c, b_some, List.cons_append, List.nil_append, Bool.cond_not, cond_true, cond_false, Bool.cond_decide, nI_add, nI_clamp, xin_n, dle_e, dlt_e, deq_e, xb_0, xb_1, decide_true, decide_false, Bool.not_true, Bool.not_false, Bool.and_true, Bool.true_and, Bool.and_false, Bool.false_and, Bool.true_or, Bool.false_or, Bool.or_true, Bool.or_false, if_true, if_false, up1_s, n_31, Int32.lt_irrefl, k123_8]
  cases hb : isN H h with
  | false => simp (disch := omega) only [rt_c, b_some, List.cons_append, List.nil_append, Bool.cond_not, cond_true, cond_false, Bool.cond_decide, nI_add, nI_clamp, xin_n, dle_e, dlt_e, deq_e, xb_0, xb_1, decide_true, decide_false, Bool.not_true, Bool.not_false, Bool.and_true, Bool.true_and, Bool.and_false, Bool.false_and, Bool.true_or, Bool.false_or, Bool.or_true, Bool.or_false, if_true, if_false, up1_s, n_31, Int32.lt_irrefl, t123_29, t123_39]
  | true =>
    have h55 := q55 d sl I A N V lt tw sp sr X hS h k
    obtain ⟨⟨hH, hD, hH6, hm⟩, -, hC, hIn, hCh, hW, hT, hL, hG⟩ := sh_3 hS
    obtain ⟨j, hj, rfl⟩ := isN_t (by omega) hb
    by_cases h1 : k < nI 0
    · have h2 : ¬ nI 0 ≤ k := Int32.not_le.mpr h1
      simp (disch := omega) only [rt_c, b_some, List.cons_append, List.nil_append, Bool.cond_not, cond_true, cond_false, Bool.cond_decide, nI_add, nI_clamp, xin_n, dle_e, dlt_e, deq_e, xb_0, xb_1, decide_true, decide_false, Bool.not_true, Bool.not_false, Bool.and_true, Bool.true_and, Bool.and_false, Bool.false_and, Bool.true_or, Bool.false_or, Bool.or_true, Bool.or_false, if_true, if_false, up1_s, n_31, Int32.lt_irrefl, h1, h2, t123_29, t123_39]
    · have h2 : nI 0 ≤ k := Int32.not_lt.mp h1
      have h3 := h55 h2
      simp (disch := omega) only [rt_c, b_some, List.cons_append, List.nil_append, Bool.cond_not, cond_true, cond_false, Bool.cond_decide, nI_add, nI_clamp, xin_n, dle_e, dlt_e, deq_e, xb_0, xb_1, decide_true, decide_false, Bool.not_true, Bool.not_false, Bool.and_true, Bool.true_and, Bool.and_false, Bool.false_and, Bool.true_or, Bool.false_or, Bool.or_true, Bool.or_false, if_true, if_false, up1_s, n_31, Int32.lt_irrefl, h1, h2, hCh]
      by_cases h4 : k < n (16 + j) <;> simp (disch := omega) only [rt_c, b_some, List.cons_append, List.nil_append, Bool.cond_not, cond_true, cond_false, Bool.cond_decide, nI_add, nI_clamp, xin_n, dle_e, dlt_e, deq_e, xb_0, xb_1, decide_true, decide_false, Bool.not_true, Bool.not_false, Bool.and_true, Bool.true_and, Bool.and_false, Bool.false_and, Bool.true_or, Bool.false_or, Bool.or_true, Bool.or_false, if_true, if_false, up1_s, n_31, Int32.lt_irrefl, h4, h3, k123_39, t123_29, t123_39]
theorem q136 (hS : Sh I A 3 n H m) (k : Int32) : C (d + 3) 136 [.ref 0, .int k] sl (CH I A N V lt tw sp sr X) = some ([.int (cond (isN m k && op_ n k.toNatClampNeg) (left_ n (older_ n m k.toNatClampNeg)) (-1))], sl, CH I A N V lt tw sp sr X) := by
  have h46 := q46_3 (d + 2) sl I A N V lt tw sp sr X hS k
  rw [e136, k136_0, h46]
  simp (disch := omega) only [rt_c, b_some, List.cons_append, List.nil_append, Bool.cond_not, cond_true, cond_false, Bool.cond_decide, nI_add, nI_clamp, xin_n, dle_e, dlt_e, deq_e, xb_0, xb_1, decide_true, decide_false, Bool.not_true, Bool.not_false, Bool.and_true, Bool.true_and, Bool.and_false, Bool.false_and, Bool.true_or, Bool.false_or, Bool.or_true, Bool.or_false, if_true, if_false, up1_s, n_31, Int32.lt_irrefl, k136_8]
  have hm := hS.1.2.2.2
  cases hb : isN m k with
  | false => simp (disch := omega) only [rt_c, b_some, List.cons_append, List.nil_append, Bool.cond_not, cond_true, cond_false, Bool.cond_decide, nI_add, nI_clamp, xin_n, dle_e, dlt_e, deq_e, xb_0, xb_1, decide_true, decide_false, Bool.not_true, Bool.not_false, Bool.and_true, Bool.true_and, Bool.and_false, Bool.false_and, Bool.true_or, Bool.false_or, Bool.or_true, Bool.or_false, if_true, if_false, up1_s, n_31, Int32.lt_irrefl, t136_23, t136_32]
  | true =>
    obtain ⟨j, hj, rfl⟩ := isN_t (by omega) hb
    have h50 := q50_3 (d + 2) sl I A N V lt tw sp sr X hS hj
    have h54 := q54_3 d sl I A N V lt tw sp sr X hS hj
    simp (disch := omega) only [rt_c, b_some, List.cons_append, List.nil_append, Bool.cond_not, cond_true, cond_false, Bool.cond_decide, nI_add, nI_clamp, xin_n, dle_e, dlt_e, deq_e, xb_0, xb_1, decide_true, decide_false, Bool.not_true, Bool.not_false, Bool.and_true, Bool.true_and, Bool.and_false, Bool.false_and, Bool.true_or, Bool.false_or, Bool.or_true, Bool.or_false, if_true, if_false, up1_s, n_31, Int32.lt_irrefl, h50, k136_19]
    cases op_ n j with
    | false => simp (disch := omega) only [rt_c, b_some, List.cons_append, List.nil_append, Bool.cond_not, cond_true, cond_false, Bool.cond_decide, nI_add, nI_clamp, xin_n, dle_e, dlt_e, deq_e, xb_0, xb_1, decide_true, decide_false, Bool.not_true, Bool.not_false, Bool.and_true, Bool.true_and, Bool.and_false, Bool.false_and, Bool.true_or, Bool.false_or, Bool.or_true, Bool.or_false, if_true, if_false, up1_s, n_31, Int32.lt_irrefl, t136_23, t136_32]
    | true => simp (disch := omega) only [rt_c, b_some, List.cons_append, List.nil_append, Bool.cond_not, cond_true, cond_false, Bool.cond_decide, nI_add, nI_clamp, xin_n, dle_e, dlt_e, deq_e, xb_0, xb_1, decide_true, decide_false, Bool.not_true, Bool.not_false, Bool.and_true, Bool.true_and, Bool.and_false, Bool.false_and, Bool.true_or, Bool.false_or, Bool.or_true, Bool.or_false, if_true, if_false, up1_s, n_31, Int32.lt_irrefl, h54, k136_32, t136_23, t136_32]
theorem q138 : C d 138 [.ref 0] sl (CH I A N V lt tw sp sr X) = some ([.int (I 0 14)], sl, CH I A N V lt tw sp sr X) := by
  rw [e138, k138_0, t138_4]
theorem q147 : C d 147 [.ref 0] sl (CH I A N V lt tw sp sr X) = some ([.int (I 0 15)], sl, CH I A N V lt tw sp sr X) := by
  rw [e147, k147_0, t147_4]
theorem q118 : C d 118 [.ref 0] sl (CH I A N V lt tw sp sr X) = some ([.int (I 0 13)], sl, CH I A N V lt tw sp sr X) := by
  rw [e118, k118_0, t118_4]
theorem q141 {q : Nat} (hq : q ≤ 6) (hQ : I 95 3 = nI q) (k : Int32) : C d 141 [.ref 0, .int k] sl (CH I A N V lt tw sp sr X) = some ([.int (cond (isN q k) (A 98 k.toNatClampNeg) (-1))], sl, CH I A N V lt tw sp sr X) := by
  rw [e141, k141_0, hQ]
  cases hb : isN q k with
  | true =>
    obtain ⟨j, hj, rfl⟩ := isN_t (by omega) hb
    have h1 : ¬ j < 0 := by omega
    have h2 : ¬ q ≤ j := by omega
    simp (disch := omega) only [rt_c, b_some, List.cons_append, List.nil_append, Bool.cond_not, cond_true, cond_false, Bool.cond_decide, nI_add, nI_clamp, xin_n, dle_e, dlt_e, deq_e, xb_0, xb_1, decide_true, decide_false, Bool.not_true, Bool.not_false, Bool.and_true, Bool.true_and, Bool.and_false, Bool.false_and, Bool.true_or, Bool.false_or, Bool.or_true, Bool.or_false, if_true, if_false, up1_s, n_31, Int32.lt_irrefl, h1, h2, t141_28]
  | false =>
    unfold isN at hb
    simp (disch := omega) only [rt_c, b_some, List.cons_append, List.nil_append, Bool.cond_not, cond_true, cond_false, Bool.cond_decide, nI_add, nI_clamp, xin_n, dle_e, dlt_e, deq_e, xb_0, xb_1, decide_true, decide_false, Bool.not_true, Bool.not_false, Bool.and_true, Bool.true_and, Bool.and_false, Bool.false_and, Bool.true_or, Bool.false_or, Bool.or_true, Bool.or_false, if_true, if_false, up1_s, n_31, Int32.lt_irrefl, le_nl, decide_not] at hb ⊢
    by_cases h1 : k < nI 0
    · simp (disch := omega) only [rt_c, b_some, List.cons_append, List.nil_append, Bool.cond_not, cond_true, cond_false, Bool.cond_decide, nI_add, nI_clamp, xin_n, dle_e, dlt_e, deq_e, xb_0, xb_1, decide_true, decide_false, Bool.not_true, Bool.not_false, Bool.and_true, Bool.true_and, Bool.and_false, Bool.false_and, Bool.true_or, Bool.false_or, Bool.or_true, Bool.or_false, if_true, if_false, up1_s, n_31, Int32.lt_irrefl, h1, t141_28]
    · by_cases h2 : k < nI q
      · rw [decide_eq_true h2, decide_eq_false h1] at hb; cases hb
      · simp (disch := omega) only [rt_c, b_some, List.cons_append, List.nil_append, Bool.cond_not, cond_true, cond_false, Bool.cond_decide, nI_add, nI_clamp, xin_n, dle_e, dlt_e, deq_e, xb_0, xb_1, decide_true, decide_false, Bool.not_true, Bool.not_false, Bool.and_true, Bool.true_and, Bool.and_false, Bool.false_and, Bool.true_or, Bool.false_or, Bool.or_true, Bool.or_false, if_true, if_false, up1_s, n_31, Int32.lt_irrefl, h1, h2, t141_28]
/-- the fullest so far -/
def full_ (n : Nat → Int32) (m : Nat) (h b : Nat) : Nat := if nI (popF 12 (open_ n m (nI h))) * n (16 + b) ≤ nI (popF 12 (open_ n m (nI b))) * n (16 + h) then b else h
theorem full_lt {n : Nat → Int32} {m h b H : Nat} (hb : b < H) (hh : h < H) : full_ n m h b < H := by
  unfold full_
  split <;> assumption
theorem q143 (hS : Sh I A 3 n H m) : C (d + 3) 143 [.ref 0] sl (CH I A N V lt tw sp sr X) = some ([.int (if H = 0 then -1 else nI (x_it (full_ n m) 1 (H - 1) 0))], sl, CH I A N V lt tw sp sr X) := by
  have h60 := fun h => q60_3 d sl I A N V lt tw sp sr X hS h
  obtain ⟨⟨hH, hD, hH6, hm⟩, -, hC, hIn, hCh, hW, hT, hL, hG⟩ := sh_3 hS
  rw [e143, k143_0, hH]
  by_cases h0 : H = 0
  · simp (disch := omega) only [rt_c, b_some, List.cons_append, List.nil_append, Bool.cond_not, cond_true, cond_false, Bool.cond_decide, nI_add, nI_clamp, xin_n, dle_e, dlt_e, deq_e, xb_0, xb_1, decide_true, decide_false, Bool.not_true, Bool.not_false, Bool.and_true, Bool.true_and, Bool.and_false, Bool.false_and, Bool.true_or, Bool.false_or, Bool.or_true, Bool.or_false, if_true, if_false, up1_s, n_31, Int32.lt_irrefl, h0, t143_11, t143_75]
  · simp (disch := omega) only [rt_c, b_some, List.cons_append, List.nil_append, Bool.cond_not, cond_true, cond_false, Bool.cond_decide, nI_add, nI_clamp, xin_n, dle_e, dlt_e, deq_e, xb_0, xb_1, decide_true, decide_false, Bool.not_true, Bool.not_false, Bool.and_true, Bool.true_and, Bool.and_false, Bool.false_and, Bool.true_or, Bool.false_or, Bool.or_true, Bool.or_false, if_true, if_false, up1_s, n_31, Int32.lt_irrefl, h0]
    have key : ∀ q i b, i + q = H → b < H → rt 143 (R (d + 3) 143 (16, [some (.ref 0), some (.int (nI b)), some (.int (nI i))], [], sl, CH I A N V lt tw sp sr X)) = some ([.int (nI (x_it (full_ n m) i q b))], sl, CH I A N V lt tw sp sr X) := by
      intro q
      induction q with
      | zero =>
        intro i b hi hb
        have h1 : H ≤ i := by omega
        rw [k143_16]
        simp (disch := omega) only [rt_c, b_some, List.cons_append, List.nil_append, Bool.cond_not, cond_true, cond_false, Bool.cond_decide, nI_add, nI_clamp, xin_n, dle_e, dlt_e, deq_e, xb_0, xb_1, decide_true, decide_false, Bool.not_true, Bool.not_false, Bool.and_true, Bool.true_and, Bool.and_false, Bool.false_and, Bool.true_or, Bool.false_or, Bool.or_true, Bool.or_false, if_true, if_false, up1_s, n_31, Int32.lt_irrefl, hH, h1, t143_11, t143_75, x_it]
      | succ q ih =>
        intro i b hi hb
        have h1 : ¬ H ≤ i := by omega
        have h3 := ih (i + 1) (full_ n m i b) (by omega) (full_lt hb (by omega))
        rw [k143_16]
        simp (disch := omega) only [rt_c, b_some, List.cons_append, List.nil_append, Bool.cond_not, cond_true, cond_false, Bool.cond_decide, nI_add, nI_clamp, xin_n, dle_e, dlt_e, deq_e, xb_0, xb_1, decide_true, decide_false, Bool.not_true, Bool.not_false, Bool.and_true, Bool.true_and, Bool.and_false, Bool.false_and, Bool.true_or, Bool.false_or, Bool.or_true, Bool.or_false, if_true, if_false, up1_s, n_31, Int32.lt_irrefl, hH, h1, h60, k143_35, hCh, k143_53]
        rw [show x_it (full_ n m) i (q + 1) b = x_it (full_ n m) (i + 1) q (full_ n m i b) from rfl]
        by_cases h5 : nI (popF 12 (open_ n m (nI i))) * n (16 + b) ≤ nI (popF 12 (open_ n m (nI b))) * n (16 + i)
        · have hf : full_ n m i b = b := by unfold full_; rw [if_pos h5]
          rw [hf] at h3 ⊢
          rw [if_pos h5]
          exact h3
        · have hf : full_ n m i b = i := by unfold full_; rw [if_neg h5]
          rw [hf] at h3 ⊢
          rw [if_neg h5]
          exact h3
    exact key (H - 1) 1 0 (by omega) (by omega)
end CL2
