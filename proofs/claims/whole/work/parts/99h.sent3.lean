/-! SENTENCES: words, signs -/
section SNB
variable (d sl : Nat) (I : Nat → Nat → Int32) (A : Nat → Nat → Int32) (N : Nat → Nat → Int64) (V : Nat → Nat → Option Nat) (lt : Int64) (tw : Option Nat) (sp sr : Nat) (X : List AC)
theorem q4_t {v : Nat} (h1 : 12 ≤ v) (h2 : v ≤ 15) : C d 4 [.ref (1000000 + v)] sl (CH I A N V lt tw sp sr X) = some ([.int (x_b true)], sl, CH I A N V lt tw sp sr X) := by
  have hsw := isw_n (show v ≤ 20 by omega)
  rw [e4, k4_0, k4_4 _ _ _ _ _ _ _ _ _ _ _ _ _ hsw]
  by_cases h12 : v = 12
  · subst h12
    rw [show Nat.beq (1000000 + 12) 1000012 = true from rfl]
    simp (disch := omega) only [rt_c, b_some, List.cons_append, List.nil_append, Bool.cond_not, cond_true, cond_false, Bool.cond_decide, nI_add, nI_clamp, xin_n, dle_e, dlt_e, deq_e, xb_0, xb_1, decide_true, decide_false, Bool.not_true, Bool.not_false, Bool.and_true, Bool.true_and, Bool.and_false, Bool.false_and, Bool.true_or, Bool.false_or, Bool.or_true, Bool.or_false, if_true, if_false, up1_s, n_31, Int32.lt_irrefl, k4_28, t4_33, t4_33_0, t4_33_1]
  rw [show Nat.beq (1000000 + v) 1000012 = false from nbeq (k := 12) h12, cond_false, k4_7, k4_11 _ _ _ _ _ _ _ _ _ _ _ _ _ hsw]
  by_cases h13 : v = 13
  · subst h13
    rw [show Nat.beq (1000000 + 13) 1000013 = true from rfl]
    simp (disch := omega) only [rt_c, b_some, List.cons_append, List.nil_append, Bool.cond_not, cond_true, cond_false, Bool.cond_decide, nI_add, nI_clamp, xin_n, dle_e, dlt_e, deq_e, xb_0, xb_1, decide_true, decide_false, Bool.not_true, Bool.not_false, Bool.and_true, Bool.true_and, Bool.and_false, Bool.false_and, Bool.true_or, Bool.false_or, Bool.or_true, Bool.or_false, if_true, if_false, up1_s, n_31, Int32.lt_irrefl, k4_28, t4_33, t4_33_0, t4_33_1]
  rw [show Nat.beq (1000000 + v) 1000013 = false from nbeq (k := 13) h13, cond_false, k4_14, k4_18 _ _ _ _ _ _ _ _ _ _ _ _ _ hsw]
  by_cases h14 : v = 14
  · subst h14
    rw [show Nat.beq (1000000 + 14) 1000014 = true from rfl]
    simp (disch := omega) only [rt_c, b_some, List.cons_append, List.nil_append, Bool.cond_not, cond_true, cond_false, Bool.cond_decide, nI_add, nI_clamp, xin_n, dle_e, dlt_e, deq_e, xb_0, xb_1, decide_true, decide_false, Bool.not_true, Bool.not_false, Bool.and_true, Bool.true_and, Bool.and_false, Bool.false_and, Bool.true_or, Bool.false_or, Bool.or_true, Bool.or_false, if_true, if_false, up1_s, n_31, Int32.lt_irrefl, k4_28, t4_33, t4_33_0, t4_33_1]
  have h15 : v = 15 := by omega
  subst h15
  rw [show Nat.beq (1000000 + 15) 1000014 = false from rfl, cond_false, k4_21, k4_25 _ _ _ _ _ _ _ _ _ _ _ _ _ hsw, show Nat.beq (1000000 + 15) 1000015 = true from rfl]
  simp (disch := omega) only [rt_c, b_some, List.cons_append, List.nil_append, Bool.cond_not, cond_true, cond_false, Bool.cond_decide, nI_add, nI_clamp, xin_n, dle_e, dlt_e, deq_e, xb_0, xb_1, decide_true, decide_false, Bool.not_true, Bool.not_false, Bool.and_true, Bool.true_and, Bool.and_false, Bool.false_and, Bool.true_or, Bool.false_or, Bool.or_true, Bool.or_false, if_true, if_false, up1_s, n_31, Int32.lt_irrefl, k4_28, t4_33, t4_33_0, t4_33_1]
theorem q4_f {v : Nat} (hv : v ≤ 20) (h1 : v < 12 ∨ 15 < v) : C d 4 [.ref (1000000 + v)] sl (CH I A N V lt tw sp sr X) = some ([.int (x_b false)], sl, CH I A N V lt tw sp sr X) := by
  have hsw := isw_n hv
  rw [e4, k4_0, k4_4 _ _ _ _ _ _ _ _ _ _ _ _ _ hsw, show Nat.beq (1000000 + v) 1000012 = false from nbeq (k := 12) (by omega), cond_false, k4_7, k4_11 _ _ _ _ _ _ _ _ _ _ _ _ _ hsw, show Nat.beq (1000000 + v) 1000013 = false from nbeq (k := 13) (by omega), cond_false, k4_14, k4_18 _ _ _ _ _ _ _ _ _ _ _ _ _ hsw, show Nat.beq (1000000 + v) 1000014 = false from nbeq (k := 14) (by omega), cond_false, k4_21, k4_25 _ _ _ _ _ _ _ _ _ _ _ _ _ hsw, show Nat.beq (1000000 + v) 1000015 = false from nbeq (k := 15) (by omega)]
  simp (disch := omega) only [rt_c, b_some, List.cons_append, List.nil_append, Bool.cond_not, cond_true, cond_false, Bool.cond_decide, nI_add, nI_clamp, xin_n, dle_e, dlt_e, deq_e, xb_0, xb_1, decide_true, decide_false, Bool.not_true, Bool.not_false, Bool.and_true, Bool.true_and, Bool.and_false, Bool.false_and, Bool.true_or, Bool.false_or, Bool.or_true, Bool.or_false, if_true, if_false, up1_s, n_31, Int32.lt_irrefl, k4_32, t4_33, t4_33_0, t4_33_1]
theorem q5_t {v : Nat} (h1 : 17 ≤ v) (h2 : v ≤ 20) : C d 5 [.ref (1000000 + v)] sl (CH I A N V lt tw sp sr X) = some ([.int (x_b true)], sl, CH I A N V lt tw sp sr X) := by
  have hsw := isw_n h2
  rw [e5, k5_0, k5_4 _ _ _ _ _ _ _ _ _ _ _ _ _ hsw]
  by_cases h12 : v = 17
  · subst h12
    rw [show Nat.beq (1000000 + 17) 1000017 = true from rfl]
    simp (disch := omega) only [rt_c, b_some, List.cons_append, List.nil_append, Bool.cond_not, cond_true, cond_false, Bool.cond_decide, nI_add, nI_clamp, xin_n, dle_e, dlt_e, deq_e, xb_0, xb_1, decide_true, decide_false, Bool.not_true, Bool.not_false, Bool.and_true, Bool.true_and, Bool.and_false, Bool.false_and, Bool.true_or, Bool.false_or, Bool.or_true, Bool.or_false, if_true, if_false, up1_s, n_31, Int32.lt_irrefl, k5_28, t5_33, t5_33_0, t5_33_1]
  rw [show Nat.beq (1000000 + v) 1000017 = false from nbeq (k := 17) h12, cond_false, k5_7, k5_11 _ _ _ _ _ _ _ _ _ _ _ _ _ hsw]
  by_cases h13 : v = 18
  · subst h13
    rw [show Nat.beq (1000000 + 18) 1000018 = true from rfl]
    simp (disch := omega) only [rt_c, b_some, List.cons_append, List.nil_append, Bool.cond_not, cond_true, cond_false, Bool.cond_decide, nI_add, nI_clamp, xin_n, dle_e, dlt_e, deq_e, xb_0, xb_1, decide_true, decide_false, Bool.not_true, Bool.not_false, Bool.and_true, Bool.true_and, Bool.and_false, Bool.false_and, Bool.true_or, Bool.false_or, Bool.or_true, Bool.or_false, if_true, if_false, up1_s, n_31, Int32.lt_irrefl, k5_28, t5_33, t5_33_0, t5_33_1]
  rw [show Nat.beq (1000000 + v) 1000018 = false from nbeq (k := 18) h13, cond_false, k5_14, k5_18 _ _ _ _ _ _ _ _ _ _ _ _ _ hsw]
  by_cases h14 : v = 19
  · subst h14
    rw [show Nat.beq (1000000 + 19) 1000019 = true from rfl]
    simp (disch := omega) only [rt_c, b_some, List.cons_append, List.nil_append, Bool.cond_not, cond_true, cond_false, Bool.cond_decide, nI_add, nI_clamp, xin_n, dle_e, dlt_e, deq_e, xb_0, xb_1, decide_true, decide_false, Bool.not_true, Bool.not_false, Bool.and_true, Bool.true_and, Bool.and_false, Bool.false_and, Bool.true_or, Bool.false_or, Bool.or_true, Bool.or_false, if_true, if_false, up1_s, n_31, Int32.lt_irrefl, k5_28, t5_33, t5_33_0, t5_33_1]
  have h15 : v = 20 := by omega
  subst h15
  rw [show Nat.beq (1000000 + 20) 1000019 = false from rfl, cond_false, k5_21, k5_25 _ _ _ _ _ _ _ _ _ _ _ _ _ hsw, show Nat.beq (1000000 + 20) 1000020 = true from rfl]
  simp (disch := omega) only [rt_c, b_some, List.cons_append, List.nil_append, Bool.cond_not, cond_true, cond_false, Bool.cond_decide, nI_add, nI_clamp, xin_n, dle_e, dlt_e, deq_e, xb_0, xb_1, decide_true, decide_false, Bool.not_true, Bool.not_false, Bool.and_true, Bool.true_and, Bool.and_false, Bool.false_and, Bool.true_or, Bool.false_or, Bool.or_true, Bool.or_false, if_true, if_false, up1_s, n_31, Int32.lt_irrefl, k5_28, t5_33, t5_33_0, t5_33_1]
theorem q5_f {v : Nat} (hv : v < 17) : C d 5 [.ref (1000000 + v)] sl (CH I A N V lt tw sp sr X) = some ([.int (x_b false)], sl, CH I A N V lt tw sp sr X) := by
  have hsw := isw_n (show v ≤ 20 by omega)
  rw [e5, k5_0, k5_4 _ _ _ _ _ _ _ _ _ _ _ _ _ hsw, show Nat.beq (1000000 + v) 1000017 = false from nbeq (k := 17) (by omega), cond_false, k5_7, k5_11 _ _ _ _ _ _ _ _ _ _ _ _ _ hsw, show Nat.beq (1000000 + v) 1000018 = false from nbeq (k := 18) (by omega), cond_false, k5_14, k5_18 _ _ _ _ _ _ _ _ _ _ _ _ _ hsw, show Nat.beq (1000000 + v) 1000019 = false from nbeq (k := 19) (by omega), cond_false, k5_21, k5_25 _ _ _ _ _ _ _ _ _ _ _ _ _ hsw, show Nat.beq (1000000 + v) 1000020 = false from nbeq (k := 20) (by omega)]
  simp (disch := omega) only [rt_c, b_some, List.cons_append, List.nil_append, Bool.cond_not, cond_true, cond_false, Bool.cond_decide, nI_add, nI_clamp, xin_n, dle_e, dlt_e, deq_e, xb_0, xb_1, decide_true, decide_false, Bool.not_true, Bool.not_false, Bool.and_true, Bool.true_and, Bool.and_false, Bool.false_and, Bool.true_or, Bool.false_or, Bool.or_true, Bool.or_false, if_true, if_false, up1_s, n_31, Int32.lt_irrefl, k5_32, t5_33, t5_33_0, t5_33_1]
end SNB
section SNC
variable (d sl : Nat) (I A : Nat → Nat → Int32) (N : Nat → Nat → Int64) (V : Nat → Nat → Option Nat) (lt : Int64)
theorem q40_w_112 {v : Nat} (hv : v ≤ 20) (o : Int32) : C (d + 1) 40 [.ref 146] sl (CH I A N V lt (some (1000000 + v)) 108 112 [.inr (5, [.ref 1, .ref 3, .ref 112, .int o])]) = some ([.int (x_b (decide (11 ≤ v)))], sl, CH I A N V lt (some (1000000 + v)) 108 112 [.inr (5, [.ref 1, .ref 3, .ref 112, .int o])]) := by
  have hsw := isw_n hv
  rw [e40, k40_r146_v0_0_1, k40_r146_v0_26 _ _ _ _ _ _ _ _ _ _ _ hsw]
  by_cases h11 : v = 11
  · subst h11
    rw [show Nat.beq (1000000 + 11) 1000011 = true from rfl]
    simp (disch := omega) only [rt_c, b_some, List.cons_append, List.nil_append, Bool.cond_not, cond_true, cond_false, Bool.cond_decide, nI_add, nI_clamp, xin_n, dle_e, dlt_e, deq_e, xb_0, xb_1, decide_true, decide_false, Bool.not_true, Bool.not_false, Bool.and_true, Bool.true_and, Bool.and_false, Bool.false_and, Bool.true_or, Bool.false_or, Bool.or_true, Bool.or_false, if_true, if_false, up1_s, n_31, Int32.lt_irrefl, k40_r146_v0_50, Nat.le_refl, t40_21, t40_21_0, t40_21_1, t40_55, t40_55_0, t40_55_1]
  rw [show Nat.beq (1000000 + v) 1000011 = false from nbeq (k := 11) h11, cond_false, k40_r146_v0_29, k40_r146_v0_33 _ _ _ _ _ _ _ _ _ _ _ hsw]
  by_cases h16 : v = 16
  · subst h16
    rw [show Nat.beq (1000000 + 16) 1000016 = true from rfl]
    simp (disch := omega) only [rt_c, b_some, List.cons_append, List.nil_append, Bool.cond_not, cond_true, cond_false, Bool.cond_decide, nI_add, nI_clamp, xin_n, dle_e, dlt_e, deq_e, xb_0, xb_1, decide_true, decide_false, Bool.not_true, Bool.not_false, Bool.and_true, Bool.true_and, Bool.and_false, Bool.false_and, Bool.true_or, Bool.false_or, Bool.or_true, Bool.or_false, if_true, if_false, up1_s, n_31, Int32.lt_irrefl, k40_r146_v0_50, t40_21, t40_21_0, t40_21_1, t40_55, t40_55_0, t40_55_1]
    rfl
  rw [show Nat.beq (1000000 + v) 1000016 = false from nbeq (k := 16) h16, cond_false, k40_r146_v0_36, k40_r146_v0_37 _ _ _ _ _ _ _ _ _ _ _ hsw]
  by_cases hp : 12 ≤ v ∧ v ≤ 15
  · have h : 11 ≤ v := by omega
    simp (disch := omega) only [rt_c, b_some, List.cons_append, List.nil_append, Bool.cond_not, cond_true, cond_false, Bool.cond_decide, nI_add, nI_clamp, xin_n, dle_e, dlt_e, deq_e, xb_0, xb_1, decide_true, decide_false, Bool.not_true, Bool.not_false, Bool.and_true, Bool.true_and, Bool.and_false, Bool.false_and, Bool.true_or, Bool.false_or, Bool.or_true, Bool.or_false, if_true, if_false, up1_s, n_31, Int32.lt_irrefl, q4_t d sl I A N V lt (some (1000000 + v)) 108 112 [.inr (5, [.ref 1, .ref 3, .ref 112, .int o])] hp.1 hp.2, k40_r146_v0_40, xb_t, Nat.one_ne_zero, k40_r146_v0_50, h, t40_21, t40_21_0, t40_21_1, t40_55, t40_55_0, t40_55_1]
  · simp (disch := omega) only [rt_c, b_some, List.cons_append, List.nil_append, Bool.cond_not, cond_true, cond_false, Bool.cond_decide, nI_add, nI_clamp, xin_n, dle_e, dlt_e, deq_e, xb_0, xb_1, decide_true, decide_false, Bool.not_true, Bool.not_false, Bool.and_true, Bool.true_and, Bool.and_false, Bool.false_and, Bool.true_or, Bool.false_or, Bool.or_true, Bool.or_false, if_true, if_false, up1_s, n_31, Int32.lt_irrefl, q4_f d sl I A N V lt (some (1000000 + v)) 108 112 [.inr (5, [.ref 1, .ref 3, .ref 112, .int o])] hv (by omega), k40_r146_v0_40, xb_f]
    rw [k40_r146_v0_44 _ _ _ _ _ _ _ _ _ _ _ hsw]
    by_cases hm : 17 ≤ v
    · have h : 11 ≤ v := by omega
      simp (disch := omega) only [rt_c, b_some, List.cons_append, List.nil_append, Bool.cond_not, cond_true, cond_false, Bool.cond_decide, nI_add, nI_clamp, xin_n, dle_e, dlt_e, deq_e, xb_0, xb_1, decide_true, decide_false, Bool.not_true, Bool.not_false, Bool.and_true, Bool.true_and, Bool.and_false, Bool.false_and, Bool.true_or, Bool.false_or, Bool.or_true, Bool.or_false, if_true, if_false, up1_s, n_31, Int32.lt_irrefl, q5_t d sl I A N V lt (some (1000000 + v)) 108 112 [.inr (5, [.ref 1, .ref 3, .ref 112, .int o])] hm hv, k40_r146_v0_47, xb_t, Nat.one_ne_zero, k40_r146_v0_50, h, t40_21, t40_21_0, t40_21_1, t40_55, t40_55_0, t40_55_1]
    · have h : ¬ 11 ≤ v := by omega
      simp (disch := omega) only [rt_c, b_some, List.cons_append, List.nil_append, Bool.cond_not, cond_true, cond_false, Bool.cond_decide, nI_add, nI_clamp, xin_n, dle_e, dlt_e, deq_e, xb_0, xb_1, decide_true, decide_false, Bool.not_true, Bool.not_false, Bool.and_true, Bool.true_and, Bool.and_false, Bool.false_and, Bool.true_or, Bool.false_or, Bool.or_true, Bool.or_false, if_true, if_false, up1_s, n_31, Int32.lt_irrefl, q5_f d sl I A N V lt (some (1000000 + v)) 108 112 [.inr (5, [.ref 1, .ref 3, .ref 112, .int o])] (show v < 17 by omega), k40_r146_v0_47, xb_f, h, t40_21, t40_21_0, t40_21_1, t40_55, t40_55_0, t40_55_1]
theorem q40_112 {J : Nat → Int32} {w : Int64} {t L n κ v : Nat} {s : List Nat} {tw : Option Nat} (h : Tk t L n κ v s (I 1) lt tw J w) (o : Int32) : C (d + 1) 40 [.ref 146] sl (CH I A N V lt tw 108 112 [.inr (5, [.ref 1, .ref 3, .ref 112, .int o])]) = some ([.int (x_b (decide ((κ = 5 ∧ v = 40) ∨ (κ = 2 ∧ 11 ≤ v))))], sl, CH I A N V lt tw 108 112 [.inr (5, [.ref 1, .ref 3, .ref 112, .int o])]) := by
  by_cases hk : κ = 2
  · subst hk
    obtain ⟨v20, ht, -⟩ := Tk_word h
    subst ht
    rw [q40_w_112 d sl I A N V lt v20]
    by_cases h11 : 11 ≤ v
    · rw [decide_eq_true h11, decide_eq_true (p := (2 = 5 ∧ v = 40) ∨ (2 = 2 ∧ 11 ≤ v)) (Or.inr ⟨rfl, h11⟩)]
    · rw [decide_eq_false h11, decide_eq_false (p := (2 = 5 ∧ v = 40) ∨ (2 = 2 ∧ 11 ≤ v)) (by omega)]
  · have ht := Tk_nw h hk
    subst ht
    have h96 := q96 d sl I A N V lt none 108 112 [.inr (5, [.ref 1, .ref 3, .ref 112, .int o])] (show 40 < 128 by decide) h
    rw [e40, k40_r146_v0_0]
    by_cases h5 : κ = 5 ∧ v = 40
    · rw [decide_eq_true h5] at h96
      rw [decide_eq_true (p := (κ = 5 ∧ v = 40) ∨ (κ = 2 ∧ 11 ≤ v)) (Or.inl h5)]
      simp (disch := omega) only [rt_c, b_some, List.cons_append, List.nil_append, Bool.cond_not, cond_true, cond_false, Bool.cond_decide, nI_add, nI_clamp, xin_n, dle_e, dlt_e, deq_e, xb_0, xb_1, decide_true, decide_false, Bool.not_true, Bool.not_false, Bool.and_true, Bool.true_and, Bool.and_false, Bool.false_and, Bool.true_or, Bool.false_or, Bool.or_true, Bool.or_false, if_true, if_false, up1_s, n_31, Int32.lt_irrefl, h96, k40_r146_v0_21, t40_21, t40_21_0, t40_21_1, t40_55, t40_55_0, t40_55_1]
    · rw [decide_eq_false h5] at h96
      rw [decide_eq_false (p := (κ = 5 ∧ v = 40) ∨ (κ = 2 ∧ 11 ≤ v)) (fun hh => hh.elim h5 (fun hh => hk hh.1))]
      simp (disch := omega) only [rt_c, b_some, List.cons_append, List.nil_append, Bool.cond_not, cond_true, cond_false, Bool.cond_decide, nI_add, nI_clamp, xin_n, dle_e, dlt_e, deq_e, xb_0, xb_1, decide_true, decide_false, Bool.not_true, Bool.not_false, Bool.and_true, Bool.true_and, Bool.and_false, Bool.false_and, Bool.true_or, Bool.false_or, Bool.or_true, Bool.or_false, if_true, if_false, up1_s, n_31, Int32.lt_irrefl, h96, k40_r146_v0_21, t40_21, t40_21_0, t40_21_1, t40_55, t40_55_0, t40_55_1]
theorem q40_w_108 {v : Nat} (hv : v ≤ 20) (o : Int32) : C (d + 1) 40 [.ref 146] sl (CH I A N V lt (some (1000000 + v)) 112 108 [.inr (5, [.ref 1, .ref 3, .ref 108, .int o])]) = some ([.int (x_b (decide (11 ≤ v)))], sl, CH I A N V lt (some (1000000 + v)) 112 108 [.inr (5, [.ref 1, .ref 3, .ref 108, .int o])]) := by
  have hsw := isw_n hv
  rw [e40, k40_r146_v1_0_1, k40_r146_v1_26 _ _ _ _ _ _ _ _ _ _ _ hsw]
  by_cases h11 : v = 11
  · subst h11
    rw [show Nat.beq (1000000 + 11) 1000011 = true from rfl]
    simp (disch := omega) only [rt_c, b_some, List.cons_append, List.nil_append, Bool.cond_not, cond_true, cond_false, Bool.cond_decide, nI_add, nI_clamp, xin_n, dle_e, dlt_e, deq_e, xb_0, xb_1, decide_true, decide_false, Bool.not_true, Bool.not_false, Bool.and_true, Bool.true_and, Bool.and_false, Bool.false_and, Bool.true_or, Bool.false_or, Bool.or_true, Bool.or_false, if_true, if_false, up1_s, n_31, Int32.lt_irrefl, k40_r146_v1_50, Nat.le_refl, t40_21, t40_21_0, t40_21_1, t40_55, t40_55_0, t40_55_1]
  rw [show Nat.beq (1000000 + v) 1000011 = false from nbeq (k := 11) h11, cond_false, k40_r146_v1_29, k40_r146_v1_33 _ _ _ _ _ _ _ _ _ _ _ hsw]
  by_cases h16 : v = 16
  · subst h16
    rw [show Nat.beq (1000000 + 16) 1000016 = true from rfl]
    simp (disch := omega) only [rt_c, b_some, List.cons_append, List.nil_append, Bool.cond_not, cond_true, cond_false, Bool.cond_decide, nI_add, nI_clamp, xin_n, dle_e, dlt_e, deq_e, xb_0, xb_1, decide_true, decide_false, Bool.not_true, Bool.not_false, Bool.and_true, Bool.true_and, Bool.and_false, Bool.false_and, Bool.true_or, Bool.false_or, Bool.or_true, Bool.or_false, if_true, if_false, up1_s, n_31, Int32.lt_irrefl, k40_r146_v1_50, t40_21, t40_21_0, t40_21_1, t40_55, t40_55_0, t40_55_1]
    rfl
  rw [show Nat.beq (1000000 + v) 1000016 = false from nbeq (k := 16) h16, cond_false, k40_r146_v1_36, k40_r146_v1_37 _ _ _ _ _ _ _ _ _ _ _ hsw]
  by_cases hp : 12 ≤ v ∧ v ≤ 15
  · have h : 11 ≤ v := by omega
    simp (disch := omega) only [rt_c, b_some, List.cons_append, List.nil_append, Bool.cond_not, cond_true, cond_false, Bool.cond_decide, nI_add, nI_clamp, xin_n, dle_e, dlt_e, deq_e, xb_0, xb_1, decide_true, decide_false, Bool.not_true, Bool.not_false, Bool.and_true, Bool.true_and, Bool.and_false, Bool.false_and, Bool.true_or, Bool.false_or, Bool.or_true, Bool.or_false, if_true, if_false, up1_s, n_31, Int32.lt_irrefl, q4_t d sl I A N V lt (some (1000000 + v)) 112 108 [.inr (5, [.ref 1, .ref 3, .ref 108, .int o])] hp.1 hp.2, k40_r146_v1_40, xb_t, Nat.one_ne_zero, k40_r146_v1_50, h, t40_21, t40_21_0, t40_21_1, t40_55, t40_55_0, t40_55_1]
  · simp (disch := omega) only [rt_c, b_some, List.cons_append, List.nil_append, Bool.cond_not, cond_true, cond_false, Bool.cond_decide, nI_add, nI_clamp, xin_n, dle_e, dlt_e, deq_e, xb_0, xb_1, decide_true, decide_false, Bool.not_true, Bool.not_false, Bool.and_true, Bool.true_and, Bool.and_false, Bool.false_and, Bool.true_or, Bool.false_or, Bool.or_true, Bool.or_false, if_true, if_false, up1_s, n_31, Int32.lt_irrefl, q4_f d sl I A N V lt (some (1000000 + v)) 112 108 [.inr (5, [.ref 1, .ref 3, .ref 108, .int o])] hv (by omega), k40_r146_v1_40, xb_f]
    rw [k40_r146_v1_44 _ _ _ _ _ _ _ _ _ _ _ hsw]
    by_cases hm : 17 ≤ v
    · have h : 11 ≤ v := by omega
      simp (disch := omega) only [rt_c, b_some, List.cons_append, List.nil_append, Bool.cond_not, cond_true, cond_false, Bool.cond_decide, nI_add, nI_clamp, xin_n, dle_e, dlt_e, deq_e, xb_0, xb_1, decide_true, decide_false, Bool.not_true, Bool.not_false, Bool.and_true, Bool.true_and, Bool.and_false, Bool.false_and, Bool.true_or, Bool.false_or, Bool.or_true, Bool.or_false, if_true, if_false, up1_s, n_31, Int32.lt_irrefl, q5_t d sl I A N V lt (some (1000000 + v)) 112 108 [.inr (5, [.ref 1, .ref 3, .ref 108, .int o])] hm hv, k40_r146_v1_47, xb_t, Nat.one_ne_zero, k40_r146_v1_50, h, t40_21, t40_21_0, t40_21_1, t40_55, t40_55_0, t40_55_1]
    · have h : ¬ 11 ≤ v := by omega
      simp (disch := omega) only [rt_c, b_some, List.cons_append, List.nil_append, Bool.cond_not, cond_true, cond_false, Bool.cond_decide, nI_add, nI_clamp, xin_n, dle_e, dlt_e, deq_e, xb_0, xb_1, decide_true, decide_false, Bool.not_true, Bool.not_false, Bool.and_true, Bool.true_and, Bool.and_false, Bool.false_and, Bool.true_or, Bool.false_or, Bool.or_true, Bool.or_false, if_true, if_false, up1_s, n_31, Int32.lt_irrefl, q5_f d sl I A N V lt (some (1000000 + v)) 112 108 [.inr (5, [.ref 1, .ref 3, .ref 108, .int o])] (show v < 17 by omega), k40_r146_v1_47, xb_f, h, t40_21, t40_21_0, t40_21_1, t40_55, t40_55_0, t40_55_1]
theorem q40_108 {J : Nat → Int32} {w : Int64} {t L n κ v : Nat} {s : List Nat} {tw : Option Nat} (h : Tk t L n κ v s (I 1) lt tw J w) (o : Int32) : C (d + 1) 40 [.ref 146] sl (CH I A N V lt tw 112 108 [.inr (5, [.ref 1, .ref 3, .ref 108, .int o])]) = some ([.int (x_b (decide ((κ = 5 ∧ v = 40) ∨ (κ = 2 ∧ 11 ≤ v))))], sl, CH I A N V lt tw 112 108 [.inr (5, [.ref 1, .ref 3, .ref 108, .int o])]) := by
  by_cases hk : κ = 2
  · subst hk
    obtain ⟨v20, ht, -⟩ := Tk_word h
    subst ht
    rw [q40_w_108 d sl I A N V lt v20]
    by_cases h11 : 11 ≤ v
    · rw [decide_eq_true h11, decide_eq_true (p := (2 = 5 ∧ v = 40) ∨ (2 = 2 ∧ 11 ≤ v)) (Or.inr ⟨rfl, h11⟩)]
    · rw [decide_eq_false h11, decide_eq_false (p := (2 = 5 ∧ v = 40) ∨ (2 = 2 ∧ 11 ≤ v)) (by omega)]
  · have ht := Tk_nw h hk
    subst ht
    have h96 := q96 d sl I A N V lt none 112 108 [.inr (5, [.ref 1, .ref 3, .ref 108, .int o])] (show 40 < 128 by decide) h
    rw [e40, k40_r146_v1_0]
    by_cases h5 : κ = 5 ∧ v = 40
    · rw [decide_eq_true h5] at h96
      rw [decide_eq_true (p := (κ = 5 ∧ v = 40) ∨ (κ = 2 ∧ 11 ≤ v)) (Or.inl h5)]
      simp (disch := omega) only [rt_c, b_some, List.cons_append, List.nil_append, Bool.cond_not, cond_true, cond_false, Bool.cond_decide, nI_add, nI_clamp, xin_n, dle_e, dlt_e, deq_e, xb_0, xb_1, decide_true, decide_false, Bool.not_true, Bool.not_false, Bool.and_true, Bool.true_and, Bool.and_false, Bool.false_and, Bool.true_or, Bool.false_or, Bool.or_true, Bool.or_false, if_true, if_false, up1_s, n_31, Int32.lt_irrefl, h96, k40_r146_v1_21, t40_21, t40_21_0, t40_21_1, t40_55, t40_55_0, t40_55_1]
    · rw [decide_eq_false h5] at h96
      rw [decide_eq_false (p := (κ = 5 ∧ v = 40) ∨ (κ = 2 ∧ 11 ≤ v)) (fun hh => hh.elim h5 (fun hh => hk hh.1))]
      simp (disch := omega) only [rt_c, b_some, List.cons_append, List.nil_append, Bool.cond_not, cond_true, cond_false, Bool.cond_decide, nI_add, nI_clamp, xin_n, dle_e, dlt_e, deq_e, xb_0, xb_1, decide_true, decide_false, Bool.not_true, Bool.not_false, Bool.and_true, Bool.true_and, Bool.and_false, Bool.false_and, Bool.true_or, Bool.false_or, Bool.or_true, Bool.or_false, if_true, if_false, up1_s, n_31, Int32.lt_irrefl, h96, k40_r146_v1_21, t40_21, t40_21_0, t40_21_1, t40_55, t40_55_0, t40_55_1]
end SNC
section SND
variable (d sl : Nat) (I : Nat → Int32) (w : Int64) (A : Nat → Nat → Int32) (N : Nat → Nat → Int64) {t L n κ v : Nat} {s : List Nat} {f : Nat → Int32} {lt : Int64} {tw : Option Nat}
theorem c271_w (h : Tk t L n κ v s f lt tw I w) (hk : κ = 2) (hv : v ≤ 20) (a1 : Int32) : ∀ (q i : Nat), i + q = v → rt 271 (R (d + 3) 271 (10, [some (.ref 0), some (.int a1), some (.int (nI i)), none], [], sl, RH I w A N)) = rt 271 (R (d + 3) 271 (21, [some (.ref 0), some (.int a1), some (.int (nI v)), none], [.int (nI 1)], sl, RH I w A N)) := by
  intro q
  induction q with
  | zero =>
    intro i hi
    have h1 : i = v := by omega
    subst h1
    have h2 : ¬ 20 < i := by omega
    have c7 := c177 d sl I w A N (k := i) hv h
    rw [decide_eq_true (p := κ = 2 ∧ i = i) ⟨hk, rfl⟩, xb_t] at c7
    rw [m271_10]
    simp (disch := omega) only [rt_c, b_some, List.cons_append, List.nil_append, Bool.cond_not, cond_true, cond_false, Bool.cond_decide, nI_add, nI_clamp, xin_n, dle_e, dlt_e, deq_e, xb_0, xb_1, decide_true, decide_false, Bool.not_true, Bool.not_false, Bool.and_true, Bool.true_and, Bool.and_false, Bool.false_and, Bool.true_or, Bool.false_or, Bool.or_true, Bool.or_false, if_true, if_false, up1_s, n_31, Int32.lt_irrefl, h2, c7]
  | succ q ih =>
    intro i hi
    have h2 : ¬ 20 < i := by omega
    have c7 := c177 d sl I w A N (k := i) (by omega) h
    rw [decide_eq_false (p := κ = 2 ∧ v = i) (by omega), xb_f] at c7
    rw [m271_10]
    simp (disch := omega) only [rt_c, b_some, List.cons_append, List.nil_append, Bool.cond_not, cond_true, cond_false, Bool.cond_decide, nI_add, nI_clamp, xin_n, dle_e, dlt_e, deq_e, xb_0, xb_1, decide_true, decide_false, Bool.not_true, Bool.not_false, Bool.and_true, Bool.true_and, Bool.and_false, Bool.false_and, Bool.true_or, Bool.false_or, Bool.or_true, Bool.or_false, if_true, if_false, up1_s, n_31, Int32.lt_irrefl, h2, c7, m271_21, ih (i + 1) (by omega)]
theorem c271_n (h : Tk t L n κ v s f lt tw I w) (hk : ¬ (κ = 2 ∧ 11 ≤ v)) (a1 : Int32) : ∀ (q i : Nat), i + q = 21 → 11 ≤ i → rt 271 (R (d + 3) 271 (10, [some (.ref 0), some (.int a1), some (.int (nI i)), none], [], sl, RH I w A N)) = rt 271 (R (d + 3) 271 (10, [some (.ref 0), some (.int a1), some (.int (nI 21)), none], [], sl, RH I w A N)) := by
  intro q
  induction q with
  | zero =>
    intro i hi _
    rw [show i = 21 by omega]
  | succ q ih =>
    intro i hi h11
    have h2 : ¬ 20 < i := by omega
    have c7 := c177 d sl I w A N (k := i) (by omega) h
    rw [decide_eq_false (p := κ = 2 ∧ v = i) (by omega), xb_f] at c7
    rw [m271_10]
    simp (disch := omega) only [rt_c, b_some, List.cons_append, List.nil_append, Bool.cond_not, cond_true, cond_false, Bool.cond_decide, nI_add, nI_clamp, xin_n, dle_e, dlt_e, deq_e, xb_0, xb_1, decide_true, decide_false, Bool.not_true, Bool.not_false, Bool.and_true, Bool.true_and, Bool.and_false, Bool.false_and, Bool.true_or, Bool.false_or, Bool.or_true, Bool.or_false, if_true, if_false, up1_s, n_31, Int32.lt_irrefl, h2, c7, m271_21, ih (i + 1) (by omega) (by omega)]
end SND
