/-! BOOK: what stands at the front of a line -/
def actI (v : Nat) : Int32 := if v = 3 then nI 0 else if v = 5 then nI 20 else if v = 6 then nI 30 else if v = 7 then nI 40 else if v = 8 then nI 50 else (-1)
def wht (κ v : Nat) : Nat := if κ = 2 ∧ v = 8 then 5 else if κ = 2 ∧ v = 3 then 0 else if κ = 2 ∧ 5 ≤ v ∧ v ≤ 7 then v - 3 else 1
section BK1
variable (d sl : Nat) (I : Nat → Nat → Int32) (A : Nat → Nat → Int32) (N : Nat → Nat → Int64) (V : Nat → Nat → Option Nat) (lt : Int64) (tw : Option Nat) (sp sr : Nat) (X : List AC)
theorem q11 {v : Nat} (hv : v ≤ 20) : C d 11 [.ref (1000000 + v)] sl (CH I A N V lt tw sp sr X) = some ([.int (actI v)], sl, CH I A N V lt tw sp sr X) := by
  have hw := isw_n hv
  rw [e11, k11_0, k11_4 _ _ _ _ _ _ _ _ _ _ _ _ _ hw]
  unfold actI
  by_cases h3 : v = 3
  · rw [if_pos h3, show Nat.beq (1000000 + v) 1000003 = true by rw [h3]; rfl]
    simp (disch := omega) only [rt_c, b_some, List.cons_append, List.nil_append, Bool.cond_not, cond_true, cond_false, Bool.cond_decide, nI_add, nI_clamp, xin_n, dle_e, dlt_e, deq_e, xb_0, xb_1, decide_true, decide_false, Bool.not_true, Bool.not_false, Bool.and_true, Bool.true_and, Bool.and_false, Bool.false_and, Bool.true_or, Bool.false_or, Bool.or_true, Bool.or_false, if_true, if_false, up1_s, n_31, Int32.lt_irrefl, k11_7, t11_8, t11_18, t11_28, t11_38, t11_52]
  rw [if_neg h3, show Nat.beq (1000000 + v) 1000003 = false from nbeq (k := 3) h3]
  simp (disch := omega) only [rt_c, b_some, List.cons_append, List.nil_append, Bool.cond_not, cond_true, cond_false, Bool.cond_decide, nI_add, nI_clamp, xin_n, dle_e, dlt_e, deq_e, xb_0, xb_1, decide_true, decide_false, Bool.not_true, Bool.not_false, Bool.and_true, Bool.true_and, Bool.and_false, Bool.false_and, Bool.true_or, Bool.false_or, Bool.or_true, Bool.or_false, if_true, if_false, up1_s, n_31, Int32.lt_irrefl, k11_9]
  rw [k11_13 _ _ _ _ _ _ _ _ _ _ _ _ _ hw]
  by_cases h5 : v = 5
  · rw [if_pos h5, show Nat.beq (1000000 + v) 1000005 = true by rw [h5]; rfl]
    simp (disch := omega) only [rt_c, b_some, List.cons_append, List.nil_append, Bool.cond_not, cond_true, cond_false, Bool.cond_decide, nI_add, nI_clamp, xin_n, dle_e, dlt_e, deq_e, xb_0, xb_1, decide_true, decide_false, Bool.not_true, Bool.not_false, Bool.and_true, Bool.true_and, Bool.and_false, Bool.false_and, Bool.true_or, Bool.false_or, Bool.or_true, Bool.or_false, if_true, if_false, up1_s, n_31, Int32.lt_irrefl, k11_16, t11_8, t11_18, t11_28, t11_38, t11_52]
  rw [if_neg h5, show Nat.beq (1000000 + v) 1000005 = false from nbeq (k := 5) h5]
  simp (disch := omega) only [rt_c, b_some, List.cons_append, List.nil_append, Bool.cond_not, cond_true, cond_false, Bool.cond_decide, nI_add, nI_clamp, xin_n, dle_e, dlt_e, deq_e, xb_0, xb_1, decide_true, decide_false, Bool.not_true, Bool.not_false, Bool.and_true, Bool.true_and, Bool.and_false, Bool.false_and, Bool.true_or, Bool.false_or, Bool.or_true, Bool.or_false, if_true, if_false, up1_s, n_31, Int32.lt_irrefl, k11_19]
  rw [k11_23 _ _ _ _ _ _ _ _ _ _ _ _ _ hw]
  by_cases h6 : v = 6
  · rw [if_pos h6, show Nat.beq (1000000 + v) 1000006 = true by rw [h6]; rfl]
    simp (disch := omega) only [rt_c, b_some, List.cons_append, List.nil_append, Bool.cond_not, cond_true, cond_false, Bool.cond_decide, nI_add, nI_clamp, xin_n, dle_e, dlt_e, deq_e, xb_0, xb_1, decide_true, decide_false, Bool.not_true, Bool.not_false, Bool.and_true, Bool.true_and, Bool.and_false, Bool.false_and, Bool.true_or, Bool.false_or, Bool.or_true, Bool.or_false, if_true, if_false, up1_s, n_31, Int32.lt_irrefl, k11_26, t11_8, t11_18, t11_28, t11_38, t11_52]
  rw [if_neg h6, show Nat.beq (1000000 + v) 1000006 = false from nbeq (k := 6) h6]
  simp (disch := omega) only [rt_c, b_some, List.cons_append, List.nil_append, Bool.cond_not, cond_true, cond_false, Bool.cond_decide, nI_add, nI_clamp, xin_n, dle_e, dlt_e, deq_e, xb_0, xb_1, decide_true, decide_false, Bool.not_true, Bool.not_false, Bool.and_true, Bool.true_and, Bool.and_false, Bool.false_and, Bool.true_or, Bool.false_or, Bool.or_true, Bool.or_false, if_true, if_false, up1_s, n_31, Int32.lt_irrefl, k11_29]
  rw [k11_33 _ _ _ _ _ _ _ _ _ _ _ _ _ hw]
  by_cases h7 : v = 7
  · rw [if_pos h7, show Nat.beq (1000000 + v) 1000007 = true by rw [h7]; rfl]
    simp (disch := omega) only [rt_c, b_some, List.cons_append, List.nil_append, Bool.cond_not, cond_true, cond_false, Bool.cond_decide, nI_add, nI_clamp, xin_n, dle_e, dlt_e, deq_e, xb_0, xb_1, decide_true, decide_false, Bool.not_true, Bool.not_false, Bool.and_true, Bool.true_and, Bool.and_false, Bool.false_and, Bool.true_or, Bool.false_or, Bool.or_true, Bool.or_false, if_true, if_false, up1_s, n_31, Int32.lt_irrefl, k11_36, t11_8, t11_18, t11_28, t11_38, t11_52]
  rw [if_neg h7, show Nat.beq (1000000 + v) 1000007 = false from nbeq (k := 7) h7]
  simp (disch := omega) only [rt_c, b_some, List.cons_append, List.nil_append, Bool.cond_not, cond_true, cond_false, Bool.cond_decide, nI_add, nI_clamp, xin_n, dle_e, dlt_e, deq_e, xb_0, xb_1, decide_true, decide_false, Bool.not_true, Bool.not_false, Bool.and_true, Bool.true_and, Bool.and_false, Bool.false_and, Bool.true_or, Bool.false_or, Bool.or_true, Bool.or_false, if_true, if_false, up1_s, n_31, Int32.lt_irrefl, k11_39]
  rw [k11_43 _ _ _ _ _ _ _ _ _ _ _ _ _ hw]
  by_cases h8 : v = 8
  · rw [if_pos h8, show Nat.beq (1000000 + v) 1000008 = true by rw [h8]; rfl]
    simp (disch := omega) only [rt_c, b_some, List.cons_append, List.nil_append, Bool.cond_not, cond_true, cond_false, Bool.cond_decide, nI_add, nI_clamp, xin_n, dle_e, dlt_e, deq_e, xb_0, xb_1, decide_true, decide_false, Bool.not_true, Bool.not_false, Bool.and_true, Bool.true_and, Bool.and_false, Bool.false_and, Bool.true_or, Bool.false_or, Bool.or_true, Bool.or_false, if_true, if_false, up1_s, n_31, Int32.lt_irrefl, k11_46, t11_8, t11_18, t11_28, t11_38, t11_52]
  rw [if_neg h8, show Nat.beq (1000000 + v) 1000008 = false from nbeq (k := 8) h8]
  simp (disch := omega) only [rt_c, b_some, List.cons_append, List.nil_append, Bool.cond_not, cond_true, cond_false, Bool.cond_decide, nI_add, nI_clamp, xin_n, dle_e, dlt_e, deq_e, xb_0, xb_1, decide_true, decide_false, Bool.not_true, Bool.not_false, Bool.and_true, Bool.true_and, Bool.and_false, Bool.false_and, Bool.true_or, Bool.false_or, Bool.or_true, Bool.or_false, if_true, if_false, up1_s, n_31, Int32.lt_irrefl, k11_51, t11_8, t11_18, t11_28, t11_38, t11_52]
end BK1
section BK2
variable (d sl : Nat) (I : Nat → Int32) (w : Int64) (A : Nat → Nat → Int32) (N : Nat → Nat → Int64) {t L n κ v : Nat} {s : List Nat} {f : Nat → Int32} {lt : Int64} {tw : Option Nat}
theorem c262 (h : Tk t L n κ v s f lt tw I w) : C (d + 3) 262 [.ref 0] sl (RH I w A N) = some ([.int (nI (wht κ v))], sl, RH I w A N) := by
  have key : ∀ (q i : Nat), i + q = 5 → 2 ≤ i → rt 262 (R (d + 3) 262 (23, [some (.ref 0), some (.int (nI i))], [], sl, RH I w A N)) = some ([.int (nI (if κ = 2 ∧ 3 + i ≤ v ∧ v ≤ 7 then v - 3 else 1))], sl, RH I w A N) := by
    intro q
    induction q with
    | zero =>
      intro i hi h2
      have h4 : 4 < i := by omega
      rw [if_neg (by omega), m262_23]
      simp (disch := omega) only [rt_c, b_some, List.cons_append, List.nil_append, Bool.cond_not, cond_true, cond_false, Bool.cond_decide, nI_add, nI_clamp, xin_n, dle_e, dlt_e, deq_e, xb_0, xb_1, decide_true, decide_false, Bool.not_true, Bool.not_false, Bool.and_true, Bool.true_and, Bool.and_false, Bool.false_and, Bool.true_or, Bool.false_or, Bool.or_true, Bool.or_false, if_true, if_false, up1_s, n_31, Int32.lt_irrefl, h4, t262_10, t262_20, t262_41, t262_49]
    | succ q ih =>
      intro i hi h2
      have h4 : ¬ 4 < i := by omega
      have hs : nI (5 + i) - nI 2 = nI (3 + i) := by rw [nI_sub (by omega)]; congr 1; omega
      have hc := c177 d sl I w A N (show 3 + i ≤ 20 by omega) h
      rw [m262_23]
      by_cases hk : κ = 2 ∧ v = 3 + i
      · rw [decide_eq_true hk] at hc
        rw [if_pos (by omega), show v - 3 = i by omega]
        simp (disch := omega) only [rt_c, b_some, List.cons_append, List.nil_append, Bool.cond_not, cond_true, cond_false, Bool.cond_decide, nI_add, nI_clamp, xin_n, dle_e, dlt_e, deq_e, xb_0, xb_1, decide_true, decide_false, Bool.not_true, Bool.not_false, Bool.and_true, Bool.true_and, Bool.and_false, Bool.false_and, Bool.true_or, Bool.false_or, Bool.or_true, Bool.or_false, if_true, if_false, up1_s, n_31, Int32.lt_irrefl, h4, hs, hc, m262_37, xb_t, Nat.one_ne_zero, t262_10, t262_20, t262_41, t262_49]
      · rw [decide_eq_false hk] at hc
        rw [show (if κ = 2 ∧ 3 + i ≤ v ∧ v ≤ 7 then v - 3 else 1) = (if κ = 2 ∧ 3 + (i + 1) ≤ v ∧ v ≤ 7 then v - 3 else 1) by
          by_cases h9 : κ = 2 ∧ 3 + (i + 1) ≤ v ∧ v ≤ 7
          · rw [if_pos h9, if_pos (by omega)]
          · rw [if_neg h9, if_neg (by omega)]]
        simp (disch := omega) only [rt_c, b_some, List.cons_append, List.nil_append, Bool.cond_not, cond_true, cond_false, Bool.cond_decide, nI_add, nI_clamp, xin_n, dle_e, dlt_e, deq_e, xb_0, xb_1, decide_true, decide_false, Bool.not_true, Bool.not_false, Bool.and_true, Bool.true_and, Bool.and_false, Bool.false_and, Bool.true_or, Bool.false_or, Bool.or_true, Bool.or_false, if_true, if_false, up1_s, n_31, Int32.lt_irrefl, h4, hs, hc, m262_37, xb_f, ih (i + 1) (by omega) (by omega)]
  have k8 := c177 d sl I w A N (show 8 ≤ 20 by decide) h
  have k3 := c177 d sl I w A N (show 3 ≤ 20 by decide) h
  rw [e262, m262_0, k8]
  unfold wht
  by_cases h8 : κ = 2 ∧ v = 8
  · rw [decide_eq_true h8, if_pos h8]
    simp (disch := omega) only [rt_c, b_some, List.cons_append, List.nil_append, Bool.cond_not, cond_true, cond_false, Bool.cond_decide, nI_add, nI_clamp, xin_n, dle_e, dlt_e, deq_e, xb_0, xb_1, decide_true, decide_false, Bool.not_true, Bool.not_false, Bool.and_true, Bool.true_and, Bool.and_false, Bool.false_and, Bool.true_or, Bool.false_or, Bool.or_true, Bool.or_false, if_true, if_false, up1_s, n_31, Int32.lt_irrefl, m262_6, xb_t, Nat.one_ne_zero, t262_10, t262_20, t262_41, t262_49]
  rw [decide_eq_false h8, if_neg h8]
  by_cases h3 : κ = 2 ∧ v = 3
  · rw [if_pos h3]
    rw [decide_eq_true h3] at k3
    simp (disch := omega) only [rt_c, b_some, List.cons_append, List.nil_append, Bool.cond_not, cond_true, cond_false, Bool.cond_decide, nI_add, nI_clamp, xin_n, dle_e, dlt_e, deq_e, xb_0, xb_1, decide_true, decide_false, Bool.not_true, Bool.not_false, Bool.and_true, Bool.true_and, Bool.and_false, Bool.false_and, Bool.true_or, Bool.false_or, Bool.or_true, Bool.or_false, if_true, if_false, up1_s, n_31, Int32.lt_irrefl, m262_6, xb_f, k3, m262_16, xb_t, Nat.one_ne_zero, t262_10, t262_20, t262_41, t262_49]
  rw [if_neg h3]
  rw [decide_eq_false h3] at k3
  simp (disch := omega) only [rt_c, b_some, List.cons_append, List.nil_append, Bool.cond_not, cond_true, cond_false, Bool.cond_decide, nI_add, nI_clamp, xin_n, dle_e, dlt_e, deq_e, xb_0, xb_1, decide_true, decide_false, Bool.not_true, Bool.not_false, Bool.and_true, Bool.true_and, Bool.and_false, Bool.false_and, Bool.true_or, Bool.false_or, Bool.or_true, Bool.or_false, if_true, if_false, up1_s, n_31, Int32.lt_irrefl, m262_6, xb_f, k3, m262_16]
  exact key 3 2 (by decide) (by decide)
theorem c258_1 {i : Nat} (hi : i < 160) : C d 258 [.ref 0, .int (nI i), .int (nI 1)] sl (RH I w A N) = some ([.int (nI 1)], sl, RH I w (up1 A 16 (upd (A 16) i (I 13))) N) := by
  rw [e258, m258_0]
  simp (disch := omega) only [rt_c, b_some, List.cons_append, List.nil_append, Bool.cond_not, cond_true, cond_false, Bool.cond_decide, nI_add, nI_clamp, xin_n, dle_e, dlt_e, deq_e, xb_0, xb_1, decide_true, decide_false, Bool.not_true, Bool.not_false, Bool.and_true, Bool.true_and, Bool.and_false, Bool.false_and, Bool.true_or, Bool.false_or, Bool.or_true, Bool.or_false, if_true, if_false, up1_s, n_31, Int32.lt_irrefl, Nat.one_ne_zero, t258_15, t258_15_0, t258_15_1, xb_t]
theorem c258_0 (i : Int32) : C d 258 [.ref 0, .int i, .int (nI 0)] sl (RH I w A N) = some ([.int (nI 0)], sl, RH I w A N) := by
  rw [e258, m258_0]
  simp (disch := omega) only [rt_c, b_some, List.cons_append, List.nil_append, Bool.cond_not, cond_true, cond_false, Bool.cond_decide, nI_add, nI_clamp, xin_n, dle_e, dlt_e, deq_e, xb_0, xb_1, decide_true, decide_false, Bool.not_true, Bool.not_false, Bool.and_true, Bool.true_and, Bool.and_false, Bool.false_and, Bool.true_or, Bool.false_or, Bool.or_true, Bool.or_false, if_true, if_false, up1_s, n_31, Int32.lt_irrefl, t258_15, t258_15_0, t258_15_1, xb_f]
end BK2
section BK3
variable (d d' sl sl' : Nat) (I : Nat → Nat → Int32) (A : Nat → Nat → Int32) (N : Nat → Nat → Int64) (V : Nat → Nat → Option Nat) (lt : Int64) (tw : Option Nat) (sp sr : Nat) (X : List AC) (J : Nat → Int32) (w : Int64) (B : Nat → Nat → Int32) (M : Nat → Nat → Int64) {t L n κ v : Nat} {s : List Nat} {b : Nat → Nat}
theorem gd_debt (hB : Bt t b A B) (hL : L ≤ 940) (hX : Nat.ble X.length 1 = true) (h : Tk t L n κ v s (I 1) lt tw J w) :
    (∃ u I' lt' tw' J' w', u ≤ 11 ∧ C (d + 3) 102 [.ref 1, .int (nI 0), .int (nI 11)] sl (CH I A N V lt tw sp sr X) = some ([.int (x_b true)], sl, CH I' A N V lt' tw' sp sr X) ∧ C (d' + 3) 259 [.ref 0] sl' (RH J w B M) = some ([.int (x_b true)], sl', RH J' w' B M) ∧ Gd t L (n + 1) I I' lt' tw' J J' w' ∧ I' 1 9 = nI u ∧ J' 13 = nI u) ∨
    (∃ I' J', C (d + 3) 102 [.ref 1, .int (nI 0), .int (nI 11)] sl (CH I A N V lt tw sp sr X) = some ([.int (x_b false)], sl, CH I' A N V lt tw sp sr X) ∧ C (d' + 3) 259 [.ref 0] sl' (RH J w B M) = some ([.int (x_b false)], sl', RH J' w B M) ∧ Bd I I' J J') := by
  rcases gd_num (d + 1) d' sl sl' I A N V lt tw sp sr X J w B M (a := 0) (z := 11) (by decide) (by decide) hB hL hX h with ⟨u, I', lt', tw', J', w', a1, a2, a3, a4, a5, a6, a7⟩ | ⟨I', J', a1, a2, a3⟩
  · refine Or.inl ⟨u, I', lt', tw', J', w', a2, a3, ?_, a5, a6, a7⟩
    · rw [e259, m259_0]
      simp (disch := omega) only [rt_c, b_some, List.cons_append, List.nil_append, Bool.cond_not, cond_true, cond_false, Bool.cond_decide, nI_add, nI_clamp, xin_n, dle_e, dlt_e, deq_e, xb_0, xb_1, decide_true, decide_false, Bool.not_true, Bool.not_false, Bool.and_true, Bool.true_and, Bool.and_false, Bool.false_and, Bool.true_or, Bool.false_or, Bool.or_true, Bool.or_false, if_true, if_false, up1_s, n_31, Int32.lt_irrefl, a4, m259_7, t259_7, t259_7_0, t259_7_1]
  · refine Or.inr ⟨I', J', a1, ?_, a3⟩
    · rw [e259, m259_0]
      simp (disch := omega) only [rt_c, b_some, List.cons_append, List.nil_append, Bool.cond_not, cond_true, cond_false, Bool.cond_decide, nI_add, nI_clamp, xin_n, dle_e, dlt_e, deq_e, xb_0, xb_1, decide_true, decide_false, Bool.not_true, Bool.not_false, Bool.and_true, Bool.true_and, Bool.and_false, Bool.false_and, Bool.true_or, Bool.false_or, Bool.or_true, Bool.or_false, if_true, if_false, up1_s, n_31, Int32.lt_irrefl, a2, m259_7, t259_7, t259_7_0, t259_7_1]
theorem gd_hname {H : Nat} (hH6 : H ≤ 6) (hH : I 3 8 = nI H) (hb0 : B 2 0 = nI H) (hN : Nm (N 4) (M 7) H) (hB : Bt t b A B) (hL : L ≤ 940) (hX : Nat.ble X.length 1 = true) (h : Tk t L n κ v s (I 1) lt tw J w) :
    (∃ u I' lt' tw' J' w', u < H ∧ C (d + 2) 104 [.ref 1, .ref 3, .int (-1)] sl (CH I A N V lt tw sp sr X) = some ([.int (x_b true)], sl, CH I' A N V lt' tw' sp sr X) ∧ C (d' + 4) 260 [.ref 0] sl' (RH J w B M) = some ([.int (x_b true)], sl', RH J' w' B M) ∧ Gd t L (n + 1) I I' lt' tw' J J' w' ∧ I' 1 9 = nI u ∧ J' 13 = nI u) ∨
    (∃ I' J', C (d + 2) 104 [.ref 1, .ref 3, .int (-1)] sl (CH I A N V lt tw sp sr X) = some ([.int (x_b false)], sl, CH I' A N V lt tw sp sr X) ∧ C (d' + 4) 260 [.ref 0] sl' (RH J w B M) = some ([.int (x_b false)], sl', RH J' w B M) ∧ Bd I I' J J') := by
  rcases gd_house_3 d d' sl sl' I A N V lt tw sp sr X J w B M hH6 hH hN (-1) hB hL hX h with ⟨u, I', lt', tw', J', w', a1, a2, a3, a4, a5, a6, a7⟩ | ⟨I', J', a1, a2, a3⟩
  · refine Or.inl ⟨u, I', lt', tw', J', w', a1, a3, ?_, a5, a6, a7⟩
    rw [e260, m260_0, hb0]
    simp (disch := omega) only [rt_c, b_some, List.cons_append, List.nil_append, Bool.cond_not, cond_true, cond_false, Bool.cond_decide, nI_add, nI_clamp, xin_n, dle_e, dlt_e, deq_e, xb_0, xb_1, decide_true, decide_false, Bool.not_true, Bool.not_false, Bool.and_true, Bool.true_and, Bool.and_false, Bool.false_and, Bool.true_or, Bool.false_or, Bool.or_true, Bool.or_false, if_true, if_false, up1_s, n_31, Int32.lt_irrefl, a4, m260_15, t260_15, t260_15_0, t260_15_1]
  · refine Or.inr ⟨I', J', a1, ?_, a3⟩
    rw [e260, m260_0, hb0]
    simp (disch := omega) only [rt_c, b_some, List.cons_append, List.nil_append, Bool.cond_not, cond_true, cond_false, Bool.cond_decide, nI_add, nI_clamp, xin_n, dle_e, dlt_e, deq_e, xb_0, xb_1, decide_true, decide_false, Bool.not_true, Bool.not_false, Bool.and_true, Bool.true_and, Bool.and_false, Bool.false_and, Bool.true_or, Bool.false_or, Bool.or_true, Bool.or_false, if_true, if_false, up1_s, n_31, Int32.lt_irrefl, a2, m260_15, t260_15, t260_15_0, t260_15_1]
/-- takeWord(BORROWS) of the class against isWord and go, or bad, of the reference -/
theorem gd_borrows (hB : Bt t b A B) (hL : L ≤ 940) (hX : Nat.ble X.length 1 = true) (h : Tk t L n κ v s (I 1) lt tw J w) :
    (κ = 2 ∧ v = 4 ∧ ∃ I' lt' tw' J' w', C (d + 2) 101 [.ref 1, .ref 1000004] sl (CH I A N V lt tw sp sr X) = some ([.int (x_b true)], sl, CH I' A N V lt' tw' sp sr X) ∧ C (d' + 1) 174 [.ref 0] sl' (RH J w B M) = some ([], sl', RH J' w' B M) ∧ Gd t L (n + 1) I I' lt' tw' J J' w') ∨
    (¬ (κ = 2 ∧ v = 4) ∧ ∃ I' J', C (d + 2) 101 [.ref 1, .ref 1000004] sl (CH I A N V lt tw sp sr X) = some ([.int (x_b false)], sl, CH I' A N V lt tw sp sr X) ∧ C (d' + 1) 180 [.ref 0, .int (nI 1)] sl' (RH J w B M) = some ([.int (x_b false)], sl', RH J' w B M) ∧ Bd I I' J J') := by
  by_cases hk : κ = 2
  · subst hk
    obtain ⟨v20, ht, hw⟩ := Tk_word h
    have hsw := isw_n v20
    subst ht
    by_cases hv : v = 4
    · obtain ⟨I', lt', tw', J', w', x1, x2, x3, x4, x5⟩ := gd_adv d d' sl sl' I A N V lt (some (1000000 + v)) sp sr X J w B M hB hL hX h (by decide)
      refine Or.inl ⟨rfl, hv, I', lt', tw', J', w', ?_, x2, x3⟩
      rw [e101, k101_r1_r1000004_0_1, k101_r1_r1000004_5 _ _ _ _ _ _ _ _ _ _ _ _ hsw, show Nat.beq (1000000 + v) 1000004 = true by rw [hv]; rfl]
      simp (disch := omega) only [rt_c, b_some, List.cons_append, List.nil_append, Bool.cond_not, cond_true, cond_false, Bool.cond_decide, nI_add, nI_clamp, xin_n, dle_e, dlt_e, deq_e, xb_0, xb_1, decide_true, decide_false, Bool.not_true, Bool.not_false, Bool.and_true, Bool.true_and, Bool.and_false, Bool.false_and, Bool.true_or, Bool.false_or, Bool.or_true, Bool.or_false, if_true, if_false, up1_s, n_31, Int32.lt_irrefl, k101_r1_r1000004_14, x1, k101_r1_r1000004_18, t101_13, t101_13_0, t101_13_1, t101_19, t101_19_0, t101_19_1]
    · obtain ⟨I', J', x1, x2, x3⟩ := gd_no (d + 1) (d' + 1) sl sl' I A N V lt (some (1000000 + v)) sp sr X J w B M (c := 1) (by decide) hB.1 h (Or.inr rfl)
      refine Or.inr ⟨fun h => hv h.2, I', J', ?_, x2, x3⟩
      rw [e101, k101_r1_r1000004_0_1, k101_r1_r1000004_5 _ _ _ _ _ _ _ _ _ _ _ _ hsw, show Nat.beq (1000000 + v) 1000004 = false from nbeq (k := 4) hv]
      simp (disch := omega) only [rt_c, b_some, List.cons_append, List.nil_append, Bool.cond_not, cond_true, cond_false, Bool.cond_decide, nI_add, nI_clamp, xin_n, dle_e, dlt_e, deq_e, xb_0, xb_1, decide_true, decide_false, Bool.not_true, Bool.not_false, Bool.and_true, Bool.true_and, Bool.and_false, Bool.false_and, Bool.true_or, Bool.false_or, Bool.or_true, Bool.or_false, if_true, if_false, up1_s, n_31, Int32.lt_irrefl, k101_r1_r1000004_8, x1, k101_r1_r1000004_13, t101_13, t101_13_0, t101_13_1, t101_19, t101_19_0, t101_19_1]
  · have ht := Tk_nw h hk
    subst ht
    obtain ⟨I', J', x1, x2, x3⟩ := gd_no (d + 1) (d' + 1) sl sl' I A N V lt none sp sr X J w B M (c := 1) (by decide) hB.1 h (Or.inr rfl)
    refine Or.inr ⟨fun h => hk h.1, I', J', ?_, x2, x3⟩
    rw [e101, k101_r1_r1000004_0]
    simp (disch := omega) only [rt_c, b_some, List.cons_append, List.nil_append, Bool.cond_not, cond_true, cond_false, Bool.cond_decide, nI_add, nI_clamp, xin_n, dle_e, dlt_e, deq_e, xb_0, xb_1, decide_true, decide_false, Bool.not_true, Bool.not_false, Bool.and_true, Bool.true_and, Bool.and_false, Bool.false_and, Bool.true_or, Bool.false_or, Bool.or_true, Bool.or_false, if_true, if_false, up1_s, n_31, Int32.lt_irrefl, x1, k101_r1_r1000004_13, t101_13, t101_13_0, t101_13_1, t101_19, t101_19_0, t101_19_1]
end BK3
