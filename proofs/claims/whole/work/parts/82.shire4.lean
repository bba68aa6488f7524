/-! READERS: one line of a shire -/
theorem nbeq {v k : Nat} (h : v ≠ k) : Nat.beq (1000000 + v) (1000000 + k) = false := by
  cases hb : Nat.beq (1000000 + v) (1000000 + k) with
  | false => rfl
  | true => have := Nat.eq_of_beq_eq_true hb; omega
section SRN
variable (d d' sl sl' : Nat) (I : Nat → Nat → Int32) (A : Nat → Nat → Int32) (N : Nat → Nat → Int64) (V : Nat → Nat → Option Nat) (lt : Int64) (tw : Option Nat) (sp sr : Nat) (go : Bool) (J : Nat → Int32) (w : Int64) (B : Nat → Nat → Int32) (M : Nat → Nat → Int64) {t L n κ v : Nat} {s : List Nat} {b : Nat → Nat}
theorem sr_line {H m : Nat} (hB : Bt t b A B) (hL : L ≤ 940) (h : Tk t L n κ v s (I 1) lt tw J w) (hR : RR I A N B M H m) (j23 : J 23 = x_b go) (f10 : I 1 10 = nI 0) (j10 : J 10 = nI 0) : Oc (d + 4) (d' + 5) sl sl' 82 193 t L (n + 1) V sp sr I A N lt tw go J w B M := by
  have k0 := c177 (d' + 2) sl' J w B M (show 0 ≤ 20 by decide) h
  have k1 := c177 (d' + 2) sl' J w B M (show 1 ≤ 20 by decide) h
  have k2 := c177 (d' + 2) sl' J w B M (show 2 ≤ 20 by decide) h
  by_cases hk : κ = 2
  · subst hk
    obtain ⟨v20, ht, hw⟩ := Tk_word h
    have hsw := isw_n v20
    subst ht
    by_cases v0 : v = 0
    · rw [decide_eq_true (p := 2 = 2 ∧ v = 0) ⟨rfl, v0⟩] at k0
      have nb : Nat.beq (1000000 + v) 1000000 = true := by rw [v0]; rfl
      rcases sr_house d (d' + 1) sl sl' I A N V lt (some (1000000 + v)) sp sr go J w B M hB hL h hR j23 f10 j10 with ⟨I', A', N', lt', tw', go', J', w', B', M', z1, z2, z3, z4⟩ | ⟨I', A', N', lt', tw', go', J', w', B', M', z1, z2, z3, z4⟩
      · refine Or.inl ⟨I', A', N', lt', tw', go', J', w', B', M', ?_, ?_, z3, z4⟩
        · rw [e82, k82_r146_0_1, k82_r146_10 _ _ _ _ _ _ _ _ _ _ _ _ hsw, nb]
          simp (disch := omega) only [rt_c, b_some, List.cons_append, List.nil_append, Bool.cond_not, cond_true, cond_false, Bool.cond_decide, nI_add, nI_clamp, xin_n, dle_e, dlt_e, deq_e, xb_0, xb_1, decide_true, decide_false, Bool.not_true, Bool.not_false, Bool.and_true, Bool.true_and, Bool.and_false, Bool.false_and, Bool.true_or, Bool.false_or, Bool.or_true, Bool.or_false, if_true, if_false, up1_s, n_31, Int32.lt_irrefl, k82_r146_13, z1, k82_r146_17, t82_17, t82_17_0, t82_17_1, t82_35, t82_35_0, t82_35_1, t82_53, t82_53_0, t82_53_1, t82_62, t82_62_0, t82_62_1]
        · rw [e193, m193_0, k0]
          simp (disch := omega) only [rt_c, b_some, List.cons_append, List.nil_append, Bool.cond_not, cond_true, cond_false, Bool.cond_decide, nI_add, nI_clamp, xin_n, dle_e, dlt_e, deq_e, xb_0, xb_1, decide_true, decide_false, Bool.not_true, Bool.not_false, Bool.and_true, Bool.true_and, Bool.and_false, Bool.false_and, Bool.true_or, Bool.false_or, Bool.or_true, Bool.or_false, if_true, if_false, up1_s, n_31, Int32.lt_irrefl, m193_5, xb_t, Nat.one_ne_zero, z2, m193_12, t193_12, t193_12_0, t193_12_1, t193_25, t193_25_0, t193_25_1, t193_46, t193_46_0, t193_46_1]
      · refine Or.inr ⟨I', A', N', lt', tw', go', J', w', B', M', ?_, ?_, z3, z4⟩
        · rw [e82, k82_r146_0_1, k82_r146_10 _ _ _ _ _ _ _ _ _ _ _ _ hsw, nb]
          simp (disch := omega) only [rt_c, b_some, List.cons_append, List.nil_append, Bool.cond_not, cond_true, cond_false, Bool.cond_decide, nI_add, nI_clamp, xin_n, dle_e, dlt_e, deq_e, xb_0, xb_1, decide_true, decide_false, Bool.not_true, Bool.not_false, Bool.and_true, Bool.true_and, Bool.and_false, Bool.false_and, Bool.true_or, Bool.false_or, Bool.or_true, Bool.or_false, if_true, if_false, up1_s, n_31, Int32.lt_irrefl, k82_r146_13, z1, k82_r146_17, t82_17, t82_17_0, t82_17_1, t82_35, t82_35_0, t82_35_1, t82_53, t82_53_0, t82_53_1, t82_62, t82_62_0, t82_62_1]
        · rw [e193, m193_0, k0]
          simp (disch := omega) only [rt_c, b_some, List.cons_append, List.nil_append, Bool.cond_not, cond_true, cond_false, Bool.cond_decide, nI_add, nI_clamp, xin_n, dle_e, dlt_e, deq_e, xb_0, xb_1, decide_true, decide_false, Bool.not_true, Bool.not_false, Bool.and_true, Bool.true_and, Bool.and_false, Bool.false_and, Bool.true_or, Bool.false_or, Bool.or_true, Bool.or_false, if_true, if_false, up1_s, n_31, Int32.lt_irrefl, m193_5, xb_t, xb_f, Nat.one_ne_zero, z2, m193_12, t193_12, t193_12_0, t193_12_1, t193_25, t193_25_0, t193_25_1, t193_46, t193_46_0, t193_46_1]
    · rw [decide_eq_false (p := 2 = 2 ∧ v = 0) (fun h => v0 h.2)] at k0
      have nb : Nat.beq (1000000 + v) 1000000 = false := nbeq (k := 0) v0
      by_cases v1 : v = 1
      · rw [decide_eq_true (p := 2 = 2 ∧ v = 1) ⟨rfl, v1⟩] at k1
        have nb1 : Nat.beq (1000000 + v) 1000001 = true := by rw [v1]; rfl
        rcases sr_debt d d' sl sl' I A N V lt (some (1000000 + v)) sp sr go J w B M hB hL h hR j23 f10 j10 with ⟨I', A', N', lt', tw', go', J', w', B', M', z1, z2, z3, z4⟩ | ⟨I', A', N', lt', tw', go', J', w', B', M', z1, z2, z3, z4⟩
        · refine Or.inl ⟨I', A', N', lt', tw', go', J', w', B', M', ?_, ?_, z3, z4⟩
          · rw [e82, k82_r146_0_1, k82_r146_10 _ _ _ _ _ _ _ _ _ _ _ _ hsw, nb]
            simp (disch := omega) only [rt_c, b_some, List.cons_append, List.nil_append, Bool.cond_not, cond_true, cond_false, Bool.cond_decide, nI_add, nI_clamp, xin_n, dle_e, dlt_e, deq_e, xb_0, xb_1, decide_true, decide_false, Bool.not_true, Bool.not_false, Bool.and_true, Bool.true_and, Bool.and_false, Bool.false_and, Bool.true_or, Bool.false_or, Bool.or_true, Bool.or_false, if_true, if_false, up1_s, n_31, Int32.lt_irrefl, k82_r146_18_1]
            rw [k82_r146_28 _ _ _ _ _ _ _ _ _ _ _ _ hsw, nb1]
            simp (disch := omega) only [rt_c, b_some, List.cons_append, List.nil_append, Bool.cond_not, cond_true, cond_false, Bool.cond_decide, nI_add, nI_clamp, xin_n, dle_e, dlt_e, deq_e, xb_0, xb_1, decide_true, decide_false, Bool.not_true, Bool.not_false, Bool.and_true, Bool.true_and, Bool.and_false, Bool.false_and, Bool.true_or, Bool.false_or, Bool.or_true, Bool.or_false, if_true, if_false, up1_s, n_31, Int32.lt_irrefl, k82_r146_31, z1, k82_r146_35, t82_17, t82_17_0, t82_17_1, t82_35, t82_35_0, t82_35_1, t82_53, t82_53_0, t82_53_1, t82_62, t82_62_0, t82_62_1]
          · rw [e193, m193_0, k0]
            simp (disch := omega) only [rt_c, b_some, List.cons_append, List.nil_append, Bool.cond_not, cond_true, cond_false, Bool.cond_decide, nI_add, nI_clamp, xin_n, dle_e, dlt_e, deq_e, xb_0, xb_1, decide_true, decide_false, Bool.not_true, Bool.not_false, Bool.and_true, Bool.true_and, Bool.and_false, Bool.false_and, Bool.true_or, Bool.false_or, Bool.or_true, Bool.or_false, if_true, if_false, up1_s, n_31, Int32.lt_irrefl, m193_5, xb_t, xb_f, k1, m193_18, Nat.one_ne_zero, z2, m193_25, t193_12, t193_12_0, t193_12_1, t193_25, t193_25_0, t193_25_1, t193_46, t193_46_0, t193_46_1]
        · refine Or.inr ⟨I', A', N', lt', tw', go', J', w', B', M', ?_, ?_, z3, z4⟩
          · rw [e82, k82_r146_0_1, k82_r146_10 _ _ _ _ _ _ _ _ _ _ _ _ hsw, nb]
            simp (disch := omega) only [rt_c, b_some, List.cons_append, List.nil_append, Bool.cond_not, cond_true, cond_false, Bool.cond_decide, nI_add, nI_clamp, xin_n, dle_e, dlt_e, deq_e, xb_0, xb_1, decide_true, decide_false, Bool.not_true, Bool.not_false, Bool.and_true, Bool.true_and, Bool.and_false, Bool.false_and, Bool.true_or, Bool.false_or, Bool.or_true, Bool.or_false, if_true, if_false, up1_s, n_31, Int32.lt_irrefl, k82_r146_18_1]
            rw [k82_r146_28 _ _ _ _ _ _ _ _ _ _ _ _ hsw, nb1]
            simp (disch := omega) only [rt_c, b_some, List.cons_append, List.nil_append, Bool.cond_not, cond_true, cond_false, Bool.cond_decide, nI_add, nI_clamp, xin_n, dle_e, dlt_e, deq_e, xb_0, xb_1, decide_true, decide_false, Bool.not_true, Bool.not_false, Bool.and_true, Bool.true_and, Bool.and_false, Bool.false_and, Bool.true_or, Bool.false_or, Bool.or_true, Bool.or_false, if_true, if_false, up1_s, n_31, Int32.lt_irrefl, k82_r146_31, z1, k82_r146_35, t82_17, t82_17_0, t82_17_1, t82_35, t82_35_0, t82_35_1, t82_53, t82_53_0, t82_53_1, t82_62, t82_62_0, t82_62_1]
          · rw [e193, m193_0, k0]
            simp (disch := omega) only [rt_c, b_some, List.cons_append, List.nil_append, Bool.cond_not, cond_true, cond_false, Bool.cond_decide, nI_add, nI_clamp, xin_n, dle_e, dlt_e, deq_e, xb_0, xb_1, decide_true, decide_false, Bool.not_true, Bool.not_false, Bool.and_true, Bool.true_and, Bool.and_false, Bool.false_and, Bool.true_or, Bool.false_or, Bool.or_true, Bool.or_false, if_true, if_false, up1_s, n_31, Int32.lt_irrefl, m193_5, xb_t, xb_f, k1, m193_18, Nat.one_ne_zero, z2, m193_25, t193_12, t193_12_0, t193_12_1, t193_25, t193_25_0, t193_25_1, t193_46, t193_46_0, t193_46_1]
      · rw [decide_eq_false (p := 2 = 2 ∧ v = 1) (fun h => v1 h.2)] at k1
        have nb1 : Nat.beq (1000000 + v) 1000001 = false := nbeq (k := 1) v1
        by_cases v2 : v = 2
        · rw [decide_eq_true (p := 2 = 2 ∧ v = 2) ⟨rfl, v2⟩] at k2
          have nb2 : Nat.beq (1000000 + v) 1000002 = true := by rw [v2]; rfl
          rcases sr_grows d (d' + 1) sl sl' I A N V lt (some (1000000 + v)) sp sr go J w B M hB hL h hR j23 f10 j10 with ⟨I', A', N', lt', tw', go', J', w', B', M', z1, z2, z3, z4⟩ | ⟨I', A', N', lt', tw', go', J', w', B', M', z1, z2, z3, z4⟩
          · refine Or.inl ⟨I', A', N', lt', tw', go', J', w', B', M', ?_, ?_, z3, z4⟩
            · rw [e82, k82_r146_0_1, k82_r146_10 _ _ _ _ _ _ _ _ _ _ _ _ hsw, nb]
              simp (disch := omega) only [rt_c, b_some, List.cons_append, List.nil_append, Bool.cond_not, cond_true, cond_false, Bool.cond_decide, nI_add, nI_clamp, xin_n, dle_e, dlt_e, deq_e, xb_0, xb_1, decide_true, decide_false, Bool.not_true, Bool.not_false, Bool.and_true, Bool.true_and, Bool.and_false, Bool.false_and, Bool.true_or, Bool.false_or, Bool.or_true, Bool.or_false, if_true, if_false, up1_s, n_31, Int32.lt_irrefl, k82_r146_18_1]
              rw [k82_r146_28 _ _ _ _ _ _ _ _ _ _ _ _ hsw, nb1]
              simp (disch := omega) only [rt_c, b_some, List.cons_append, List.nil_append, Bool.cond_not, cond_true, cond_false, Bool.cond_decide, nI_add, nI_clamp, xin_n, dle_e, dlt_e, deq_e, xb_0, xb_1, decide_true, decide_false, Bool.not_true, Bool.not_false, Bool.and_true, Bool.true_and, Bool.and_false, Bool.false_and, Bool.true_or, Bool.false_or, Bool.or_true, Bool.or_false, if_true, if_false, up1_s, n_31, Int32.lt_irrefl, k82_r146_36_1]
              rw [k82_r146_46 _ _ _ _ _ _ _ _ _ _ _ _ hsw, nb2]
              simp (disch := omega) only [rt_c, b_some, List.cons_append, List.nil_append, Bool.cond_not, cond_true, cond_false, Bool.cond_decide, nI_add, nI_clamp, xin_n, dle_e, dlt_e, deq_e, xb_0, xb_1, decide_true, decide_false, Bool.not_true, Bool.not_false, Bool.and_true, Bool.true_and, Bool.and_false, Bool.false_and, Bool.true_or, Bool.false_or, Bool.or_true, Bool.or_false, if_true, if_false, up1_s, n_31, Int32.lt_irrefl, k82_r146_49, z1, k82_r146_53, t82_17, t82_17_0, t82_17_1, t82_35, t82_35_0, t82_35_1, t82_53, t82_53_0, t82_53_1, t82_62, t82_62_0, t82_62_1]
            · rw [e193, m193_0, k0]
              simp (disch := omega) only [rt_c, b_some, List.cons_append, List.nil_append, Bool.cond_not, cond_true, cond_false, Bool.cond_decide, nI_add, nI_clamp, xin_n, dle_e, dlt_e, deq_e, xb_0, xb_1, decide_true, decide_false, Bool.not_true, Bool.not_false, Bool.and_true, Bool.true_and, Bool.and_false, Bool.false_and, Bool.true_or, Bool.false_or, Bool.or_true, Bool.or_false, if_true, if_false, up1_s, n_31, Int32.lt_irrefl, m193_5, xb_t, xb_f, k1, m193_18, k2, m193_31, Nat.one_ne_zero, z2, m193_38, m193_46, t193_12, t193_12_0, t193_12_1, t193_25, t193_25_0, t193_25_1, t193_46, t193_46_0, t193_46_1]
          · refine Or.inr ⟨I', A', N', lt', tw', go', J', w', B', M', ?_, ?_, z3, z4⟩
            · rw [e82, k82_r146_0_1, k82_r146_10 _ _ _ _ _ _ _ _ _ _ _ _ hsw, nb]
              simp (disch := omega) only [rt_c, b_some, List.cons_append, List.nil_append, Bool.cond_not, cond_true, cond_false, Bool.cond_decide, nI_add, nI_clamp, xin_n, dle_e, dlt_e, deq_e, xb_0, xb_1, decide_true, decide_false, Bool.not_true, Bool.not_false, Bool.and_true, Bool.true_and, Bool.and_false, Bool.false_and, Bool.true_or, Bool.false_or, Bool.or_true, Bool.or_false, if_true, if_false, up1_s, n_31, Int32.lt_irrefl, k82_r146_18_1]
              rw [k82_r146_28 _ _ _ _ _ _ _ _ _ _ _ _ hsw, nb1]
              simp (disch := omega) only [rt_c, b_some, List.cons_append, List.nil_append, Bool.cond_not, cond_true, cond_false, Bool.cond_decide, nI_add, nI_clamp, xin_n, dle_e, dlt_e, deq_e, xb_0, xb_1, decide_true, decide_false, Bool.not_true, Bool.not_false, Bool.and_true, Bool.true_and, Bool.and_false, Bool.false_and, Bool.true_or, Bool.false_or, Bool.or_true, Bool.or_false, if_true, if_false, up1_s, n_31, Int32.lt_irrefl, k82_r146_36_1]
              rw [k82_r146_46 _ _ _ _ _ _ _ _ _ _ _ _ hsw, nb2]
              simp (disch := omega) only [rt_c, b_some, List.cons_append, List.nil_append, Bool.cond_not, cond_true, cond_false, Bool.cond_decide, nI_add, nI_clamp, xin_n, dle_e, dlt_e, deq_e, xb_0, xb_1, decide_true, decide_false, Bool.not_true, Bool.not_false, Bool.and_true, Bool.true_and, Bool.and_false, Bool.false_and, Bool.true_or, Bool.false_or, Bool.or_true, Bool.or_false, if_true, if_false, up1_s, n_31, Int32.lt_irrefl, k82_r146_49, z1, k82_r146_53, t82_17, t82_17_0, t82_17_1, t82_35, t82_35_0, t82_35_1, t82_53, t82_53_0, t82_53_1, t82_62, t82_62_0, t82_62_1]
            · rw [e193, m193_0, k0]
              simp (disch := omega) only [rt_c, b_some, List.cons_append, List.nil_append, Bool.cond_not, cond_true, cond_false, Bool.cond_decide, nI_add, nI_clamp, xin_n, dle_e, dlt_e, deq_e, xb_0, xb_1, decide_true, decide_false, Bool.not_true, Bool.not_false, Bool.and_true, Bool.true_and, Bool.and_false, Bool.false_and, Bool.true_or, Bool.false_or, Bool.or_true, Bool.or_false, if_true, if_false, up1_s, n_31, Int32.lt_irrefl, m193_5, xb_t, xb_f, k1, m193_18, k2, m193_31, Nat.one_ne_zero, z2, m193_38, m193_46, t193_12, t193_12_0, t193_12_1, t193_25, t193_25_0, t193_25_1, t193_46, t193_46_0, t193_46_1]
        · rw [decide_eq_false (p := 2 = 2 ∧ v = 2) (fun h => v2 h.2)] at k2
          have nb2 : Nat.beq (1000000 + v) 1000002 = false := nbeq (k := 2) v2
          obtain ⟨I1, J1, c1, e1, g1⟩ := gd_no (d + 3) (d' + 4) sl sl' I A N V lt (some (1000000 + v)) sp sr [.inr (7, [.ref 1, .ref 12, .int (x_b go)])] J w B M (c := 1) (by decide) hB.1 h (Or.inr rfl)
          refine Or.inr ⟨I1, A, N, lt, some (1000000 + v), go, J1, w, B, M, ?_, ?_, g1.2.1, Fq_c (Bd_Ch g1) (fun _ _ => rfl) (fun _ _ => rfl) (fun _ _ => rfl) (fun _ _ => rfl)⟩
          · rw [e82, k82_r146_0_1, k82_r146_10 _ _ _ _ _ _ _ _ _ _ _ _ hsw, nb]
            simp (disch := omega) only [rt_c, b_some, List.cons_append, List.nil_append, Bool.cond_not, cond_true, cond_false, Bool.cond_decide, nI_add, nI_clamp, xin_n, dle_e, dlt_e, deq_e, xb_0, xb_1, decide_true, decide_false, Bool.not_true, Bool.not_false, Bool.and_true, Bool.true_and, Bool.and_false, Bool.false_and, Bool.true_or, Bool.false_or, Bool.or_true, Bool.or_false, if_true, if_false, up1_s, n_31, Int32.lt_irrefl, k82_r146_18_1]
            rw [k82_r146_28 _ _ _ _ _ _ _ _ _ _ _ _ hsw, nb1]
            simp (disch := omega) only [rt_c, b_some, List.cons_append, List.nil_append, Bool.cond_not, cond_true, cond_false, Bool.cond_decide, nI_add, nI_clamp, xin_n, dle_e, dlt_e, deq_e, xb_0, xb_1, decide_true, decide_false, Bool.not_true, Bool.not_false, Bool.and_true, Bool.true_and, Bool.and_false, Bool.false_and, Bool.true_or, Bool.false_or, Bool.or_true, Bool.or_false, if_true, if_false, up1_s, n_31, Int32.lt_irrefl, k82_r146_36_1]
            rw [k82_r146_46 _ _ _ _ _ _ _ _ _ _ _ _ hsw, nb2]
            simp (disch := omega) only [rt_c, b_some, List.cons_append, List.nil_append, Bool.cond_not, cond_true, cond_false, Bool.cond_decide, nI_add, nI_clamp, xin_n, dle_e, dlt_e, deq_e, xb_0, xb_1, decide_true, decide_false, Bool.not_true, Bool.not_false, Bool.and_true, Bool.true_and, Bool.and_false, Bool.false_and, Bool.true_or, Bool.false_or, Bool.or_true, Bool.or_false, if_true, if_false, up1_s, n_31, Int32.lt_irrefl, k82_r146_54, c1, k82_r146_62, t82_17, t82_17_0, t82_17_1, t82_35, t82_35_0, t82_35_1, t82_53, t82_53_0, t82_53_1, t82_62, t82_62_0, t82_62_1]
          · rw [e193, m193_0, k0]
            simp (disch := omega) only [rt_c, b_some, List.cons_append, List.nil_append, Bool.cond_not, cond_true, cond_false, Bool.cond_decide, nI_add, nI_clamp, xin_n, dle_e, dlt_e, deq_e, xb_0, xb_1, decide_true, decide_false, Bool.not_true, Bool.not_false, Bool.and_true, Bool.true_and, Bool.and_false, Bool.false_and, Bool.true_or, Bool.false_or, Bool.or_true, Bool.or_false, if_true, if_false, up1_s, n_31, Int32.lt_irrefl, m193_5, xb_t, xb_f, k1, m193_18, k2, m193_31, e1, m193_46, t193_12, t193_12_0, t193_12_1, t193_25, t193_25_0, t193_25_1, t193_46, t193_46_0, t193_46_1]
  · rw [decide_eq_false (p := κ = 2 ∧ v = 0) (fun h => hk h.1)] at k0
    rw [decide_eq_false (p := κ = 2 ∧ v = 1) (fun h => hk h.1)] at k1
    rw [decide_eq_false (p := κ = 2 ∧ v = 2) (fun h => hk h.1)] at k2
    have ht := Tk_nw h hk
    subst ht
    obtain ⟨I1, J1, c1, e1, g1⟩ := gd_no (d + 3) (d' + 4) sl sl' I A N V lt none sp sr [.inr (7, [.ref 1, .ref 12, .int (x_b go)])] J w B M (c := 1) (by decide) hB.1 h (Or.inr rfl)
    refine Or.inr ⟨I1, A, N, lt, none, go, J1, w, B, M, ?_, ?_, g1.2.1, Fq_c (Bd_Ch g1) (fun _ _ => rfl) (fun _ _ => rfl) (fun _ _ => rfl) (fun _ _ => rfl)⟩
    · rw [e82, k82_r146_0]
      simp (disch := omega) only [rt_c, b_some, List.cons_append, List.nil_append, Bool.cond_not, cond_true, cond_false, Bool.cond_decide, nI_add, nI_clamp, xin_n, dle_e, dlt_e, deq_e, xb_0, xb_1, decide_true, decide_false, Bool.not_true, Bool.not_false, Bool.and_true, Bool.true_and, Bool.and_false, Bool.false_and, Bool.true_or, Bool.false_or, Bool.or_true, Bool.or_false, if_true, if_false, up1_s, n_31, Int32.lt_irrefl, c1, k82_r146_62, t82_17, t82_17_0, t82_17_1, t82_35, t82_35_0, t82_35_1, t82_53, t82_53_0, t82_53_1, t82_62, t82_62_0, t82_62_1]
    · rw [e193, m193_0, k0]
      simp (disch := omega) only [rt_c, b_some, List.cons_append, List.nil_append, Bool.cond_not, cond_true, cond_false, Bool.cond_decide, nI_add, nI_clamp, xin_n, dle_e, dlt_e, deq_e, xb_0, xb_1, decide_true, decide_false, Bool.not_true, Bool.not_false, Bool.and_true, Bool.true_and, Bool.and_false, Bool.false_and, Bool.true_or, Bool.false_or, Bool.or_true, Bool.or_false, if_true, if_false, up1_s, n_31, Int32.lt_irrefl, m193_5, xb_t, xb_f, k1, m193_18, k2, m193_31, e1, m193_46, t193_12, t193_12_0, t193_12_1, t193_25, t193_25_0, t193_25_1, t193_46, t193_46_0, t193_46_1]
end SRN
