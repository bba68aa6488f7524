/-! BOOK: its lines lived -/
def Lv (d d' sl sl' i : Nat) (N : Nat → Nat → Int64) (V : Nat → Nat → Option Nat) (lt : Int64) (tw : Option Nat) (sp sr : Nat) (X : List AC) (I A : Nat → Nat → Int32) (J : Nat → Int32) (w : Int64) (B : Nat → Nat → Int32) (M : Nat → Nat → Int64) (H : Nat) : Prop :=
  ∃ v I' A' n' m', C (d + 5) 16 [.ref 101, .ref 12, .int (nI i)] sl (CH I A N V lt tw sp sr X) = some ([.int v], sl, CH I' A' N V lt tw sp sr X) ∧ C (d' + 5) 264 [.ref 0, .int (nI (4 * i))] sl' (RH J w B M) = some ([.int v], sl', RH J w (up1 B 2 n') M) ∧ Sh I' A' 12 n' H m' ∧ Vd n' H m' ∧ Yr n' ∧ Fr 12 I A I' A' ∧ (∀ k, (k < 70 ∨ 127 ≤ k) → n' k = B 2 k)
theorem isN_lt {m x : Nat} (hm : m ≤ 12) (hx : x ≤ 1000) (h : isN m (nI x) = true) : x < m := by
  obtain ⟨k, k1, k2⟩ := isN_t (by omega) h
  have := congrArg Int32.toNatClampNeg k2
  rw [nI_clamp (by omega), nI_clamp (by omega)] at this
  omega
section BKP
variable (d d' sl sl' : Nat) (I : Nat → Nat → Int32) (A : Nat → Nat → Int32) (N : Nat → Nat → Int64) (V : Nat → Nat → Option Nat) (lt : Int64) (tw : Option Nat) (sp sr : Nat) (X : List AC) (J : Nat → Int32) (w : Int64) (B : Nat → Nat → Int32) (M : Nat → Nat → Int64) {H m i x y z : Nat}
theorem lv_0 (hS : Sh I A 12 (B 2) H m) (hV : Vd (B 2) H m) (hY : Yr (B 2)) (hi : i < 40) (a1 : A 102 i = nI 0) (a2 : A 103 i = nI x) (a3 : A 104 i = nI y) (l0 : B 16 (4 * i) = nI 0) (l1 : B 16 (4 * i + 1) = nI x) (l2 : B 16 (4 * i + 2) = nI y) (hx : x ≤ 11) (hy : y ≤ 999) : Lv d d' sl sl' i N V lt tw sp sr X I A J w B M H := by
  obtain ⟨hH, hD, hH6, hm⟩ := hV.1
  have m10 : nI 10 * nI 0 = nI 0 := by decide
  have c46 := q46_12 (d + 3) sl I A N V lt tw sp sr X hS (nI x)
  have c197 := c197' (d' + 3) sl' J w B M hm hD (nI x)
  cases hb : isN m (nI x) with
  | false =>
    rw [hb] at c46 c197
    have h18 : C (d + 4) 18 [.ref 12, .int (nI 0), .int (nI x), .int (nI y)] sl (CH I A N V lt tw sp sr X) = some ([.int (nI 9)], sl, CH I A N V lt tw sp sr X) := by
      rw [e18, k18_r12_0]
      simp (disch := omega) only [rt_c, b_some, List.cons_append, List.nil_append, Bool.cond_not, cond_true, cond_false, Bool.cond_decide, nI_add, nI_clamp, xin_n, dle_e, dlt_e, deq_e, xb_0, xb_1, decide_true, decide_false, Bool.not_true, Bool.not_false, Bool.and_true, Bool.true_and, Bool.and_false, Bool.false_and, Bool.true_or, Bool.false_or, Bool.or_true, Bool.or_false, if_true, if_false, up1_s, n_31, Int32.lt_irrefl, c46, k18_r12_5, xb_f, t18_24, t18_66, t18_73, t18_79, t18_86]
    refine ⟨nI 0 + nI 9, I, A, B 2, m, ?_, ?_, hS, hV, hY, Fr_rf, fun _ _ => rfl⟩
    · rw [e16, k16_r101_r12_0]
      simp (disch := omega) only [rt_c, b_some, List.cons_append, List.nil_append, Bool.cond_not, cond_true, cond_false, Bool.cond_decide, nI_add, nI_clamp, xin_n, dle_e, dlt_e, deq_e, xb_0, xb_1, decide_true, decide_false, Bool.not_true, Bool.not_false, Bool.and_true, Bool.true_and, Bool.and_false, Bool.false_and, Bool.true_or, Bool.false_or, Bool.or_true, Bool.or_false, if_true, if_false, up1_s, n_31, Int32.lt_irrefl, a1, a2, a3, Nat.reduceEqDiff, h18, k16_r101_r12_81, t16_96]
    · rw [up1_id, e264, m264_0]
      simp (disch := omega) only [rt_c, b_some, List.cons_append, List.nil_append, Bool.cond_not, cond_true, cond_false, Bool.cond_decide, nI_add, nI_clamp, xin_n, dle_e, dlt_e, deq_e, xb_0, xb_1, decide_true, decide_false, Bool.not_true, Bool.not_false, Bool.and_true, Bool.true_and, Bool.and_false, Bool.false_and, Bool.true_or, Bool.false_or, Bool.or_true, Bool.or_false, if_true, if_false, up1_s, n_31, Int32.lt_irrefl, l0, l1, l2, Nat.reduceEqDiff, Nat.zero_ne_one, c197, m264_67, xb_f, m10, t264_48, t264_56, t264_91, t264_122, t264_140]
  | true =>
    rw [hb] at c46 c197
    have hxm := isN_lt hm (by omega) hb
    have hw1 := Vd_wh hV hxm
    have hw2 := Vd_wm hV hxm
    obtain ⟨I', A', e1, e2, e3⟩ := q70_12 (d + 1) sl I A N V lt tw sp sr X hS hV hxm (nI y)
    have w1 := c219_0 (d' + 2) sl' J w B M hV hxm (nI y) (B 16 (4 * i + 3))
    have h18 : C (d + 4) 18 [.ref 12, .int (nI 0), .int (nI x), .int (nI y)] sl (CH I A N V lt tw sp sr X) = some ([.int (payW (B 2) x (nI y))], sl, CH I' A' N V lt tw sp sr X) := by
      rw [e18, k18_r12_0]
      simp (disch := omega) only [rt_c, b_some, List.cons_append, List.nil_append, Bool.cond_not, cond_true, cond_false, Bool.cond_decide, nI_add, nI_clamp, xin_n, dle_e, dlt_e, deq_e, xb_0, xb_1, decide_true, decide_false, Bool.not_true, Bool.not_false, Bool.and_true, Bool.true_and, Bool.and_false, Bool.false_and, Bool.true_or, Bool.false_or, Bool.or_true, Bool.or_false, if_true, if_false, up1_s, n_31, Int32.lt_irrefl, c46, k18_r12_5, xb_t, Nat.one_ne_zero, Nat.reduceEqDiff, k18_r12_26_c0, k18_r12_60, e1, k18_r12_66, t18_24, t18_66, t18_73, t18_79, t18_86]
    by_cases hw : payW (B 2) x (nI y) = nI 0
    · rw [if_pos hw] at e2
      rw [hw] at h18 w1
      have l9 := c221_0 (d' + 3) sl' J w B M hV hxm (nI y) (B 16 (4 * i + 3))
      refine ⟨nI 0, I', A', payN (B 2) x (nI y), m, ?_, ?_, e2, Vd_pay hV hxm (by simp (disch := omega) only [dle_e]; omega) hw, Yr_c hY (payN_o (by omega) (by omega) (by omega) (by decide)), e3, fun k hk => payN_o (by omega) (by omega) (by omega) (by omega)⟩
      · rw [e16, k16_r101_r12_0]
        simp (disch := omega) only [rt_c, b_some, List.cons_append, List.nil_append, Bool.cond_not, cond_true, cond_false, Bool.cond_decide, nI_add, nI_clamp, xin_n, dle_e, dlt_e, deq_e, xb_0, xb_1, decide_true, decide_false, Bool.not_true, Bool.not_false, Bool.and_true, Bool.true_and, Bool.and_false, Bool.false_and, Bool.true_or, Bool.false_or, Bool.or_true, Bool.or_false, if_true, if_false, up1_s, n_31, Int32.lt_irrefl, a1, a2, a3, Nat.reduceEqDiff, h18, k16_r101_r12_81, t16_96]
      · rw [e264, m264_0]
        simp (disch := omega) only [rt_c, b_some, List.cons_append, List.nil_append, Bool.cond_not, cond_true, cond_false, Bool.cond_decide, nI_add, nI_clamp, xin_n, dle_e, dlt_e, deq_e, xb_0, xb_1, decide_true, decide_false, Bool.not_true, Bool.not_false, Bool.and_true, Bool.true_and, Bool.and_false, Bool.false_and, Bool.true_or, Bool.false_or, Bool.or_true, Bool.or_false, if_true, if_false, up1_s, n_31, Int32.lt_irrefl, l0, l1, l2, Nat.reduceEqDiff, Nat.zero_ne_one, c197, m264_67, xb_t, Nat.one_ne_zero, w1, m264_108, l9, m264_139, t264_48, t264_56, t264_91, t264_122, t264_140]
    · rw [if_neg hw] at e2
      refine ⟨nI 0 + payW (B 2) x (nI y), I', A', B 2, m, ?_, ?_, e2, hV, hY, e3, fun _ _ => rfl⟩
      · rw [e16, k16_r101_r12_0]
        simp (disch := omega) only [rt_c, b_some, List.cons_append, List.nil_append, Bool.cond_not, cond_true, cond_false, Bool.cond_decide, nI_add, nI_clamp, xin_n, dle_e, dlt_e, deq_e, xb_0, xb_1, decide_true, decide_false, Bool.not_true, Bool.not_false, Bool.and_true, Bool.true_and, Bool.and_false, Bool.false_and, Bool.true_or, Bool.false_or, Bool.or_true, Bool.or_false, if_true, if_false, up1_s, n_31, Int32.lt_irrefl, a1, a2, a3, Nat.reduceEqDiff, h18, k16_r101_r12_81, hw, t16_96]
      · rw [up1_id, e264, m264_0]
        simp (disch := omega) only [rt_c, b_some, List.cons_append, List.nil_append, Bool.cond_not, cond_true, cond_false, Bool.cond_decide, nI_add, nI_clamp, xin_n, dle_e, dlt_e, deq_e, xb_0, xb_1, decide_true, decide_false, Bool.not_true, Bool.not_false, Bool.and_true, Bool.true_and, Bool.and_false, Bool.false_and, Bool.true_or, Bool.false_or, Bool.or_true, Bool.or_false, if_true, if_false, up1_s, n_31, Int32.lt_irrefl, l0, l1, l2, Nat.reduceEqDiff, Nat.zero_ne_one, c197, m264_67, xb_t, Nat.one_ne_zero, w1, m264_108, hw, m10, t264_48, t264_56, t264_91, t264_122, t264_140]
theorem lv_2 (hS : Sh I A 12 (B 2) H m) (hV : Vd (B 2) H m) (hY : Yr (B 2)) (hi : i < 40) (a1 : A 102 i = nI 20) (a2 : A 103 i = nI x) (a3 : A 104 i = nI y) (l0 : B 16 (4 * i) = nI 2) (l1 : B 16 (4 * i + 1) = nI x) (l2 : B 16 (4 * i + 2) = nI y) (hx : x ≤ 11) (hy : y < H) : Lv d d' sl sl' i N V lt tw sp sr X I A J w B M H := by
  obtain ⟨hH, hD, hH6, hm⟩ := hV.1
  have m10 : nI 10 * nI 2 = nI 20 := by decide
  have c46 := q46_12 (d + 3) sl I A N V lt tw sp sr X hS (nI x)
  have c197 := c197' (d' + 3) sl' J w B M hm hD (nI x)
  cases hb : isN m (nI x) with
  | false =>
    rw [hb] at c46 c197
    have h18 : C (d + 4) 18 [.ref 12, .int (nI 20), .int (nI x), .int (nI y)] sl (CH I A N V lt tw sp sr X) = some ([.int (nI 9)], sl, CH I A N V lt tw sp sr X) := by
      rw [e18, k18_r12_0]
      simp (disch := omega) only [rt_c, b_some, List.cons_append, List.nil_append, Bool.cond_not, cond_true, cond_false, Bool.cond_decide, nI_add, nI_clamp, xin_n, dle_e, dlt_e, deq_e, xb_0, xb_1, decide_true, decide_false, Bool.not_true, Bool.not_false, Bool.and_true, Bool.true_and, Bool.and_false, Bool.false_and, Bool.true_or, Bool.false_or, Bool.or_true, Bool.or_false, if_true, if_false, up1_s, n_31, Int32.lt_irrefl, c46, k18_r12_5, xb_f, t18_24, t18_66, t18_73, t18_79, t18_86]
    refine ⟨nI 20 + nI 9, I, A, B 2, m, ?_, ?_, hS, hV, hY, Fr_rf, fun _ _ => rfl⟩
    · rw [e16, k16_r101_r12_0]
      simp (disch := omega) only [rt_c, b_some, List.cons_append, List.nil_append, Bool.cond_not, cond_true, cond_false, Bool.cond_decide, nI_add, nI_clamp, xin_n, dle_e, dlt_e, deq_e, xb_0, xb_1, decide_true, decide_false, Bool.not_true, Bool.not_false, Bool.and_true, Bool.true_and, Bool.and_false, Bool.false_and, Bool.true_or, Bool.false_or, Bool.or_true, Bool.or_false, if_true, if_false, up1_s, n_31, Int32.lt_irrefl, a1, a2, a3, Nat.reduceEqDiff, h18, k16_r101_r12_81, t16_96]
    · rw [up1_id, e264, m264_0]
      simp (disch := omega) only [rt_c, b_some, List.cons_append, List.nil_append, Bool.cond_not, cond_true, cond_false, Bool.cond_decide, nI_add, nI_clamp, xin_n, dle_e, dlt_e, deq_e, xb_0, xb_1, decide_true, decide_false, Bool.not_true, Bool.not_false, Bool.and_true, Bool.true_and, Bool.and_false, Bool.false_and, Bool.true_or, Bool.false_or, Bool.or_true, Bool.or_false, if_true, if_false, up1_s, n_31, Int32.lt_irrefl, l0, l1, l2, Nat.reduceEqDiff, Nat.zero_ne_one, c197, m264_67, xb_f, m10, t264_48, t264_56, t264_91, t264_122, t264_140]
  | true =>
    rw [hb] at c46 c197
    have hxm := isN_lt hm (by omega) hb
    have hw1 := Vd_wh hV hxm
    have hw2 := Vd_wm hV hxm
    obtain ⟨I', A', e1, e2, e3⟩ := q72_12 (d + 1) sl I A N V lt tw sp sr X hS hV hxm hy
    have w1 := c219_2 (d' + 2) sl' J w B M (show x < 12 by omega) (show y < 6 by omega) (B 16 (4 * i + 3))
    have h18 : C (d + 4) 18 [.ref 12, .int (nI 20), .int (nI x), .int (nI y)] sl (CH I A N V lt tw sp sr X) = some ([.int (selW (B 2) x y)], sl, CH I' A' N V lt tw sp sr X) := by
      rw [e18, k18_r12_0]
      simp (disch := omega) only [rt_c, b_some, List.cons_append, List.nil_append, Bool.cond_not, cond_true, cond_false, Bool.cond_decide, nI_add, nI_clamp, xin_n, dle_e, dlt_e, deq_e, xb_0, xb_1, decide_true, decide_false, Bool.not_true, Bool.not_false, Bool.and_true, Bool.true_and, Bool.and_false, Bool.false_and, Bool.true_or, Bool.false_or, Bool.or_true, Bool.or_false, if_true, if_false, up1_s, n_31, Int32.lt_irrefl, c46, k18_r12_5, xb_t, Nat.one_ne_zero, Nat.reduceEqDiff, k18_r12_26_c20, k18_r12_67, e1, k18_r12_73, t18_24, t18_66, t18_73, t18_79, t18_86]
    by_cases hw : selW (B 2) x y = nI 0
    · rw [if_pos hw] at e2
      rw [hw] at h18 w1
      have l9 := c221_2 (d' + 3) sl' J w B M hV hxm (show y < 6 by omega) (B 16 (4 * i + 3))
      refine ⟨nI 0, I', A', selN (B 2) x y, m, ?_, ?_, e2, Vd_sel hV hxm hy hw, Yr_c hY (selN_o (by omega) (by omega) (by omega) (by decide)), e3, fun k hk => selN_o (by omega) (by omega) (by omega) (by omega)⟩
      · rw [e16, k16_r101_r12_0]
        simp (disch := omega) only [rt_c, b_some, List.cons_append, List.nil_append, Bool.cond_not, cond_true, cond_false, Bool.cond_decide, nI_add, nI_clamp, xin_n, dle_e, dlt_e, deq_e, xb_0, xb_1, decide_true, decide_false, Bool.not_true, Bool.not_false, Bool.and_true, Bool.true_and, Bool.and_false, Bool.false_and, Bool.true_or, Bool.false_or, Bool.or_true, Bool.or_false, if_true, if_false, up1_s, n_31, Int32.lt_irrefl, a1, a2, a3, Nat.reduceEqDiff, h18, k16_r101_r12_81, t16_96]
      · rw [e264, m264_0]
        simp (disch := omega) only [rt_c, b_some, List.cons_append, List.nil_append, Bool.cond_not, cond_true, cond_false, Bool.cond_decide, nI_add, nI_clamp, xin_n, dle_e, dlt_e, deq_e, xb_0, xb_1, decide_true, decide_false, Bool.not_true, Bool.not_false, Bool.and_true, Bool.true_and, Bool.and_false, Bool.false_and, Bool.true_or, Bool.false_or, Bool.or_true, Bool.or_false, if_true, if_false, up1_s, n_31, Int32.lt_irrefl, l0, l1, l2, Nat.reduceEqDiff, Nat.zero_ne_one, c197, m264_67, xb_t, Nat.one_ne_zero, w1, m264_108, l9, m264_139, t264_48, t264_56, t264_91, t264_122, t264_140]
    · rw [if_neg hw] at e2
      refine ⟨nI 20 + selW (B 2) x y, I', A', B 2, m, ?_, ?_, e2, hV, hY, e3, fun _ _ => rfl⟩
      · rw [e16, k16_r101_r12_0]
        simp (disch := omega) only [rt_c, b_some, List.cons_append, List.nil_append, Bool.cond_not, cond_true, cond_false, Bool.cond_decide, nI_add, nI_clamp, xin_n, dle_e, dlt_e, deq_e, xb_0, xb_1, decide_true, decide_false, Bool.not_true, Bool.not_false, Bool.and_true, Bool.true_and, Bool.and_false, Bool.false_and, Bool.true_or, Bool.false_or, Bool.or_true, Bool.or_false, if_true, if_false, up1_s, n_31, Int32.lt_irrefl, a1, a2, a3, Nat.reduceEqDiff, h18, k16_r101_r12_81, hw, t16_96]
      · rw [up1_id, e264, m264_0]
        simp (disch := omega) only [rt_c, b_some, List.cons_append, List.nil_append, Bool.cond_not, cond_true, cond_false, Bool.cond_decide, nI_add, nI_clamp, xin_n, dle_e, dlt_e, deq_e, xb_0, xb_1, decide_true, decide_false, Bool.not_true, Bool.not_false, Bool.and_true, Bool.true_and, Bool.and_false, Bool.false_and, Bool.true_or, Bool.false_or, Bool.or_true, Bool.or_false, if_true, if_false, up1_s, n_31, Int32.lt_irrefl, l0, l1, l2, Nat.reduceEqDiff, Nat.zero_ne_one, c197, m264_67, xb_t, Nat.one_ne_zero, w1, m264_108, hw, m10, t264_48, t264_56, t264_91, t264_122, t264_140]
theorem lv_3 (hS : Sh I A 12 (B 2) H m) (hV : Vd (B 2) H m) (hY : Yr (B 2)) (hi : i < 40) (a1 : A 102 i = nI 30) (a2 : A 103 i = nI x) (l0 : B 16 (4 * i) = nI 3) (l1 : B 16 (4 * i + 1) = nI x) (hx : x ≤ 11)  : Lv d d' sl sl' i N V lt tw sp sr X I A J w B M H := by
  obtain ⟨hH, hD, hH6, hm⟩ := hV.1
  have m10 : nI 10 * nI 3 = nI 30 := by decide
  have c46 := q46_12 (d + 3) sl I A N V lt tw sp sr X hS (nI x)
  have c197 := c197' (d' + 3) sl' J w B M hm hD (nI x)
  cases hb : isN m (nI x) with
  | false =>
    rw [hb] at c46 c197
    have h18 : C (d + 4) 18 [.ref 12, .int (nI 30), .int (nI x), .int (A 104 i)] sl (CH I A N V lt tw sp sr X) = some ([.int (nI 9)], sl, CH I A N V lt tw sp sr X) := by
      rw [e18, k18_r12_0]
      simp (disch := omega) only [rt_c, b_some, List.cons_append, List.nil_append, Bool.cond_not, cond_true, cond_false, Bool.cond_decide, nI_add, nI_clamp, xin_n, dle_e, dlt_e, deq_e, xb_0, xb_1, decide_true, decide_false, Bool.not_true, Bool.not_false, Bool.and_true, Bool.true_and, Bool.and_false, Bool.false_and, Bool.true_or, Bool.false_or, Bool.or_true, Bool.or_false, if_true, if_false, up1_s, n_31, Int32.lt_irrefl, c46, k18_r12_5, xb_f, t18_24, t18_66, t18_73, t18_79, t18_86]
    refine ⟨nI 30 + nI 9, I, A, B 2, m, ?_, ?_, hS, hV, hY, Fr_rf, fun _ _ => rfl⟩
    · rw [e16, k16_r101_r12_0]
      simp (disch := omega) only [rt_c, b_some, List.cons_append, List.nil_append, Bool.cond_not, cond_true, cond_false, Bool.cond_decide, nI_add, nI_clamp, xin_n, dle_e, dlt_e, deq_e, xb_0, xb_1, decide_true, decide_false, Bool.not_true, Bool.not_false, Bool.and_true, Bool.true_and, Bool.and_false, Bool.false_and, Bool.true_or, Bool.false_or, Bool.or_true, Bool.or_false, if_true, if_false, up1_s, n_31, Int32.lt_irrefl, a1, a2, Nat.reduceEqDiff, h18, k16_r101_r12_81, t16_96]
    · rw [up1_id, e264, m264_0]
      simp (disch := omega) only [rt_c, b_some, List.cons_append, List.nil_append, Bool.cond_not, cond_true, cond_false, Bool.cond_decide, nI_add, nI_clamp, xin_n, dle_e, dlt_e, deq_e, xb_0, xb_1, decide_true, decide_false, Bool.not_true, Bool.not_false, Bool.and_true, Bool.true_and, Bool.and_false, Bool.false_and, Bool.true_or, Bool.false_or, Bool.or_true, Bool.or_false, if_true, if_false, up1_s, n_31, Int32.lt_irrefl, l0, l1, Nat.reduceEqDiff, Nat.zero_ne_one, c197, m264_67, xb_f, m10, t264_48, t264_56, t264_91, t264_122, t264_140]
  | true =>
    rw [hb] at c46 c197
    have hxm := isN_lt hm (by omega) hb
    have hw1 := Vd_wh hV hxm
    have hw2 := Vd_wm hV hxm
    obtain ⟨I', A', e1, e2, e3⟩ := q73_12 (d + 1) sl I A N V lt tw sp sr X hS hxm
    have w1 := c219_3 (d' + 2) sl' J w B M (show x < 12 by omega) (B 16 (4 * i + 2)) (B 16 (4 * i + 3))
    have h18 : C (d + 4) 18 [.ref 12, .int (nI 30), .int (nI x), .int (A 104 i)] sl (CH I A N V lt tw sp sr X) = some ([.int (forW (B 2) x)], sl, CH I' A' N V lt tw sp sr X) := by
      rw [e18, k18_r12_0]
      simp (disch := omega) only [rt_c, b_some, List.cons_append, List.nil_append, Bool.cond_not, cond_true, cond_false, Bool.cond_decide, nI_add, nI_clamp, xin_n, dle_e, dlt_e, deq_e, xb_0, xb_1, decide_true, decide_false, Bool.not_true, Bool.not_false, Bool.and_true, Bool.true_and, Bool.and_false, Bool.false_and, Bool.true_or, Bool.false_or, Bool.or_true, Bool.or_false, if_true, if_false, up1_s, n_31, Int32.lt_irrefl, c46, k18_r12_5, xb_t, Nat.one_ne_zero, Nat.reduceEqDiff, k18_r12_26_c30, k18_r12_74, e1, k18_r12_79, t18_24, t18_66, t18_73, t18_79, t18_86]
    by_cases hw : forW (B 2) x = nI 0
    · rw [if_pos hw] at e2
      rw [hw] at h18 w1
      have l9 := c221_3 (d' + 3) sl' J w B M (show x < 12 by omega) (B 16 (4 * i + 2)) (B 16 (4 * i + 3))
      refine ⟨nI 0, I', A', forN (B 2) x, m, ?_, ?_, e2, Vd_for hV hxm, Yr_c hY (forN_o (by omega) (by decide)), e3, fun k hk => forN_o (by omega) (by omega)⟩
      · rw [e16, k16_r101_r12_0]
        simp (disch := omega) only [rt_c, b_some, List.cons_append, List.nil_append, Bool.cond_not, cond_true, cond_false, Bool.cond_decide, nI_add, nI_clamp, xin_n, dle_e, dlt_e, deq_e, xb_0, xb_1, decide_true, decide_false, Bool.not_true, Bool.not_false, Bool.and_true, Bool.true_and, Bool.and_false, Bool.false_and, Bool.true_or, Bool.false_or, Bool.or_true, Bool.or_false, if_true, if_false, up1_s, n_31, Int32.lt_irrefl, a1, a2, Nat.reduceEqDiff, h18, k16_r101_r12_81, t16_96]
      · rw [e264, m264_0]
        simp (disch := omega) only [rt_c, b_some, List.cons_append, List.nil_append, Bool.cond_not, cond_true, cond_false, Bool.cond_decide, nI_add, nI_clamp, xin_n, dle_e, dlt_e, deq_e, xb_0, xb_1, decide_true, decide_false, Bool.not_true, Bool.not_false, Bool.and_true, Bool.true_and, Bool.and_false, Bool.false_and, Bool.true_or, Bool.false_or, Bool.or_true, Bool.or_false, if_true, if_false, up1_s, n_31, Int32.lt_irrefl, l0, l1, Nat.reduceEqDiff, Nat.zero_ne_one, c197, m264_67, xb_t, Nat.one_ne_zero, w1, m264_108, l9, m264_139, t264_48, t264_56, t264_91, t264_122, t264_140]
    · rw [if_neg hw] at e2
      refine ⟨nI 30 + forW (B 2) x, I', A', B 2, m, ?_, ?_, e2, hV, hY, e3, fun _ _ => rfl⟩
      · rw [e16, k16_r101_r12_0]
        simp (disch := omega) only [rt_c, b_some, List.cons_append, List.nil_append, Bool.cond_not, cond_true, cond_false, Bool.cond_decide, nI_add, nI_clamp, xin_n, dle_e, dlt_e, deq_e, xb_0, xb_1, decide_true, decide_false, Bool.not_true, Bool.not_false, Bool.and_true, Bool.true_and, Bool.and_false, Bool.false_and, Bool.true_or, Bool.false_or, Bool.or_true, Bool.or_false, if_true, if_false, up1_s, n_31, Int32.lt_irrefl, a1, a2, Nat.reduceEqDiff, h18, k16_r101_r12_81, hw, t16_96]
      · rw [up1_id, e264, m264_0]
        simp (disch := omega) only [rt_c, b_some, List.cons_append, List.nil_append, Bool.cond_not, cond_true, cond_false, Bool.cond_decide, nI_add, nI_clamp, xin_n, dle_e, dlt_e, deq_e, xb_0, xb_1, decide_true, decide_false, Bool.not_true, Bool.not_false, Bool.and_true, Bool.true_and, Bool.and_false, Bool.false_and, Bool.true_or, Bool.false_or, Bool.or_true, Bool.or_false, if_true, if_false, up1_s, n_31, Int32.lt_irrefl, l0, l1, Nat.reduceEqDiff, Nat.zero_ne_one, c197, m264_67, xb_t, Nat.one_ne_zero, w1, m264_108, hw, m10, t264_48, t264_56, t264_91, t264_122, t264_140]
theorem lv_4 (hS : Sh I A 12 (B 2) H m) (hV : Vd (B 2) H m) (hY : Yr (B 2)) (hi : i < 40) (a1 : A 102 i = nI 40) (a2 : A 103 i = nI x) (a3 : A 104 i = nI y) (l0 : B 16 (4 * i) = nI 4) (l1 : B 16 (4 * i + 1) = nI x) (l2 : B 16 (4 * i + 2) = nI y) (hx : x ≤ 11) (hy : y ≤ 11) : Lv d d' sl sl' i N V lt tw sp sr X I A J w B M H := by
  obtain ⟨hH, hD, hH6, hm⟩ := hV.1
  have m10 : nI 10 * nI 4 = nI 40 := by decide
  have hx40 : Op.lookupswitch.offset [(0, 34), (20, 41), (30, 48)] (54) (nI 40).toInt = (54) := by decide
  have c46 := q46_12 (d + 3) sl I A N V lt tw sp sr X hS (nI x)
  have c197 := c197' (d' + 3) sl' J w B M hm hD (nI x)
  cases hb : isN m (nI x) with
  | false =>
    rw [hb] at c46 c197
    have h18 : C (d + 4) 18 [.ref 12, .int (nI 40), .int (nI x), .int (nI y)] sl (CH I A N V lt tw sp sr X) = some ([.int (nI 9)], sl, CH I A N V lt tw sp sr X) := by
      rw [e18, k18_r12_0]
      simp (disch := omega) only [rt_c, b_some, List.cons_append, List.nil_append, Bool.cond_not, cond_true, cond_false, Bool.cond_decide, nI_add, nI_clamp, xin_n, dle_e, dlt_e, deq_e, xb_0, xb_1, decide_true, decide_false, Bool.not_true, Bool.not_false, Bool.and_true, Bool.true_and, Bool.and_false, Bool.false_and, Bool.true_or, Bool.false_or, Bool.or_true, Bool.or_false, if_true, if_false, up1_s, n_31, Int32.lt_irrefl, c46, k18_r12_5, xb_f, t18_24, t18_66, t18_73, t18_79, t18_86]
    refine ⟨nI 40 + nI 9, I, A, B 2, m, ?_, ?_, hS, hV, hY, Fr_rf, fun _ _ => rfl⟩
    · rw [e16, k16_r101_r12_0]
      simp (disch := omega) only [rt_c, b_some, List.cons_append, List.nil_append, Bool.cond_not, cond_true, cond_false, Bool.cond_decide, nI_add, nI_clamp, xin_n, dle_e, dlt_e, deq_e, xb_0, xb_1, decide_true, decide_false, Bool.not_true, Bool.not_false, Bool.and_true, Bool.true_and, Bool.and_false, Bool.false_and, Bool.true_or, Bool.false_or, Bool.or_true, Bool.or_false, if_true, if_false, up1_s, n_31, Int32.lt_irrefl, a1, a2, a3, Nat.reduceEqDiff, h18, k16_r101_r12_81, t16_96]
    · rw [up1_id, e264, m264_0]
      simp (disch := omega) only [rt_c, b_some, List.cons_append, List.nil_append, Bool.cond_not, cond_true, cond_false, Bool.cond_decide, nI_add, nI_clamp, xin_n, dle_e, dlt_e, deq_e, xb_0, xb_1, decide_true, decide_false, Bool.not_true, Bool.not_false, Bool.and_true, Bool.true_and, Bool.and_false, Bool.false_and, Bool.true_or, Bool.false_or, Bool.or_true, Bool.or_false, if_true, if_false, up1_s, n_31, Int32.lt_irrefl, l0, l1, l2, Nat.reduceEqDiff, Nat.zero_ne_one, c197, m264_67, xb_f, m10, t264_48, t264_56, t264_91, t264_122, t264_140]
  | true =>
    rw [hb] at c46 c197
    have hxm := isN_lt hm (by omega) hb
    have hw1 := Vd_wh hV hxm
    have hw2 := Vd_wm hV hxm
    have c46y := q46_12 (d + 3) sl I A N V lt tw sp sr X hS (nI y)
    have c197y := c197' (d' + 3) sl' J w B M hm hD (nI y)
    cases hby : isN m (nI y) with
    | false =>
      rw [hby] at c46y c197y
      have h18 : C (d + 4) 18 [.ref 12, .int (nI 40), .int (nI x), .int (nI y)] sl (CH I A N V lt tw sp sr X) = some ([.int (nI 9)], sl, CH I A N V lt tw sp sr X) := by
        rw [e18, k18_r12_0]
        simp (disch := omega) only [rt_c, b_some, List.cons_append, List.nil_append, Bool.cond_not, cond_true, cond_false, Bool.cond_decide, nI_add, nI_clamp, xin_n, dle_e, dlt_e, deq_e, xb_0, xb_1, decide_true, decide_false, Bool.not_true, Bool.not_false, Bool.and_true, Bool.true_and, Bool.and_false, Bool.false_and, Bool.true_or, Bool.false_or, Bool.or_true, Bool.or_false, if_true, if_false, up1_s, n_31, Int32.lt_irrefl, c46, k18_r12_5, xb_t, xb_f, Nat.one_ne_zero, c46y, k18_r12_19, t18_24, t18_66, t18_73, t18_79, t18_86]
      refine ⟨nI 40 + nI 9, I, A, B 2, m, ?_, ?_, hS, hV, hY, Fr_rf, fun _ _ => rfl⟩
      · rw [e16, k16_r101_r12_0]
        simp (disch := omega) only [rt_c, b_some, List.cons_append, List.nil_append, Bool.cond_not, cond_true, cond_false, Bool.cond_decide, nI_add, nI_clamp, xin_n, dle_e, dlt_e, deq_e, xb_0, xb_1, decide_true, decide_false, Bool.not_true, Bool.not_false, Bool.and_true, Bool.true_and, Bool.and_false, Bool.false_and, Bool.true_or, Bool.false_or, Bool.or_true, Bool.or_false, if_true, if_false, up1_s, n_31, Int32.lt_irrefl, a1, a2, a3, Nat.reduceEqDiff, h18, k16_r101_r12_81, t16_96]
      · rw [up1_id, e264, m264_0]
        simp (disch := omega) only [rt_c, b_some, List.cons_append, List.nil_append, Bool.cond_not, cond_true, cond_false, Bool.cond_decide, nI_add, nI_clamp, xin_n, dle_e, dlt_e, deq_e, xb_0, xb_1, decide_true, decide_false, Bool.not_true, Bool.not_false, Bool.and_true, Bool.true_and, Bool.and_false, Bool.false_and, Bool.true_or, Bool.false_or, Bool.or_true, Bool.or_false, if_true, if_false, up1_s, n_31, Int32.lt_irrefl, l0, l1, l2, Nat.reduceEqDiff, Nat.zero_ne_one, c197, m264_67, xb_t, xb_f, Nat.one_ne_zero, c197y, m264_81, m10, t264_48, t264_56, t264_91, t264_122, t264_140]
    | true =>
      rw [hby] at c46y c197y
      have hym := isN_lt hm (by omega) hby
      obtain ⟨I', A', e1, e2, e3⟩ := q74_12 (d + 1) sl I A N V lt tw sp sr X hS hxm hym
      have w1 := c219_4 (d' + 2) sl' J w B M (show x < 12 by omega) (show y < 12 by omega) (B 16 (4 * i + 3))
      have h18 : C (d + 4) 18 [.ref 12, .int (nI 40), .int (nI x), .int (nI y)] sl (CH I A N V lt tw sp sr X) = some ([.int (clrW (B 2) x y)], sl, CH I' A' N V lt tw sp sr X) := by
        rw [e18, k18_r12_0]
        simp (disch := omega) only [rt_c, b_some, List.cons_append, List.nil_append, Bool.cond_not, cond_true, cond_false, Bool.cond_decide, nI_add, nI_clamp, xin_n, dle_e, dlt_e, deq_e, xb_0, xb_1, decide_true, decide_false, Bool.not_true, Bool.not_false, Bool.and_true, Bool.true_and, Bool.and_false, Bool.false_and, Bool.true_or, Bool.false_or, Bool.or_true, Bool.or_false, if_true, if_false, up1_s, n_31, Int32.lt_irrefl, c46, k18_r12_5, xb_t, Nat.one_ne_zero, Nat.reduceEqDiff, c46y, k18_r12_19, k18_r12_26_out _ _ _ _ _ _ _ _ _ _ _ _ _ _ _ hx40, k18_r12_80, e1, k18_r12_86, t18_24, t18_66, t18_73, t18_79, t18_86]
      by_cases hw : clrW (B 2) x y = nI 0
      · rw [if_pos hw] at e2
        rw [hw] at h18 w1
        have l9 := c221_4 (d' + 3) sl' J w B M (show x < 12 by omega) (show y < 12 by omega) (B 16 (4 * i + 3))
        refine ⟨nI 0, I', A', clrN (B 2) x y, m, ?_, ?_, e2, Vd_clr hV hxm hym hw, Yr_c hY (clrN_o (by omega) (by omega) (by decide)), e3, fun k hk => clrN_o (by omega) (by omega) (by omega)⟩
        · rw [e16, k16_r101_r12_0]
          simp (disch := omega) only [rt_c, b_some, List.cons_append, List.nil_append, Bool.cond_not, cond_true, cond_false, Bool.cond_decide, nI_add, nI_clamp, xin_n, dle_e, dlt_e, deq_e, xb_0, xb_1, decide_true, decide_false, Bool.not_true, Bool.not_false, Bool.and_true, Bool.true_and, Bool.and_false, Bool.false_and, Bool.true_or, Bool.false_or, Bool.or_true, Bool.or_false, if_true, if_false, up1_s, n_31, Int32.lt_irrefl, a1, a2, a3, Nat.reduceEqDiff, h18, k16_r101_r12_81, t16_96]
        · rw [e264, m264_0]
          simp (disch := omega) only [rt_c, b_some, List.cons_append, List.nil_append, Bool.cond_not, cond_true, cond_false, Bool.cond_decide, nI_add, nI_clamp, xin_n, dle_e, dlt_e, deq_e, xb_0, xb_1, decide_true, decide_false, Bool.not_true, Bool.not_false, Bool.and_true, Bool.true_and, Bool.and_false, Bool.false_and, Bool.true_or, Bool.false_or, Bool.or_true, Bool.or_false, if_true, if_false, up1_s, n_31, Int32.lt_irrefl, l0, l1, l2, Nat.reduceEqDiff, Nat.zero_ne_one, c197, m264_67, xb_t, Nat.one_ne_zero, c197y, m264_81, w1, m264_108, l9, m264_139, t264_48, t264_56, t264_91, t264_122, t264_140]
      · rw [if_neg hw] at e2
        refine ⟨nI 40 + clrW (B 2) x y, I', A', B 2, m, ?_, ?_, e2, hV, hY, e3, fun _ _ => rfl⟩
        · rw [e16, k16_r101_r12_0]
          simp (disch := omega) only [rt_c, b_some, List.cons_append, List.nil_append, Bool.cond_not, cond_true, cond_false, Bool.cond_decide, nI_add, nI_clamp, xin_n, dle_e, dlt_e, deq_e, xb_0, xb_1, decide_true, decide_false, Bool.not_true, Bool.not_false, Bool.and_true, Bool.true_and, Bool.and_false, Bool.false_and, Bool.true_or, Bool.false_or, Bool.or_true, Bool.or_false, if_true, if_false, up1_s, n_31, Int32.lt_irrefl, a1, a2, a3, Nat.reduceEqDiff, h18, k16_r101_r12_81, hw, t16_96]
        · rw [up1_id, e264, m264_0]
          simp (disch := omega) only [rt_c, b_some, List.cons_append, List.nil_append, Bool.cond_not, cond_true, cond_false, Bool.cond_decide, nI_add, nI_clamp, xin_n, dle_e, dlt_e, deq_e, xb_0, xb_1, decide_true, decide_false, Bool.not_true, Bool.not_false, Bool.and_true, Bool.true_and, Bool.and_false, Bool.false_and, Bool.true_or, Bool.false_or, Bool.or_true, Bool.or_false, if_true, if_false, up1_s, n_31, Int32.lt_irrefl, l0, l1, l2, Nat.reduceEqDiff, Nat.zero_ne_one, c197, m264_67, xb_t, Nat.one_ne_zero, c197y, m264_81, w1, m264_108, hw, m10, t264_48, t264_56, t264_91, t264_122, t264_140]
theorem lv_1 (hS : Sh I A 12 (B 2) H m) (hV : Vd (B 2) H m) (hY : Yr (B 2)) (hi : i < 40) (a1 : A 102 i = nI 10) (a2 : A 103 i = nI x) (a3 : A 104 i = nI y) (a4 : A 105 i = nI z) (l0 : B 16 (4 * i) = nI 1) (l1 : B 16 (4 * i + 1) = nI x) (l2 : B 16 (4 * i + 2) = nI y) (l3 : B 16 (4 * i + 3) = nI z) (hx : x < H) (hy : y < H) (hyx : y ≠ x) (hz : z ≤ 200) : Lv d d' sl sl' i N V lt tw sp sr X I A J w B M H := by
  obtain ⟨hH, hD, hH6, hm⟩ := hV.1
  have m10 : nI 10 * nI 1 = nI 10 := by decide
  obtain ⟨I', A', e1, e2, e3⟩ := q71_12 (d + 2) sl I A N V lt tw sp sr X hS hx hy (nI z)
  have w1 := c219_1 (d' + 2) sl' J w B M hm hD (show y < 6 by omega) (nI x) (nI z)
  by_cases hw : borW (B 2) m y (nI z) = nI 0
  · rw [if_pos hw, if_pos hw] at e2
    rw [hw] at e1 w1
    have hm12 : m < 12 := by
      by_cases h12 : m = 12
      · unfold borW at hw; rw [if_pos h12] at hw; exact absurd hw (by decide)
      · omega
    have l9 := c221_1 (d' + 3) sl' J w B M hm12 hD (show x < 6 by omega) (show y < 6 by omega) (nI z)
    refine ⟨nI 0, I', A', borN (B 2) m x y (nI z), m + 1, ?_, ?_, e2, Vd_bor hV hx hy (fun e => hyx e.symm) (by omega) hw, Yr_c hY (borN_o hm12 (by omega) (by omega) (by decide)), e3, fun k hk => borN_o hm12 (by omega) (by omega) (by omega)⟩
    · rw [e16, k16_r101_r12_0]
      simp (disch := omega) only [rt_c, b_some, List.cons_append, List.nil_append, Bool.cond_not, cond_true, cond_false, Bool.cond_decide, nI_add, nI_clamp, xin_n, dle_e, dlt_e, deq_e, xb_0, xb_1, decide_true, decide_false, Bool.not_true, Bool.not_false, Bool.and_true, Bool.true_and, Bool.and_false, Bool.false_and, Bool.true_or, Bool.false_or, Bool.or_true, Bool.or_false, if_true, if_false, up1_s, n_31, Int32.lt_irrefl, a1, a2, a3, a4, e1, k16_r101_r12_38, t16_96]
    · rw [e264, m264_0]
      simp (disch := omega) only [rt_c, b_some, List.cons_append, List.nil_append, Bool.cond_not, cond_true, cond_false, Bool.cond_decide, nI_add, nI_clamp, xin_n, dle_e, dlt_e, deq_e, xb_0, xb_1, decide_true, decide_false, Bool.not_true, Bool.not_false, Bool.and_true, Bool.true_and, Bool.and_false, Bool.false_and, Bool.true_or, Bool.false_or, Bool.or_true, Bool.or_false, if_true, if_false, up1_s, n_31, Int32.lt_irrefl, l0, l1, l2, l3, Nat.reduceEqDiff, w1, m264_108, l9, m264_139, t264_48, t264_56, t264_91, t264_122, t264_140]
  · rw [if_neg hw, if_neg hw] at e2
    refine ⟨nI 10 + borW (B 2) m y (nI z), I', A', B 2, m, ?_, ?_, e2, hV, hY, e3, fun _ _ => rfl⟩
    · rw [e16, k16_r101_r12_0]
      simp (disch := omega) only [rt_c, b_some, List.cons_append, List.nil_append, Bool.cond_not, cond_true, cond_false, Bool.cond_decide, nI_add, nI_clamp, xin_n, dle_e, dlt_e, deq_e, xb_0, xb_1, decide_true, decide_false, Bool.not_true, Bool.not_false, Bool.and_true, Bool.true_and, Bool.and_false, Bool.false_and, Bool.true_or, Bool.false_or, Bool.or_true, Bool.or_false, if_true, if_false, up1_s, n_31, Int32.lt_irrefl, a1, a2, a3, a4, e1, k16_r101_r12_38, hw, t16_96]
    · rw [up1_id, e264, m264_0]
      simp (disch := omega) only [rt_c, b_some, List.cons_append, List.nil_append, Bool.cond_not, cond_true, cond_false, Bool.cond_decide, nI_add, nI_clamp, xin_n, dle_e, dlt_e, deq_e, xb_0, xb_1, decide_true, decide_false, Bool.not_true, Bool.not_false, Bool.and_true, Bool.true_and, Bool.and_false, Bool.false_and, Bool.true_or, Bool.false_or, Bool.or_true, Bool.or_false, if_true, if_false, up1_s, n_31, Int32.lt_irrefl, l0, l1, l2, l3, Nat.reduceEqDiff, w1, m264_108, hw, m10, t264_48, t264_56, t264_91, t264_122, t264_140]
theorem q17_12 (a : Int32) : ∀ (q i : Nat) (I A : Nat → Nat → Int32) (n : Nat → Int32), i + q < 2 ^ 31 → a = nI (i + q) → Sh I A 12 n H m → Vd n H m → ∃ I' A', rt 17 (R (d + 1) 17 (12, [some (.ref 12), some (.int a), some (.int (nI i))], [], sl, CH I A N V lt tw sp sr X)) = some ([.int (nI 0)], sl, CH I' A' N V lt tw sp sr X) ∧ Sh I' A' 12 (yrs H m q n) H m ∧ Fr 12 I A I' A' := by
  intro q
  induction q with
  | zero =>
    intro i I A n hi ha hS hV
    refine ⟨I, A, ?_, hS, Fr_rf⟩
    subst ha
    rw [k17_r12_12]
    simp (disch := omega) only [rt_c, b_some, List.cons_append, List.nil_append, Bool.cond_not, cond_true, cond_false, Bool.cond_decide, nI_add, nI_clamp, xin_n, dle_e, dlt_e, deq_e, xb_0, xb_1, decide_true, decide_false, Bool.not_true, Bool.not_false, Bool.and_true, Bool.true_and, Bool.and_false, Bool.false_and, Bool.true_or, Bool.false_or, Bool.or_true, Bool.or_false, if_true, if_false, up1_s, n_31, Int32.lt_irrefl, Nat.add_zero, Nat.le_refl, t17_9, t17_28]
  | succ q ih =>
    intro i I A n hi ha hS hV
    obtain ⟨I1, A1, x1, x2, x3⟩ := q77_12 d sl I A N V lt tw sp sr X hS hV
    obtain ⟨I', A', y1, y2, y3⟩ := ih (i + 1) I1 A1 _ (by omega) (by rw [ha]; congr 1; omega) x2 (Vd_year hV)
    refine ⟨I', A', ?_, y2, Fr_tr x3 y3⟩
    have h2 : ¬ i + (q + 1) ≤ i := by omega
    subst ha
    rw [k17_r12_12]
    simp (disch := omega) only [rt_c, b_some, List.cons_append, List.nil_append, Bool.cond_not, cond_true, cond_false, Bool.cond_decide, nI_add, nI_clamp, xin_n, dle_e, dlt_e, deq_e, xb_0, xb_1, decide_true, decide_false, Bool.not_true, Bool.not_false, Bool.and_true, Bool.true_and, Bool.and_false, Bool.false_and, Bool.true_or, Bool.false_or, Bool.or_true, Bool.or_false, if_true, if_false, up1_s, n_31, Int32.lt_irrefl, h2, x1, k17_r12_21, y1]
theorem lv_5 (hS : Sh I A 12 (B 2) H m) (hV : Vd (B 2) H m) (hY : Yr (B 2)) (hi : i < 40) (a1 : A 102 i = nI 50) (a2 : A 103 i = nI x) (l0 : B 16 (4 * i) = nI 5) (l1 : B 16 (4 * i + 1) = nI x) (hx1 : 1 ≤ x) (hx : x ≤ 60) : Lv d d' sl sl' i N V lt tw sp sr X I A J w B M H := by
  obtain ⟨hH, hD, hH6, hm⟩ := hV.1
  obtain ⟨yy, hyy, hY1⟩ := hY
  have h76 := q76_12 (d + 3) sl I A N V lt tw sp sr X hS
  rw [hY1, left_yr hyy] at h76
  by_cases hle : x ≤ 400 - yy
  · have hle2 : yy + x ≤ 400 := by omega
    obtain ⟨I', A', e1, e2, e3⟩ := q17_12 (d + 3) sl N V lt tw sp sr X (nI x) x 0 I A (B 2) (by omega) (by rw [Nat.zero_add]) hS hV
    have h17 : C (d + 4) 17 [.ref 12, .int (nI x)] sl (CH I A N V lt tw sp sr X) = some ([.int (nI 0)], sl, CH I' A' N V lt tw sp sr X) := by
      rw [e17, k17_r12_0, h76]
      simp (disch := omega) only [rt_c, b_some, List.cons_append, List.nil_append, Bool.cond_not, cond_true, cond_false, Bool.cond_decide, nI_add, nI_clamp, xin_n, dle_e, dlt_e, deq_e, xb_0, xb_1, decide_true, decide_false, Bool.not_true, Bool.not_false, Bool.and_true, Bool.true_and, Bool.and_false, Bool.false_and, Bool.true_or, Bool.false_or, Bool.or_true, Bool.or_false, if_true, if_false, up1_s, n_31, Int32.lt_irrefl, k17_r12_5, hle, e1]
    have hmin : x_min (nI x) (nI (400 - yy)) = nI x := by rw [xmin_nn (by omega) (by omega)]; congr 1; omega
    have hmin2 : x_min (nI x) (nI 400 - nI yy) = nI x := by rw [nI_sub hyy]; exact hmin
    have r4 := c230_18 (d' + 2) sl' J w M (H := H) (m := m) (nI x) (nI x) x 0 B (by omega) (by rw [Nat.zero_add]) hV
    have r5 : C (d' + 4) 230 [.ref 0, .int (nI x)] sl' (RH J w B M) = some ([.int (nI x)], sl', RH J w (up1 B 2 (yrs H m x (B 2))) M) := by
      rw [e230, m230_0, c169]
      simp (disch := omega) only [rt_c, b_some, List.cons_append, List.nil_append, Bool.cond_not, cond_true, cond_false, Bool.cond_decide, nI_add, nI_clamp, xin_n, dle_e, dlt_e, deq_e, xb_0, xb_1, decide_true, decide_false, Bool.not_true, Bool.not_false, Bool.and_true, Bool.true_and, Bool.and_false, Bool.false_and, Bool.true_or, Bool.false_or, Bool.or_true, Bool.or_false, if_true, if_false, up1_s, n_31, Int32.lt_irrefl, m230_15, hY1, hmin2, r4]
    refine ⟨nI 0, I', A', yrs H m x (B 2), m, ?_, ?_, e2, yrs_V x hV, ⟨yy + x, hle2, yrs_70 x yy _ hY1⟩, e3, fun k hk => yrs_o hH6 hm hk x _⟩
    · rw [e16, k16_r101_r12_0]
      simp (disch := omega) only [rt_c, b_some, List.cons_append, List.nil_append, Bool.cond_not, cond_true, cond_false, Bool.cond_decide, nI_add, nI_clamp, xin_n, dle_e, dlt_e, deq_e, xb_0, xb_1, decide_true, decide_false, Bool.not_true, Bool.not_false, Bool.and_true, Bool.true_and, Bool.and_false, Bool.false_and, Bool.true_or, Bool.false_or, Bool.or_true, Bool.or_false, if_true, if_false, up1_s, n_31, Int32.lt_irrefl, a1, a2, Nat.reduceEqDiff, h17, k16_r101_r12_59, t16_96]
    · rw [e264, m264_0]
      simp (disch := omega) only [rt_c, b_some, List.cons_append, List.nil_append, Bool.cond_not, cond_true, cond_false, Bool.cond_decide, nI_add, nI_clamp, xin_n, dle_e, dlt_e, deq_e, xb_0, xb_1, decide_true, decide_false, Bool.not_true, Bool.not_false, Bool.and_true, Bool.true_and, Bool.and_false, Bool.false_and, Bool.true_or, Bool.false_or, Bool.or_true, Bool.or_false, if_true, if_false, up1_s, n_31, Int32.lt_irrefl, l0, l1, hY1, hle2, r5, m264_54, t264_48, t264_56, t264_91, t264_122, t264_140]
  · have hle2 : ¬ yy + x ≤ 400 := by omega
    have h17 : C (d + 4) 17 [.ref 12, .int (nI x)] sl (CH I A N V lt tw sp sr X) = some ([.int (nI 1)], sl, CH I A N V lt tw sp sr X) := by
      rw [e17, k17_r12_0, h76]
      simp (disch := omega) only [rt_c, b_some, List.cons_append, List.nil_append, Bool.cond_not, cond_true, cond_false, Bool.cond_decide, nI_add, nI_clamp, xin_n, dle_e, dlt_e, deq_e, xb_0, xb_1, decide_true, decide_false, Bool.not_true, Bool.not_false, Bool.and_true, Bool.true_and, Bool.and_false, Bool.false_and, Bool.true_or, Bool.false_or, Bool.or_true, Bool.or_false, if_true, if_false, up1_s, n_31, Int32.lt_irrefl, k17_r12_5, hle, t17_9, t17_28]
    refine ⟨nI 51, I, A, B 2, m, ?_, ?_, hS, hV, ⟨yy, hyy, hY1⟩, Fr_rf, fun _ _ => rfl⟩
    · rw [e16, k16_r101_r12_0]
      simp (disch := omega) only [rt_c, b_some, List.cons_append, List.nil_append, Bool.cond_not, cond_true, cond_false, Bool.cond_decide, nI_add, nI_clamp, xin_n, dle_e, dlt_e, deq_e, xb_0, xb_1, decide_true, decide_false, Bool.not_true, Bool.not_false, Bool.and_true, Bool.true_and, Bool.and_false, Bool.false_and, Bool.true_or, Bool.false_or, Bool.or_true, Bool.or_false, if_true, if_false, up1_s, n_31, Int32.lt_irrefl, a1, a2, Nat.reduceEqDiff, h17, k16_r101_r12_59, Nat.one_ne_zero, t16_96]
    · rw [up1_id, e264, m264_0]
      simp (disch := omega) only [rt_c, b_some, List.cons_append, List.nil_append, Bool.cond_not, cond_true, cond_false, Bool.cond_decide, nI_add, nI_clamp, xin_n, dle_e, dlt_e, deq_e, xb_0, xb_1, decide_true, decide_false, Bool.not_true, Bool.not_false, Bool.and_true, Bool.true_and, Bool.and_false, Bool.false_and, Bool.true_or, Bool.false_or, Bool.or_true, Bool.or_false, if_true, if_false, up1_s, n_31, Int32.lt_irrefl, l0, l1, hY1, hle2, t264_48, t264_56, t264_91, t264_122, t264_140]
theorem lv_line (hS : Sh I A 12 (B 2) H m) (hV : Vd (B 2) H m) (hY : Yr (B 2)) (hi : i < 40) (hL : Ln (A 102) (A 103) (A 104) (A 105) (B 16) H i) : Lv d d' sl sl' i N V lt tw sp sr X I A J w B M H := by
  obtain ⟨q, x, a1, l0, a2, l1, h⟩ := hL
  rcases h with ⟨rfl, h1, y, h2, h3, h4, h5⟩ | ⟨rfl, y, z, h1, h2, h3, h4, h5, h6, h7, h8, h9⟩ | ⟨rfl, h1, y, h2, h3, h4⟩ | ⟨rfl, h1⟩ | ⟨rfl, h1, y, h2, h3, h4⟩ | ⟨rfl, h1, h2⟩
  · exact lv_0 d d' sl sl' I A N V lt tw sp sr X J w B M hS hV hY hi a1 a2 h4 l0 l1 h5 h1 h3
  · exact lv_1 d d' sl sl' I A N V lt tw sp sr X J w B M hS hV hY hi a1 a2 h6 h8 l0 l1 h7 h9 h1 h2 h3 h5
  · exact lv_2 d d' sl sl' I A N V lt tw sp sr X J w B M hS hV hY hi a1 a2 h3 l0 l1 h4 h1 h2
  · exact lv_3 d d' sl sl' I A N V lt tw sp sr X J w B M hS hV hY hi a1 a2 l0 l1 h1
  · exact lv_4 d d' sl sl' I A N V lt tw sp sr X J w B M hS hV hY hi a1 a2 h3 l0 l1 h4 h1 h2
  · exact lv_5 d d' sl sl' I A N V lt tw sp sr X J w B M hS hV hY hi a1 a2 l0 l1 h1 h2
end BKP
