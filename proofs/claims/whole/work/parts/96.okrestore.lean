/-! IMAGES: brought back -/
section IMR
variable (d sl : Nat) (I : Nat → Nat → Int32) (A : Nat → Nat → Int32) (N : Nat → Nat → Int64) (V : Nat → Nat → Option Nat) (lt : Int64) (tw : Option Nat) (sp sr : Nat) (X : List AC)
theorem q159_0_108 (hV : RV V) (h118 : A 118 0 = nI 1) {n : Nat → Int32} (h : Sn I A V 129 n) : ∃ I' A' N' V', C (d + 2) 159 [.ref 0, .int (nI 0)] sl (CH I A N V lt tw 108 112 []) = some ([.int (x_b true)], sl, CH I' A' N' V' lt tw 108 112 []) ∧ (∀ n H m, Sh I A 120 n H m → Sh I' A' 3 n H m) ∧ (∀ h, h < 6 → N' 4 h = N 121 h) ∧ Sn I' A' V' 108 n ∧ I' 21 = up1 (I 21) 2 (nI 0) ∧ (∀ q, q ≠ 3 → q ≠ 21 → q ≠ 108 → I' q = I q) ∧ (∀ q, (q < 5 ∨ 11 < q) → q ≠ 110 → q ≠ 111 → A' q = A q) ∧ (∀ q, q ≠ 4 → N' q = N q) ∧ (∀ q, q ≠ 109 → V' q = V q) := by
  obtain ⟨v22, v1, v2, v3, v4⟩ := hV
  obtain ⟨I1, A1, N1, x1, x2, x3, x4, x5, x6⟩ := q44_3_120 (d + 1) sl I A N V lt tw 108 112 []
  have h1 : Sn I1 A1 V 129 n := Sn_c h (fun _ _ => rfl) (by rw [x4 129 (by decide)]) rfl (x5 _ (by omega)) (x5 _ (by omega))
  obtain ⟨I2, A2, V2, y1, y2, y3, y4, y5⟩ := q32c_108_129 d sl I1 A1 N1 V lt tw 108 112 [] rfl h1
  have h29 : C (d + 1) 29 [.ref 21] sl (CH I2 A2 N1 V2 lt tw 108 112 []) = some ([], sl, CH (up1 I2 21 (up1 (I2 21) 2 (nI 0))) A2 N1 V2 lt tw 108 112 []) := by
    rw [e29, k29_r21_0]
    simp (disch := omega) only [rt_c, b_some, List.cons_append, List.nil_append, Bool.cond_not, cond_true, cond_false, Bool.cond_decide, nI_add, nI_clamp, xin_n, dle_e, dlt_e, deq_e, xb_0, xb_1, decide_true, decide_false, Bool.not_true, Bool.not_false, Bool.and_true, Bool.true_and, Bool.and_false, Bool.false_and, Bool.true_or, Bool.false_or, Bool.or_true, Bool.or_false, if_true, if_false, up1_s, n_31, Int32.lt_irrefl, t29_5]
  refine ⟨up1 I2 21 (up1 (I2 21) 2 (nI 0)), A2, N1, V2, ?_, fun n H m hS => Sh_c (x2 n H m hS) (fun _ _ => rfl) (by rw [up1_n (by decide), y3 3 (by decide)]) (fun q _ _ => y4 q (by omega) (by omega)), x3, Sn_c y2 (fun _ _ => rfl) (by rw [up1_n (by decide)]) rfl rfl rfl, by rw [up1_s, y3 21 (by decide), x4 21 (by decide)], fun q q1 q2 q3 => by rw [up1_n q2, y3 q q3, x4 q q1], fun q q1 q2 q3 => by rw [y4 q q2 q3, x5 q (by omega)], x6, y5⟩
  rw [e159, k159_0]
  have w1 : x_rf (V 116 0) = .ref 120 := by rw [v1]; rfl
  have w2 : x_rf (V 117 0) = .ref 129 := by rw [v3]; rfl
  simp (disch := omega) only [rt_c, b_some, List.cons_append, List.nil_append, Bool.cond_not, cond_true, cond_false, Bool.cond_decide, nI_add, nI_clamp, xin_n, dle_e, dlt_e, deq_e, xb_0, xb_1, decide_true, decide_false, Bool.not_true, Bool.not_false, Bool.and_true, Bool.true_and, Bool.and_false, Bool.false_and, Bool.true_or, Bool.false_or, Bool.or_true, Bool.or_false, if_true, if_false, up1_s, n_31, Int32.lt_irrefl, h118, Nat.one_ne_zero, Nat.not_lt_zero, Nat.reduceLT, Nat.reduceLeDiff, w1, k159_30, x1, k159_33, w2, k159_43, y1, k159_46, h29, k159_53, t159_19, t159_19_0, t159_19_1, t159_54, t159_54_0, t159_54_1]
theorem q159_1_108 (hV : RV V) (h118 : A 118 1 = nI 1) {n : Nat → Int32} (h : Sn I A V 142 n) : ∃ I' A' N' V', C (d + 2) 159 [.ref 0, .int (nI 1)] sl (CH I A N V lt tw 108 112 []) = some ([.int (x_b true)], sl, CH I' A' N' V' lt tw 108 112 []) ∧ (∀ n H m, Sh I A 133 n H m → Sh I' A' 3 n H m) ∧ (∀ h, h < 6 → N' 4 h = N 134 h) ∧ Sn I' A' V' 108 n ∧ I' 21 = up1 (I 21) 2 (nI 0) ∧ (∀ q, q ≠ 3 → q ≠ 21 → q ≠ 108 → I' q = I q) ∧ (∀ q, (q < 5 ∨ 11 < q) → q ≠ 110 → q ≠ 111 → A' q = A q) ∧ (∀ q, q ≠ 4 → N' q = N q) ∧ (∀ q, q ≠ 109 → V' q = V q) := by
  obtain ⟨v22, v1, v2, v3, v4⟩ := hV
  obtain ⟨I1, A1, N1, x1, x2, x3, x4, x5, x6⟩ := q44_3_133 (d + 1) sl I A N V lt tw 108 112 []
  have h1 : Sn I1 A1 V 142 n := Sn_c h (fun _ _ => rfl) (by rw [x4 142 (by decide)]) rfl (x5 _ (by omega)) (x5 _ (by omega))
  obtain ⟨I2, A2, V2, y1, y2, y3, y4, y5⟩ := q32c_108_142 d sl I1 A1 N1 V lt tw 108 112 [] rfl h1
  have h29 : C (d + 1) 29 [.ref 21] sl (CH I2 A2 N1 V2 lt tw 108 112 []) = some ([], sl, CH (up1 I2 21 (up1 (I2 21) 2 (nI 0))) A2 N1 V2 lt tw 108 112 []) := by
    rw [e29, k29_r21_0]
    simp (disch := omega) only [rt_c, b_some, List.cons_append, List.nil_append, Bool.cond_not, cond_true, cond_false, Bool.cond_decide, nI_add, nI_clamp, xin_n, dle_e, dlt_e, deq_e, xb_0, xb_1, decide_true, decide_false, Bool.not_true, Bool.not_false, Bool.and_true, Bool.true_and, Bool.and_false, Bool.false_and, Bool.true_or, Bool.false_or, Bool.or_true, Bool.or_false, if_true, if_false, up1_s, n_31, Int32.lt_irrefl, t29_5]
  refine ⟨up1 I2 21 (up1 (I2 21) 2 (nI 0)), A2, N1, V2, ?_, fun n H m hS => Sh_c (x2 n H m hS) (fun _ _ => rfl) (by rw [up1_n (by decide), y3 3 (by decide)]) (fun q _ _ => y4 q (by omega) (by omega)), x3, Sn_c y2 (fun _ _ => rfl) (by rw [up1_n (by decide)]) rfl rfl rfl, by rw [up1_s, y3 21 (by decide), x4 21 (by decide)], fun q q1 q2 q3 => by rw [up1_n q2, y3 q q3, x4 q q1], fun q q1 q2 q3 => by rw [y4 q q2 q3, x5 q (by omega)], x6, y5⟩
  rw [e159, k159_0]
  have w1 : x_rf (V 116 1) = .ref 133 := by rw [v2]; rfl
  have w2 : x_rf (V 117 1) = .ref 142 := by rw [v4]; rfl
  simp (disch := omega) only [rt_c, b_some, List.cons_append, List.nil_append, Bool.cond_not, cond_true, cond_false, Bool.cond_decide, nI_add, nI_clamp, xin_n, dle_e, dlt_e, deq_e, xb_0, xb_1, decide_true, decide_false, Bool.not_true, Bool.not_false, Bool.and_true, Bool.true_and, Bool.and_false, Bool.false_and, Bool.true_or, Bool.false_or, Bool.or_true, Bool.or_false, if_true, if_false, up1_s, n_31, Int32.lt_irrefl, h118, Nat.one_ne_zero, Nat.not_lt_zero, Nat.reduceLT, Nat.reduceLeDiff, w1, k159_30_1, x1, k159_33, w2, k159_43_1, y1, k159_46, h29, k159_53, t159_19, t159_19_0, t159_19_1, t159_54, t159_54_0, t159_54_1]
theorem q159_0_112 (hV : RV V) (h118 : A 118 0 = nI 1) {n : Nat → Int32} (h : Sn I A V 129 n) : ∃ I' A' N' V', C (d + 2) 159 [.ref 0, .int (nI 0)] sl (CH I A N V lt tw 112 108 []) = some ([.int (x_b true)], sl, CH I' A' N' V' lt tw 112 108 []) ∧ (∀ n H m, Sh I A 120 n H m → Sh I' A' 3 n H m) ∧ (∀ h, h < 6 → N' 4 h = N 121 h) ∧ Sn I' A' V' 112 n ∧ I' 21 = up1 (I 21) 2 (nI 0) ∧ (∀ q, q ≠ 3 → q ≠ 21 → q ≠ 112 → I' q = I q) ∧ (∀ q, (q < 5 ∨ 11 < q) → q ≠ 114 → q ≠ 115 → A' q = A q) ∧ (∀ q, q ≠ 4 → N' q = N q) ∧ (∀ q, q ≠ 113 → V' q = V q) := by
  obtain ⟨v22, v1, v2, v3, v4⟩ := hV
  obtain ⟨I1, A1, N1, x1, x2, x3, x4, x5, x6⟩ := q44_3_120 (d + 1) sl I A N V lt tw 112 108 []
  have h1 : Sn I1 A1 V 129 n := Sn_c h (fun _ _ => rfl) (by rw [x4 129 (by decide)]) rfl (x5 _ (by omega)) (x5 _ (by omega))
  obtain ⟨I2, A2, V2, y1, y2, y3, y4, y5⟩ := q32c_112_129 d sl I1 A1 N1 V lt tw 112 108 [] rfl h1
  have h29 : C (d + 1) 29 [.ref 21] sl (CH I2 A2 N1 V2 lt tw 112 108 []) = some ([], sl, CH (up1 I2 21 (up1 (I2 21) 2 (nI 0))) A2 N1 V2 lt tw 112 108 []) := by
    rw [e29, k29_r21_0]
    simp (disch := omega) only [rt_c, b_some, List.cons_append, List.nil_append, Bool.cond_not, cond_true, cond_false, Bool.cond_decide, nI_add, nI_clamp, xin_n, dle_e, dlt_e, deq_e, xb_0, xb_1, decide_true, decide_false, Bool.not_true, Bool.not_false, Bool.and_true, Bool.true_and, Bool.and_false, Bool.false_and, Bool.true_or, Bool.false_or, Bool.or_true, Bool.or_false, if_true, if_false, up1_s, n_31, Int32.lt_irrefl, t29_5]
  refine ⟨up1 I2 21 (up1 (I2 21) 2 (nI 0)), A2, N1, V2, ?_, fun n H m hS => Sh_c (x2 n H m hS) (fun _ _ => rfl) (by rw [up1_n (by decide), y3 3 (by decide)]) (fun q _ _ => y4 q (by omega) (by omega)), x3, Sn_c y2 (fun _ _ => rfl) (by rw [up1_n (by decide)]) rfl rfl rfl, by rw [up1_s, y3 21 (by decide), x4 21 (by decide)], fun q q1 q2 q3 => by rw [up1_n q2, y3 q q3, x4 q q1], fun q q1 q2 q3 => by rw [y4 q q2 q3, x5 q (by omega)], x6, y5⟩
  rw [e159, k159_0]
  have w1 : x_rf (V 116 0) = .ref 120 := by rw [v1]; rfl
  have w2 : x_rf (V 117 0) = .ref 129 := by rw [v3]; rfl
  simp (disch := omega) only [rt_c, b_some, List.cons_append, List.nil_append, Bool.cond_not, cond_true, cond_false, Bool.cond_decide, nI_add, nI_clamp, xin_n, dle_e, dlt_e, deq_e, xb_0, xb_1, decide_true, decide_false, Bool.not_true, Bool.not_false, Bool.and_true, Bool.true_and, Bool.and_false, Bool.false_and, Bool.true_or, Bool.false_or, Bool.or_true, Bool.or_false, if_true, if_false, up1_s, n_31, Int32.lt_irrefl, h118, Nat.one_ne_zero, Nat.not_lt_zero, Nat.reduceLT, Nat.reduceLeDiff, w1, k159_30, x1, k159_33_1, w2, k159_43_2, y1, k159_46_1, h29, k159_53_1, t159_19, t159_19_0, t159_19_1, t159_54, t159_54_0, t159_54_1]
theorem q159_1_112 (hV : RV V) (h118 : A 118 1 = nI 1) {n : Nat → Int32} (h : Sn I A V 142 n) : ∃ I' A' N' V', C (d + 2) 159 [.ref 0, .int (nI 1)] sl (CH I A N V lt tw 112 108 []) = some ([.int (x_b true)], sl, CH I' A' N' V' lt tw 112 108 []) ∧ (∀ n H m, Sh I A 133 n H m → Sh I' A' 3 n H m) ∧ (∀ h, h < 6 → N' 4 h = N 134 h) ∧ Sn I' A' V' 112 n ∧ I' 21 = up1 (I 21) 2 (nI 0) ∧ (∀ q, q ≠ 3 → q ≠ 21 → q ≠ 112 → I' q = I q) ∧ (∀ q, (q < 5 ∨ 11 < q) → q ≠ 114 → q ≠ 115 → A' q = A q) ∧ (∀ q, q ≠ 4 → N' q = N q) ∧ (∀ q, q ≠ 113 → V' q = V q) := by
  obtain ⟨v22, v1, v2, v3, v4⟩ := hV
  obtain ⟨I1, A1, N1, x1, x2, x3, x4, x5, x6⟩ := q44_3_133 (d + 1) sl I A N V lt tw 112 108 []
  have h1 : Sn I1 A1 V 142 n := Sn_c h (fun _ _ => rfl) (by rw [x4 142 (by decide)]) rfl (x5 _ (by omega)) (x5 _ (by omega))
  obtain ⟨I2, A2, V2, y1, y2, y3, y4, y5⟩ := q32c_112_142 d sl I1 A1 N1 V lt tw 112 108 [] rfl h1
  have h29 : C (d + 1) 29 [.ref 21] sl (CH I2 A2 N1 V2 lt tw 112 108 []) = some ([], sl, CH (up1 I2 21 (up1 (I2 21) 2 (nI 0))) A2 N1 V2 lt tw 112 108 []) := by
    rw [e29, k29_r21_0]
    simp (disch := omega) only [rt_c, b_some, List.cons_append, List.nil_append, Bool.cond_not, cond_true, cond_false, Bool.cond_decide, nI_add, nI_clamp, xin_n, dle_e, dlt_e, deq_e, xb_0, xb_1, decide_true, decide_false, Bool.not_true, Bool.not_false, Bool.and_true, Bool.true_and, Bool.and_false, Bool.false_and, Bool.true_or, Bool.false_or, Bool.or_true, Bool.or_false, if_true, if_false, up1_s, n_31, Int32.lt_irrefl, t29_5]
  refine ⟨up1 I2 21 (up1 (I2 21) 2 (nI 0)), A2, N1, V2, ?_, fun n H m hS => Sh_c (x2 n H m hS) (fun _ _ => rfl) (by rw [up1_n (by decide), y3 3 (by decide)]) (fun q _ _ => y4 q (by omega) (by omega)), x3, Sn_c y2 (fun _ _ => rfl) (by rw [up1_n (by decide)]) rfl rfl rfl, by rw [up1_s, y3 21 (by decide), x4 21 (by decide)], fun q q1 q2 q3 => by rw [up1_n q2, y3 q q3, x4 q q1], fun q q1 q2 q3 => by rw [y4 q q2 q3, x5 q (by omega)], x6, y5⟩
  rw [e159, k159_0]
  have w1 : x_rf (V 116 1) = .ref 133 := by rw [v2]; rfl
  have w2 : x_rf (V 117 1) = .ref 142 := by rw [v4]; rfl
  simp (disch := omega) only [rt_c, b_some, List.cons_append, List.nil_append, Bool.cond_not, cond_true, cond_false, Bool.cond_decide, nI_add, nI_clamp, xin_n, dle_e, dlt_e, deq_e, xb_0, xb_1, decide_true, decide_false, Bool.not_true, Bool.not_false, Bool.and_true, Bool.true_and, Bool.and_false, Bool.false_and, Bool.true_or, Bool.false_or, Bool.or_true, Bool.or_false, if_true, if_false, up1_s, n_31, Int32.lt_irrefl, h118, Nat.one_ne_zero, Nat.not_lt_zero, Nat.reduceLT, Nat.reduceLeDiff, w1, k159_30_1, x1, k159_33_1, w2, k159_43_3, y1, k159_46_1, h29, k159_53_1, t159_19, t159_19_0, t159_19_1, t159_54, t159_54_0, t159_54_1]
end IMR
section RFK
variable (d sl : Nat) (I : Nat → Int32) (w : Int64) (A : Nat → Nat → Int32) (N : Nat → Nat → Int64) {k : Nat}
theorem c280_n (hk : k < 2) : ∀ (q i : Nat) (g : Nat → Int64), i + q = 6 → (∀ j, j < i → g j = N 9 (6 * k + j)) → ∃ g', rt 280 (R (d + 1) 280 (60, [some (.ref 0), some (.int (nI k)), some (.int (nI i))], [], sl, RH I w A (up1 N 7 g))) = some ([.int (x_b true)], sl, RH (up1 I 24 (nI 0)) w A (up1 N 7 g')) ∧ (∀ j, j < 6 → g' j = N 9 (6 * k + j)) := by
  intro q
  induction q with
  | zero =>
    intro i g hi h1
    have hi2 : 6 ≤ i := by omega
    refine ⟨g, ?_, fun j hj => h1 j (by omega)⟩
    rw [m280_60]
    simp (disch := omega) only [rt_c, b_some, List.cons_append, List.nil_append, Bool.cond_not, cond_true, cond_false, Bool.cond_decide, nI_add, nI_clamp, xin_n, dle_e, dlt_e, deq_e, xb_0, xb_1, decide_true, decide_false, Bool.not_true, Bool.not_false, Bool.and_true, Bool.true_and, Bool.and_false, Bool.false_and, Bool.true_or, Bool.false_or, Bool.or_true, Bool.or_false, if_true, if_false, up1_s, n_31, Int32.lt_irrefl, hi2, t280_24, t280_24_0, t280_24_1, t280_95, t280_95_0, t280_95_1]
  | succ q ih =>
    intro i g hi h1
    have hi2 : ¬ 6 ≤ i := by omega
    have hm := mul6 hk
    obtain ⟨g', x1, x2⟩ := ih (i + 1) (vp_updL g i (N 9 (6 * k + i))) (by omega) (fun j hj => by
      by_cases hji : j = i
      · rw [hji, updL_s]
      · rw [updL_n (by omega)]; exact h1 j (by omega))
    refine ⟨g', ?_, x2⟩
    rw [m280_60]
    simp (disch := omega) only [rt_c, b_some, List.cons_append, List.nil_append, Bool.cond_not, cond_true, cond_false, Bool.cond_decide, nI_add, nI_clamp, xin_n, dle_e, dlt_e, deq_e, xb_0, xb_1, decide_true, decide_false, Bool.not_true, Bool.not_false, Bool.and_true, Bool.true_and, Bool.and_false, Bool.false_and, Bool.true_or, Bool.false_or, Bool.or_true, Bool.or_false, if_true, if_false, up1_s, n_31, Int32.lt_irrefl, hi2, hm, up1_up, up1_n, x1]
theorem c280_i (hk : k < 2) : ∀ (q i : Nat) (f : Nat → Int32), i + q = 369 → (∀ j, j < i → f j = A 4 (369 * k + j)) → ∃ f' g', rt 280 (R (d + 1) 280 (27, [some (.ref 0), some (.int (nI k)), some (.int (nI i))], [], sl, RH I w (up1 A 2 f) N)) = some ([.int (x_b true)], sl, RH (up1 I 24 (nI 0)) w (up1 A 2 f') (up1 N 7 g')) ∧ (∀ j, j < 369 → f' j = A 4 (369 * k + j)) ∧ (∀ j, j < 6 → g' j = N 9 (6 * k + j)) := by
  intro q
  induction q with
  | zero =>
    intro i f hi h1
    have hi2 : 369 ≤ i := by omega
    obtain ⟨g', x1, x2⟩ := c280_n d sl I w (up1 A 2 f) N hk 6 0 (N 7) (by omega) (fun j hj => by omega)
    rw [up1_id] at x1
    refine ⟨f, g', ?_, fun j hj => h1 j (by omega), x2⟩
    rw [m280_27]
    simp (disch := omega) only [rt_c, b_some, List.cons_append, List.nil_append, Bool.cond_not, cond_true, cond_false, Bool.cond_decide, nI_add, nI_clamp, xin_n, dle_e, dlt_e, deq_e, xb_0, xb_1, decide_true, decide_false, Bool.not_true, Bool.not_false, Bool.and_true, Bool.true_and, Bool.and_false, Bool.false_and, Bool.true_or, Bool.false_or, Bool.or_true, Bool.or_false, if_true, if_false, up1_s, n_31, Int32.lt_irrefl, hi2, x1]
  | succ q ih =>
    intro i f hi h1
    have hi2 : ¬ 369 ≤ i := by omega
    have hm := mul369 hk
    obtain ⟨f', g', x1, x2⟩ := ih (i + 1) (upd f i (A 4 (369 * k + i))) (by omega) (fun j hj => by
      by_cases hji : j = i
      · rw [hji, upd_s]
      · rw [upd_n (by omega)]; exact h1 j (by omega))
    refine ⟨f', g', ?_, x2⟩
    rw [m280_27]
    simp (disch := omega) only [rt_c, b_some, List.cons_append, List.nil_append, Bool.cond_not, cond_true, cond_false, Bool.cond_decide, nI_add, nI_clamp, xin_n, dle_e, dlt_e, deq_e, xb_0, xb_1, decide_true, decide_false, Bool.not_true, Bool.not_false, Bool.and_true, Bool.true_and, Bool.and_false, Bool.false_and, Bool.true_or, Bool.false_or, Bool.or_true, Bool.or_false, if_true, if_false, up1_s, n_31, Int32.lt_irrefl, hi2, hm, up1_up, up1_n, x1]
theorem c280 (hk : k < 2) (h10 : A 10 k = nI 1) : ∃ f' g', C (d + 1) 280 [.ref 0, .int (nI k)] sl (RH I w A N) = some ([.int (x_b true)], sl, RH (up1 (up1 I 0 (nI 0)) 24 (nI 0)) w (up1 A 2 f') (up1 N 7 g')) ∧ (∀ j, j < 369 → f' j = A 4 (369 * k + j)) ∧ (∀ j, j < 6 → g' j = N 9 (6 * k + j)) := by
  obtain ⟨f', g', x1, x2⟩ := c280_i d sl (up1 I 0 (nI 0)) w A N hk 369 0 (A 2) (by omega) (fun j hj => by omega)
  rw [up1_id] at x1
  refine ⟨f', g', ?_, x2⟩
  have hin : (decide (nI 0 ≤ nI k) && decide (nI k ≤ nI 1)) = true := by rcases (show k = 0 ∨ k = 1 by omega) with rfl | rfl <;> decide
  rw [e280, m280_0, c166, hin, xb_t]
  simp (disch := omega) only [rt_c, b_some, List.cons_append, List.nil_append, Bool.cond_not, cond_true, cond_false, Bool.cond_decide, nI_add, nI_clamp, xin_n, dle_e, dlt_e, deq_e, xb_0, xb_1, decide_true, decide_false, Bool.not_true, Bool.not_false, Bool.and_true, Bool.true_and, Bool.and_false, Bool.false_and, Bool.true_or, Bool.false_or, Bool.or_true, Bool.or_false, if_true, if_false, up1_s, n_31, Int32.lt_irrefl, m280_11, Nat.one_ne_zero, h10]
  rw [xb_t] at x1
  exact x1
theorem c280_no (hk : k < 2) (h10 : A 10 k = nI 0) : C (d + 1) 280 [.ref 0, .int (nI k)] sl (RH I w A N) = some ([.int (x_b false)], sl, RH (up1 I 0 (nI 0)) w A N) := by
  have hin : (decide (nI 0 ≤ nI k) && decide (nI k ≤ nI 1)) = true := by rcases (show k = 0 ∨ k = 1 by omega) with rfl | rfl <;> decide
  rw [e280, m280_0, c166, hin]
  simp (disch := omega) only [rt_c, b_some, List.cons_append, List.nil_append, Bool.cond_not, cond_true, cond_false, Bool.cond_decide, nI_add, nI_clamp, xin_n, dle_e, dlt_e, deq_e, xb_0, xb_1, decide_true, decide_false, Bool.not_true, Bool.not_false, Bool.and_true, Bool.true_and, Bool.and_false, Bool.false_and, Bool.true_or, Bool.false_or, Bool.or_true, Bool.or_false, if_true, if_false, up1_s, n_31, Int32.lt_irrefl, m280_11, xb_t, Nat.one_ne_zero, h10, t280_24, t280_24_0, t280_24_1, t280_95, t280_95_0, t280_95_1]
end RFK
theorem ok_restore (d : Nat) (k : Int32) : Ok (d + 2) 159 280 [.ref 0, .int k] := by
  intro sl sl2 I A N V lt tw sp sr J w B M hR
  have hR0 := hR
  by_cases hk : k = nI 0 ∨ k = nI 1
  rotate_left
  · have k0 : ¬ k = nI 0 := fun h => hk (Or.inl h)
    have k1 : ¬ k = nI 1 := fun h => hk (Or.inr h)
    have hin := in01 k0 k1
    refine ⟨x_b false, I, A, N, V, lt, tw, sp, sr, [], sl, up1 J 0 (nI 0), w, B, M, ?_, ?_, Rl_0 hR0 _, Nat.le_refl _, by omega, by simp⟩
    · rw [e159, k159_0]
      by_cases h0 : k < nI 0
      · simp (disch := omega) only [rt_c, b_some, List.cons_append, List.nil_append, Bool.cond_not, cond_true, cond_false, Bool.cond_decide, nI_add, nI_clamp, xin_n, dle_e, dlt_e, deq_e, xb_0, xb_1, decide_true, decide_false, Bool.not_true, Bool.not_false, Bool.and_true, Bool.true_and, Bool.and_false, Bool.false_and, Bool.true_or, Bool.false_or, Bool.or_true, Bool.or_false, if_true, if_false, up1_s, n_31, Int32.lt_irrefl, h0, t159_19, t159_19_0, t159_19_1, t159_54, t159_54_0, t159_54_1]
      · have h2 : ¬ k < nI 2 := by
          intro h2
          obtain ⟨j, j1, j2⟩ := xin_ge h0 (by decide) h2
          rcases (show j = 0 ∨ j = 1 by omega) with rfl | rfl
          · exact k0 j2
          · exact k1 j2
        have h3 : nI 2 ≤ k := Int32.not_lt.mp h2
        simp (disch := omega) only [rt_c, b_some, List.cons_append, List.nil_append, Bool.cond_not, cond_true, cond_false, Bool.cond_decide, nI_add, nI_clamp, xin_n, dle_e, dlt_e, deq_e, xb_0, xb_1, decide_true, decide_false, Bool.not_true, Bool.not_false, Bool.and_true, Bool.true_and, Bool.and_false, Bool.false_and, Bool.true_or, Bool.false_or, Bool.or_true, Bool.or_false, if_true, if_false, up1_s, n_31, Int32.lt_irrefl, h0, h3, t159_19, t159_19_0, t159_19_1, t159_54, t159_54_0, t159_54_1]
    · rw [e280, m280_0, c166, hin]
      simp (disch := omega) only [rt_c, b_some, List.cons_append, List.nil_append, Bool.cond_not, cond_true, cond_false, Bool.cond_decide, nI_add, nI_clamp, xin_n, dle_e, dlt_e, deq_e, xb_0, xb_1, decide_true, decide_false, Bool.not_true, Bool.not_false, Bool.and_true, Bool.true_and, Bool.and_false, Bool.false_and, Bool.true_or, Bool.false_or, Bool.or_true, Bool.or_false, if_true, if_false, up1_s, n_31, Int32.lt_irrefl, m280_11, xb_f, t280_24, t280_24_0, t280_24_1, t280_95, t280_95_0, t280_95_1]
  obtain ⟨H, m, h1, ⟨p, z, h2⟩, hT, hQ, hRI, hRV, hC1, hC2⟩ := hR
  have fin : ∀ (κ : Nat) (hκ : κ < 2) (H m : Nat) (I' A' : Nat → Nat → Int32) (N' : Nat → Nat → Int64) (V' : Nat → Nat → Option Nat) (f' : Nat → Int32) (g' : Nat → Int64), Sh I A (120 + 13 * κ) (fun i => B 4 (369 * κ + i)) H m → Vd (fun i => B 4 (369 * κ + i)) H m → Yr (fun i => B 4 (369 * κ + i)) → Nm (N (121 + 13 * κ)) (fun i => M 9 (6 * κ + i)) H → (∀ n H m, Sh I A (120 + 13 * κ) n H m → Sh I' A' 3 n H m) → (∀ h, h < 6 → N' 4 h = N (121 + 13 * κ) h) → Sn I' A' V' sp (fun i => B 4 (369 * κ + i)) → I' 21 = up1 (I 21) 2 (nI 0) → (∀ q, q ≠ 3 → q ≠ 21 → q ≠ sp → I' q = I q) → (∀ q, (q < 5 ∨ 11 < q) → q ≠ sp + 2 → q ≠ sp + 3 → A' q = A q) → (∀ q, q ≠ 4 → N' q = N q) → (∀ q, q ≠ sp + 1 → V' q = V q) → (∀ j, j < 369 → f' j = B 4 (369 * κ + j)) → (∀ j, j < 6 → g' j = M 9 (6 * κ + j)) → Rl I' A' N' V' sp sr (up1 (up1 J 0 (nI 0)) 24 (nI 0)) (up1 B 2 f') (up1 M 7 g') := by
    intro κ hκ H m I' A' N' V' f' g' d1 d2 d3 d4 a1 a2 a3 a4 a5 a6 a7 a8 b1 b2
    have hsp := Sn_lt (s := 0) hC1
    have h96 := d2.1.2.2.1
    obtain ⟨q, q1, q2, q3⟩ := Sn_n a3
    refine ⟨H, m, ⟨?_, ?_, ?_, ?_⟩, ⟨p, 0, RPx_0 h2.1.1 ?_ ?_ up1_s⟩, ?_, RQ_c hQ ?_ (by rw [a5 0 (by omega) (by omega) (by omega)]) (by rw [a5 0 (by omega) (by omega) (by omega)]) (a5 95 (by omega) (by omega) (by omega)) (a5 106 (by omega) (by omega) (by omega)) (fun k _ => by rw [a5 101 (by omega) (by omega) (by omega)]) (a6 98 (by omega) (by omega) (by omega)) (a6 107 (by omega) (by omega) (by omega)) ⟨?_, ?_, ?_, ?_, ?_⟩ ⟨up1_n (by decide), up1_n (by decide), up1_n (by decide)⟩, RI_c hRI (fun q _ => a5 q (by omega) (by omega) (by omega)) (fun q _ => a6 q (by omega) (by omega) (by omega)) (fun q _ => a7 q (by omega)) (fun q _ => a8 q (by omega)) (up1_n (by decide)) (up1_n (by decide)) (up1_n (by decide)), ?_, hC1, ?_⟩
    · rw [up1_s]; exact Sh_c (a1 _ _ _ d1) (fun i hi => b1 i (by omega)) rfl (fun _ _ _ => rfl)
    · rw [up1_s]; exact Vd_c d2 (fun i hi => b1 i (by omega))
    · rw [up1_s]; exact Yr_c d3 (b1 70 (by decide))
    · rw [up1_s]
      intro h hh
      rw [a2 h (by omega), b2 h (by omega)]
      exact d4 h hh
    · rw [a4, up1_n (by decide)]; exact h2.1.2.2.1
    · rw [a4, up1_s]
    · unfold RT at hT ⊢
      rw [a5 1 (by omega) (by omega) (by omega), a6 2 (by omega) (by omega) (by omega), up1_n (by decide), up1_n (by decide), up1_n (by decide)]; exact hT
    · rw [a5 0 (by omega) (by omega) (by omega), up1_n (by decide), up1_n (by decide)]; exact hQ.1.1
    · rw [up1_n (by decide), up1_n (by decide)]
    · rw [up1_n (by decide), up1_n (by decide)]
    · rw [up1_n (by decide), up1_n (by decide)]
    · rw [up1_n (by decide), up1_n (by decide)]
    · rw [up1_n (by decide), up1_n (by decide)]
    · obtain ⟨v22, v1, v2, v3, v4⟩ := hRV
      exact ⟨fun j hj => by rw [a8 22 (by omega)]; exact v22 j hj, by rw [a8 116 (by omega)]; exact v1, by rw [a8 116 (by omega)]; exact v2, by rw [a8 117 (by omega)]; exact v3, by rw [a8 117 (by omega)]; exact v4⟩
    · rw [up1_s]
      exact Sn_e a3 q1 q2 (fun i _ hi => b1 i hi) q2 (fun _ _ => ⟨rfl, rfl, rfl⟩)
  rcases hk with rfl | rfl
  · obtain ⟨bo, c1, c2, c3⟩ := hRI 0 (by decide)
    cases bo with
    | false =>
      rw [xb_f] at c1 c2
      refine ⟨x_b false, I, A, N, V, lt, tw, sp, sr, [], sl, up1 J 0 (nI 0), w, B, M, ?_, c280_no (d + 1) sl2 J w B M (by decide) c2, Rl_0 hR0 _, Nat.le_refl _, by omega, by simp⟩
      rw [e159, k159_0]
      simp (disch := omega) only [rt_c, b_some, List.cons_append, List.nil_append, Bool.cond_not, cond_true, cond_false, Bool.cond_decide, nI_add, nI_clamp, xin_n, dle_e, dlt_e, deq_e, xb_0, xb_1, decide_true, decide_false, Bool.not_true, Bool.not_false, Bool.and_true, Bool.true_and, Bool.and_false, Bool.false_and, Bool.true_or, Bool.false_or, Bool.or_true, Bool.or_false, if_true, if_false, up1_s, n_31, Int32.lt_irrefl, c1, Nat.not_lt_zero, Nat.reduceLT, Nat.reduceLeDiff, t159_19, t159_19_0, t159_19_1, t159_54, t159_54_0, t159_54_1]
    | true =>
      rw [xb_t] at c1 c2
      obtain ⟨H9, m9, d1, d2, d3, d4, d5⟩ := c3 rfl
      obtain ⟨f', g', u1, u2, u3⟩ := c280 (d + 1) sl2 J w B M (k := 0) (by decide) c2
      rcases hC1 with ⟨rfl, rfl⟩ | ⟨rfl, rfl⟩
      · obtain ⟨I', A', N', V', x1, x2, x3, x4, x5, x6, x7, x8, x9⟩ := q159_0_108 d sl I A N V lt tw hRV c1 d5
        exact ⟨x_b true, I', A', N', V', lt, tw, 108, 112, [], sl, _, w, _, _, x1, u1, fin 0 (by decide) H9 m9 I' A' N' V' f' g' d1 d2 d3 d4 x2 x3 x4 x5 x6 x7 x8 x9 u2 u3, Nat.le_refl _, by omega, by simp⟩
      · obtain ⟨I', A', N', V', x1, x2, x3, x4, x5, x6, x7, x8, x9⟩ := q159_0_112 d sl I A N V lt tw hRV c1 d5
        exact ⟨x_b true, I', A', N', V', lt, tw, 112, 108, [], sl, _, w, _, _, x1, u1, fin 0 (by decide) H9 m9 I' A' N' V' f' g' d1 d2 d3 d4 x2 x3 x4 x5 x6 x7 x8 x9 u2 u3, Nat.le_refl _, by omega, by simp⟩
  · obtain ⟨bo, c1, c2, c3⟩ := hRI 1 (by decide)
    cases bo with
    | false =>
      rw [xb_f] at c1 c2
      refine ⟨x_b false, I, A, N, V, lt, tw, sp, sr, [], sl, up1 J 0 (nI 0), w, B, M, ?_, c280_no (d + 1) sl2 J w B M (by decide) c2, Rl_0 hR0 _, Nat.le_refl _, by omega, by simp⟩
      rw [e159, k159_0]
      simp (disch := omega) only [rt_c, b_some, List.cons_append, List.nil_append, Bool.cond_not, cond_true, cond_false, Bool.cond_decide, nI_add, nI_clamp, xin_n, dle_e, dlt_e, deq_e, xb_0, xb_1, decide_true, decide_false, Bool.not_true, Bool.not_false, Bool.and_true, Bool.true_and, Bool.and_false, Bool.false_and, Bool.true_or, Bool.false_or, Bool.or_true, Bool.or_false, if_true, if_false, up1_s, n_31, Int32.lt_irrefl, c1, Nat.not_lt_zero, Nat.reduceLT, Nat.reduceLeDiff, t159_19, t159_19_0, t159_19_1, t159_54, t159_54_0, t159_54_1]
    | true =>
      rw [xb_t] at c1 c2
      obtain ⟨H9, m9, d1, d2, d3, d4, d5⟩ := c3 rfl
      obtain ⟨f', g', u1, u2, u3⟩ := c280 (d + 1) sl2 J w B M (k := 1) (by decide) c2
      rcases hC1 with ⟨rfl, rfl⟩ | ⟨rfl, rfl⟩
      · obtain ⟨I', A', N', V', x1, x2, x3, x4, x5, x6, x7, x8, x9⟩ := q159_1_108 d sl I A N V lt tw hRV c1 d5
        exact ⟨x_b true, I', A', N', V', lt, tw, 108, 112, [], sl, _, w, _, _, x1, u1, fin 1 (by decide) H9 m9 I' A' N' V' f' g' d1 d2 d3 d4 x2 x3 x4 x5 x6 x7 x8 x9 u2 u3, Nat.le_refl _, by omega, by simp⟩
      · obtain ⟨I', A', N', V', x1, x2, x3, x4, x5, x6, x7, x8, x9⟩ := q159_1_112 d sl I A N V lt tw hRV c1 d5
        exact ⟨x_b true, I', A', N', V', lt, tw, 112, 108, [], sl, _, w, _, _, x1, u1, fin 1 (by decide) H9 m9 I' A' N' V' f' g' d1 d2 d3 d4 x2 x3 x4 x5 x6 x7 x8 x9 u2 u3, Nat.le_refl _, by omega, by simp⟩
