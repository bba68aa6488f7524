/-! IMAGES: both sides -/
section IMC
variable (d sl : Nat) (I : Nat → Nat → Int32) (A : Nat → Nat → Int32) (N : Nat → Nat → Int64) (V : Nat → Nat → Option Nat) (lt : Int64) (tw : Option Nat) (sp sr : Nat) (X : List AC)
theorem q158_0_108 (hV : RV V) {n : Nat → Int32} (h : Sn I A V 108 n) : ∃ I' A' N' V', C (d + 2) 158 [.ref 0, .int (nI 0)] sl (CH I A N V lt tw 108 112 []) = some ([.int (x_b true)], sl, CH I' A' N' V' lt tw 108 112 []) ∧ (∀ n H m, Sh I A 3 n H m → Sh I' A' 120 n H m) ∧ (∀ h, h < 6 → N' 121 h = N 4 h) ∧ Sn I' A' V' 129 n ∧ A' 118 = upd (A 118) 0 (nI 1) ∧ (∀ q, q ≠ 120 → q ≠ 129 → I' q = I q) ∧ (∀ q, q ≠ 118 → (q < 122 ∨ 132 < q) → A' q = A q) ∧ (∀ q, q ≠ 121 → N' q = N q) ∧ (∀ q, q ≠ 130 → V' q = V q) := by
  obtain ⟨v22, v1, v2, v3, v4⟩ := hV
  obtain ⟨I1, A1, N1, x1, x2, x3, x4, x5, x6⟩ := q44_120_3 (d + 1) sl I A N V lt tw 108 112 []
  have h1 : Sn I1 A1 V 108 n := Sn_c h (fun _ _ => rfl) (by rw [x4 108 (by decide)]) rfl (x5 _ (by omega)) (x5 _ (by omega))
  obtain ⟨I2, A2, V2, y1, y2, y3, y4, y5⟩ := q32c_129_108 d sl I1 A1 N1 V lt tw 108 112 [] rfl h1
  refine ⟨I2, up1 A2 118 (upd (A2 118) 0 (nI 1)), N1, V2, ?_, fun n H m hS => Sh_c (x2 n H m hS) (fun _ _ => rfl) (y3 _ (by decide)) (fun q _ _ => by rw [up1_n (by omega), y4 q (by omega) (by omega)]), x3, Sn_c y2 (fun _ _ => rfl) rfl rfl (up1_n (by decide)) (up1_n (by decide)), ?_, fun q q1 q2 => by rw [y3 q q2, x4 q q1], fun q q1 q2 => by rw [up1_n q1, y4 q (by omega) (by omega), x5 q (by omega)], x6, y5⟩
  · rw [e158, k158_0]
    have w1 : x_rf (V 116 0) = .ref 120 := by rw [v1]; rfl
    have w2 : x_rf (V 117 0) = .ref 129 := by rw [v3]; rfl
    simp (disch := omega) only [rt_c, b_some, List.cons_append, List.nil_append, Bool.cond_not, cond_true, cond_false, Bool.cond_decide, nI_add, nI_clamp, xin_n, dle_e, dlt_e, deq_e, xb_0, xb_1, decide_true, decide_false, Bool.not_true, Bool.not_false, Bool.and_true, Bool.true_and, Bool.and_false, Bool.false_and, Bool.true_or, Bool.false_or, Bool.or_true, Bool.or_false, if_true, if_false, up1_s, n_31, Int32.lt_irrefl, w1, k158_17, x1, k158_24, w2, k158_30, y1, k158_37, nar1, Nat.not_lt_zero, Nat.reduceLT, t158_10, t158_10_0, t158_10_1, t158_45, t158_45_0, t158_45_1]
  · rw [up1_s, y4 118 (by decide) (by decide), x5 118 (by omega)]
theorem q158_1_108 (hV : RV V) {n : Nat → Int32} (h : Sn I A V 108 n) : ∃ I' A' N' V', C (d + 2) 158 [.ref 0, .int (nI 1)] sl (CH I A N V lt tw 108 112 []) = some ([.int (x_b true)], sl, CH I' A' N' V' lt tw 108 112 []) ∧ (∀ n H m, Sh I A 3 n H m → Sh I' A' 133 n H m) ∧ (∀ h, h < 6 → N' 134 h = N 4 h) ∧ Sn I' A' V' 142 n ∧ A' 118 = upd (A 118) 1 (nI 1) ∧ (∀ q, q ≠ 133 → q ≠ 142 → I' q = I q) ∧ (∀ q, q ≠ 118 → (q < 135 ∨ 145 < q) → A' q = A q) ∧ (∀ q, q ≠ 134 → N' q = N q) ∧ (∀ q, q ≠ 143 → V' q = V q) := by
  obtain ⟨v22, v1, v2, v3, v4⟩ := hV
  obtain ⟨I1, A1, N1, x1, x2, x3, x4, x5, x6⟩ := q44_133_3 (d + 1) sl I A N V lt tw 108 112 []
  have h1 : Sn I1 A1 V 108 n := Sn_c h (fun _ _ => rfl) (by rw [x4 108 (by decide)]) rfl (x5 _ (by omega)) (x5 _ (by omega))
  obtain ⟨I2, A2, V2, y1, y2, y3, y4, y5⟩ := q32c_142_108 d sl I1 A1 N1 V lt tw 108 112 [] rfl h1
  refine ⟨I2, up1 A2 118 (upd (A2 118) 1 (nI 1)), N1, V2, ?_, fun n H m hS => Sh_c (x2 n H m hS) (fun _ _ => rfl) (y3 _ (by decide)) (fun q _ _ => by rw [up1_n (by omega), y4 q (by omega) (by omega)]), x3, Sn_c y2 (fun _ _ => rfl) rfl rfl (up1_n (by decide)) (up1_n (by decide)), ?_, fun q q1 q2 => by rw [y3 q q2, x4 q q1], fun q q1 q2 => by rw [up1_n q1, y4 q (by omega) (by omega), x5 q (by omega)], x6, y5⟩
  · rw [e158, k158_0]
    have w1 : x_rf (V 116 1) = .ref 133 := by rw [v2]; rfl
    have w2 : x_rf (V 117 1) = .ref 142 := by rw [v4]; rfl
    simp (disch := omega) only [rt_c, b_some, List.cons_append, List.nil_append, Bool.cond_not, cond_true, cond_false, Bool.cond_decide, nI_add, nI_clamp, xin_n, dle_e, dlt_e, deq_e, xb_0, xb_1, decide_true, decide_false, Bool.not_true, Bool.not_false, Bool.and_true, Bool.true_and, Bool.and_false, Bool.false_and, Bool.true_or, Bool.false_or, Bool.or_true, Bool.or_false, if_true, if_false, up1_s, n_31, Int32.lt_irrefl, w1, k158_17_1, x1, k158_24, w2, k158_30_2, y1, k158_37, nar1, Nat.not_lt_zero, Nat.reduceLT, t158_10, t158_10_0, t158_10_1, t158_45, t158_45_0, t158_45_1]
  · rw [up1_s, y4 118 (by decide) (by decide), x5 118 (by omega)]
theorem q158_0_112 (hV : RV V) {n : Nat → Int32} (h : Sn I A V 112 n) : ∃ I' A' N' V', C (d + 2) 158 [.ref 0, .int (nI 0)] sl (CH I A N V lt tw 112 108 []) = some ([.int (x_b true)], sl, CH I' A' N' V' lt tw 112 108 []) ∧ (∀ n H m, Sh I A 3 n H m → Sh I' A' 120 n H m) ∧ (∀ h, h < 6 → N' 121 h = N 4 h) ∧ Sn I' A' V' 129 n ∧ A' 118 = upd (A 118) 0 (nI 1) ∧ (∀ q, q ≠ 120 → q ≠ 129 → I' q = I q) ∧ (∀ q, q ≠ 118 → (q < 122 ∨ 132 < q) → A' q = A q) ∧ (∀ q, q ≠ 121 → N' q = N q) ∧ (∀ q, q ≠ 130 → V' q = V q) := by
  obtain ⟨v22, v1, v2, v3, v4⟩ := hV
  obtain ⟨I1, A1, N1, x1, x2, x3, x4, x5, x6⟩ := q44_120_3 (d + 1) sl I A N V lt tw 112 108 []
  have h1 : Sn I1 A1 V 112 n := Sn_c h (fun _ _ => rfl) (by rw [x4 112 (by decide)]) rfl (x5 _ (by omega)) (x5 _ (by omega))
  obtain ⟨I2, A2, V2, y1, y2, y3, y4, y5⟩ := q32c_129_112 d sl I1 A1 N1 V lt tw 112 108 [] rfl h1
  refine ⟨I2, up1 A2 118 (upd (A2 118) 0 (nI 1)), N1, V2, ?_, fun n H m hS => Sh_c (x2 n H m hS) (fun _ _ => rfl) (y3 _ (by decide)) (fun q _ _ => by rw [up1_n (by omega), y4 q (by omega) (by omega)]), x3, Sn_c y2 (fun _ _ => rfl) rfl rfl (up1_n (by decide)) (up1_n (by decide)), ?_, fun q q1 q2 => by rw [y3 q q2, x4 q q1], fun q q1 q2 => by rw [up1_n q1, y4 q (by omega) (by omega), x5 q (by omega)], x6, y5⟩
  · rw [e158, k158_0]
    have w1 : x_rf (V 116 0) = .ref 120 := by rw [v1]; rfl
    have w2 : x_rf (V 117 0) = .ref 129 := by rw [v3]; rfl
    simp (disch := omega) only [rt_c, b_some, List.cons_append, List.nil_append, Bool.cond_not, cond_true, cond_false, Bool.cond_decide, nI_add, nI_clamp, xin_n, dle_e, dlt_e, deq_e, xb_0, xb_1, decide_true, decide_false, Bool.not_true, Bool.not_false, Bool.and_true, Bool.true_and, Bool.and_false, Bool.false_and, Bool.true_or, Bool.false_or, Bool.or_true, Bool.or_false, if_true, if_false, up1_s, n_31, Int32.lt_irrefl, w1, k158_17, x1, k158_24, w2, k158_30_1, y1, k158_37_1, nar1, Nat.not_lt_zero, Nat.reduceLT, t158_10, t158_10_0, t158_10_1, t158_45, t158_45_0, t158_45_1]
  · rw [up1_s, y4 118 (by decide) (by decide), x5 118 (by omega)]
theorem q158_1_112 (hV : RV V) {n : Nat → Int32} (h : Sn I A V 112 n) : ∃ I' A' N' V', C (d + 2) 158 [.ref 0, .int (nI 1)] sl (CH I A N V lt tw 112 108 []) = some ([.int (x_b true)], sl, CH I' A' N' V' lt tw 112 108 []) ∧ (∀ n H m, Sh I A 3 n H m → Sh I' A' 133 n H m) ∧ (∀ h, h < 6 → N' 134 h = N 4 h) ∧ Sn I' A' V' 142 n ∧ A' 118 = upd (A 118) 1 (nI 1) ∧ (∀ q, q ≠ 133 → q ≠ 142 → I' q = I q) ∧ (∀ q, q ≠ 118 → (q < 135 ∨ 145 < q) → A' q = A q) ∧ (∀ q, q ≠ 134 → N' q = N q) ∧ (∀ q, q ≠ 143 → V' q = V q) := by
  obtain ⟨v22, v1, v2, v3, v4⟩ := hV
  obtain ⟨I1, A1, N1, x1, x2, x3, x4, x5, x6⟩ := q44_133_3 (d + 1) sl I A N V lt tw 112 108 []
  have h1 : Sn I1 A1 V 112 n := Sn_c h (fun _ _ => rfl) (by rw [x4 112 (by decide)]) rfl (x5 _ (by omega)) (x5 _ (by omega))
  obtain ⟨I2, A2, V2, y1, y2, y3, y4, y5⟩ := q32c_142_112 d sl I1 A1 N1 V lt tw 112 108 [] rfl h1
  refine ⟨I2, up1 A2 118 (upd (A2 118) 1 (nI 1)), N1, V2, ?_, fun n H m hS => Sh_c (x2 n H m hS) (fun _ _ => rfl) (y3 _ (by decide)) (fun q _ _ => by rw [up1_n (by omega), y4 q (by omega) (by omega)]), x3, Sn_c y2 (fun _ _ => rfl) rfl rfl (up1_n (by decide)) (up1_n (by decide)), ?_, fun q q1 q2 => by rw [y3 q q2, x4 q q1], fun q q1 q2 => by rw [up1_n q1, y4 q (by omega) (by omega), x5 q (by omega)], x6, y5⟩
  · rw [e158, k158_0]
    have w1 : x_rf (V 116 1) = .ref 133 := by rw [v2]; rfl
    have w2 : x_rf (V 117 1) = .ref 142 := by rw [v4]; rfl
    simp (disch := omega) only [rt_c, b_some, List.cons_append, List.nil_append, Bool.cond_not, cond_true, cond_false, Bool.cond_decide, nI_add, nI_clamp, xin_n, dle_e, dlt_e, deq_e, xb_0, xb_1, decide_true, decide_false, Bool.not_true, Bool.not_false, Bool.and_true, Bool.true_and, Bool.and_false, Bool.false_and, Bool.true_or, Bool.false_or, Bool.or_true, Bool.or_false, if_true, if_false, up1_s, n_31, Int32.lt_irrefl, w1, k158_17_1, x1, k158_24, w2, k158_30_3, y1, k158_37_1, nar1, Nat.not_lt_zero, Nat.reduceLT, t158_10, t158_10_0, t158_10_1, t158_45, t158_45_0, t158_45_1]
  · rw [up1_s, y4 118 (by decide) (by decide), x5 118 (by omega)]
end IMC
theorem ok_image (d : Nat) (k : Int32) : Ok (d + 2) 158 279 [.ref 0, .int k] := by
  intro sl sl2 I A N V lt tw sp sr J w B M hR
  have hR0 := hR
  by_cases hk : k = nI 0 ∨ k = nI 1
  rotate_left
  · have k0 : ¬ k = nI 0 := fun h => hk (Or.inl h)
    have k1 : ¬ k = nI 1 := fun h => hk (Or.inr h)
    have hin := in01 k0 k1
    refine ⟨x_b false, I, A, N, V, lt, tw, sp, sr, [], sl, up1 J 0 (nI 0), w, B, M, ?_, ?_, Rl_0 hR0 _, Nat.le_refl _, by omega, by simp⟩
    · rw [e158, k158_0]
      by_cases h0 : k < nI 0
      · simp (disch := omega) only [rt_c, b_some, List.cons_append, List.nil_append, Bool.cond_not, cond_true, cond_false, Bool.cond_decide, nI_add, nI_clamp, xin_n, dle_e, dlt_e, deq_e, xb_0, xb_1, decide_true, decide_false, Bool.not_true, Bool.not_false, Bool.and_true, Bool.true_and, Bool.and_false, Bool.false_and, Bool.true_or, Bool.false_or, Bool.or_true, Bool.or_false, if_true, if_false, up1_s, n_31, Int32.lt_irrefl, h0, t158_10, t158_10_0, t158_10_1, t158_45, t158_45_0, t158_45_1]
      · have h2 : ¬ k < nI 2 := by
          intro h2
          obtain ⟨j, j1, j2⟩ := xin_ge h0 (by decide) h2
          rcases (show j = 0 ∨ j = 1 by omega) with rfl | rfl
          · exact k0 j2
          · exact k1 j2
        simp (disch := omega) only [rt_c, b_some, List.cons_append, List.nil_append, Bool.cond_not, cond_true, cond_false, Bool.cond_decide, nI_add, nI_clamp, xin_n, dle_e, dlt_e, deq_e, xb_0, xb_1, decide_true, decide_false, Bool.not_true, Bool.not_false, Bool.and_true, Bool.true_and, Bool.and_false, Bool.false_and, Bool.true_or, Bool.false_or, Bool.or_true, Bool.or_false, if_true, if_false, up1_s, n_31, Int32.lt_irrefl, h0, h2, t158_10, t158_10_0, t158_10_1, t158_45, t158_45_0, t158_45_1]
    · rw [e279, m279_0, c166, hin]
      simp (disch := omega) only [rt_c, b_some, List.cons_append, List.nil_append, Bool.cond_not, cond_true, cond_false, Bool.cond_decide, nI_add, nI_clamp, xin_n, dle_e, dlt_e, deq_e, xb_0, xb_1, decide_true, decide_false, Bool.not_true, Bool.not_false, Bool.and_true, Bool.true_and, Bool.and_false, Bool.false_and, Bool.true_or, Bool.false_or, Bool.or_true, Bool.or_false, if_true, if_false, up1_s, n_31, Int32.lt_irrefl, m279_11, xb_f, t279_15, t279_15_0, t279_15_1, t279_88, t279_88_0, t279_88_1]
  obtain ⟨H, m, h1, ⟨p, z, h2⟩, hT, hQ, hRI, hRV, hC1, hC2⟩ := hR
  obtain ⟨s1, s2, s3, s4⟩ := h1
  have hH6 := s2.1.2.2.1
  have fin : ∀ (κ : Nat) (hκ : κ < 2) (I' A' : Nat → Nat → Int32) (N' : Nat → Nat → Int64) (V' : Nat → Nat → Option Nat) (f' : Nat → Int32) (g' : Nat → Int64), (∀ n H m, Sh I A 3 n H m → Sh I' A' (120 + 13 * κ) n H m) → (∀ h, h < 6 → N' (121 + 13 * κ) h = N 4 h) → Sn I' A' V' (129 + 13 * κ) (B 2) → A' 118 = upd (A 118) κ (nI 1) → (∀ q, q ≠ 120 + 13 * κ → q ≠ 129 + 13 * κ → I' q = I q) → (∀ q, q ≠ 118 → (q < 122 + 13 * κ ∨ 132 + 13 * κ < q) → A' q = A q) → (∀ q, q ≠ 121 + 13 * κ → N' q = N q) → (∀ q, q ≠ 130 + 13 * κ → V' q = V q) → (∀ j, j < 369 → f' (369 * κ + j) = B 2 j) → (∀ j, (j < 369 * κ ∨ 369 * κ + 369 ≤ j) → f' j = B 4 j) → (∀ j, j < 6 → g' (6 * κ + j) = M 7 j) → (∀ j, (j < 6 * κ ∨ 6 * κ + 6 ≤ j) → g' j = M 9 j) → Rl I' A' N' V' sp sr (up1 J 0 (nI 0)) (up1 (up1 B 4 f') 10 (upd (B 10) κ (nI 1))) (up1 M 9 g') := by
    intro κ hκ I' A' N' V' f' g' a1 a2 a3 a4 a5 a6 a7 a8 b1 b2 b3 b4
    have hsp := Sn_lt (s := 0) hC1
    have e2 : (up1 (up1 B 4 f') 10 (upd (B 10) κ (nI 1))) 2 = B 2 := by rw [up1_n (by decide), up1_n (by decide)]
    refine ⟨H, m, ⟨?_, by rw [e2]; exact s2, by rw [e2]; exact s3, ?_⟩, ⟨p, z, RPx_c h2 (fun q _ _ => a5 q (by omega) (by omega)) (fun q _ _ => a6 q (by omega) (by omega)) (fun q _ _ => a7 q (by omega)) (up1_n (by decide)) (up1_n (by decide)) (by rw [up1_n (by decide), up1_n (by decide)]) (fun _ _ => by rw [e2])⟩, ?_, RQ_c hQ ?_ (by rw [a5 0 (by omega) (by omega)]) (by rw [a5 0 (by omega) (by omega)]) (a5 95 (by omega) (by omega)) (a5 106 (by omega) (by omega)) (fun k _ => by rw [a5 101 (by omega) (by omega)]) (a6 98 (by decide) (by omega)) (a6 107 (by decide) (by omega)) ⟨up1_n (by decide), up1_n (by decide), up1_n (by decide), up1_n (by decide), up1_n (by decide)⟩ ⟨by rw [up1_n (by decide), up1_n (by decide)], by rw [up1_n (by decide), up1_n (by decide)], by rw [up1_n (by decide), up1_n (by decide)]⟩, ?_, ?_, hC1, ?_⟩
    · rw [e2]; exact Sh_c s1 (fun _ _ => rfl) (a5 3 (by omega) (by omega)) (fun q _ _ => a6 q (by omega) (by omega))
    · rw [a7 4 (by omega), up1_n (by decide)]; exact s4
    · unfold RT at hT ⊢
      rw [a5 1 (by omega) (by omega), a6 2 (by decide) (by omega), up1_n (by decide), up1_n (by decide), up1_n (by decide)]; exact hT
    · rw [a5 0 (by omega) (by omega), up1_n (by decide)]; exact hQ.1.1
    · intro j hj
      have eB4 : (up1 (up1 B 4 f') 10 (upd (B 10) κ (nI 1))) 4 = f' := by rw [up1_n (by decide), up1_s]
      have eB10 : (up1 (up1 B 4 f') 10 (upd (B 10) κ (nI 1))) 10 = upd (B 10) κ (nI 1) := up1_s
      have eM : (up1 M 9 g') 9 = g' := up1_s
      rw [a4, eB10, eB4, eM]
      by_cases hjk : j = κ
      · subst hjk
        obtain ⟨q, q1, q2, q3⟩ := Sn_n a3
        refine ⟨true, by rw [upd_s, xb_t], by rw [upd_s, xb_t], fun _ => ⟨H, m, Sh_c (a1 _ _ _ s1) (fun i hi => b1 i (by omega)) rfl (fun _ _ _ => rfl), Vd_c s2 (fun i hi => b1 i (by omega)), Yr_c s3 (b1 70 (by decide)), fun h hh => ?_, Sn_e a3 q1 q2 (fun i _ hi => b1 i hi) q2 (fun _ _ => ⟨rfl, rfl, rfl⟩)⟩⟩
        show Nw (N' (121 + 13 * j) h) (g' (6 * j + h))
        rw [a2 h (by omega), b3 h (by omega)]
        exact s4 h hh
      · obtain ⟨b, c1, c2, c3⟩ := hRI j hj
        refine ⟨b, by rw [upd_n hjk]; exact c1, by rw [upd_n hjk]; exact c2, fun hb => ?_⟩
        obtain ⟨H9, m9, d1, d2, d3, d4, d5⟩ := c3 hb
        obtain ⟨q, q1, q2, q3⟩ := Sn_n d5
        have fe : ∀ i, i < 369 → f' (369 * j + i) = B 4 (369 * j + i) := fun i hi => b2 _ (by omega)
        refine ⟨H9, m9, Sh_c d1 (fun i hi => fe i (by omega)) (a5 _ (by omega) (by omega)) (fun q _ _ => a6 q (by omega) (by omega)), Vd_c d2 (fun i hi => fe i (by omega)), Yr_c d3 (fe 70 (by decide)), fun h hh => ?_, Sn_e d5 q1 q2 (fun i _ hi => fe i hi) (by rw [a5 _ (by omega) (by omega)]; exact q2) (fun i _ => ⟨by rw [a8 _ (by omega)], by rw [a6 _ (by omega) (by omega)], by rw [a6 _ (by omega) (by omega)]⟩)⟩
        have h96 := d2.1.2.2.1
        show Nw (N' (121 + 13 * j) h) (g' (6 * j + h))
        rw [a7 _ (by omega), b4 _ (by omega)]
        exact d4 h hh
    · obtain ⟨v22, v1, v2, v3, v4⟩ := hRV
      exact ⟨fun j hj => by rw [a8 22 (by omega)]; exact v22 j hj, by rw [a8 116 (by omega)]; exact v1, by rw [a8 116 (by omega)]; exact v2, by rw [a8 117 (by omega)]; exact v3, by rw [a8 117 (by omega)]; exact v4⟩
    · rw [e2]
      exact Sn_c hC2 (fun _ _ => rfl) (by rw [a5 sp (by omega) (by omega)]) (a8 _ (by omega)) (a6 _ (by omega) (by omega)) (a6 _ (by omega) (by omega))
  rcases hk with rfl | rfl
  · obtain ⟨f', g', u1, u2, u3, u4, u5⟩ := c279 (d + 1) sl2 J w B M (k := 0) (by decide)
    rcases hC1 with ⟨rfl, rfl⟩ | ⟨rfl, rfl⟩
    · obtain ⟨I', A', N', V', x1, x2, x3, x4, x5, x6, x7, x8, x9⟩ := q158_0_108 d sl I A N V lt tw hRV hC2
      exact ⟨x_b true, I', A', N', V', lt, tw, 108, 112, [], sl, _, w, _, _, x1, u1, fin 0 (by decide) I' A' N' V' f' g' x2 x3 x4 x5 x6 x7 x8 x9 u2 u3 u4 u5, Nat.le_refl _, by omega, by simp⟩
    · obtain ⟨I', A', N', V', x1, x2, x3, x4, x5, x6, x7, x8, x9⟩ := q158_0_112 d sl I A N V lt tw hRV hC2
      exact ⟨x_b true, I', A', N', V', lt, tw, 112, 108, [], sl, _, w, _, _, x1, u1, fin 0 (by decide) I' A' N' V' f' g' x2 x3 x4 x5 x6 x7 x8 x9 u2 u3 u4 u5, Nat.le_refl _, by omega, by simp⟩
  · obtain ⟨f', g', u1, u2, u3, u4, u5⟩ := c279 (d + 1) sl2 J w B M (k := 1) (by decide)
    rcases hC1 with ⟨rfl, rfl⟩ | ⟨rfl, rfl⟩
    · obtain ⟨I', A', N', V', x1, x2, x3, x4, x5, x6, x7, x8, x9⟩ := q158_1_108 d sl I A N V lt tw hRV hC2
      exact ⟨x_b true, I', A', N', V', lt, tw, 108, 112, [], sl, _, w, _, _, x1, u1, fin 1 (by decide) I' A' N' V' f' g' x2 x3 x4 x5 x6 x7 x8 x9 u2 u3 u4 u5, Nat.le_refl _, by omega, by simp⟩
    · obtain ⟨I', A', N', V', x1, x2, x3, x4, x5, x6, x7, x8, x9⟩ := q158_1_112 d sl I A N V lt tw hRV hC2
      exact ⟨x_b true, I', A', N', V', lt, tw, 112, 108, [], sl, _, w, _, _, x1, u1, fin 1 (by decide) I' A' N' V' f' g' x2 x3 x4 x5 x6 x7 x8 x9 u2 u3 u4 u5, Nat.le_refl _, by omega, by simp⟩
