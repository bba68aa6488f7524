/-! BOOK: both sides -/
theorem Rl_book {I A : Nat → Nat → Int32} {N : Nat → Nat → Int64} {V : Nat → Nat → Option Nat} {sp sr : Nat} {J : Nat → Int32} {B : Nat → Nat → Int32} {M : Nat → Nat → Int64} {H m p z : Nat} (h1 : RS I A N B M H m) (h2 : RPx p z I A N J B M H) (h3 : RZ I A N V sp sr J B M) {I' A' : Nat → Nat → Int32} {N' : Nat → Nat → Int64} {J' : Nat → Int32} {B' : Nat → Nat → Int32}
    (hI : ∀ q, 2 ≤ q → q ≠ 12 → q ≠ 101 → I' q = I q) (h0 : ∀ k, k ≠ 13 → I' 0 k = I 0 k) (h13 : I' 0 13 = J' 10) (h11 : I' 1 1 = nI 0) (hJ2 : J' 2 = nI 0) (hA : ∀ q, (q < 14 ∨ 20 < q) → (q < 102 ∨ 105 < q) → A' q = A q) (hN : ∀ q, q ≠ 13 → N' q = N q) (h24 : J' 24 = J 24) (hJ : J' 27 = J 27 ∧ J' 28 = J 28 ∧ J' 31 = J 31 ∧ J' 33 = J 33) (hT : ∃ b, I' 101 5 = x_b b ∧ J' 38 = x_b b ∧ (b = true → I' 101 6 = B' 17 0 ∧ I' 101 7 = B' 17 1 ∧ I' 101 8 = B' 17 2 ∧ I' 101 9 = B' 17 3)) (hB : ∀ q, q ≠ 3 → q ≠ 6 → q ≠ 16 → q ≠ 17 → B' q = B q) : RS I' A' N' B' M H m ∧ RPx p z I' A' N' J' B' M H ∧ RZ I' A' N' V sp sr J' B' M := by
  obtain ⟨s1, s2, s3, s4⟩ := h1
  obtain ⟨-, ⟨⟨q1, q2, q3⟩, qr, ql, qt⟩, hRI, hRV, hC1, hC2⟩ := h3
  have b2 := hB 2 (by decide) (by decide) (by decide) (by decide)
  have hsp := Sn_lt (s := 0) hC1
  obtain ⟨j27, j28, j31, j33⟩ := hJ
  refine ⟨⟨?_, by rw [b2]; exact s2, by rw [b2]; exact s3, by rw [hN 4 (by decide)]; exact s4⟩, RPx_c h2 (fun q _ _ => hI q (by omega) (by omega) (by omega)) (fun q _ _ => hA q (by omega) (by omega)) (fun q _ _ => hN q (by omega)) rfl h24 (hB 5 (by decide) (by decide) (by decide) (by decide)) (fun _ _ => by rw [b2]), ⟨0, by omega, h11, hJ2, fun k hk => by omega⟩, ⟨⟨h13, ?_, ?_⟩, ?_, ?_, hT⟩, RI_c hRI (fun q _ => hI q (by omega) (by omega) (by omega)) (fun q _ => hA q (by omega) (by omega)) (fun q _ => hN q (by omega)) (fun _ _ => rfl) (hB 4 (by decide) (by decide) (by decide) (by decide)) (hB 10 (by decide) (by decide) (by decide) (by decide)) rfl, hRV, hC1, ?_⟩
  · rw [b2]; exact Sh_c s1 (fun _ _ => rfl) (hI 3 (by decide) (by decide) (by decide)) (fun q _ _ => hA q (by omega) (by omega))
  · rw [h0 14 (by decide), j28]; exact q2
  · rw [h0 15 (by decide), j31]; exact q3
  · rw [hI 95 (by decide) (by decide) (by decide), j27, hA 98 (by decide) (by decide), hB 12 (by decide) (by decide) (by decide) (by decide)]; exact qr
  · rw [hI 106 (by decide) (by decide) (by decide), j33, hA 107 (by decide) (by decide), hB 15 (by decide) (by decide) (by decide) (by decide)]; exact ql
  · exact Sn_c hC2 (fun _ _ => by rw [b2]) (by rw [hI sp (by omega) (by omega) (by omega)]) rfl (hA _ (by omega) (by omega)) (hA _ (by omega) (by omega))
theorem Rl_N {I A : Nat → Nat → Int32} {N N' : Nat → Nat → Int64} {V : Nat → Nat → Option Nat} {sp sr : Nat} {J : Nat → Int32} {B : Nat → Nat → Int32} {M : Nat → Nat → Int64} (h : Rl I A N V sp sr J B M) (h4 : ∀ h, h < 6 → N' 4 h = N 4 h) (hN : ∀ q, q ≠ 4 → N' q = N q) : Rl I A N' V sp sr J B M := by
  obtain ⟨H, m, ⟨s1, s2, s3, s4⟩, ⟨p, z, h2⟩, h3⟩ := h
  exact ⟨H, m, ⟨s1, s2, s3, Nm_c s4 s2.1.2.2.1 h4⟩, ⟨p, z, RPx_c h2 (fun _ _ _ => rfl) (fun _ _ _ => rfl) (fun q _ _ => hN q (by omega)) rfl rfl rfl (fun _ _ => rfl)⟩, RZ_f h3 (fun _ _ => rfl) (fun _ _ => rfl) (fun q _ => hN q (by omega)) ⟨rfl, rfl, rfl, rfl, rfl, rfl, rfl⟩ ⟨rfl, rfl, rfl, rfl, rfl, rfl⟩ rfl (fun _ _ => rfl)⟩
section BKS
variable (d sl : Nat) (I : Nat → Int32) (w : Int64) (A : Nat → Nat → Int32) (N : Nat → Nat → Int64)
theorem c266_0 : ∃ f g, C (d + 1) 266 [.ref 0, .int (nI 0)] sl (RH I w A N) = some ([], sl, RH I w (up1 (up1 A 2 f) 6 g) N) ∧ (∀ k, k < 57 → f (70 + k) = A 6 k ∧ g k = A 2 (70 + k)) ∧ (∀ k, (k < 70 ∨ 127 ≤ k) → f k = A 2 k) := by
  obtain ⟨f, g, o, o0, x1, x2, x3⟩ := c266_loop d sl I w A N (nI 0) (A 2) (A 6) 57 0 (A 2) (A 6) none (Or.inl rfl) (by omega) (fun k hk => by omega) (fun _ _ => rfl) (fun _ _ => rfl)
  rw [up1_id, up1_id] at x1
  refine ⟨f, g, ?_, x2, x3⟩
  rw [e266, m266_0, x1]
  rcases o0 with rfl | ⟨v, rfl⟩
  · rw [m266_2]
    simp (disch := omega) only [rt_c, b_some, List.cons_append, List.nil_append, Bool.cond_not, cond_true, cond_false, Bool.cond_decide, nI_add, nI_clamp, xin_n, dle_e, dlt_e, deq_e, xb_0, xb_1, decide_true, decide_false, Bool.not_true, Bool.not_false, Bool.and_true, Bool.true_and, Bool.and_false, Bool.false_and, Bool.true_or, Bool.false_or, Bool.or_true, Bool.or_false, if_true, if_false, up1_s, n_31, Int32.lt_irrefl, Nat.le_refl, t266_50, t266_59]
  · rw [m266_2_1]
    simp (disch := omega) only [rt_c, b_some, List.cons_append, List.nil_append, Bool.cond_not, cond_true, cond_false, Bool.cond_decide, nI_add, nI_clamp, xin_n, dle_e, dlt_e, deq_e, xb_0, xb_1, decide_true, decide_false, Bool.not_true, Bool.not_false, Bool.and_true, Bool.true_and, Bool.and_false, Bool.false_and, Bool.true_or, Bool.false_or, Bool.or_true, Bool.or_false, if_true, if_false, up1_s, n_31, Int32.lt_irrefl, Nat.le_refl, t266_50, t266_59]
theorem c266_1 {s : Nat} (hs : s ≤ 8) (hI : I 24 = nI s) : ∃ f g B5, C (d + 1) 266 [.ref 0, .int (nI 1)] sl (RH I w A N) = some ([], sl, RH (up1 I 24 (nI (min 8 (s + 1)))) w (up1 (up1 (up1 (up1 A 2 f) 6 g) 5 B5) 2 (lay f g 0)) N) ∧ (∀ k, k < 57 → f (70 + k) = A 6 k ∧ g k = A 2 (70 + k)) ∧ (∀ k, (k < 70 ∨ 127 ≤ k) → f k = A 2 k) ∧ (∀ j k, j < min 8 (s + 1) - 1 → k < 57 → B5 (57 * j + k) = A 5 (57 * (j + (s + 1 - min 8 (s + 1))) + k)) ∧ (∀ k, k < 57 → B5 (57 * (min 8 (s + 1) - 1) + k) = f (70 + k)) := by
  obtain ⟨f, g, o, o0, x1, x2, x3⟩ := c266_loop d sl I w A N (nI 1) (A 2) (A 6) 57 0 (A 2) (A 6) none (Or.inl rfl) (by omega) (fun k hk => by omega) (fun _ _ => rfl) (fun _ _ => rfl)
  rw [up1_id, up1_id] at x1
  obtain ⟨B5, y1, y2, y3⟩ := c217 d sl I w (up1 (up1 A 2 f) 6 g) N hs hI
  rw [up1_n (show (5 : Nat) ≠ 6 by decide), up1_n (show (5 : Nat) ≠ 2 by decide)] at y2
  rw [up1_n (show (2 : Nat) ≠ 6 by decide), up1_s] at y3
  have y4 := c236 d sl (up1 I 24 (nI (min 8 (s + 1)))) w (up1 (up1 (up1 A 2 f) 6 g) 5 B5) N
  rw [up1_n (show (2 : Nat) ≠ 5 by decide), up1_n (show (2 : Nat) ≠ 6 by decide), up1_s, up1_n (show (6 : Nat) ≠ 5 by decide), up1_s] at y4
  refine ⟨f, g, B5, ?_, x2, x3, y2, y3⟩
  rw [e266, m266_0, x1]
  rcases o0 with rfl | ⟨v, rfl⟩
  · rw [m266_2]
    simp (disch := omega) only [rt_c, b_some, List.cons_append, List.nil_append, Bool.cond_not, cond_true, cond_false, Bool.cond_decide, nI_add, nI_clamp, xin_n, dle_e, dlt_e, deq_e, xb_0, xb_1, decide_true, decide_false, Bool.not_true, Bool.not_false, Bool.and_true, Bool.true_and, Bool.and_false, Bool.false_and, Bool.true_or, Bool.false_or, Bool.or_true, Bool.or_false, if_true, if_false, up1_s, n_31, Int32.lt_irrefl, Nat.le_refl, Nat.one_ne_zero, y1, m266_55, y4, m266_59, t266_50, t266_59]
  · rw [m266_2_1]
    simp (disch := omega) only [rt_c, b_some, List.cons_append, List.nil_append, Bool.cond_not, cond_true, cond_false, Bool.cond_decide, nI_add, nI_clamp, xin_n, dle_e, dlt_e, deq_e, xb_0, xb_1, decide_true, decide_false, Bool.not_true, Bool.not_false, Bool.and_true, Bool.true_and, Bool.and_false, Bool.false_and, Bool.true_or, Bool.false_or, Bool.or_true, Bool.or_false, if_true, if_false, up1_s, n_31, Int32.lt_irrefl, Nat.le_refl, Nat.one_ne_zero, y1, m266_55_1, y4, m266_59_1, t266_50, t266_59]
end BKS
theorem in01 {k : Int32} (h0 : ¬ k = nI 0) (h1 : ¬ k = nI 1) : (decide (nI 0 ≤ k) && decide (k ≤ nI 1)) = false := by
  cases hb : (decide (nI 0 ≤ k) && decide (k ≤ nI 1)) with
  | false => rfl
  | true =>
    rw [Bool.and_eq_true, decide_eq_true_eq, decide_eq_true_eq] at hb
    have a := Int32.le_iff_toInt_le.mp hb.1
    have b := Int32.le_iff_toInt_le.mp hb.2
    rw [nI_toInt (by decide)] at a b
    exfalso
    rcases (show k.toInt = 0 ∨ k.toInt = 1 by omega) with h | h
    · exact h0 (Int32.toInt_inj.mp (by rw [h, nI_toInt (by decide)]; rfl))
    · exact h1 (Int32.toInt_inj.mp (by rw [h, nI_toInt (by decide)]; rfl))
theorem ok_book (d : Nat) (k : Int32) : Ok (d + 7) 154 265 [.ref 0, .int k] := by
  intro sl sl2 I A N V lt tw sp sr J w B M hR
  have hR0 := hR
  by_cases hk : k = nI 0 ∨ k = nI 1
  rotate_left
  · have k0 : ¬ k = nI 0 := fun h => hk (Or.inl h)
    have k1 : ¬ k = nI 1 := fun h => hk (Or.inr h)
    refine ⟨-1000, I, A, N, V, lt, tw, sp, sr, [], sl, up1 J 0 (nI 0), w, B, M, ?_, ?_, Rl_0 hR0 _, Nat.le_refl _, by omega, by simp⟩
    · rw [e154, k154_0]
      simp (disch := omega) only [rt_c, b_some, List.cons_append, List.nil_append, Bool.cond_not, cond_true, cond_false, Bool.cond_decide, nI_add, nI_clamp, xin_n, dle_e, dlt_e, deq_e, xb_0, xb_1, decide_true, decide_false, Bool.not_true, Bool.not_false, Bool.and_true, Bool.true_and, Bool.and_false, Bool.false_and, Bool.true_or, Bool.false_or, Bool.or_true, Bool.or_false, if_true, if_false, up1_s, n_31, Int32.lt_irrefl, k0, k1, t154_12, t154_57, t154_138]
    · rw [e265, m265_0, c166, in01 k0 k1]
      simp (disch := omega) only [rt_c, b_some, List.cons_append, List.nil_append, Bool.cond_not, cond_true, cond_false, Bool.cond_decide, nI_add, nI_clamp, xin_n, dle_e, dlt_e, deq_e, xb_0, xb_1, decide_true, decide_false, Bool.not_true, Bool.not_false, Bool.and_true, Bool.true_and, Bool.and_false, Bool.false_and, Bool.true_or, Bool.false_or, Bool.or_true, Bool.or_false, if_true, if_false, up1_s, n_31, Int32.lt_irrefl, m265_11, xb_f, t265_17, t265_51, t265_176]
  obtain ⟨H, m, h1, ⟨p, z, h2⟩, h3⟩ := hR
  have hS := h1.1
  have hV := h1.2.1
  have hY := h1.2.2.1
  have hNm := h1.2.2.2
  obtain ⟨hH, hD, hH6, hm⟩ := hV.1
  obtain ⟨hp, hz, hP, hZ, hz2⟩ := h2.1
  have h22 := h3.2.2.2.1.1
  have hT : RT I A (up1 J 0 (nI 0)) B := by
    have := h3.1
    unfold RT at this ⊢
    rw [up1_n (by decide)]
    exact this
  have hin : (decide (nI 0 ≤ k) && decide (k ≤ nI 1)) = true := by rcases hk with rfl | rfl <;> decide
  obtain ⟨t, b, κ, v, s, I1, lt1, tw1, J1, w1, hB, x1, x2, x3, x4, x5, x6, x7, x8, x9⟩ := rd_begin (d + 4) (d + 4) sl sl2 I A N V lt tw sp sr [] (up1 J 0 (nI 0)) w B M (L := 400) (by decide) hT rfl
  have x3' : Tk t 400 0 κ v s ((up1 I1 101 (up1 (I1 101) 4 (nI 0))) 1) lt1 tw1 (up1 J1 37 (nI 0)) w1 := by
    rw [up1_n (by decide)]
    obtain ⟨p, q, a1, a2, a3, a4, a5, a6, a7, a8, a9, a10, a11, a12, a13, a14⟩ := x3
    refine ⟨p, q, a1, a2, a3, ?_, a5, ?_, a7, ?_, a9, ?_, a11, a12, a13, ?_⟩
    · rw [up1_n (by decide)]; exact a4
    · rw [up1_n (by decide)]; exact a6
    · rw [up1_n (by decide)]; exact a8
    · rw [up1_n (by decide)]; exact a10
    · rw [up1_n (show (7 : Nat) ≠ 37 by decide), up1_n (show (8 : Nat) ≠ 37 by decide), up1_n (show (9 : Nat) ≠ 37 by decide)]; exact a14
  have rc : C (d + 7) 265 [.ref 0, .int k] sl2 (RH J w B M) = rt 265 (R (d + 7) 265 (30, [some (.ref 0), some (.int k), none, none], [], sl2, RH (up1 J1 37 (nI 0)) w1 B M)) := by
    rw [e265, m265_0, c166, hin]
    simp (disch := omega) only [rt_c, b_some, List.cons_append, List.nil_append, Bool.cond_not, cond_true, cond_false, Bool.cond_decide, nI_add, nI_clamp, xin_n, dle_e, dlt_e, deq_e, xb_0, xb_1, decide_true, decide_false, Bool.not_true, Bool.not_false, Bool.and_true, Bool.true_and, Bool.and_false, Bool.false_and, Bool.true_or, Bool.false_or, Bool.or_true, Bool.or_false, if_true, if_false, up1_s, n_31, Int32.lt_irrefl, m265_11, xb_t, Nat.one_ne_zero, x2, m265_25]
  have cc : C (d + 7) 154 [.ref 0, .int k] sl (CH I A N V lt tw sp sr []) = rt 154 (bC (C (d + 6) 9 [.ref 101, .ref 1, .ref 3] sl (CH I1 A N V lt1 tw1 sp sr [])) (fun vs sl h => R (d + 7) 154 (38, [some (.ref 0), some (.int k), none], vs ++ [], sl, h))) := by
    rw [e154, k154_0]
    rcases hk with rfl | rfl
    · simp (disch := omega) only [rt_c, b_some, List.cons_append, List.nil_append, Bool.cond_not, cond_true, cond_false, Bool.cond_decide, nI_add, nI_clamp, xin_n, dle_e, dlt_e, deq_e, xb_0, xb_1, decide_true, decide_false, Bool.not_true, Bool.not_false, Bool.and_true, Bool.true_and, Bool.and_false, Bool.false_and, Bool.true_or, Bool.false_or, Bool.or_true, Bool.or_false, if_true, if_false, up1_s, n_31, Int32.lt_irrefl, x1, k154_23]
    · simp (disch := omega) only [rt_c, b_some, List.cons_append, List.nil_append, Bool.cond_not, cond_true, cond_false, Bool.cond_decide, nI_add, nI_clamp, xin_n, dle_e, dlt_e, deq_e, xb_0, xb_1, decide_true, decide_false, Bool.not_true, Bool.not_false, Bool.and_true, Bool.true_and, Bool.and_false, Bool.false_and, Bool.true_or, Bool.false_or, Bool.or_true, Bool.or_false, if_true, if_false, up1_s, n_31, Int32.lt_irrefl, Nat.one_ne_zero, x1, k154_23]
  have c9 : C (d + 6) 9 [.ref 101, .ref 1, .ref 3] sl (CH I1 A N V lt1 tw1 sp sr []) = rt 9 (R (d + 6) 9 (7, [some (.ref 101), some (.ref 1), some (.ref 3), some (.int (nI 0))], [], sl, CH (up1 I1 101 (up1 (I1 101) 4 (nI 0))) A N V lt1 tw1 sp sr [])) := by
    rw [e9, k9_r101_r1_r3_0]
  have h119 : ∀ (I A : Nat → Nat → Int32) (lt : Int64) (tw : Option Nat), C (d + 6) 119 [.ref 0] sl (CH I A N V lt tw sp sr []) = some ([], sl, CH (up1 (up1 I 0 (up1 (I 0) 13 (I 1 10))) 1 (up1 (I 1) 1 (nI 0))) A N V lt tw sp sr []) := fun I A lt tw => by
    rw [e119, k119_0]
    simp (disch := omega) only [rt_c, b_some, List.cons_append, List.nil_append, Bool.cond_not, cond_true, cond_false, Bool.cond_decide, nI_add, nI_clamp, xin_n, dle_e, dlt_e, deq_e, xb_0, xb_1, decide_true, decide_false, Bool.not_true, Bool.not_false, Bool.and_true, Bool.true_and, Bool.and_false, Bool.false_and, Bool.true_or, Bool.false_or, Bool.or_true, Bool.or_false, if_true, if_false, up1_s, n_31, Int32.lt_irrefl, t119_19]
  have hRB : RB A B H 0 := ⟨by decide, fun i hi => absurd hi (by omega)⟩
  rcases bk_loop d (d + 1) sl sl2 N V sp sr [] M (t := t) (L := 400) (H := H) (b := b) k hH6 hNm (by decide) rfl 41 0 (up1 I1 101 (up1 (I1 101) 4 (nI 0))) A lt1 tw1 (up1 J1 37 (nI 0)) w1 B (by omega) (by omega) hB ⟨κ, v, s, x3'⟩ hRB (by rw [up1_s, up1_s]) up1_s (by rw [up1_n (by decide), x4 3 (by decide)]; exact hS.1.1) hH (by rw [up1_n (by decide)]; exact x5) (by rw [up1_n (by decide)]; exact x6) with ⟨l, I2, A2, lt2, tw2, J2, w2, B2, y1, y2, y3, y4, y5, y6, y7, z1, z2, z3, z4, z5⟩ | ⟨I2, A2, lt2, tw2, J2, w2, B2, y1, y2, y3, z1, z2, z3, z4, z5⟩
  rotate_left
  · -- a fault
    obtain ⟨c, pl, q1, q2, q3, q4, q5, q6⟩ := y3
    have jk : ∀ k, k < 5 ∨ (11 < k ∧ k ≠ 13 ∧ k ≠ 37) → J2 k = J1 k := fun k hk => by rw [z4 k hk, up1_n (by omega)]
    have jo : ∀ k, 11 < k → k ≠ 13 → k ≠ 37 → J2 k = J k := fun k k1 k2 k3 => by rw [jk k (by omega), x9 k (by omega), up1_n (by omega)]
    refine ⟨-2 - nI pl, up1 (up1 I2 0 (up1 (I2 0) 13 (I2 1 10))) 1 (up1 (I2 1) 1 (nI 0)), A2, N, V, lt2, tw2, sp, sr, [], sl, J2, w2, B2, M, ?_, by rw [rc, y2, q6], Rl_read hR0 (fun q r1 r2 r3 => ?_) (fun k hk => ?_) (fun k hk => ?_) ?_ ?_ ?_ (fun q r1 r2 => z3 q r2) (fun _ _ => rfl) ?_ ⟨?_, ?_, ?_, ?_, ?_⟩ (fun q r1 r2 => z5 q r2) (fun _ _ => rfl), Nat.le_refl _, by omega, by simp⟩
    · rw [cc, c9, y1]
      simp (disch := omega) only [rt_c, b_some, List.cons_append, List.nil_append, Bool.cond_not, cond_true, cond_false, Bool.cond_decide, nI_add, nI_clamp, xin_n, dle_e, dlt_e, deq_e, xb_0, xb_1, decide_true, decide_false, Bool.not_true, Bool.not_false, Bool.and_true, Bool.true_and, Bool.and_false, Bool.false_and, Bool.true_or, Bool.false_or, Bool.or_true, Bool.or_false, if_true, if_false, up1_s, n_31, Int32.lt_irrefl, k154_38, h119, k154_43, xb_f, up1_n, q5, t154_12, t154_57, t154_138]
    · rw [up1_n (by omega), up1_n (by omega), z1 q (by omega) r3, up1_n r3, x4 q (by omega)]
    · rw [up1_n (by decide), up1_n (by decide), z2 k (by omega), up1_s, up1_n (by omega), x4 101 (by decide)]
    · rw [up1_n (by decide), up1_s, up1_n hk, z1 0 (by decide) (by decide), up1_n (by decide), x4 0 (by decide)]
    · rw [up1_n (by decide), up1_s, up1_s, q3, q4]
    · rw [up1_s, up1_s]
    · rw [jk 2 (by decide)]; exact x8
    · exact jo 24 (by decide) (by decide) (by decide)
    · exact jo 27 (by decide) (by decide) (by decide)
    · exact jo 28 (by decide) (by decide) (by decide)
    · exact jo 31 (by decide) (by decide) (by decide)
    · exact jo 33 (by decide) (by decide) (by decide)
    · exact jo 38 (by decide) (by decide) (by decide)
  -- read
  have hl40 := y3.1
  have jk : ∀ k, k < 5 ∨ (11 < k ∧ k ≠ 13 ∧ k ≠ 37) → J2 k = J1 k := fun k hk => by rw [z4 k hk, up1_n (by omega)]
  have jo : ∀ k, 11 < k → k ≠ 13 → k ≠ 37 → J2 k = J k := fun k k1 k2 k3 => by rw [jk k (by omega), x9 k (by omega), up1_n (by omega)]
  have b2 : B2 2 = B 2 := z5 2 (by decide)
  have iq : ∀ q, q ≠ 0 → q ≠ 1 → q ≠ 101 → (up1 (up1 I2 0 (up1 (I2 0) 13 (I2 1 10))) 1 (up1 (I2 1) 1 (nI 0))) q = I q := fun q r0 r1 r2 => by rw [up1_n r1, up1_n r0, z1 q r1 r2, up1_n r2, x4 q r1]
  have hS3 : Sh (up1 (up1 I2 0 (up1 (I2 0) 13 (I2 1 10))) 1 (up1 (I2 1) 1 (nI 0))) A2 3 (B 2) H m := Sh_c hS (fun _ _ => rfl) (iq 3 (by decide) (by decide) (by decide)) (fun q _ _ => z3 q (by omega))
  obtain ⟨I4, A4, N4, f1, f2, f3, f4, f5, f6⟩ := q44_12_3 (d + 6) sl (up1 (up1 I2 0 (up1 (I2 0) 13 (I2 1 10))) 1 (up1 (I2 1) 1 (nI 0))) A2 N V lt2 tw2 sp sr []
  have hS4 := f2 _ _ _ hS3
  obtain ⟨B6, g1, g2⟩ := c235 (d + 6) sl2 J2 w2 B2 M
  have b2' : (up1 B2 6 B6) 2 = B 2 := by rw [up1_n (by decide)]; exact b2
  have hS5 : Sh (up1 I4 101 (up1 (up1 (up1 (I4 101) 5 (nI 1)) 6 (nI 0)) 7 (nI 0))) A4 12 ((up1 B2 6 B6) 2) H m := by rw [b2']; exact Sh_c hS4 (fun _ _ => rfl) (up1_n (by decide)) (fun _ _ _ => rfl)
  have i101 : I4 101 4 = nI l := by rw [f4 101 (by decide), up1_n (by decide), up1_n (by decide)]; exact y4
  have hR5 : RB A4 (up1 B2 6 B6) H l := by
    unfold RB at y3 ⊢
    rw [f5 102 (by omega), f5 103 (by omega), f5 104 (by omega), f5 105 (by omega), up1_n (by decide)]
    exact y3
  obtain ⟨wv, kk, I6, A6, n', m', j1, j2, j3, ⟨j4, j5, j6, j7, j8⟩, j9, j10, j11, j12, j13, j14⟩ := jd_loop d (d + 1) sl sl2 N4 V lt2 tw2 sp sr [] J2 w2 M (H := H) (l := l) k hl40 y5 l 0 m (up1 I4 101 (up1 (up1 (up1 (I4 101) 5 (nI 1)) 6 (nI 0)) 7 (nI 0))) A4 (up1 B2 6 B6) (by omega) (by rw [up1_s, up1_n (by decide), up1_n (by decide), up1_n (by decide)]; exact i101) (by rw [up1_s, up1_n (by decide), up1_s]) (by rw [up1_s, up1_s]) hS5 (by rw [b2']; exact hV) (by rw [b2']; exact hY) hR5
  rw [b2'] at j14
  have hsum : x_it (fun k s => s + n' (103 + k)) 0 12 (nI 0) = x_it (fun k s => s + n' (103 + k)) 0 m' (nI 0) := by
    have hm' := j10.1.2.2.2
    have := sum_z (n := n') (b := 103) (m := m') (12 - m') (fun k k1 k2 => j10.2.2.2.2.2.2.2.2.2.1 k k1 (by omega))
    rw [show m' + (12 - m') = 12 by omega] at this
    exact this
  have e215 : C (d + 6) 215 [.ref 0, .int (nI 103), .int (nI 12)] sl2 (RH J2 w2 (up1 (up1 (up1 B2 6 B6) 2 n') 17 (upd (upd (upd ((up1 B2 6 B6) 17) 0 wv) 1 (nI kk)) 2 (n' 70))) M) = some ([.int (x_it (fun k s => s + n' (103 + k)) 0 m' (nI 0))], sl2, RH J2 w2 (up1 (up1 (up1 B2 6 B6) 2 n') 17 (upd (upd (upd ((up1 B2 6 B6) 17) 0 wv) 1 (nI kk)) 2 (n' 70))) M) := by
    have := c215 (d + 6) sl2 J2 w2 (up1 (up1 (up1 B2 6 B6) 2 n') 17 (upd (upd (upd ((up1 B2 6 B6) 17) 0 wv) 1 (nI kk)) 2 (n' 70))) M (b := 103) (m := 12) (by decide)
    rw [up1_n (show (2 : Nat) ≠ 17 by decide), up1_s, hsum] at this
    exact this
  have rc2 : C (d + 7) 265 [.ref 0, .int k] sl2 (RH J w B M) = rt 265 (R (d + 7) 265 (143, [some (.ref 0), some (.int k), some (.int (nI kk)), some (.int wv)], [.int (x_it (fun k s => s + n' (103 + k)) 0 m' (nI 0)), .int (nI 3), .ref 17], sl2, RH J2 w2 (up1 (up1 (up1 B2 6 B6) 2 n') 17 (upd (upd (upd ((up1 B2 6 B6) 17) 0 wv) 1 (nI kk)) 2 (n' 70))) M)) := by
    rw [rc, y2, g1]
    simp (disch := omega) only [rt_c, b_some, List.cons_append, List.nil_append, Bool.cond_not, cond_true, cond_false, Bool.cond_decide, nI_add, nI_clamp, xin_n, dle_e, dlt_e, deq_e, xb_0, xb_1, decide_true, decide_false, Bool.not_true, Bool.not_false, Bool.and_true, Bool.true_and, Bool.and_false, Bool.false_and, Bool.true_or, Bool.false_or, Bool.or_true, Bool.or_false, if_true, if_false, up1_s, n_31, Int32.lt_irrefl, m265_69]
    rw [j2, e215]
    simp (disch := omega) only [rt_c, b_some, List.cons_append, List.nil_append, Bool.cond_not, cond_true, cond_false, Bool.cond_decide, nI_add, nI_clamp, xin_n, dle_e, dlt_e, deq_e, xb_0, xb_1, decide_true, decide_false, Bool.not_true, Bool.not_false, Bool.and_true, Bool.true_and, Bool.and_false, Bool.false_and, Bool.true_or, Bool.false_or, Bool.or_true, Bool.or_false, if_true, if_false, up1_s, n_31, Int32.lt_irrefl]
  have h15 : C (d + 6) 15 [.ref 101, .ref 12] sl (CH I4 A4 N4 V lt2 tw2 sp sr []) = some ([], sl, CH I6 A6 N4 V lt2 tw2 sp sr []) := by
    rw [e15, k15_r101_r12_0]
    exact j1
  have iq6 : ∀ q, 2 ≤ q → q ≠ 12 → q ≠ 101 → I6 q = I q := fun q r1 r2 r3 => by rw [j12 q r2 r3, up1_n r3, f4 q r2, iq q (by omega) (by omega) r3]
  have n9 : (up1 (up1 (up1 B2 6 B6) 2 n') 17 (upd (upd (upd (upd ((up1 B2 6 B6) 17) 0 wv) 1 (nI kk)) 2 (n' 70)) 3 (x_it (fun k s => s + n' (103 + k)) 0 m' (nI 0)))) 2 = n' := by rw [up1_n (by decide), up1_s]
  have n96 : (up1 (up1 (up1 B2 6 B6) 2 n') 17 (upd (upd (upd (upd ((up1 B2 6 B6) 17) 0 wv) 1 (nI kk)) 2 (n' 70)) 3 (x_it (fun k s => s + n' (103 + k)) 0 m' (nI 0)))) 6 = B6 := by rw [up1_n (by decide), up1_n (by decide), up1_s]
  have n95 : (up1 (up1 (up1 B2 6 B6) 2 n') 17 (upd (upd (upd (upd ((up1 B2 6 B6) 17) 0 wv) 1 (nI kk)) 2 (n' 70)) 3 (x_it (fun k s => s + n' (103 + k)) 0 m' (nI 0)))) 5 = B 5 := by rw [up1_n (by decide), up1_n (by decide), up1_n (by decide)]; exact z5 5 (by decide)
  have hff : ∀ f g : Nat → Int32, (∀ k, k < 57 → f (70 + k) = (up1 (up1 (up1 B2 6 B6) 2 n') 17 (upd (upd (upd (upd ((up1 B2 6 B6) 17) 0 wv) 1 (nI kk)) 2 (n' 70)) 3 (x_it (fun k s => s + n' (103 + k)) 0 m' (nI 0)))) 6 k ∧ g k = (up1 (up1 (up1 B2 6 B6) 2 n') 17 (upd (upd (upd (upd ((up1 B2 6 B6) 17) 0 wv) 1 (nI kk)) 2 (n' 70)) 3 (x_it (fun k s => s + n' (103 + k)) 0 m' (nI 0)))) 2 (70 + k)) → (∀ k, (k < 70 ∨ 127 ≤ k) → f k = (up1 (up1 (up1 B2 6 B6) 2 n') 17 (upd (upd (upd (upd ((up1 B2 6 B6) 17) 0 wv) 1 (nI kk)) 2 (n' 70)) 3 (x_it (fun k s => s + n' (103 + k)) 0 m' (nI 0)))) 2 k) → f = B 2 ∧ lay f g 0 = n' := by
    intro f g u2 u3
    rw [n9, n96] at u2
    rw [n9] at u3
    refine ⟨?_, ?_⟩
    · funext j
      by_cases hj : j < 70 ∨ 127 ≤ j
      · rw [u3 j hj]; exact j14 j hj
      · have := (u2 (j - 70) (by omega)).1
        rw [show 70 + (j - 70) = j by omega] at this
        rw [this, g2 (j - 70) (by omega), show 70 + (j - 70) = j by omega, b2]
    · funext j
      by_cases hj : j < 70 ∨ 127 ≤ j
      · rw [lay_o hj, u3 j hj]
      · unfold lay
        rw [if_pos (by omega), Nat.zero_add, (u2 (j - 70) (by omega)).2, show 70 + (j - 70) = j by omega]
  have key : ∀ f g : Nat → Int32, f = B 2 → RS I6 A6 N4 (up1 (up1 (up1 (up1 (up1 B2 6 B6) 2 n') 17 (upd (upd (upd (upd ((up1 B2 6 B6) 17) 0 wv) 1 (nI kk)) 2 (n' 70)) 3 (x_it (fun k s => s + n' (103 + k)) 0 m' (nI 0)))) 2 f) 6 g) M H m ∧ RPx p z I6 A6 N4 (up1 J2 38 (nI 1)) (up1 (up1 (up1 (up1 (up1 B2 6 B6) 2 n') 17 (upd (upd (upd (upd ((up1 B2 6 B6) 17) 0 wv) 1 (nI kk)) 2 (n' 70)) 3 (x_it (fun k s => s + n' (103 + k)) 0 m' (nI 0)))) 2 f) 6 g) M H ∧ RZ I6 A6 N4 V sp sr (up1 J2 38 (nI 1)) (up1 (up1 (up1 (up1 (up1 B2 6 B6) 2 n') 17 (upd (upd (upd (upd ((up1 B2 6 B6) 17) 0 wv) 1 (nI kk)) 2 (n' 70)) 3 (x_it (fun k s => s + n' (103 + k)) 0 m' (nI 0)))) 2 f) 6 g) M := by
    intro f g hf
    refine Rl_book h1 h2 h3 iq6 (fun k hk => ?_) ?_ ?_ ?_ (fun q r1 r2 => ?_) (fun q hq => f6 q hq) ?_ ⟨?_, ?_, ?_, ?_⟩ ⟨true, ?_, ?_, fun _ => ⟨?_, ?_, ?_, ?_⟩⟩ (fun q r1 r2 r3 r4 => ?_)
    · rw [j12 0 (by decide) (by decide), up1_n (by decide), f4 0 (by decide), up1_n (by decide), up1_s, up1_n hk, z1 0 (by decide) (by decide), up1_n (by decide), x4 0 (by decide)]
    · rw [j12 0 (by decide) (by decide), up1_n (by decide), f4 0 (by decide), up1_n (by decide), up1_s, up1_s, y6, up1_n (by decide), y7]
    · rw [j12 1 (by decide) (by decide), up1_n (by decide), f4 1 (by decide), up1_s, up1_s]
    · rw [up1_n (by decide), jk 2 (by decide)]; exact x8
    · rw [j13 q r1, f5 q (by omega), z3 q r2]
    · rw [up1_n (by decide)]; exact jo 24 (by decide) (by decide) (by decide)
    · rw [up1_n (by decide)]; exact jo 27 (by decide) (by decide) (by decide)
    · rw [up1_n (by decide)]; exact jo 28 (by decide) (by decide) (by decide)
    · rw [up1_n (by decide)]; exact jo 31 (by decide) (by decide) (by decide)
    · rw [up1_n (by decide)]; exact jo 33 (by decide) (by decide) (by decide)
    · rw [j4, up1_s, up1_n (by decide), up1_n (by decide), up1_s, xb_t]
    · rw [up1_s, xb_t]
    · rw [j5, up1_n (by decide), up1_n (by decide), up1_s, upd_n (by decide), upd_n (by decide), upd_n (by decide), upd_s]
    · rw [j6, up1_n (by decide), up1_n (by decide), up1_s, upd_n (by decide), upd_n (by decide), upd_s]
    · rw [j7, up1_n (by decide), up1_n (by decide), up1_s, upd_n (by decide), upd_s]
    · rw [j8, up1_n (by decide), up1_n (by decide), up1_s, upd_s]
    · rw [up1_n r2]
      by_cases q2 : q = 2
      · subst q2; rw [up1_s, hf]
      · rw [up1_n q2, up1_n r4, up1_n q2, up1_n r2, z5 q r3]
  have hkk : kk < 2 ^ 31 := by omega
  by_cases hst : k = nI 1 ∧ 0 < kk
  · -- it stays
    obtain ⟨hk1, hkk0⟩ := hst
    have hkk1 : ¬ kk ≤ 0 := by omega
    subst hk1
    have j24 : (up1 J2 38 (nI 1)) 24 = nI z := by rw [up1_n (by decide), jo 24 (by decide) (by decide) (by decide)]; exact hz2
    obtain ⟨f, g, B5, u1, u2, u3, u4, u5⟩ := c266_1 (d + 5) sl2 (up1 J2 38 (nI 1)) w2 (up1 (up1 (up1 B2 6 B6) 2 n') 17 (upd (upd (upd (upd ((up1 B2 6 B6) 17) 0 wv) 1 (nI kk)) 2 (n' 70)) 3 (x_it (fun k s => s + n' (103 + k)) 0 m' (nI 0)))) M hz j24
    obtain ⟨hf, hlay⟩ := hff f g u2 u3
    obtain ⟨k1, k2, k3⟩ := key f g hf
    have p6 : I6 21 = I 21 := iq6 21 (by decide) (by decide) (by decide)
    obtain ⟨I7, A7, N7, c1, c2, c3, c4, c5, c6, c7, c8⟩ := q27_3 (d + 5) sl I6 A6 N4 V lt2 tw2 sp sr [] h22 hp hz (by rw [p6]; exact hP) (by rw [p6]; exact hZ)
    have hS7 : Sh I7 A7 12 n' H m' := Sh_c j9 (fun _ _ => rfl) (c6 12 (by decide) (by omega)) (fun q _ _ => c7 q (by omega))
    obtain ⟨I8, A8, N8, t1, t2, t3, t4, t5, t6⟩ := q44_3_12 (d + 6) sl I7 A7 N7 V lt2 tw2 sp sr []
    have i8 : ∀ q, q ≠ 3 → q ≠ 21 → q ≠ 23 + 9 * p → I8 q = I6 q := fun q r1 r2 r3 => by rw [t4 q r1, c6 q r2 r3]
    have i8a : I8 101 = I6 101 := i8 101 (by decide) (by decide) (by omega)
    refine ⟨if wv = nI 0 then -1 else nI kk, I8, A8, N8, V, lt2, tw2, sp, sr, [], sl, up1 (up1 J2 38 (nI 1)) 24 (nI (min 8 (z + 1))), w2, up1 (up1 (up1 (up1 (up1 (up1 (up1 B2 6 B6) 2 n') 17 (upd (upd (upd (upd ((up1 B2 6 B6) 17) 0 wv) 1 (nI kk)) 2 (n' 70)) 3 (x_it (fun k s => s + n' (103 + k)) 0 m' (nI 0)))) 2 f) 6 g) 5 B5) 2 (lay f g 0), M, ?_, ?_, Rl_N (N := up1 N8 4 (N4 4)) (Rl_push k1 k2 k3 (by rw [hlay]; exact t2 _ _ _ hS7) (by rw [hlay]; exact j10) (by rw [hlay]; exact j11) ⟨?_, ?_, ?_, fun h hh => ?_, fun q r1 r2 => i8 q (by omega) (by omega) r2, fun q r1 r2 => ?_, fun q r1 r2 => ?_⟩ ⟨?_, ?_, ?_, ?_, ?_, ?_, ?_⟩ up1_s ?_ ?_ ?_) (fun h hh => ?_) (fun q hq => (up1_n hq).symm), Nat.le_refl _, by omega, by simp⟩
    · rw [cc, c9, y1]
      by_cases hw : wv = nI 0
      · have hw' : (wv = nI 0) = True := eq_true hw
        simp (disch := omega) only [rt_c, b_some, List.cons_append, List.nil_append, Bool.cond_not, cond_true, cond_false, Bool.cond_decide, nI_add, nI_clamp, xin_n, dle_e, dlt_e, deq_e, xb_0, xb_1, decide_true, decide_false, Bool.not_true, Bool.not_false, Bool.and_true, Bool.true_and, Bool.and_false, Bool.false_and, Bool.true_or, Bool.false_or, Bool.or_true, Bool.or_false, if_true, if_false, up1_s, n_31, Int32.lt_irrefl, k154_38, h119, k154_43, xb_t, Nat.one_ne_zero, f1, k154_69, h15, k154_80, j6, hkk1, c1, k154_106, t1, k154_117, i8a, j5, hw', t154_12, t154_57, t154_138]
      · simp (disch := omega) only [rt_c, b_some, List.cons_append, List.nil_append, Bool.cond_not, cond_true, cond_false, Bool.cond_decide, nI_add, nI_clamp, xin_n, dle_e, dlt_e, deq_e, xb_0, xb_1, decide_true, decide_false, Bool.not_true, Bool.not_false, Bool.and_true, Bool.true_and, Bool.and_false, Bool.false_and, Bool.true_or, Bool.false_or, Bool.or_true, Bool.or_false, if_true, if_false, up1_s, n_31, Int32.lt_irrefl, k154_38, h119, k154_43, xb_t, Nat.one_ne_zero, f1, k154_69, h15, k154_80, j6, hkk1, c1, k154_106, t1, k154_117, i8a, j5, hw, t154_12, t154_57, t154_138]
    · rw [rc2, m265_143]
      by_cases hw : wv = nI 0
      · have hw' : (wv = nI 0) = True := eq_true hw
        simp (disch := omega) only [rt_c, b_some, List.cons_append, List.nil_append, Bool.cond_not, cond_true, cond_false, Bool.cond_decide, nI_add, nI_clamp, xin_n, dle_e, dlt_e, deq_e, xb_0, xb_1, decide_true, decide_false, Bool.not_true, Bool.not_false, Bool.and_true, Bool.true_and, Bool.and_false, Bool.false_and, Bool.true_or, Bool.false_or, Bool.or_true, Bool.or_false, if_true, if_false, up1_s, n_31, Int32.lt_irrefl, hkk1, up1_up, u1, m265_167, hw', t265_17, t265_51, t265_176]
      · simp (disch := omega) only [rt_c, b_some, List.cons_append, List.nil_append, Bool.cond_not, cond_true, cond_false, Bool.cond_decide, nI_add, nI_clamp, xin_n, dle_e, dlt_e, deq_e, xb_0, xb_1, decide_true, decide_false, Bool.not_true, Bool.not_false, Bool.and_true, Bool.true_and, Bool.and_false, Bool.false_and, Bool.true_or, Bool.false_or, Bool.or_true, Bool.or_false, if_true, if_false, up1_s, n_31, Int32.lt_irrefl, hkk1, up1_up, u1, m265_167, hw, t265_17, t265_51, t265_176]
    · rw [t4 21 (by decide)]; exact c2
    · rw [t4 21 (by decide)]; exact c3
    · exact Sh_c (c4 _ _ _ k1.1) (fun _ _ => rfl) (t4 _ (by omega)) (fun q _ _ => t5 q (by omega))
    · rw [up1_n (by omega), t6 _ (by omega)]; exact c5 h hh
    · rw [t5 q (by omega), c7 q r2]
    · by_cases q4 : q = 4
      · subst q4; rw [up1_s]
      · rw [up1_n q4, t6 q q4, c8 q r2]
    · exact up1_n (by decide)
    · exact up1_n (by decide)
    · exact up1_n (by decide)
    · exact up1_n (by decide)
    · exact up1_n (by decide)
    · exact up1_n (by decide)
    · exact up1_n (by decide)
    · intro j i hj hi
      rw [u4 j i hj hi, up1_n (show (5 : Nat) ≠ 6 by decide), up1_n (show (5 : Nat) ≠ 2 by decide)]
    · intro i hi
      rw [u5 i hi, up1_n (show (2 : Nat) ≠ 6 by decide), up1_s]
    · intro i hi
      rw [hlay, up1_n (show (2 : Nat) ≠ 6 by decide), up1_s, hf]
      exact j14 i hi
    · rw [up1_s, t3 h hh, c8 13 (by omega), f3 h hh, f6 4 (by decide)]
  · -- it goes
    obtain ⟨f, g, u1, u2, u3⟩ := c266_0 (d + 5) sl2 (up1 J2 38 (nI 1)) w2 (up1 (up1 (up1 B2 6 B6) 2 n') 17 (upd (upd (upd (upd ((up1 B2 6 B6) 17) 0 wv) 1 (nI kk)) 2 (n' 70)) 3 (x_it (fun k s => s + n' (103 + k)) 0 m' (nI 0)))) M
    obtain ⟨hf, -⟩ := hff f g u2 u3
    obtain ⟨k1, k2, k3⟩ := key f g hf
    have hcase : ¬ k = nI 1 ∨ (k = nI 1 ∧ kk ≤ 0) := by
      by_cases h : k = nI 1
      · exact Or.inr ⟨h, by have : ¬ 0 < kk := fun h9 => hst ⟨h, h9⟩; omega⟩
      · exact Or.inl h
    refine ⟨if wv = nI 0 then -1 else nI kk, I6, A6, N4, V, lt2, tw2, sp, sr, [], sl, up1 J2 38 (nI 1), w2, up1 (up1 (up1 (up1 (up1 B2 6 B6) 2 n') 17 (upd (upd (upd (upd ((up1 B2 6 B6) 17) 0 wv) 1 (nI kk)) 2 (n' 70)) 3 (x_it (fun k s => s + n' (103 + k)) 0 m' (nI 0)))) 2 f) 6 g, M, ?_, ?_, ⟨H, m, k1, ⟨p, z, k2⟩, k3⟩, Nat.le_refl _, by omega, by simp⟩
    · rw [cc, c9, y1]
      have hc80 : rt 154 (R (d + 7) 154 (80, [some (.ref 0), some (.int k), some (.int (nI 1))], [], sl, CH I6 A6 N4 V lt2 tw2 sp sr [])) = rt 154 (R (d + 7) 154 (117, [some (.ref 0), some (.int k), some (.int (nI 1))], [], sl, CH I6 A6 N4 V lt2 tw2 sp sr [])) := by
        rw [k154_80, j6]
        rcases hcase with h | ⟨h, h9⟩
        · simp (disch := omega) only [rt_c, b_some, List.cons_append, List.nil_append, Bool.cond_not, cond_true, cond_false, Bool.cond_decide, nI_add, nI_clamp, xin_n, dle_e, dlt_e, deq_e, xb_0, xb_1, decide_true, decide_false, Bool.not_true, Bool.not_false, Bool.and_true, Bool.true_and, Bool.and_false, Bool.false_and, Bool.true_or, Bool.false_or, Bool.or_true, Bool.or_false, if_true, if_false, up1_s, n_31, Int32.lt_irrefl, h]
        · subst h
          simp (disch := omega) only [rt_c, b_some, List.cons_append, List.nil_append, Bool.cond_not, cond_true, cond_false, Bool.cond_decide, nI_add, nI_clamp, xin_n, dle_e, dlt_e, deq_e, xb_0, xb_1, decide_true, decide_false, Bool.not_true, Bool.not_false, Bool.and_true, Bool.true_and, Bool.and_false, Bool.false_and, Bool.true_or, Bool.false_or, Bool.or_true, Bool.or_false, if_true, if_false, up1_s, n_31, Int32.lt_irrefl, h9]
      by_cases hw : wv = nI 0
      · have hw' : (wv = nI 0) = True := eq_true hw
        simp (disch := omega) only [rt_c, b_some, List.cons_append, List.nil_append, Bool.cond_not, cond_true, cond_false, Bool.cond_decide, nI_add, nI_clamp, xin_n, dle_e, dlt_e, deq_e, xb_0, xb_1, decide_true, decide_false, Bool.not_true, Bool.not_false, Bool.and_true, Bool.true_and, Bool.and_false, Bool.false_and, Bool.true_or, Bool.false_or, Bool.or_true, Bool.or_false, if_true, if_false, up1_s, n_31, Int32.lt_irrefl, k154_38, h119, k154_43, xb_t, Nat.one_ne_zero, f1, k154_69, h15, hc80, k154_117, j5, hw', t154_12, t154_57, t154_138]
      · simp (disch := omega) only [rt_c, b_some, List.cons_append, List.nil_append, Bool.cond_not, cond_true, cond_false, Bool.cond_decide, nI_add, nI_clamp, xin_n, dle_e, dlt_e, deq_e, xb_0, xb_1, decide_true, decide_false, Bool.not_true, Bool.not_false, Bool.and_true, Bool.true_and, Bool.and_false, Bool.false_and, Bool.true_or, Bool.false_or, Bool.or_true, Bool.or_false, if_true, if_false, up1_s, n_31, Int32.lt_irrefl, k154_38, h119, k154_43, xb_t, Nat.one_ne_zero, f1, k154_69, h15, hc80, k154_117, j5, j6, hw, t154_12, t154_57, t154_138]
    · rw [rc2, m265_143]
      by_cases hw : wv = nI 0
      · have hw' : (wv = nI 0) = True := eq_true hw
        rcases hcase with h | ⟨h, h9⟩
        · simp (disch := omega) only [rt_c, b_some, List.cons_append, List.nil_append, Bool.cond_not, cond_true, cond_false, Bool.cond_decide, nI_add, nI_clamp, xin_n, dle_e, dlt_e, deq_e, xb_0, xb_1, decide_true, decide_false, Bool.not_true, Bool.not_false, Bool.and_true, Bool.true_and, Bool.and_false, Bool.false_and, Bool.true_or, Bool.false_or, Bool.or_true, Bool.or_false, if_true, if_false, up1_s, n_31, Int32.lt_irrefl, h, up1_up, u1, m265_167, hw', t265_17, t265_51, t265_176]
        · subst h
          simp (disch := omega) only [rt_c, b_some, List.cons_append, List.nil_append, Bool.cond_not, cond_true, cond_false, Bool.cond_decide, nI_add, nI_clamp, xin_n, dle_e, dlt_e, deq_e, xb_0, xb_1, decide_true, decide_false, Bool.not_true, Bool.not_false, Bool.and_true, Bool.true_and, Bool.and_false, Bool.false_and, Bool.true_or, Bool.false_or, Bool.or_true, Bool.or_false, if_true, if_false, up1_s, n_31, Int32.lt_irrefl, h9, up1_up, u1, m265_167, hw', t265_17, t265_51, t265_176]
      · rcases hcase with h | ⟨h, h9⟩
        · simp (disch := omega) only [rt_c, b_some, List.cons_append, List.nil_append, Bool.cond_not, cond_true, cond_false, Bool.cond_decide, nI_add, nI_clamp, xin_n, dle_e, dlt_e, deq_e, xb_0, xb_1, decide_true, decide_false, Bool.not_true, Bool.not_false, Bool.and_true, Bool.true_and, Bool.and_false, Bool.false_and, Bool.true_or, Bool.false_or, Bool.or_true, Bool.or_false, if_true, if_false, up1_s, n_31, Int32.lt_irrefl, h, up1_up, u1, m265_167, hw, t265_17, t265_51, t265_176]
        · subst h
          simp (disch := omega) only [rt_c, b_some, List.cons_append, List.nil_append, Bool.cond_not, cond_true, cond_false, Bool.cond_decide, nI_add, nI_clamp, xin_n, dle_e, dlt_e, deq_e, xb_0, xb_1, decide_true, decide_false, Bool.not_true, Bool.not_false, Bool.and_true, Bool.true_and, Bool.and_false, Bool.false_and, Bool.true_or, Bool.false_or, Bool.or_true, Bool.or_false, if_true, if_false, up1_s, n_31, Int32.lt_irrefl, h9, up1_up, u1, m265_167, hw, t265_17, t265_51, t265_176]
