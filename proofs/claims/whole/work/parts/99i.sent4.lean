/-! SENTENCES: one ONE -/
section SNE
variable (d d' sl sl' : Nat) (I : Nat → Nat → Int32) (A : Nat → Nat → Int32) (N : Nat → Nat → Int64) (V : Nat → Nat → Option Nat) (lt : Int64) (tw : Option Nat) (sp sr : Nat) (X : List AC) (J : Nat → Int32) (w : Int64) (B : Nat → Nat → Int32) (M : Nat → Nat → Int64) {t L n κ v : Nat} {s : List Nat} {b : Nat → Nat}
/-- a sign that compares -/
theorem gd_sign (hB : Bt t b A B) (hL : L ≤ 940) (hX : Nat.ble X.length 1 = true) (h : Tk t L n κ v s (I 1) lt tw J w) (a1 : Int32) :
    (∃ I' lt' tw' J' w', C (d + 2) 100 [.ref 1] sl (CH I A N V lt tw sp sr X) = some ([.int (x_b true)], sl, CH I' A N V lt' tw' sp sr X) ∧ rt 275 (R (d' + 2) 275 (0, [some (.ref 0), some (.int a1), none], [], sl', RH J w B M)) = rt 275 (R (d' + 2) 275 (42, [some (.ref 0), some (.int a1), some (.int (nI v))], [], sl', RH J' w' B M)) ∧ Gd t L (n + 1) I I' lt' tw' J J' w' ∧ I' 1 9 = nI v ∧ (∀ k, 9 < k → J' k = J k)) ∨
    (∃ I' J', C (d + 2) 100 [.ref 1] sl (CH I A N V lt tw sp sr X) = some ([.int (x_b false)], sl, CH I' A N V lt tw sp sr X) ∧ rt 275 (R (d' + 2) 275 (0, [some (.ref 0), some (.int a1), none], [], sl', RH J w B M)) = some ([.int (x_b false)], sl', RH J' w B M) ∧ Bd I I' J J' ∧ (∀ k, 11 < k → J' k = J k)) := by
  have m60 := q96 (d + 1) sl I A N V lt tw sp sr X (show 60 < 128 by decide) h
  have m61 := q96 (d + 1) sl I A N V lt tw sp sr X (show 61 < 128 by decide) h
  have m62 := q96 (d + 1) sl I A N V lt tw sp sr X (show 62 < 128 by decide) h
  have r60 := c178 (d' + 1) sl' J w B M (show 60 < 128 by decide) h
  have r61 := c178 (d' + 1) sl' J w B M (show 61 < 128 by decide) h
  have r62 := c178 (d' + 1) sl' J w B M (show 62 < 128 by decide) h
  by_cases hk : κ = 5 ∧ 60 ≤ v ∧ v ≤ 62
  · obtain ⟨rfl, hv1, hv2⟩ := hk
    obtain ⟨-, v8, j9, -⟩ := Tk_mark h
    obtain ⟨κ', v', s', f', lt', tw', J', w', x1, x2, x3, x4, x5⟩ := adv d d' sl sl' I A N V sp sr X B M hB hL hX h (by decide) (up1 (I 1) 9 (nI v)) J (fun k hk => up1_n (by omega)) (fun k hk => rfl)
    refine Or.inl ⟨up1 I 1 f', lt', tw', J', w', ?_, ?_, Gd_mk ⟨⟨κ', v', s', x3⟩, by rw [x4 10 (by decide), up1_n (by decide)], fun k hk => x5 k (by omega)⟩, by rw [up1_s, x4 9 (by decide), up1_s], fun k hk => x5 k (by omega)⟩
    · rcases (show v = 60 ∨ v = 61 ∨ v = 62 by omega) with rfl | rfl | rfl
      · rw [decide_eq_true (p := 5 = 5 ∧ 60 = 60) ⟨rfl, rfl⟩] at m60
        rw [e100, k100_r1_0]
        simp (disch := omega) only [rt_c, b_some, List.cons_append, List.nil_append, Bool.cond_not, cond_true, cond_false, Bool.cond_decide, nI_add, nI_clamp, xin_n, dle_e, dlt_e, deq_e, xb_0, xb_1, decide_true, decide_false, Bool.not_true, Bool.not_false, Bool.and_true, Bool.true_and, Bool.and_false, Bool.false_and, Bool.true_or, Bool.false_or, Bool.or_true, Bool.or_false, if_true, if_false, up1_s, n_31, Int32.lt_irrefl, m60, k100_r1_6, xb_t, Nat.one_ne_zero, v8, x1, k100_r1_45, t100_32, t100_32_0, t100_32_1, t100_46, t100_46_0, t100_46_1]
      · rw [decide_eq_false (p := 5 = 5 ∧ 61 = 60) (by decide)] at m60
        rw [decide_eq_true (p := 5 = 5 ∧ 61 = 61) ⟨rfl, rfl⟩] at m61
        rw [e100, k100_r1_0]
        simp (disch := omega) only [rt_c, b_some, List.cons_append, List.nil_append, Bool.cond_not, cond_true, cond_false, Bool.cond_decide, nI_add, nI_clamp, xin_n, dle_e, dlt_e, deq_e, xb_0, xb_1, decide_true, decide_false, Bool.not_true, Bool.not_false, Bool.and_true, Bool.true_and, Bool.and_false, Bool.false_and, Bool.true_or, Bool.false_or, Bool.or_true, Bool.or_false, if_true, if_false, up1_s, n_31, Int32.lt_irrefl, m60, k100_r1_6, xb_f, m61, k100_r1_15, xb_t, Nat.one_ne_zero, v8, x1, k100_r1_45, t100_32, t100_32_0, t100_32_1, t100_46, t100_46_0, t100_46_1]
      · rw [decide_eq_false (p := 5 = 5 ∧ 62 = 60) (by decide)] at m60
        rw [decide_eq_false (p := 5 = 5 ∧ 62 = 61) (by decide)] at m61
        rw [decide_eq_true (p := 5 = 5 ∧ 62 = 62) ⟨rfl, rfl⟩] at m62
        rw [e100, k100_r1_0]
        simp (disch := omega) only [rt_c, b_some, List.cons_append, List.nil_append, Bool.cond_not, cond_true, cond_false, Bool.cond_decide, nI_add, nI_clamp, xin_n, dle_e, dlt_e, deq_e, xb_0, xb_1, decide_true, decide_false, Bool.not_true, Bool.not_false, Bool.and_true, Bool.true_and, Bool.and_false, Bool.false_and, Bool.true_or, Bool.false_or, Bool.or_true, Bool.or_false, if_true, if_false, up1_s, n_31, Int32.lt_irrefl, m60, k100_r1_6, xb_f, m61, k100_r1_15, m62, k100_r1_24, xb_t, Nat.one_ne_zero, v8, x1, k100_r1_45, t100_32, t100_32_0, t100_32_1, t100_46, t100_46_0, t100_46_1]
    · rcases (show v = 60 ∨ v = 61 ∨ v = 62 by omega) with rfl | rfl | rfl
      · rw [decide_eq_true (p := 5 = 5 ∧ 60 = 60) ⟨rfl, rfl⟩] at r60
        rw [m275_0]
        simp (disch := omega) only [rt_c, b_some, List.cons_append, List.nil_append, Bool.cond_not, cond_true, cond_false, Bool.cond_decide, nI_add, nI_clamp, xin_n, dle_e, dlt_e, deq_e, xb_0, xb_1, decide_true, decide_false, Bool.not_true, Bool.not_false, Bool.and_true, Bool.true_and, Bool.and_false, Bool.false_and, Bool.true_or, Bool.false_or, Bool.or_true, Bool.or_false, if_true, if_false, up1_s, n_31, Int32.lt_irrefl, r60, m275_6, xb_t, Nat.one_ne_zero, j9, x2]
      · rw [decide_eq_false (p := 5 = 5 ∧ 61 = 60) (by decide)] at r60
        rw [decide_eq_true (p := 5 = 5 ∧ 61 = 61) ⟨rfl, rfl⟩] at r61
        rw [m275_0]
        simp (disch := omega) only [rt_c, b_some, List.cons_append, List.nil_append, Bool.cond_not, cond_true, cond_false, Bool.cond_decide, nI_add, nI_clamp, xin_n, dle_e, dlt_e, deq_e, xb_0, xb_1, decide_true, decide_false, Bool.not_true, Bool.not_false, Bool.and_true, Bool.true_and, Bool.and_false, Bool.false_and, Bool.true_or, Bool.false_or, Bool.or_true, Bool.or_false, if_true, if_false, up1_s, n_31, Int32.lt_irrefl, r60, m275_6, xb_f, r61, m275_15, xb_t, Nat.one_ne_zero, j9, x2]
      · rw [decide_eq_false (p := 5 = 5 ∧ 62 = 60) (by decide)] at r60
        rw [decide_eq_false (p := 5 = 5 ∧ 62 = 61) (by decide)] at r61
        rw [decide_eq_true (p := 5 = 5 ∧ 62 = 62) ⟨rfl, rfl⟩] at r62
        rw [m275_0]
        simp (disch := omega) only [rt_c, b_some, List.cons_append, List.nil_append, Bool.cond_not, cond_true, cond_false, Bool.cond_decide, nI_add, nI_clamp, xin_n, dle_e, dlt_e, deq_e, xb_0, xb_1, decide_true, decide_false, Bool.not_true, Bool.not_false, Bool.and_true, Bool.true_and, Bool.and_false, Bool.false_and, Bool.true_or, Bool.false_or, Bool.or_true, Bool.or_false, if_true, if_false, up1_s, n_31, Int32.lt_irrefl, r60, m275_6, xb_f, r61, m275_15, r62, m275_24, xb_t, Nat.one_ne_zero, j9, x2]
  · rw [decide_eq_false (p := κ = 5 ∧ v = 60) (by omega)] at m60 r60
    rw [decide_eq_false (p := κ = 5 ∧ v = 61) (by omega)] at m61 r61
    rw [decide_eq_false (p := κ = 5 ∧ v = 62) (by omega)] at m62 r62
    have c2 := c180 (d' + 1) sl' J w B M (c := 1) h (Or.inr rfl)
    refine Or.inr ⟨_, _, ?_, ?_, Bd_mk (No_mk hB.1 h (c := 1) (by decide) (I 1) J (fun _ _ => rfl) (fun _ _ => rfl)), fun k hk => ?_⟩
    · rw [e100, k100_r1_0]
      simp (disch := omega) only [rt_c, b_some, List.cons_append, List.nil_append, Bool.cond_not, cond_true, cond_false, Bool.cond_decide, nI_add, nI_clamp, xin_n, dle_e, dlt_e, deq_e, xb_0, xb_1, decide_true, decide_false, Bool.not_true, Bool.not_false, Bool.and_true, Bool.true_and, Bool.and_false, Bool.false_and, Bool.true_or, Bool.false_or, Bool.or_true, Bool.or_false, if_true, if_false, up1_s, n_31, Int32.lt_irrefl, m60, k100_r1_6, xb_f, m61, k100_r1_15, m62, k100_r1_24, q97, k100_r1_32, t100_32, t100_32_0, t100_32_1, t100_46, t100_46_0, t100_46_1]
    · rw [m275_0]
      simp (disch := omega) only [rt_c, b_some, List.cons_append, List.nil_append, Bool.cond_not, cond_true, cond_false, Bool.cond_decide, nI_add, nI_clamp, xin_n, dle_e, dlt_e, deq_e, xb_0, xb_1, decide_true, decide_false, Bool.not_true, Bool.not_false, Bool.and_true, Bool.true_and, Bool.and_false, Bool.false_and, Bool.true_or, Bool.false_or, Bool.or_true, Bool.or_false, if_true, if_false, up1_s, n_31, Int32.lt_irrefl, r60, m275_6, xb_f, r61, m275_15, r62, m275_24, c2, m275_32, t275_32, t275_32_0, t275_32_1, t275_54, t275_54_0, t275_54_1, t275_74, t275_74_0, t275_74_1]
    · rw [up1_n (by omega), up1_n (by omega)]
/-- a mark, taken -/
theorem gd_close (hB : Bt t b A B) (hL : L ≤ 940) (hX : Nat.ble X.length 1 = true) (h : Tk t L n κ v s (I 1) lt tw J w) :
    (∃ I' lt' tw' J' w', C (d + 2) 98 [.ref 1, .int (nI 41)] sl (CH I A N V lt tw sp sr X) = some ([.int (x_b true)], sl, CH I' A N V lt' tw' sp sr X) ∧ C (d' + 2) 178 [.ref 0, .int (nI 41)] sl' (RH J w B M) = some ([.int (x_b true)], sl', RH J w B M) ∧ C (d' + 2) 174 [.ref 0] sl' (RH J w B M) = some ([], sl', RH J' w' B M) ∧ Gd t L (n + 1) I I' lt' tw' J J' w' ∧ (∀ k, k < 5 ∨ 9 < k → J' k = J k)) ∨
    (∃ I' J', C (d + 2) 98 [.ref 1, .int (nI 41)] sl (CH I A N V lt tw sp sr X) = some ([.int (x_b false)], sl, CH I' A N V lt tw sp sr X) ∧ C (d' + 2) 178 [.ref 0, .int (nI 41)] sl' (RH J w B M) = some ([.int (x_b false)], sl', RH J w B M) ∧ C (d' + 2) 180 [.ref 0, .int (nI 1)] sl' (RH J w B M) = some ([.int (x_b false)], sl', RH J' w B M) ∧ Bd I I' J J' ∧ (∀ k, 11 < k → J' k = J k)) := by
  have m1 := q96 (d + 1) sl I A N V lt tw sp sr X (show 41 < 128 by decide) h
  have m2 := c178 (d' + 2) sl' J w B M (show 41 < 128 by decide) h
  by_cases hk : κ = 5 ∧ v = 41
  · rw [decide_eq_true hk] at m1 m2
    obtain ⟨I', lt', tw', J', w', x1, x2, x3, x4, x5⟩ := gd_adv d (d' + 1) sl sl' I A N V lt tw sp sr X J w B M hB hL hX h (by omega)
    refine Or.inl ⟨I', lt', tw', J', w', ?_, m2, x2, x3, x5⟩
    rw [e98, k98_r1_0]
    simp (disch := omega) only [rt_c, b_some, List.cons_append, List.nil_append, Bool.cond_not, cond_true, cond_false, Bool.cond_decide, nI_add, nI_clamp, xin_n, dle_e, dlt_e, deq_e, xb_0, xb_1, decide_true, decide_false, Bool.not_true, Bool.not_false, Bool.and_true, Bool.true_and, Bool.and_false, Bool.false_and, Bool.true_or, Bool.false_or, Bool.or_true, Bool.or_false, if_true, if_false, up1_s, n_31, Int32.lt_irrefl, m1, k98_r1_5, xb_t, Nat.one_ne_zero, x1, k98_r1_18, t98_13, t98_13_0, t98_13_1, t98_19, t98_19_0, t98_19_1]
  · rw [decide_eq_false hk] at m1 m2
    refine Or.inr ⟨_, _, ?_, m2, c180 (d' + 2) sl' J w B M (c := 1) h (Or.inr rfl), Bd_mk (No_mk hB.1 h (c := 1) (by decide) (I 1) J (fun _ _ => rfl) (fun _ _ => rfl)), fun k hk => ?_⟩
    · rw [e98, k98_r1_0]
      simp (disch := omega) only [rt_c, b_some, List.cons_append, List.nil_append, Bool.cond_not, cond_true, cond_false, Bool.cond_decide, nI_add, nI_clamp, xin_n, dle_e, dlt_e, deq_e, xb_0, xb_1, decide_true, decide_false, Bool.not_true, Bool.not_false, Bool.and_true, Bool.true_and, Bool.and_false, Bool.false_and, Bool.true_or, Bool.false_or, Bool.or_true, Bool.or_false, if_true, if_false, up1_s, n_31, Int32.lt_irrefl, m1, k98_r1_5, xb_f, q97, k98_r1_13, t98_13, t98_13_0, t98_13_1, t98_19, t98_19_0, t98_19_1]
    · rw [up1_n (by omega), up1_n (by omega)]
end SNE
/-- a step that is a ONE, or one that stands before what was read: what is so then -/
theorem lf_x {S t L u o k v : Nat} {I A I2 A2 I4 A4 : Nat → Nat → Int32} {V V2 V4 : Nat → Nat → Option Nat} {lt2 : Int64} {tw2 : Option Nat} {J J2 J4 J5 : Nat → Int32} {w2 : Int64} {B B2 B4 : Nat → Nat → Int32} {a2 a3 x a b r : Int32} (hS1 : 1 ≠ S)
    (hS : Sx S t L (o + 1) k (u + 1) I2 lt2 tw2 J2 w2) (hF : Fx S k I A V J B I2 A2 V2 J2 B2) (h10 : I2 1 10 = I 1 10) (j10 : J2 10 = J 10)
    (hA : Fx S k I2 A2 V2 J2 B2 I4 A4 V4 J4 B4 ∧ (∀ q, q ≠ S → I4 q = I2 q) ∧ (∀ j, j ≠ 40 → J4 j = J2 j) ∧ J4 40 = nI (k + 1) ∧ I4 S 3 = nI (k + 1) ∧ V4 (S + 1) k = some (1000000 + v) ∧ A4 (S + 2) k = a2 ∧ A4 (S + 3) k = a3 ∧ nd (B4 18) (129 + 4 * k) = x ∧ nd (B4 18) (130 + 4 * k) = a ∧ nd (B4 18) (131 + 4 * k) = b ∧ nd (B4 18) (132 + 4 * k) = r)
    (hk : k ≤ 2 * o) (v12 : 12 ≤ v) (v20 : v ≤ 20) (hx : x = nI (50 + v)) (h16 : v = 16 → a = a3) (h17 : 17 ≤ v → b = a3 ∧ r = a2)
    (h42 : J5 42 = nI u) (hJ : ∀ j, j ≠ 42 → j ≠ 43 → J5 j = J4 j) : Gx S t L u o k I A V J B (o + 1) (k + 1) I4 A4 V4 lt2 tw2 J5 w2 B4 := by
  obtain ⟨b1, b2, b3, b4, b5, b6, b7, b8, b9, b10, b11, b12⟩ := hA
  obtain ⟨⟨κ, v', s, hT⟩, s2, s3, s4, s5, s6, s7⟩ := hS
  refine ⟨⟨⟨κ, v', s, Tk_c hT (Nat.le_refl _) (fun j _ => by rw [b2 1 hS1]) (fun j hj => by rw [hJ j (by omega) (by omega), b3 j (by omega)])⟩, s2, by omega, b5, by rw [hJ 40 (by decide) (by decide)]; exact b4, by rw [hJ 41 (by decide) (by decide), b3 41 (by decide)]; exact s6, h42⟩, by omega, by omega, by omega, ⟨1, Or.inl ⟨v, v12, v20, by omega, ?_, ?_, ?_, ?_⟩⟩, by rw [b2 1 hS1]; exact h10, by rw [hJ 10 (by decide) (by decide), b3 10 (by decide)]; exact j10, Fx_t hF (Fx_t b1 (Fx_j (k := k) (fun _ _ => rfl) (fun j hj => hJ j (by omega) (by omega))) (Nat.le_refl _)) (Nat.le_refl _)⟩
  · rw [show k + 1 - 1 = k by omega, b9]; exact hx
  · rw [show k + 1 - 1 = k by omega]; exact b6
  · intro e; rw [show k + 1 - 1 = k by omega, b10, b8]; exact h16 e
  · intro e; rw [show k + 1 - 1 = k by omega, b11, b12, b7, b8]; exact h17 e
