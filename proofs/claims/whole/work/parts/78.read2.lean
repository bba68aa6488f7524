/-! READERS: numbers, ends of lines, houses -/
set_option maxRecDepth 100000 in
theorem n186_0 (d sl : Nat) (I : Nat → Int32) (w : Int64) (A : Nat → Nat → Int32) (N : Nat → Nat → Int64) (a1 : Int32) (a2 : Int64) :
  R d 186 (0, [some (.ref 8), some (.int a1), some (.long a2), none, none], [], sl, (RH I w A N)) =
    R d 186 (3, [some (.ref 8), some (.int a1), some (.long a2), none, some (.int (nI 0))], [], sl, (RH I w A N)) :=
  (R_gob [3] 400 _ _ _).trans rfl
set_option maxRecDepth 100000 in
theorem n186_3 (d sl : Nat) (I : Nat → Int32) (w : Int64) (A : Nat → Nat → Int32) (N : Nat → Nat → Int64) (a1 : Int32) (a2 : Int64) (a4 : Int32) :
  R d 186 (3, [some (.ref 8), some (.int a1), some (.long a2), none, some (.int a4)], [], sl, (RH I w A N)) =
    cond (decide (a1 ≤ a4)) (some (28, [some (.ref 8), some (.int a1), some (.long a2), none, some (.int a4)], [.int (-1 : Int32)], sl, (RH I w A N))) (cond (x_in a4 6) (cond (!decide ((lg_cmp ((N 8) a4.toNatClampNeg) a2) = (nI 0))) (R d 186 (3, [some (.ref 8), some (.int a1), some (.long a2), none, some (.int (a4 + (nI 1)))], [], sl, (RH I w A N))) (some (20, [some (.ref 8), some (.int a1), some (.long a2), none, some (.int a4)], [.int a4], sl, (RH I w A N)))) none) :=
  (R_gob [3] 400 _ _ _).trans rfl
set_option maxRecDepth 100000 in
theorem n190_0 (d sl : Nat) (I : Nat → Int32) (w : Int64) (A : Nat → Nat → Int32) (N : Nat → Nat → Int64) (a2 : Int32) (a3 : Int32) :
  R (d + 1) 190 (0, [some (.ref 0), some (.ref 8), some (.int a2), some (.int a3)], [], sl, (RH I w A N)) =
    bC (C d 179 [.ref 0] sl (RH I w A N)) (fun vs sl h => R (d + 1) 190 (4, [some (.ref 0), some (.ref 8), some (.int a2), some (.int a3)], vs ++ [], sl, h)) :=
  (R_gob [4, 12, 23, 47, 52] 400 _ _ _).trans rfl
set_option maxRecDepth 100000 in
theorem n190_4 (d sl : Nat) (I : Nat → Int32) (w : Int64) (A : Nat → Nat → Int32) (N : Nat → Nat → Int64) (a2 : Int32) (a3 : Int32) (b0 : Int32) :
  R (d + 1) 190 (4, [some (.ref 0), some (.ref 8), some (.int a2), some (.int a3)], [.int b0], sl, (RH I w A N)) =
    cond (!decide (b0 = (nI 0))) (bC (C d 186 [.ref 8, .int a2, .long w] sl (RH I w A N)) (fun vs sl h => R (d + 1) 190 (23, [some (.ref 0), some (.ref 8), some (.int a2), some (.int a3)], vs ++ [.ref 0], sl, h))) (bC (C d 180 [.ref 0, .int (nI 1)] sl (RH I w A N)) (fun vs sl h => R (d + 1) 190 (12, [some (.ref 0), some (.ref 8), some (.int a2), some (.int a3)], vs ++ [], sl, h))) :=
  (R_gob [4, 12, 23, 47, 52] 400 _ _ _).trans rfl
set_option maxRecDepth 100000 in
theorem n190_23 (d sl : Nat) (I : Nat → Int32) (w : Int64) (A : Nat → Nat → Int32) (N : Nat → Nat → Int64) (a2 : Int32) (a3 : Int32) (b0 : Int32) :
  R (d + 1) 190 (23, [some (.ref 0), some (.ref 8), some (.int a2), some (.int a3)], [.int b0, .ref 0], sl, (RH I w A N)) =
    cond (decide (b0 = (-1 : Int32))) (bC (C d 180 [.ref 0, .int (nI 3)] sl (RH (up1 I 13 b0) w A N)) (fun vs sl h => R (d + 1) 190 (47, [some (.ref 0), some (.ref 8), some (.int a2), some (.int a3)], vs ++ [], sl, h))) (cond (!decide (b0 = a3)) (bC (C d 174 [.ref 0] sl (RH (up1 I 13 b0) w A N)) (fun vs sl h => R (d + 1) 190 (52, [some (.ref 0), some (.ref 8), some (.int a2), some (.int a3)], vs ++ [], sl, h))) (bC (C d 180 [.ref 0, .int (nI 3)] sl (RH (up1 I 13 b0) w A N)) (fun vs sl h => R (d + 1) 190 (47, [some (.ref 0), some (.ref 8), some (.int a2), some (.int a3)], vs ++ [], sl, h)))) :=
  (R_gob [4, 12, 23, 47, 52] 400 _ _ _).trans rfl
set_option maxRecDepth 100000 in
theorem n190_12 (d sl : Nat) (I : Nat → Int32) (w : Int64) (A : Nat → Nat → Int32) (N : Nat → Nat → Int64) (a2 : Int32) (a3 : Int32) (b0 : Int32) :
  R (d + 1) 190 (12, [some (.ref 0), some (.ref 8), some (.int a2), some (.int a3)], [.int b0], sl, (RH I w A N)) =
    some (12, [some (.ref 0), some (.ref 8), some (.int a2), some (.int a3)], [.int b0], sl, (RH I w A N)) :=
  (R_gob [4, 12, 23, 47, 52] 400 _ _ _).trans rfl
set_option maxRecDepth 100000 in
theorem n190_47 (d sl : Nat) (I : Nat → Int32) (w : Int64) (A : Nat → Nat → Int32) (N : Nat → Nat → Int64) (a2 : Int32) (a3 : Int32) (b0 : Int32) :
  R (d + 1) 190 (47, [some (.ref 0), some (.ref 8), some (.int a2), some (.int a3)], [.int b0], sl, (RH I w A N)) =
    some (47, [some (.ref 0), some (.ref 8), some (.int a2), some (.int a3)], [.int b0], sl, (RH I w A N)) :=
  (R_gob [4, 12, 23, 47, 52] 400 _ _ _).trans rfl
set_option maxRecDepth 100000 in
theorem n190_52 (d sl : Nat) (I : Nat → Int32) (w : Int64) (A : Nat → Nat → Int32) (N : Nat → Nat → Int64) (a2 : Int32) (a3 : Int32) :
  R (d + 1) 190 (52, [some (.ref 0), some (.ref 8), some (.int a2), some (.int a3)], [], sl, (RH I w A N)) =
    some (53, [some (.ref 0), some (.ref 8), some (.int a2), some (.int a3)], [.int (nI 1)], sl, (RH I w A N)) :=
  (R_gob [4, 12, 23, 47, 52] 400 _ _ _).trans rfl
theorem nI_m1 {h : Nat} (hh : h < 2 ^ 31) : ¬ nI h = (-1 : Int32) := fun e => by
  have := congrArg Int32.toInt e
  rw [nI_toInt hh] at this
  have h2 : (-1 : Int32).toInt = -1 := by decide
  omega
section RDS
variable (d d' sl sl' : Nat) (I : Nat → Nat → Int32) (A : Nat → Nat → Int32) (N : Nat → Nat → Int64) (V : Nat → Nat → Option Nat) (lt : Int64) (tw : Option Nat) (sp sr : Nat) (X : List AC) (J : Nat → Int32) (w : Int64) (B : Nat → Nat → Int32) (M : Nat → Nat → Int64) {t L n κ v : Nat} {s : List Nat} {b : Nat → Nat}
theorem rd_num {a z : Nat} (hz : z ≤ 999) (ha : a ≤ 999) (hB : Bt t b A B) (hL : L ≤ 940) (hX : Nat.ble X.length 1 = true) (h : Tk t L n κ v s (I 1) lt tw J w) :
    (∃ u f' lt' tw' J' w', a ≤ u ∧ u ≤ z ∧ C (d + 2) 102 [.ref 1, .int (nI a), .int (nI z)] sl (CH I A N V lt tw sp sr X) = some ([.int (x_b true)], sl, CH (up1 I 1 f') A N V lt' tw' sp sr X) ∧ C (d' + 2) 181 [.ref 0, .int (nI a), .int (nI z)] sl' (RH J w B M) = some ([.int (x_b true)], sl', RH J' w' B M) ∧ Go t L (n + 1) (I 1) f' lt' tw' J J' w' ∧ f' 9 = nI u ∧ J' 13 = nI u) ∨
    (∃ f' J', C (d + 2) 102 [.ref 1, .int (nI a), .int (nI z)] sl (CH I A N V lt tw sp sr X) = some ([.int (x_b false)], sl, CH (up1 I 1 f') A N V lt tw sp sr X) ∧ C (d' + 2) 181 [.ref 0, .int (nI a), .int (nI z)] sl' (RH J w B M) = some ([.int (x_b false)], sl', RH J' w B M) ∧ No (I 1) f' J J') := by
  obtain ⟨h1, h2, h3, _⟩ := Tk_all h
  have hkr := kR_le h1
  by_cases hk : κ = 4
  · subst hk
    obtain ⟨v1, v2, v3⟩ := Tk_num h
    have h4 : kR 4 = 3 := by decide
    have c1 := c166 (d' + 1) sl' J w B M
    by_cases hr : a ≤ v ∧ v ≤ z
    · have r1 : ¬ v < a := by omega
      have r2 := hr.1
      have r3 := hr.2
      obtain ⟨κ', v', s', f', lt', tw', J', w', x1, x2, x3, x4, x5⟩ := adv d d' sl sl' I A N V sp sr X B M hB hL hX h (by decide) (up1 (I 1) 9 (nI v)) (up1 J 13 (nI v)) (fun k hk => up1_n (by omega)) (fun k hk => up1_n (by omega))
      refine Or.inl ⟨v, f', lt', tw', J', w', hr.1, hr.2, ?_, ?_, ⟨⟨κ', v', s', x3⟩, by rw [x4 10 (by decide), up1_n (by decide)], fun k hk => by rw [x5 k (by omega), up1_n (by omega)]⟩, by rw [x4 9 (by decide), up1_s], by rw [x5 13 (by decide), up1_s]⟩
      · rw [e102, k102_r1_0, h2, v2]
        simp (disch := omega) only [rt_c, b_some, List.cons_append, List.nil_append, Bool.cond_not, cond_true, cond_false, Bool.cond_decide, nI_add, nI_clamp, xin_n, dle_e, dlt_e, deq_e, xb_0, xb_1, decide_true, decide_false, Bool.not_true, Bool.not_false, Bool.and_true, Bool.true_and, Bool.and_false, Bool.false_and, Bool.true_or, Bool.false_or, Bool.or_true, Bool.or_false, if_true, if_false, up1_s, n_31, Int32.lt_irrefl, r1, r3, x1, k102_r1_48, t102_13, t102_13_0, t102_13_1, t102_35, t102_35_0, t102_35_1, t102_49, t102_49_0, t102_49_1]
      · rw [e181, m181_0, h3, h4, v3]
        simp (disch := omega) only [rt_c, b_some, List.cons_append, List.nil_append, Bool.cond_not, cond_true, cond_false, Bool.cond_decide, nI_add, nI_clamp, xin_n, dle_e, dlt_e, deq_e, xb_0, xb_1, decide_true, decide_false, Bool.not_true, Bool.not_false, Bool.and_true, Bool.true_and, Bool.and_false, Bool.false_and, Bool.true_or, Bool.false_or, Bool.or_true, Bool.or_false, if_true, if_false, up1_s, n_31, Int32.lt_irrefl, c1, r2, r3, xb_t, Nat.one_ne_zero, m181_23, v3, x2, m181_44, t181_13, t181_13_0, t181_13_1, t181_31, t181_31_0, t181_31_1, t181_45, t181_45_0, t181_45_1]
    · refine Or.inr ⟨_, _, ?_, ?_, No_mk hB.1 h (c := 2) (by decide) (I 1) J (fun _ _ => rfl) (fun _ _ => rfl)⟩
      · rw [e102, k102_r1_0, h2, v2]
        by_cases r1 : v < a
        · simp (disch := omega) only [rt_c, b_some, List.cons_append, List.nil_append, Bool.cond_not, cond_true, cond_false, Bool.cond_decide, nI_add, nI_clamp, xin_n, dle_e, dlt_e, deq_e, xb_0, xb_1, decide_true, decide_false, Bool.not_true, Bool.not_false, Bool.and_true, Bool.true_and, Bool.and_false, Bool.false_and, Bool.true_or, Bool.false_or, Bool.or_true, Bool.or_false, if_true, if_false, up1_s, n_31, Int32.lt_irrefl, r1, q97, k102_r1_35, t102_13, t102_13_0, t102_13_1, t102_35, t102_35_0, t102_35_1, t102_49, t102_49_0, t102_49_1]
        · have r2 : ¬ v ≤ z := by omega
          simp (disch := omega) only [rt_c, b_some, List.cons_append, List.nil_append, Bool.cond_not, cond_true, cond_false, Bool.cond_decide, nI_add, nI_clamp, xin_n, dle_e, dlt_e, deq_e, xb_0, xb_1, decide_true, decide_false, Bool.not_true, Bool.not_false, Bool.and_true, Bool.true_and, Bool.and_false, Bool.false_and, Bool.true_or, Bool.false_or, Bool.or_true, Bool.or_false, if_true, if_false, up1_s, n_31, Int32.lt_irrefl, r1, r2, q97, k102_r1_35, t102_13, t102_13_0, t102_13_1, t102_35, t102_35_0, t102_35_1, t102_49, t102_49_0, t102_49_1]
      · have c2 := c180 (d' + 1) sl' J w B M (c := 2) h (Or.inl (by decide))
        rw [e181, m181_0, h3, h4, v3]
        by_cases r1 : a ≤ v
        · have r2 : ¬ v ≤ z := by omega
          simp (disch := omega) only [rt_c, b_some, List.cons_append, List.nil_append, Bool.cond_not, cond_true, cond_false, Bool.cond_decide, nI_add, nI_clamp, xin_n, dle_e, dlt_e, deq_e, xb_0, xb_1, decide_true, decide_false, Bool.not_true, Bool.not_false, Bool.and_true, Bool.true_and, Bool.and_false, Bool.false_and, Bool.true_or, Bool.false_or, Bool.or_true, Bool.or_false, if_true, if_false, up1_s, n_31, Int32.lt_irrefl, c1, r1, r2, xb_f, m181_23, c2, m181_31, t181_13, t181_13_0, t181_13_1, t181_31, t181_31_0, t181_31_1, t181_45, t181_45_0, t181_45_1]
        · simp (disch := omega) only [rt_c, b_some, List.cons_append, List.nil_append, Bool.cond_not, cond_true, cond_false, Bool.cond_decide, nI_add, nI_clamp, xin_n, dle_e, dlt_e, deq_e, xb_0, xb_1, decide_true, decide_false, Bool.not_true, Bool.not_false, Bool.and_true, Bool.true_and, Bool.and_false, Bool.false_and, Bool.true_or, Bool.false_or, Bool.or_true, Bool.or_false, if_true, if_false, up1_s, n_31, Int32.lt_irrefl, c1, r1, xb_f, m181_23, c2, m181_31, t181_13, t181_13_0, t181_13_1, t181_31, t181_31_0, t181_31_1, t181_45, t181_45_0, t181_45_1]
  · have h4 : ¬ kR κ = 3 := fun h => hk ((kR_eq h1 (by decide)).mp h)
    have c2 := c180 (d' + 1) sl' J w B M (c := 1) h (Or.inr rfl)
    refine Or.inr ⟨_, _, ?_, ?_, No_mk hB.1 h (c := 1) (by decide) (I 1) J (fun _ _ => rfl) (fun _ _ => rfl)⟩
    · rw [e102, k102_r1_0, h2]
      simp (disch := omega) only [rt_c, b_some, List.cons_append, List.nil_append, Bool.cond_not, cond_true, cond_false, Bool.cond_decide, nI_add, nI_clamp, xin_n, dle_e, dlt_e, deq_e, xb_0, xb_1, decide_true, decide_false, Bool.not_true, Bool.not_false, Bool.and_true, Bool.true_and, Bool.and_false, Bool.false_and, Bool.true_or, Bool.false_or, Bool.or_true, Bool.or_false, if_true, if_false, up1_s, n_31, Int32.lt_irrefl, hk, q97, k102_r1_13, t102_13, t102_13_0, t102_13_1, t102_35, t102_35_0, t102_35_1, t102_49, t102_49_0, t102_49_1]
    · rw [e181, m181_0, h3]
      simp (disch := omega) only [rt_c, b_some, List.cons_append, List.nil_append, Bool.cond_not, cond_true, cond_false, Bool.cond_decide, nI_add, nI_clamp, xin_n, dle_e, dlt_e, deq_e, xb_0, xb_1, decide_true, decide_false, Bool.not_true, Bool.not_false, Bool.and_true, Bool.true_and, Bool.and_false, Bool.false_and, Bool.true_or, Bool.false_or, Bool.or_true, Bool.or_false, if_true, if_false, up1_s, n_31, Int32.lt_irrefl, h4, c2, m181_13, t181_13, t181_13_0, t181_13_1, t181_31, t181_31_0, t181_31_1, t181_45, t181_45_0, t181_45_1]
theorem rd_end (hB : Bt t b A B) (hL : L ≤ 940) (hX : Nat.ble X.length 1 = true) (h : Tk t L n κ v s (I 1) lt tw J w) :
    (∃ f' lt' tw' J' w', C (d + 2) 98 [.ref 1, .int (nI 59)] sl (CH I A N V lt tw sp sr X) = some ([.int (x_b true)], sl, CH (up1 I 1 f') A N V lt' tw' sp sr X) ∧ C (d' + 2) 182 [.ref 0] sl' (RH J w B M) = some ([.int (x_b true)], sl', RH J' w' B M) ∧ Go t L (n + 1) (I 1) f' lt' tw' J J' w') ∨
    (∃ f' J', C (d + 2) 98 [.ref 1, .int (nI 59)] sl (CH I A N V lt tw sp sr X) = some ([.int (x_b false)], sl, CH (up1 I 1 f') A N V lt tw sp sr X) ∧ C (d' + 2) 182 [.ref 0] sl' (RH J w B M) = some ([.int (x_b false)], sl', RH J' w B M) ∧ No (I 1) f' J J') := by
  have m1 := q96 (d + 1) sl I A N V lt tw sp sr X (show 59 < 128 by decide) h
  have m2 := c178 (d' + 1) sl' J w B M (show 59 < 128 by decide) h
  by_cases hk : κ = 5 ∧ v = 59
  · rw [decide_eq_true hk] at m1 m2
    obtain ⟨κ', v', s', f', lt', tw', J', w', x1, x2, x3, x4, x5⟩ := adv d d' sl sl' I A N V sp sr X B M hB hL hX h (by omega) (I 1) J (fun k hk => rfl) (fun k hk => rfl)
    rw [up1_id] at x1
    refine Or.inl ⟨f', lt', tw', J', w', ?_, ?_, ⟨⟨κ', v', s', x3⟩, x4 10 (by decide), fun k hk => x5 k (by omega)⟩⟩
    · rw [e98, k98_r1_0]
      simp (disch := omega) only [rt_c, b_some, List.cons_append, List.nil_append, Bool.cond_not, cond_true, cond_false, Bool.cond_decide, nI_add, nI_clamp, xin_n, dle_e, dlt_e, deq_e, xb_0, xb_1, decide_true, decide_false, Bool.not_true, Bool.not_false, Bool.and_true, Bool.true_and, Bool.and_false, Bool.false_and, Bool.true_or, Bool.false_or, Bool.or_true, Bool.or_false, if_true, if_false, up1_s, n_31, Int32.lt_irrefl, m1, k98_r1_5, xb_t, Nat.one_ne_zero, x1, k98_r1_18, t98_13, t98_13_0, t98_13_1, t98_19, t98_19_0, t98_19_1]
    · rw [e182, m182_0]
      simp (disch := omega) only [rt_c, b_some, List.cons_append, List.nil_append, Bool.cond_not, cond_true, cond_false, Bool.cond_decide, nI_add, nI_clamp, xin_n, dle_e, dlt_e, deq_e, xb_0, xb_1, decide_true, decide_false, Bool.not_true, Bool.not_false, Bool.and_true, Bool.true_and, Bool.and_false, Bool.false_and, Bool.true_or, Bool.false_or, Bool.or_true, Bool.or_false, if_true, if_false, up1_s, n_31, Int32.lt_irrefl, m2, m182_6, xb_t, Nat.one_ne_zero, x2, m182_19, t182_14, t182_14_0, t182_14_1, t182_20, t182_20_0, t182_20_1]
  · rw [decide_eq_false hk] at m1 m2
    have c2 := c180 (d' + 1) sl' J w B M (c := 1) h (Or.inr rfl)
    refine Or.inr ⟨_, _, ?_, ?_, No_mk hB.1 h (c := 1) (by decide) (I 1) J (fun _ _ => rfl) (fun _ _ => rfl)⟩
    · rw [e98, k98_r1_0]
      simp (disch := omega) only [rt_c, b_some, List.cons_append, List.nil_append, Bool.cond_not, cond_true, cond_false, Bool.cond_decide, nI_add, nI_clamp, xin_n, dle_e, dlt_e, deq_e, xb_0, xb_1, decide_true, decide_false, Bool.not_true, Bool.not_false, Bool.and_true, Bool.true_and, Bool.and_false, Bool.false_and, Bool.true_or, Bool.false_or, Bool.or_true, Bool.or_false, if_true, if_false, up1_s, n_31, Int32.lt_irrefl, m1, k98_r1_5, xb_f, q97, k98_r1_13, t98_13, t98_13_0, t98_13_1, t98_19, t98_19_0, t98_19_1]
    · rw [e182, m182_0]
      simp (disch := omega) only [rt_c, b_some, List.cons_append, List.nil_append, Bool.cond_not, cond_true, cond_false, Bool.cond_decide, nI_add, nI_clamp, xin_n, dle_e, dlt_e, deq_e, xb_0, xb_1, decide_true, decide_false, Bool.not_true, Bool.not_false, Bool.and_true, Bool.true_and, Bool.and_false, Bool.false_and, Bool.true_or, Bool.false_or, Bool.or_true, Bool.or_false, if_true, if_false, up1_s, n_31, Int32.lt_irrefl, m2, m182_6, xb_f, c2, m182_14, t182_14, t182_14_0, t182_14_1, t182_20, t182_20_0, t182_20_1]
theorem fd_3 {H : Nat} (hH6 : H ≤ 6) (hH : I 3 8 = nI H) (hN : Nm (N 4) (M 7) H) (hs : Lts s) : ∃ o : Int32, (o = -1 ∨ ∃ h, h < H ∧ o = nI h) ∧ (o = -1 → ∀ h, h < H → M 7 h ≠ lN (p27 s)) ∧ C d 47 [.ref 3, .long (lN (p256 s))] sl (CH I A N V lt tw sp sr X) = some ([.int o], sl, CH I A N V lt tw sp sr X) ∧ C d' 186 [.ref 7, .int (nI H), .long (lN (p27 s))] sl' (RH J w B M) = some ([.int o], sl', RH J w B M) := by
  have key : ∀ (q i : Nat), i + q = H → (∀ h, h < i → M 7 h ≠ lN (p27 s)) → ∃ o : Int32, (o = -1 ∨ ∃ h, h < H ∧ o = nI h) ∧ (o = -1 → ∀ h, h < H → M 7 h ≠ lN (p27 s)) ∧ rt 47 (R d 47 (2, [some (.ref 3), some (.long (lN (p256 s))), none, some (.int (nI i))], [], sl, CH I A N V lt tw sp sr X)) = some ([.int o], sl, CH I A N V lt tw sp sr X) ∧ rt 186 (R d' 186 (3, [some (.ref 7), some (.int (nI H)), some (.long (lN (p27 s))), none, some (.int (nI i))], [], sl', RH J w B M)) = some ([.int o], sl', RH J w B M) := by
    intro q
    induction q with
    | zero =>
      intro i hi hno
      have hiH : H ≤ i := by omega
      refine ⟨-1, Or.inl rfl, fun _ h hh => hno h (by omega), ?_, ?_⟩
      · rw [k47_r3_2, hH]
        simp (disch := omega) only [rt_c, b_some, List.cons_append, List.nil_append, Bool.cond_not, cond_true, cond_false, Bool.cond_decide, nI_add, nI_clamp, xin_n, dle_e, dlt_e, deq_e, xb_0, xb_1, decide_true, decide_false, Bool.not_true, Bool.not_false, Bool.and_true, Bool.true_and, Bool.and_false, Bool.false_and, Bool.true_or, Bool.false_or, Bool.or_true, Bool.or_false, if_true, if_false, up1_s, n_31, Int32.lt_irrefl, hiH, t47_22, t47_30]
      · rw [m186_3]
        simp (disch := omega) only [rt_c, b_some, List.cons_append, List.nil_append, Bool.cond_not, cond_true, cond_false, Bool.cond_decide, nI_add, nI_clamp, xin_n, dle_e, dlt_e, deq_e, xb_0, xb_1, decide_true, decide_false, Bool.not_true, Bool.not_false, Bool.and_true, Bool.true_and, Bool.and_false, Bool.false_and, Bool.true_or, Bool.false_or, Bool.or_true, Bool.or_false, if_true, if_false, up1_s, n_31, Int32.lt_irrefl, hiH, t186_20, t186_28]
    | succ q ih =>
      intro i hi hno
      have hiH : ¬ H ≤ i := by omega
      have hnw := Nw_iff (hN i (by omega)) ⟨s, hs, rfl, rfl⟩
      by_cases he : M 7 i = lN (p27 s)
      · have he1 : (M 7 i = lN (p27 s)) = True := eq_true he
        have he2 : (N 4 i = lN (p256 s)) = True := eq_true (hnw.mpr he)
        refine ⟨nI i, Or.inr ⟨i, by omega, rfl⟩, fun h => absurd h (nI_m1 (by omega)), ?_, ?_⟩
        · rw [k47_r3_2, hH]
          simp (disch := omega) only [rt_c, b_some, List.cons_append, List.nil_append, Bool.cond_not, cond_true, cond_false, Bool.cond_decide, nI_add, nI_clamp, xin_n, dle_e, dlt_e, deq_e, xb_0, xb_1, decide_true, decide_false, Bool.not_true, Bool.not_false, Bool.and_true, Bool.true_and, Bool.and_false, Bool.false_and, Bool.true_or, Bool.false_or, Bool.or_true, Bool.or_false, if_true, if_false, up1_s, n_31, Int32.lt_irrefl, hiH, lg0, he2, t47_22, t47_30]
        · rw [m186_3]
          simp (disch := omega) only [rt_c, b_some, List.cons_append, List.nil_append, Bool.cond_not, cond_true, cond_false, Bool.cond_decide, nI_add, nI_clamp, xin_n, dle_e, dlt_e, deq_e, xb_0, xb_1, decide_true, decide_false, Bool.not_true, Bool.not_false, Bool.and_true, Bool.true_and, Bool.and_false, Bool.false_and, Bool.true_or, Bool.false_or, Bool.or_true, Bool.or_false, if_true, if_false, up1_s, n_31, Int32.lt_irrefl, hiH, lg0, he1, t186_20, t186_28]
      · have he2 : ¬ N 4 i = lN (p256 s) := fun e => he (hnw.mp e)
        obtain ⟨o, o1, o2, o3, o4⟩ := ih (i + 1) (by omega) (fun h hh => by
          by_cases hhi : h = i
          · rw [hhi]; exact he
          · exact hno h (by omega))
        refine ⟨o, o1, o2, ?_, ?_⟩
        · rw [k47_r3_2, hH]
          simp (disch := omega) only [rt_c, b_some, List.cons_append, List.nil_append, Bool.cond_not, cond_true, cond_false, Bool.cond_decide, nI_add, nI_clamp, xin_n, dle_e, dlt_e, deq_e, xb_0, xb_1, decide_true, decide_false, Bool.not_true, Bool.not_false, Bool.and_true, Bool.true_and, Bool.and_false, Bool.false_and, Bool.true_or, Bool.false_or, Bool.or_true, Bool.or_false, if_true, if_false, up1_s, n_31, Int32.lt_irrefl, hiH, lg0, he2, o3]
        · rw [m186_3]
          simp (disch := omega) only [rt_c, b_some, List.cons_append, List.nil_append, Bool.cond_not, cond_true, cond_false, Bool.cond_decide, nI_add, nI_clamp, xin_n, dle_e, dlt_e, deq_e, xb_0, xb_1, decide_true, decide_false, Bool.not_true, Bool.not_false, Bool.and_true, Bool.true_and, Bool.and_false, Bool.false_and, Bool.true_or, Bool.false_or, Bool.or_true, Bool.or_false, if_true, if_false, up1_s, n_31, Int32.lt_irrefl, hiH, lg0, he, o4]
  obtain ⟨o, o1, o2, o3, o4⟩ := key H 0 (by omega) (fun h hh => absurd hh (by omega))
  refine ⟨o, o1, o2, ?_, ?_⟩
  · rw [e47, k47_r3_0]; exact o3
  · rw [e186, m186_0]; exact o4
theorem rd_house_3 {H : Nat} (hH6 : H ≤ 6) (hH : I 3 8 = nI H) (hN : Nm (N 4) (M 7) H) (x : Int32) (hB : Bt t b A B) (hL : L ≤ 940) (hX : Nat.ble X.length 1 = true) (h : Tk t L n κ v s (I 1) lt tw J w) :
    (∃ u f' lt' tw' J' w', u < H ∧ ¬ nI u = x ∧ C (d + 2) 104 [.ref 1, .ref 3, .int x] sl (CH I A N V lt tw sp sr X) = some ([.int (x_b true)], sl, CH (up1 I 1 f') A N V lt' tw' sp sr X) ∧ C (d' + 3) 190 [.ref 0, .ref 7, .int (nI H), .int x] sl' (RH J w B M) = some ([.int (x_b true)], sl', RH J' w' B M) ∧ Go t L (n + 1) (I 1) f' lt' tw' J J' w' ∧ f' 9 = nI u ∧ J' 13 = nI u) ∨
    (∃ f' J', C (d + 2) 104 [.ref 1, .ref 3, .int x] sl (CH I A N V lt tw sp sr X) = some ([.int (x_b false)], sl, CH (up1 I 1 f') A N V lt tw sp sr X) ∧ C (d' + 3) 190 [.ref 0, .ref 7, .int (nI H), .int x] sl' (RH J w B M) = some ([.int (x_b false)], sl', RH J' w B M) ∧ No (I 1) f' J J') := by
  obtain ⟨h1, h2, h3, _⟩ := Tk_all h
  have m2 := c179 d' sl' J w B M h
  by_cases hk : κ = 3
  · subst hk
    rw [decide_eq_true (p := 3 = 3) rfl] at m2
    obtain ⟨s1, s2, s3, s4⟩ := Tk_name h
    obtain ⟨o, o1, o2, o3, o4⟩ := fd_3 (d + 1) (d' + 2) sl sl' I A N V lt tw sp sr X J w B M hH6 hH hN s1
    rw [← s3] at o3
    rw [← s4] at o4
    by_cases hg : o = -1 ∨ o = x
    · have c2 : C (d' + 2) 180 [.ref 0, .int (nI 3)] sl' (RH (up1 J 13 o) w B M) = some ([.int (x_b false)], sl', RH (up1 (up1 (up1 J 13 o) 10 (nI 3)) 11 (up1 J 13 o 6)) w B M) := by
        have g7 : up1 J 13 o 7 = nI 2 := by rw [up1_n (by decide), h3]; rfl
        rw [e180, m180_0, g7]
        simp (disch := omega) only [rt_c, b_some, List.cons_append, List.nil_append, Bool.cond_not, cond_true, cond_false, Bool.cond_decide, nI_add, nI_clamp, xin_n, dle_e, dlt_e, deq_e, xb_0, xb_1, decide_true, decide_false, Bool.not_true, Bool.not_false, Bool.and_true, Bool.true_and, Bool.and_false, Bool.false_and, Bool.true_or, Bool.false_or, Bool.or_true, Bool.or_false, if_true, if_false, up1_s, n_31, Int32.lt_irrefl, Nat.reduceEqDiff, t180_26, t180_26_0, t180_26_1]
      refine Or.inr ⟨_, _, ?_, ?_, No_mk hB.1 h (c := 3) (by decide) (I 1) (up1 J 13 o) (fun _ _ => rfl) (fun _ hk => up1_n hk)⟩
      · rw [e104, k104_r1_r3_0, h2]
        by_cases hg1 : o = -1
        · have hg1' : (o = -1) = True := eq_true hg1
          simp (disch := omega) only [rt_c, b_some, List.cons_append, List.nil_append, Bool.cond_not, cond_true, cond_false, Bool.cond_decide, nI_add, nI_clamp, xin_n, dle_e, dlt_e, deq_e, xb_0, xb_1, decide_true, decide_false, Bool.not_true, Bool.not_false, Bool.and_true, Bool.true_and, Bool.and_false, Bool.false_and, Bool.true_or, Bool.false_or, Bool.or_true, Bool.or_false, if_true, if_false, up1_s, n_31, Int32.lt_irrefl, o3, k104_r1_r3_22, hg1', q97, k104_r1_r3_38, t104_13, t104_13_0, t104_13_1, t104_38, t104_38_0, t104_38_1, t104_49, t104_49_0, t104_49_1]
        · have hg2 : (o = x) = True := eq_true (hg.resolve_left hg1)
          simp (disch := omega) only [rt_c, b_some, List.cons_append, List.nil_append, Bool.cond_not, cond_true, cond_false, Bool.cond_decide, nI_add, nI_clamp, xin_n, dle_e, dlt_e, deq_e, xb_0, xb_1, decide_true, decide_false, Bool.not_true, Bool.not_false, Bool.and_true, Bool.true_and, Bool.and_false, Bool.false_and, Bool.true_or, Bool.false_or, Bool.or_true, Bool.or_false, if_true, if_false, up1_s, n_31, Int32.lt_irrefl, o3, k104_r1_r3_22, hg1, hg2, q97, k104_r1_r3_38, t104_13, t104_13_0, t104_13_1, t104_38, t104_38_0, t104_38_1, t104_49, t104_49_0, t104_49_1]
      · rw [e190, m190_0]
        by_cases hg1 : o = -1
        · have hg1' : (o = -1) = True := eq_true hg1
          simp (disch := omega) only [rt_c, b_some, List.cons_append, List.nil_append, Bool.cond_not, cond_true, cond_false, Bool.cond_decide, nI_add, nI_clamp, xin_n, dle_e, dlt_e, deq_e, xb_0, xb_1, decide_true, decide_false, Bool.not_true, Bool.not_false, Bool.and_true, Bool.true_and, Bool.and_false, Bool.false_and, Bool.true_or, Bool.false_or, Bool.or_true, Bool.or_false, if_true, if_false, up1_s, n_31, Int32.lt_irrefl, m2, m190_4, xb_t, Nat.one_ne_zero, o4, m190_23, hg1', c2, m190_47, t190_12, t190_12_0, t190_12_1, t190_47, t190_47_0, t190_47_1, t190_53, t190_53_0, t190_53_1]
        · have hg2 : (o = x) = True := eq_true (hg.resolve_left hg1)
          simp (disch := omega) only [rt_c, b_some, List.cons_append, List.nil_append, Bool.cond_not, cond_true, cond_false, Bool.cond_decide, nI_add, nI_clamp, xin_n, dle_e, dlt_e, deq_e, xb_0, xb_1, decide_true, decide_false, Bool.not_true, Bool.not_false, Bool.and_true, Bool.true_and, Bool.and_false, Bool.false_and, Bool.true_or, Bool.false_or, Bool.or_true, Bool.or_false, if_true, if_false, up1_s, n_31, Int32.lt_irrefl, m2, m190_4, xb_t, Nat.one_ne_zero, o4, m190_23, hg1, hg2, c2, m190_47, t190_12, t190_12_0, t190_12_1, t190_47, t190_47_0, t190_47_1, t190_53, t190_53_0, t190_53_1]
    · have hg1 : ¬ o = -1 := fun h => hg (Or.inl h)
      have hg2 : ¬ o = x := fun h => hg (Or.inr h)
      obtain ⟨κ', v', s', f', lt', tw', J', w', x1, x2, x3, x4, x5⟩ := adv d (d' + 1) sl sl' I A N V sp sr X B M hB hL hX h (by decide) (up1 (I 1) 9 o) (up1 J 13 o) (fun k hk => up1_n (by omega)) (fun k hk => up1_n (by omega))
      rcases o1 with o1 | ⟨u, u1, u2⟩
      · exact absurd o1 hg1
      refine Or.inl ⟨u, f', lt', tw', J', w', u1, by rw [← u2]; exact hg2, ?_, ?_, ⟨⟨κ', v', s', x3⟩, by rw [x4 10 (by decide), up1_n (by decide)], fun k hk => by rw [x5 k (by omega), up1_n (by omega)]⟩, by rw [x4 9 (by decide), up1_s, u2], by rw [x5 13 (by decide), up1_s, u2]⟩
      · rw [e104, k104_r1_r3_0, h2]
        simp (disch := omega) only [rt_c, b_some, List.cons_append, List.nil_append, Bool.cond_not, cond_true, cond_false, Bool.cond_decide, nI_add, nI_clamp, xin_n, dle_e, dlt_e, deq_e, xb_0, xb_1, decide_true, decide_false, Bool.not_true, Bool.not_false, Bool.and_true, Bool.true_and, Bool.and_false, Bool.false_and, Bool.true_or, Bool.false_or, Bool.or_true, Bool.or_false, if_true, if_false, up1_s, n_31, Int32.lt_irrefl, o3, k104_r1_r3_22, hg1, hg2, x1, k104_r1_r3_48, t104_13, t104_13_0, t104_13_1, t104_38, t104_38_0, t104_38_1, t104_49, t104_49_0, t104_49_1]
      · rw [e190, m190_0]
        simp (disch := omega) only [rt_c, b_some, List.cons_append, List.nil_append, Bool.cond_not, cond_true, cond_false, Bool.cond_decide, nI_add, nI_clamp, xin_n, dle_e, dlt_e, deq_e, xb_0, xb_1, decide_true, decide_false, Bool.not_true, Bool.not_false, Bool.and_true, Bool.true_and, Bool.and_false, Bool.false_and, Bool.true_or, Bool.false_or, Bool.or_true, Bool.or_false, if_true, if_false, up1_s, n_31, Int32.lt_irrefl, m2, m190_4, xb_t, Nat.one_ne_zero, o4, m190_23, hg1, hg2, x2, m190_52, t190_12, t190_12_0, t190_12_1, t190_47, t190_47_0, t190_47_1, t190_53, t190_53_0, t190_53_1]
  · rw [decide_eq_false hk] at m2
    have c2 := c180 (d' + 2) sl' J w B M (c := 1) h (Or.inr rfl)
    refine Or.inr ⟨_, _, ?_, ?_, No_mk hB.1 h (c := 1) (by decide) (I 1) J (fun _ _ => rfl) (fun _ _ => rfl)⟩
    · rw [e104, k104_r1_r3_0, h2]
      simp (disch := omega) only [rt_c, b_some, List.cons_append, List.nil_append, Bool.cond_not, cond_true, cond_false, Bool.cond_decide, nI_add, nI_clamp, xin_n, dle_e, dlt_e, deq_e, xb_0, xb_1, decide_true, decide_false, Bool.not_true, Bool.not_false, Bool.and_true, Bool.true_and, Bool.and_false, Bool.false_and, Bool.true_or, Bool.false_or, Bool.or_true, Bool.or_false, if_true, if_false, up1_s, n_31, Int32.lt_irrefl, hk, q97, k104_r1_r3_13, t104_13, t104_13_0, t104_13_1, t104_38, t104_38_0, t104_38_1, t104_49, t104_49_0, t104_49_1]
    · rw [e190, m190_0]
      simp (disch := omega) only [rt_c, b_some, List.cons_append, List.nil_append, Bool.cond_not, cond_true, cond_false, Bool.cond_decide, nI_add, nI_clamp, xin_n, dle_e, dlt_e, deq_e, xb_0, xb_1, decide_true, decide_false, Bool.not_true, Bool.not_false, Bool.and_true, Bool.true_and, Bool.and_false, Bool.false_and, Bool.true_or, Bool.false_or, Bool.or_true, Bool.or_false, if_true, if_false, up1_s, n_31, Int32.lt_irrefl, m2, m190_4, xb_f, c2, m190_12, t190_12, t190_12_0, t190_12_1, t190_47, t190_47_0, t190_47_1, t190_53, t190_53_0, t190_53_1]
theorem fd_12 {H : Nat} (hH6 : H ≤ 6) (hH : I 12 8 = nI H) (hN : Nm (N 13) (M 8) H) (hs : Lts s) : ∃ o : Int32, (o = -1 ∨ ∃ h, h < H ∧ o = nI h) ∧ (o = -1 → ∀ h, h < H → M 8 h ≠ lN (p27 s)) ∧ C d 47 [.ref 12, .long (lN (p256 s))] sl (CH I A N V lt tw sp sr X) = some ([.int o], sl, CH I A N V lt tw sp sr X) ∧ C d' 186 [.ref 8, .int (nI H), .long (lN (p27 s))] sl' (RH J w B M) = some ([.int o], sl', RH J w B M) := by
  have key : ∀ (q i : Nat), i + q = H → (∀ h, h < i → M 8 h ≠ lN (p27 s)) → ∃ o : Int32, (o = -1 ∨ ∃ h, h < H ∧ o = nI h) ∧ (o = -1 → ∀ h, h < H → M 8 h ≠ lN (p27 s)) ∧ rt 47 (R d 47 (2, [some (.ref 12), some (.long (lN (p256 s))), none, some (.int (nI i))], [], sl, CH I A N V lt tw sp sr X)) = some ([.int o], sl, CH I A N V lt tw sp sr X) ∧ rt 186 (R d' 186 (3, [some (.ref 8), some (.int (nI H)), some (.long (lN (p27 s))), none, some (.int (nI i))], [], sl', RH J w B M)) = some ([.int o], sl', RH J w B M) := by
    intro q
    induction q with
    | zero =>
      intro i hi hno
      have hiH : H ≤ i := by omega
      refine ⟨-1, Or.inl rfl, fun _ h hh => hno h (by omega), ?_, ?_⟩
      · rw [k47_r12_2, hH]
        simp (disch := omega) only [rt_c, b_some, List.cons_append, List.nil_append, Bool.cond_not, cond_true, cond_false, Bool.cond_decide, nI_add, nI_clamp, xin_n, dle_e, dlt_e, deq_e, xb_0, xb_1, decide_true, decide_false, Bool.not_true, Bool.not_false, Bool.and_true, Bool.true_and, Bool.and_false, Bool.false_and, Bool.true_or, Bool.false_or, Bool.or_true, Bool.or_false, if_true, if_false, up1_s, n_31, Int32.lt_irrefl, hiH, t47_22, t47_30]
      · rw [n186_3]
        simp (disch := omega) only [rt_c, b_some, List.cons_append, List.nil_append, Bool.cond_not, cond_true, cond_false, Bool.cond_decide, nI_add, nI_clamp, xin_n, dle_e, dlt_e, deq_e, xb_0, xb_1, decide_true, decide_false, Bool.not_true, Bool.not_false, Bool.and_true, Bool.true_and, Bool.and_false, Bool.false_and, Bool.true_or, Bool.false_or, Bool.or_true, Bool.or_false, if_true, if_false, up1_s, n_31, Int32.lt_irrefl, hiH, t186_20, t186_28]
    | succ q ih =>
      intro i hi hno
      have hiH : ¬ H ≤ i := by omega
      have hnw := Nw_iff (hN i (by omega)) ⟨s, hs, rfl, rfl⟩
      by_cases he : M 8 i = lN (p27 s)
      · have he1 : (M 8 i = lN (p27 s)) = True := eq_true he
        have he2 : (N 13 i = lN (p256 s)) = True := eq_true (hnw.mpr he)
        refine ⟨nI i, Or.inr ⟨i, by omega, rfl⟩, fun h => absurd h (nI_m1 (by omega)), ?_, ?_⟩
        · rw [k47_r12_2, hH]
          simp (disch := omega) only [rt_c, b_some, List.cons_append, List.nil_append, Bool.cond_not, cond_true, cond_false, Bool.cond_decide, nI_add, nI_clamp, xin_n, dle_e, dlt_e, deq_e, xb_0, xb_1, decide_true, decide_false, Bool.not_true, Bool.not_false, Bool.and_true, Bool.true_and, Bool.and_false, Bool.false_and, Bool.true_or, Bool.false_or, Bool.or_true, Bool.or_false, if_true, if_false, up1_s, n_31, Int32.lt_irrefl, hiH, lg0, he2, t47_22, t47_30]
        · rw [n186_3]
          simp (disch := omega) only [rt_c, b_some, List.cons_append, List.nil_append, Bool.cond_not, cond_true, cond_false, Bool.cond_decide, nI_add, nI_clamp, xin_n, dle_e, dlt_e, deq_e, xb_0, xb_1, decide_true, decide_false, Bool.not_true, Bool.not_false, Bool.and_true, Bool.true_and, Bool.and_false, Bool.false_and, Bool.true_or, Bool.false_or, Bool.or_true, Bool.or_false, if_true, if_false, up1_s, n_31, Int32.lt_irrefl, hiH, lg0, he1, t186_20, t186_28]
      · have he2 : ¬ N 13 i = lN (p256 s) := fun e => he (hnw.mp e)
        obtain ⟨o, o1, o2, o3, o4⟩ := ih (i + 1) (by omega) (fun h hh => by
          by_cases hhi : h = i
          · rw [hhi]; exact he
          · exact hno h (by omega))
        refine ⟨o, o1, o2, ?_, ?_⟩
        · rw [k47_r12_2, hH]
          simp (disch := omega) only [rt_c, b_some, List.cons_append, List.nil_append, Bool.cond_not, cond_true, cond_false, Bool.cond_decide, nI_add, nI_clamp, xin_n, dle_e, dlt_e, deq_e, xb_0, xb_1, decide_true, decide_false, Bool.not_true, Bool.not_false, Bool.and_true, Bool.true_and, Bool.and_false, Bool.false_and, Bool.true_or, Bool.false_or, Bool.or_true, Bool.or_false, if_true, if_false, up1_s, n_31, Int32.lt_irrefl, hiH, lg0, he2, o3]
        · rw [n186_3]
          simp (disch := omega) only [rt_c, b_some, List.cons_append, List.nil_append, Bool.cond_not, cond_true, cond_false, Bool.cond_decide, nI_add, nI_clamp, xin_n, dle_e, dlt_e, deq_e, xb_0, xb_1, decide_true, decide_false, Bool.not_true, Bool.not_false, Bool.and_true, Bool.true_and, Bool.and_false, Bool.false_and, Bool.true_or, Bool.false_or, Bool.or_true, Bool.or_false, if_true, if_false, up1_s, n_31, Int32.lt_irrefl, hiH, lg0, he, o4]
  obtain ⟨o, o1, o2, o3, o4⟩ := key H 0 (by omega) (fun h hh => absurd hh (by omega))
  refine ⟨o, o1, o2, ?_, ?_⟩
  · rw [e47, k47_r12_0]; exact o3
  · rw [e186, n186_0]; exact o4
theorem rd_house_12 {H : Nat} (hH6 : H ≤ 6) (hH : I 12 8 = nI H) (hN : Nm (N 13) (M 8) H) (x : Int32) (hB : Bt t b A B) (hL : L ≤ 940) (hX : Nat.ble X.length 1 = true) (h : Tk t L n κ v s (I 1) lt tw J w) :
    (∃ u f' lt' tw' J' w', u < H ∧ ¬ nI u = x ∧ C (d + 2) 104 [.ref 1, .ref 12, .int x] sl (CH I A N V lt tw sp sr X) = some ([.int (x_b true)], sl, CH (up1 I 1 f') A N V lt' tw' sp sr X) ∧ C (d' + 3) 190 [.ref 0, .ref 8, .int (nI H), .int x] sl' (RH J w B M) = some ([.int (x_b true)], sl', RH J' w' B M) ∧ Go t L (n + 1) (I 1) f' lt' tw' J J' w' ∧ f' 9 = nI u ∧ J' 13 = nI u) ∨
    (∃ f' J', C (d + 2) 104 [.ref 1, .ref 12, .int x] sl (CH I A N V lt tw sp sr X) = some ([.int (x_b false)], sl, CH (up1 I 1 f') A N V lt tw sp sr X) ∧ C (d' + 3) 190 [.ref 0, .ref 8, .int (nI H), .int x] sl' (RH J w B M) = some ([.int (x_b false)], sl', RH J' w B M) ∧ No (I 1) f' J J') := by
  obtain ⟨h1, h2, h3, _⟩ := Tk_all h
  have m2 := c179 d' sl' J w B M h
  by_cases hk : κ = 3
  · subst hk
    rw [decide_eq_true (p := 3 = 3) rfl] at m2
    obtain ⟨s1, s2, s3, s4⟩ := Tk_name h
    obtain ⟨o, o1, o2, o3, o4⟩ := fd_12 (d + 1) (d' + 2) sl sl' I A N V lt tw sp sr X J w B M hH6 hH hN s1
    rw [← s3] at o3
    rw [← s4] at o4
    by_cases hg : o = -1 ∨ o = x
    · have c2 : C (d' + 2) 180 [.ref 0, .int (nI 3)] sl' (RH (up1 J 13 o) w B M) = some ([.int (x_b false)], sl', RH (up1 (up1 (up1 J 13 o) 10 (nI 3)) 11 (up1 J 13 o 6)) w B M) := by
        have g7 : up1 J 13 o 7 = nI 2 := by rw [up1_n (by decide), h3]; rfl
        rw [e180, m180_0, g7]
        simp (disch := omega) only [rt_c, b_some, List.cons_append, List.nil_append, Bool.cond_not, cond_true, cond_false, Bool.cond_decide, nI_add, nI_clamp, xin_n, dle_e, dlt_e, deq_e, xb_0, xb_1, decide_true, decide_false, Bool.not_true, Bool.not_false, Bool.and_true, Bool.true_and, Bool.and_false, Bool.false_and, Bool.true_or, Bool.false_or, Bool.or_true, Bool.or_false, if_true, if_false, up1_s, n_31, Int32.lt_irrefl, Nat.reduceEqDiff, t180_26, t180_26_0, t180_26_1]
      refine Or.inr ⟨_, _, ?_, ?_, No_mk hB.1 h (c := 3) (by decide) (I 1) (up1 J 13 o) (fun _ _ => rfl) (fun _ hk => up1_n hk)⟩
      · rw [e104, k104_r1_r12_0, h2]
        by_cases hg1 : o = -1
        · have hg1' : (o = -1) = True := eq_true hg1
          simp (disch := omega) only [rt_c, b_some, List.cons_append, List.nil_append, Bool.cond_not, cond_true, cond_false, Bool.cond_decide, nI_add, nI_clamp, xin_n, dle_e, dlt_e, deq_e, xb_0, xb_1, decide_true, decide_false, Bool.not_true, Bool.not_false, Bool.and_true, Bool.true_and, Bool.and_false, Bool.false_and, Bool.true_or, Bool.false_or, Bool.or_true, Bool.or_false, if_true, if_false, up1_s, n_31, Int32.lt_irrefl, o3, k104_r1_r12_22, hg1', q97, k104_r1_r12_38, t104_13, t104_13_0, t104_13_1, t104_38, t104_38_0, t104_38_1, t104_49, t104_49_0, t104_49_1]
        · have hg2 : (o = x) = True := eq_true (hg.resolve_left hg1)
          simp (disch := omega) only [rt_c, b_some, List.cons_append, List.nil_append, Bool.cond_not, cond_true, cond_false, Bool.cond_decide, nI_add, nI_clamp, xin_n, dle_e, dlt_e, deq_e, xb_0, xb_1, decide_true, decide_false, Bool.not_true, Bool.not_false, Bool.and_true, Bool.true_and, Bool.and_false, Bool.false_and, Bool.true_or, Bool.false_or, Bool.or_true, Bool.or_false, if_true, if_false, up1_s, n_31, Int32.lt_irrefl, o3, k104_r1_r12_22, hg1, hg2, q97, k104_r1_r12_38, t104_13, t104_13_0, t104_13_1, t104_38, t104_38_0, t104_38_1, t104_49, t104_49_0, t104_49_1]
      · rw [e190, n190_0]
        by_cases hg1 : o = -1
        · have hg1' : (o = -1) = True := eq_true hg1
          simp (disch := omega) only [rt_c, b_some, List.cons_append, List.nil_append, Bool.cond_not, cond_true, cond_false, Bool.cond_decide, nI_add, nI_clamp, xin_n, dle_e, dlt_e, deq_e, xb_0, xb_1, decide_true, decide_false, Bool.not_true, Bool.not_false, Bool.and_true, Bool.true_and, Bool.and_false, Bool.false_and, Bool.true_or, Bool.false_or, Bool.or_true, Bool.or_false, if_true, if_false, up1_s, n_31, Int32.lt_irrefl, m2, n190_4, xb_t, Nat.one_ne_zero, o4, n190_23, hg1', c2, n190_47, t190_12, t190_12_0, t190_12_1, t190_47, t190_47_0, t190_47_1, t190_53, t190_53_0, t190_53_1]
        · have hg2 : (o = x) = True := eq_true (hg.resolve_left hg1)
          simp (disch := omega) only [rt_c, b_some, List.cons_append, List.nil_append, Bool.cond_not, cond_true, cond_false, Bool.cond_decide, nI_add, nI_clamp, xin_n, dle_e, dlt_e, deq_e, xb_0, xb_1, decide_true, decide_false, Bool.not_true, Bool.not_false, Bool.and_true, Bool.true_and, Bool.and_false, Bool.false_and, Bool.true_or, Bool.false_or, Bool.or_true, Bool.or_false, if_true, if_false, up1_s, n_31, Int32.lt_irrefl, m2, n190_4, xb_t, Nat.one_ne_zero, o4, n190_23, hg1, hg2, c2, n190_47, t190_12, t190_12_0, t190_12_1, t190_47, t190_47_0, t190_47_1, t190_53, t190_53_0, t190_53_1]
    · have hg1 : ¬ o = -1 := fun h => hg (Or.inl h)
      have hg2 : ¬ o = x := fun h => hg (Or.inr h)
      obtain ⟨κ', v', s', f', lt', tw', J', w', x1, x2, x3, x4, x5⟩ := adv d (d' + 1) sl sl' I A N V sp sr X B M hB hL hX h (by decide) (up1 (I 1) 9 o) (up1 J 13 o) (fun k hk => up1_n (by omega)) (fun k hk => up1_n (by omega))
      rcases o1 with o1 | ⟨u, u1, u2⟩
      · exact absurd o1 hg1
      refine Or.inl ⟨u, f', lt', tw', J', w', u1, by rw [← u2]; exact hg2, ?_, ?_, ⟨⟨κ', v', s', x3⟩, by rw [x4 10 (by decide), up1_n (by decide)], fun k hk => by rw [x5 k (by omega), up1_n (by omega)]⟩, by rw [x4 9 (by decide), up1_s, u2], by rw [x5 13 (by decide), up1_s, u2]⟩
      · rw [e104, k104_r1_r12_0, h2]
        simp (disch := omega) only [rt_c, b_some, List.cons_append, List.nil_append, Bool.cond_not, cond_true, cond_false, Bool.cond_decide, nI_add, nI_clamp, xin_n, dle_e, dlt_e, deq_e, xb_0, xb_1, decide_true, decide_false, Bool.not_true, Bool.not_false, Bool.and_true, Bool.true_and, Bool.and_false, Bool.false_and, Bool.true_or, Bool.false_or, Bool.or_true, Bool.or_false, if_true, if_false, up1_s, n_31, Int32.lt_irrefl, o3, k104_r1_r12_22, hg1, hg2, x1, k104_r1_r12_48, t104_13, t104_13_0, t104_13_1, t104_38, t104_38_0, t104_38_1, t104_49, t104_49_0, t104_49_1]
      · rw [e190, n190_0]
        simp (disch := omega) only [rt_c, b_some, List.cons_append, List.nil_append, Bool.cond_not, cond_true, cond_false, Bool.cond_decide, nI_add, nI_clamp, xin_n, dle_e, dlt_e, deq_e, xb_0, xb_1, decide_true, decide_false, Bool.not_true, Bool.not_false, Bool.and_true, Bool.true_and, Bool.and_false, Bool.false_and, Bool.true_or, Bool.false_or, Bool.or_true, Bool.or_false, if_true, if_false, up1_s, n_31, Int32.lt_irrefl, m2, n190_4, xb_t, Nat.one_ne_zero, o4, n190_23, hg1, hg2, x2, n190_52, t190_12, t190_12_0, t190_12_1, t190_47, t190_47_0, t190_47_1, t190_53, t190_53_0, t190_53_1]
  · rw [decide_eq_false hk] at m2
    have c2 := c180 (d' + 2) sl' J w B M (c := 1) h (Or.inr rfl)
    refine Or.inr ⟨_, _, ?_, ?_, No_mk hB.1 h (c := 1) (by decide) (I 1) J (fun _ _ => rfl) (fun _ _ => rfl)⟩
    · rw [e104, k104_r1_r12_0, h2]
      simp (disch := omega) only [rt_c, b_some, List.cons_append, List.nil_append, Bool.cond_not, cond_true, cond_false, Bool.cond_decide, nI_add, nI_clamp, xin_n, dle_e, dlt_e, deq_e, xb_0, xb_1, decide_true, decide_false, Bool.not_true, Bool.not_false, Bool.and_true, Bool.true_and, Bool.and_false, Bool.false_and, Bool.true_or, Bool.false_or, Bool.or_true, Bool.or_false, if_true, if_false, up1_s, n_31, Int32.lt_irrefl, hk, q97, k104_r1_r12_13, t104_13, t104_13_0, t104_13_1, t104_38, t104_38_0, t104_38_1, t104_49, t104_49_0, t104_49_1]
    · rw [e190, n190_0]
      simp (disch := omega) only [rt_c, b_some, List.cons_append, List.nil_append, Bool.cond_not, cond_true, cond_false, Bool.cond_decide, nI_add, nI_clamp, xin_n, dle_e, dlt_e, deq_e, xb_0, xb_1, decide_true, decide_false, Bool.not_true, Bool.not_false, Bool.and_true, Bool.true_and, Bool.and_false, Bool.false_and, Bool.true_or, Bool.false_or, Bool.or_true, Bool.or_false, if_true, if_false, up1_s, n_31, Int32.lt_irrefl, m2, n190_4, xb_f, c2, n190_12, t190_12, t190_12_0, t190_12_1, t190_47, t190_47_0, t190_47_1, t190_53, t190_53_0, t190_53_1]
end RDS
