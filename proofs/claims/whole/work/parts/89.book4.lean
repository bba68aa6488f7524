/-! BOOK: its lines one after another -/
theorem Fb_t {I A I1 A1 I2 A2 : Nat → Nat → Int32} {J J1 J2 : Nat → Int32} {B B1 B2 : Nat → Nat → Int32} (h : Fb I A J B I1 A1 J1 B1) (h' : Fb I1 A1 J1 B1 I2 A2 J2 B2) : Fb I A J B I2 A2 J2 B2 :=
  ⟨fun q q1 q2 => (h'.1 q q1 q2).trans (h.1 q q1 q2), fun k hk => (h'.2.1 k hk).trans (h.2.1 k hk), fun q q1 => (h'.2.2.1 q q1).trans (h.2.2.1 q q1), fun q q1 => (h'.2.2.2.1 q q1).trans (h.2.2.2.1 q q1), fun q q1 => (h'.2.2.2.2 q q1).trans (h.2.2.2.2 q q1)⟩
section BKO
variable (d d' sl sl' : Nat) (N : Nat → Nat → Int64) (V : Nat → Nat → Option Nat) (sp sr : Nat) (X : List AC) (M : Nat → Nat → Int64) {t L H : Nat} {b : Nat → Nat}
theorem bk_loop (a : Int32) (hH6 : H ≤ 6) (hN : Nm (N 4) (M 7) H) (hL : L ≤ 940) (hX : Nat.ble X.length 1 = true) : ∀ (q i : Nat) (I A : Nat → Nat → Int32) (lt : Int64) (tw : Option Nat) (J : Nat → Int32) (w : Int64) (B : Nat → Nat → Int32), i + q = 41 → i ≤ 40 → Bt t b A B → (∃ κ v s, Tk t L 0 κ v s (I 1) lt tw J w) → RB A B H i → I 101 4 = nI i → J 37 = nI i → I 3 8 = nI H → B 2 0 = nI H → I 1 10 = nI 0 → J 10 = nI 0 →
    (∃ l I' A' lt' tw' J' w' B', rt 9 (R (d + 6) 9 (7, [some (.ref 101), some (.ref 1), some (.ref 3), some (.int (nI i))], [], sl, CH I A N V lt tw sp sr X)) = some ([.int (x_b true)], sl, CH I' A' N V lt' tw' sp sr X) ∧ rt 265 (R (d' + 6) 265 (30, [some (.ref 0), some (.int a), none, none], [], sl', RH J w B M)) = rt 265 (bC (C (d' + 5) 235 [.ref 0] sl' (RH J' w' B' M)) (fun vs sl h => R (d' + 6) 265 (69, [some (.ref 0), some (.int a), none, none], vs ++ [], sl, h))) ∧ RB A' B' H l ∧ I' 101 4 = nI l ∧ J' 37 = nI l ∧ I' 1 10 = nI 0 ∧ J' 10 = nI 0 ∧ Fb I A J B I' A' J' B') ∨
    (∃ I' A' lt' tw' J' w' B', rt 9 (R (d + 6) 9 (7, [some (.ref 101), some (.ref 1), some (.ref 3), some (.int (nI i))], [], sl, CH I A N V lt tw sp sr X)) = some ([.int (x_b false)], sl, CH I' A' N V lt' tw' sp sr X) ∧ rt 265 (R (d' + 6) 265 (30, [some (.ref 0), some (.int a), none, none], [], sl', RH J w B M)) = some ([.int (-2 - J' 11)], sl', RH J' w' B' M) ∧ Fl (I' 1) J' ∧ Fb I A J B I' A' J' B') := by
  intro q
  induction q with
  | zero => intro i I A lt tw J w B hq hi; omega
  | succ q ih =>
    intro i I A lt tw J w B hq hi hB hT hR i4 j37 i38 b20 f10 j10
    obtain ⟨κ, v, s, h⟩ := hT
    have h940 : ¬ 940 ≤ i := by omega
    have e94 := q94 (d + 5) sl I A N V lt tw sp sr X h
    obtain ⟨k5, f4, j7, _⟩ := Tk_all h
    have hkr := kR_le k5
    by_cases hk : κ = 0
    · have hk0 : kR κ = 0 := kR_0.mpr hk
      rw [decide_eq_true hk] at e94
      refine Or.inl ⟨i, I, A, lt, tw, J, w, B, ?_, ?_, hR, i4, j37, f10, j10, fun _ _ _ => rfl, fun _ _ => rfl, fun _ _ => rfl, fun _ _ => rfl, fun _ _ => rfl⟩
      · rw [k9_r101_r1_r3_7]
        simp (disch := omega) only [rt_c, b_some, List.cons_append, List.nil_append, Bool.cond_not, cond_true, cond_false, Bool.cond_decide, nI_add, nI_clamp, xin_n, dle_e, dlt_e, deq_e, xb_0, xb_1, decide_true, decide_false, Bool.not_true, Bool.not_false, Bool.and_true, Bool.true_and, Bool.and_false, Bool.false_and, Bool.true_or, Bool.false_or, Bool.or_true, Bool.or_false, if_true, if_false, up1_s, n_31, Int32.lt_irrefl, h940, e94, k9_r101_r1_r3_18, xb_t, Nat.one_ne_zero, t9_22, t9_22_0, t9_22_1, t9_42, t9_42_0, t9_42_1, t9_50, t9_50_0, t9_50_1]
      · rw [m265_30, j7, hk0]
        simp (disch := omega) only [rt_c, b_some, List.cons_append, List.nil_append, Bool.cond_not, cond_true, cond_false, Bool.cond_decide, nI_add, nI_clamp, xin_n, dle_e, dlt_e, deq_e, xb_0, xb_1, decide_true, decide_false, Bool.not_true, Bool.not_false, Bool.and_true, Bool.true_and, Bool.and_false, Bool.false_and, Bool.true_or, Bool.false_or, Bool.or_true, Bool.or_false, if_true, if_false, up1_s, n_31, Int32.lt_irrefl]
    · have hk0 : ¬ kR κ = 0 := fun e => hk (kR_0.mp e)
      rw [decide_eq_false hk] at e94
      rcases rb_line d d' sl sl' I A N V lt tw sp sr X J w B M hH6 i38 b20 hN hB hL hX h hR i4 j37 with ⟨I1, A1, lt1, tw1, J1, w1, B1, z1, z2, ⟨κ1, v1, s1, t1⟩, z4, z5, z6, z7, z8, z9⟩ | ⟨I1, A1, lt1, tw1, J1, w1, B1, z1, z2, z3, z4⟩
      · have hB1 : Bt t b A1 B1 := Bt_c hB (z9.2.2.1 2 (by omega)) (z9.2.2.2.2 1 (by decide))
        rcases gd_end (d + 3) (d' + 2) sl sl' I1 A1 N V lt1 tw1 sp sr X J1 w1 B1 M hB1 hL hX t1 with ⟨I2, lt2, tw2, J2, w2, y1, y2, y3, y4⟩ | ⟨I2, J2, y1, y2, y3⟩
        · have r1 := z2 true J2 w2 B1 y2
          obtain ⟨⟨κ2, v2, s2, t2⟩, f10'', jk⟩ := y3.2
          have hfr : Fb I1 A1 J1 B1 I2 A1 (up1 J2 37 (nI (i + 1))) B1 := ⟨fun q q1 _ => y3.1 q q1, fun k _ => by rw [y3.1 101 (by decide)], fun _ _ => rfl, fun k hk => by rw [up1_n (by omega), jk k (by omega)], fun _ _ => rfl⟩
          have t2' : Tk t L 0 κ2 v2 s2 (I2 1) lt2 tw2 (up1 J2 37 (nI (i + 1))) w2 := by
            obtain ⟨p, q, a1, a2, a3, a4, a5, a6, a7, a8, a9, a10, a11, a12, a13, a14⟩ := Tk_le t2 (Nat.zero_le _)
            refine ⟨p, q, a1, a2, a3, ?_, a5, ?_, a7, ?_, a9, ?_, a11, a12, a13, ?_⟩
            · rw [up1_n (by decide)]; exact a4
            · rw [up1_n (by decide)]; exact a6
            · rw [up1_n (by decide)]; exact a8
            · rw [up1_n (by decide)]; exact a10
            · rw [up1_n (show (7 : Nat) ≠ 37 by decide), up1_n (show (8 : Nat) ≠ 37 by decide), up1_n (show (9 : Nat) ≠ 37 by decide)]; exact a14
          have j37' : J2 37 = nI i := by rw [jk 37 (by decide)]; exact z6
          have se1 : rt 9 (R (d + 6) 9 (7, [some (.ref 101), some (.ref 1), some (.ref 3), some (.int (nI i))], [], sl, CH I A N V lt tw sp sr X)) = rt 9 (R (d + 6) 9 (7, [some (.ref 101), some (.ref 1), some (.ref 3), some (.int (nI (i + 1)))], [], sl, CH I2 A1 N V lt2 tw2 sp sr X)) := by
            rw [k9_r101_r1_r3_7]
            simp (disch := omega) only [rt_c, b_some, List.cons_append, List.nil_append, Bool.cond_not, cond_true, cond_false, Bool.cond_decide, nI_add, nI_clamp, xin_n, dle_e, dlt_e, deq_e, xb_0, xb_1, decide_true, decide_false, Bool.not_true, Bool.not_false, Bool.and_true, Bool.true_and, Bool.and_false, Bool.false_and, Bool.true_or, Bool.false_or, Bool.or_true, Bool.or_false, if_true, if_false, up1_s, n_31, Int32.lt_irrefl, h940, e94, k9_r101_r1_r3_18, xb_f, xb_t, z1, k9_r101_r1_r3_29, Nat.one_ne_zero, y1, k9_r101_r1_r3_38]
          have se2 : rt 265 (R (d' + 6) 265 (30, [some (.ref 0), some (.int a), none, none], [], sl', RH J w B M)) = rt 265 (R (d' + 6) 265 (30, [some (.ref 0), some (.int a), none, none], [], sl', RH (up1 J2 37 (nI (i + 1))) w2 B1 M)) := by
            rw [m265_30, j7]
            simp (disch := omega) only [rt_c, b_some, List.cons_append, List.nil_append, Bool.cond_not, cond_true, cond_false, Bool.cond_decide, nI_add, nI_clamp, xin_n, dle_e, dlt_e, deq_e, xb_0, xb_1, decide_true, decide_false, Bool.not_true, Bool.not_false, Bool.and_true, Bool.true_and, Bool.and_false, Bool.false_and, Bool.true_or, Bool.false_or, Bool.or_true, Bool.or_false, if_true, if_false, up1_s, n_31, Int32.lt_irrefl, hk0, r1, m265_41, xb_t, Nat.one_ne_zero, j37']
          rw [se1, se2]
          have hi1 := z4.1
          rcases ih (i + 1) I2 A1 lt2 tw2 (up1 J2 37 (nI (i + 1))) w2 B1 (by omega) hi1 hB1 ⟨κ2, v2, s2, t2'⟩ z4 (by rw [y3.1 101 (by decide)]; exact z5) up1_s (by rw [y3.1 3 (by decide), z9.1 3 (by decide) (by decide)]; exact i38) (by rw [z9.2.2.2.2 2 (by decide)]; exact b20) (by rw [f10'', z7]; exact f10) (by rw [up1_n (by decide), jk 10 (by decide), z8]; exact j10) with ⟨l, I', A', lt', tw', J', w', B', a1, a2, a3, a4, a5, a6, a7, a8⟩ | ⟨I', A', lt', tw', J', w', B', a1, a2, a3, a4⟩
          · exact Or.inl ⟨l, I', A', lt', tw', J', w', B', a1, a2, a3, a4, a5, a6, a7, Fb_t z9 (Fb_t hfr a8)⟩
          · exact Or.inr ⟨I', A', lt', tw', J', w', B', a1, a2, a3, Fb_t z9 (Fb_t hfr a4)⟩
        · have r1 := z2 false J2 w1 B1 y2
          refine Or.inr ⟨I2, A1, lt1, tw1, J2, w1, B1, ?_, ?_, y3.2.1, Fb_t z9 (Fb_c (Bd_Cb y3) (fun _ _ => rfl))⟩
          · rw [k9_r101_r1_r3_7]
            simp (disch := omega) only [rt_c, b_some, List.cons_append, List.nil_append, Bool.cond_not, cond_true, cond_false, Bool.cond_decide, nI_add, nI_clamp, xin_n, dle_e, dlt_e, deq_e, xb_0, xb_1, decide_true, decide_false, Bool.not_true, Bool.not_false, Bool.and_true, Bool.true_and, Bool.and_false, Bool.false_and, Bool.true_or, Bool.false_or, Bool.or_true, Bool.or_false, if_true, if_false, up1_s, n_31, Int32.lt_irrefl, h940, e94, k9_r101_r1_r3_18, xb_f, xb_t, z1, k9_r101_r1_r3_29, Nat.one_ne_zero, y1, k9_r101_r1_r3_38, t9_22, t9_22_0, t9_22_1, t9_42, t9_42_0, t9_42_1, t9_50, t9_50_0, t9_50_1]
          · rw [m265_30, j7]
            simp (disch := omega) only [rt_c, b_some, List.cons_append, List.nil_append, Bool.cond_not, cond_true, cond_false, Bool.cond_decide, nI_add, nI_clamp, xin_n, dle_e, dlt_e, deq_e, xb_0, xb_1, decide_true, decide_false, Bool.not_true, Bool.not_false, Bool.and_true, Bool.true_and, Bool.and_false, Bool.false_and, Bool.true_or, Bool.false_or, Bool.or_true, Bool.or_false, if_true, if_false, up1_s, n_31, Int32.lt_irrefl, hk0, r1, m265_41, xb_f, t265_17, t265_51, t265_176]
      · refine Or.inr ⟨I1, A1, lt1, tw1, J1, w1, B1, ?_, ?_, z3, z4⟩
        · rw [k9_r101_r1_r3_7]
          simp (disch := omega) only [rt_c, b_some, List.cons_append, List.nil_append, Bool.cond_not, cond_true, cond_false, Bool.cond_decide, nI_add, nI_clamp, xin_n, dle_e, dlt_e, deq_e, xb_0, xb_1, decide_true, decide_false, Bool.not_true, Bool.not_false, Bool.and_true, Bool.true_and, Bool.and_false, Bool.false_and, Bool.true_or, Bool.false_or, Bool.or_true, Bool.or_false, if_true, if_false, up1_s, n_31, Int32.lt_irrefl, h940, e94, k9_r101_r1_r3_18, xb_f, xb_t, z1, k9_r101_r1_r3_29, t9_22, t9_22_0, t9_22_1, t9_42, t9_42_0, t9_42_1, t9_50, t9_50_0, t9_50_1]
        · rw [m265_30, j7]
          simp (disch := omega) only [rt_c, b_some, List.cons_append, List.nil_append, Bool.cond_not, cond_true, cond_false, Bool.cond_decide, nI_add, nI_clamp, xin_n, dle_e, dlt_e, deq_e, xb_0, xb_1, decide_true, decide_false, Bool.not_true, Bool.not_false, Bool.and_true, Bool.true_and, Bool.and_false, Bool.false_and, Bool.true_or, Bool.false_or, Bool.or_true, Bool.or_false, if_true, if_false, up1_s, n_31, Int32.lt_irrefl, hk0, z2, m265_41, xb_f, t265_17, t265_51, t265_176]
end BKO
