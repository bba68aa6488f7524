/-! BOOK: a line that borrows; any line -/
section BKM
variable (V : Nat → Nat → Option Nat) (sp sr : Nat) (A : Nat → Nat → Int32) (N M : Nat → Nat → Int64) {H : Nat} {s : List Nat}
theorem fd_u (hH6 : H ≤ 6) (hN : Nm (N 4) (M 7) H) (hs : Lts s) : ∃ o : Int32, (o = -1 ∨ ∃ h, h < H ∧ o = nI h) ∧ (∀ (d sl : Nat) (I : Nat → Nat → Int32) (lt : Int64) (tw : Option Nat) (X : List AC), I 3 8 = nI H → C d 47 [.ref 3, .long (lN (p256 s))] sl (CH I A N V lt tw sp sr X) = some ([.int o], sl, CH I A N V lt tw sp sr X)) ∧ (∀ (d' sl' : Nat) (J : Nat → Int32) (w : Int64) (B : Nat → Nat → Int32), C d' 186 [.ref 7, .int (nI H), .long (lN (p27 s))] sl' (RH J w B M) = some ([.int o], sl', RH J w B M)) := by
  have key : ∀ (q i : Nat), i + q = H → ∃ o : Int32, (o = -1 ∨ ∃ h, h < H ∧ o = nI h) ∧ (∀ (d sl : Nat) (I : Nat → Nat → Int32) (lt : Int64) (tw : Option Nat) (X : List AC), I 3 8 = nI H → rt 47 (R d 47 (2, [some (.ref 3), some (.long (lN (p256 s))), none, some (.int (nI i))], [], sl, CH I A N V lt tw sp sr X)) = some ([.int o], sl, CH I A N V lt tw sp sr X)) ∧ (∀ (d' sl' : Nat) (J : Nat → Int32) (w : Int64) (B : Nat → Nat → Int32), rt 186 (R d' 186 (3, [some (.ref 7), some (.int (nI H)), some (.long (lN (p27 s))), none, some (.int (nI i))], [], sl', RH J w B M)) = some ([.int o], sl', RH J w B M)) := by
    intro q
    induction q with
    | zero =>
      intro i hi
      have hiH : H ≤ i := by omega
      refine ⟨-1, Or.inl rfl, fun d sl I lt tw X hH => ?_, fun d' sl' J w B => ?_⟩
      · rw [k47_r3_2, hH]
        simp (disch := omega) only [rt_c, b_some, List.cons_append, List.nil_append, Bool.cond_not, cond_true, cond_false, Bool.cond_decide, nI_add, nI_clamp, xin_n, dle_e, dlt_e, deq_e, xb_0, xb_1, decide_true, decide_false, Bool.not_true, Bool.not_false, Bool.and_true, Bool.true_and, Bool.and_false, Bool.false_and, Bool.true_or, Bool.false_or, Bool.or_true, Bool.or_false, if_true, if_false, up1_s, n_31, Int32.lt_irrefl, hiH, t47_22, t47_30]
      · rw [m186_3]
        simp (disch := omega) only [rt_c, b_some, List.cons_append, List.nil_append, Bool.cond_not, cond_true, cond_false, Bool.cond_decide, nI_add, nI_clamp, xin_n, dle_e, dlt_e, deq_e, xb_0, xb_1, decide_true, decide_false, Bool.not_true, Bool.not_false, Bool.and_true, Bool.true_and, Bool.and_false, Bool.false_and, Bool.true_or, Bool.false_or, Bool.or_true, Bool.or_false, if_true, if_false, up1_s, n_31, Int32.lt_irrefl, hiH, t186_20, t186_28]
    | succ q ih =>
      intro i hi
      have hiH : ¬ H ≤ i := by omega
      have hnw := Nw_iff (hN i (by omega)) ⟨s, hs, rfl, rfl⟩
      by_cases he : M 7 i = lN (p27 s)
      · have he1 : (M 7 i = lN (p27 s)) = True := eq_true he
        have he2 : (N 4 i = lN (p256 s)) = True := eq_true (hnw.mpr he)
        refine ⟨nI i, Or.inr ⟨i, by omega, rfl⟩, fun d sl I lt tw X hH => ?_, fun d' sl' J w B => ?_⟩
        · rw [k47_r3_2, hH]
          simp (disch := omega) only [rt_c, b_some, List.cons_append, List.nil_append, Bool.cond_not, cond_true, cond_false, Bool.cond_decide, nI_add, nI_clamp, xin_n, dle_e, dlt_e, deq_e, xb_0, xb_1, decide_true, decide_false, Bool.not_true, Bool.not_false, Bool.and_true, Bool.true_and, Bool.and_false, Bool.false_and, Bool.true_or, Bool.false_or, Bool.or_true, Bool.or_false, if_true, if_false, up1_s, n_31, Int32.lt_irrefl, hiH, lg0, he2, t47_22, t47_30]
        · rw [m186_3]
          simp (disch := omega) only [rt_c, b_some, List.cons_append, List.nil_append, Bool.cond_not, cond_true, cond_false, Bool.cond_decide, nI_add, nI_clamp, xin_n, dle_e, dlt_e, deq_e, xb_0, xb_1, decide_true, decide_false, Bool.not_true, Bool.not_false, Bool.and_true, Bool.true_and, Bool.and_false, Bool.false_and, Bool.true_or, Bool.false_or, Bool.or_true, Bool.or_false, if_true, if_false, up1_s, n_31, Int32.lt_irrefl, hiH, lg0, he1, t186_20, t186_28]
      · have he2 : ¬ N 4 i = lN (p256 s) := fun e => he (hnw.mp e)
        obtain ⟨o, o1, o3, o4⟩ := ih (i + 1) (by omega)
        refine ⟨o, o1, fun d sl I lt tw X hH => ?_, fun d' sl' J w B => ?_⟩
        · rw [k47_r3_2, hH]
          simp (disch := omega) only [rt_c, b_some, List.cons_append, List.nil_append, Bool.cond_not, cond_true, cond_false, Bool.cond_decide, nI_add, nI_clamp, xin_n, dle_e, dlt_e, deq_e, xb_0, xb_1, decide_true, decide_false, Bool.not_true, Bool.not_false, Bool.and_true, Bool.true_and, Bool.and_false, Bool.false_and, Bool.true_or, Bool.false_or, Bool.or_true, Bool.or_false, if_true, if_false, up1_s, n_31, Int32.lt_irrefl, hiH, lg0, he2, o3 d sl I lt tw X hH]
        · rw [m186_3]
          simp (disch := omega) only [rt_c, b_some, List.cons_append, List.nil_append, Bool.cond_not, cond_true, cond_false, Bool.cond_decide, nI_add, nI_clamp, xin_n, dle_e, dlt_e, deq_e, xb_0, xb_1, decide_true, decide_false, Bool.not_true, Bool.not_false, Bool.and_true, Bool.true_and, Bool.and_false, Bool.false_and, Bool.true_or, Bool.false_or, Bool.or_true, Bool.or_false, if_true, if_false, up1_s, n_31, Int32.lt_irrefl, hiH, lg0, he, o4]
  obtain ⟨o, o1, o3, o4⟩ := key H 0 (by omega)
  refine ⟨o, o1, fun d sl I lt tw X hH => ?_, fun d' sl' J w B => ?_⟩
  · rw [e47, k47_r3_0]; exact o3 d sl I lt tw X hH
  · rw [e186, m186_0]; exact o4 d' sl' J w B
end BKM
section BKN
variable (d d' sl sl' : Nat) (I : Nat → Nat → Int32) (A : Nat → Nat → Int32) (N : Nat → Nat → Int64) (V : Nat → Nat → Option Nat) (lt : Int64) (tw : Option Nat) (sp sr : Nat) (X : List AC) (J : Nat → Int32) (w : Int64) (B : Nat → Nat → Int32) (M : Nat → Nat → Int64) {t L n k H κ v : Nat} {s : List Nat} {b : Nat → Nat}
theorem rb_1 (hH6 : H ≤ 6) (hI3 : I 3 8 = nI H) (hb0 : B 2 0 = nI H) (hN : Nm (N 4) (M 7) H) (hB : Bt t b A B) (hL : L ≤ 940) (hX : Nat.ble X.length 1 = true) (h : Tk t L n 3 v s (I 1) lt tw J w) (hR : RB A B H k) (i4 : I 101 4 = nI k) (j37 : J 37 = nI k) : Ob d d' sl sl' t L n k V sp sr X I A N lt tw J w B M H := by
  obtain ⟨hk40, hR⟩ := hR
  have hmul := nI_mul4 hk40
  have htw := Tk_nw h (by decide)
  subst htw
  obtain ⟨-, f4, j7, -⟩ := Tk_all h
  have nm1 := q95 (d + 4) sl I A N V lt none sp sr X h
  have nm2 := c179 (d' + 2) sl' J w B M h
  rw [decide_eq_true (p := 3 = 3) rfl] at nm1 nm2
  have wh : C (d' + 4) 262 [.ref 0] sl' (RH J w B M) = some ([.int (nI 1)], sl', RH J w B M) := c262 (d' + 1) sl' J w B M h
  have am : ¬ nI 10 = (-1 : Int32) := nI_m1 (by decide)
  obtain ⟨s_1, s_2, s_3, s_4⟩ := Tk_name h
  obtain ⟨o, o1, o2, o3⟩ := fd_u V sp sr A N M hH6 hN s_1
  rw [← s_3] at o2
  rw [← s_4] at o3
  have o2a := o2 (d + 4) sl I lt none X hI3
  have o2b := o2 (d + 2) sl I lt none X hI3
  by_cases ho : o = -1
  · have ho' : (o = -1) = True := eq_true ho
    obtain ⟨I1, J1, c1, e1, g1⟩ := gd_no (d + 4) (d' + 4) sl sl' I A N V lt none sp sr X J w B M (c := 3) (by decide) hB.1 h (Or.inl (by decide))
    refine Or.inr ⟨I1, A, lt, none, J1, w, B, ?_, ?_, g1.2.1, Fb_c (Bd_Cb g1) (fun _ _ => rfl)⟩
    · rw [e10, k10_r101_r1_r3_0, nm1]
      simp (disch := omega) only [rt_c, b_some, List.cons_append, List.nil_append, Bool.cond_not, cond_true, cond_false, Bool.cond_decide, nI_add, nI_clamp, xin_n, dle_e, dlt_e, deq_e, xb_0, xb_1, decide_true, decide_false, Bool.not_true, Bool.not_false, Bool.and_true, Bool.true_and, Bool.and_false, Bool.false_and, Bool.true_or, Bool.false_or, Bool.or_true, Bool.or_false, if_true, if_false, up1_s, n_31, Int32.lt_irrefl, k10_r101_r1_r3_4, xb_t, Nat.one_ne_zero, k10_r101_r1_r3_19, am, o2a, k10_r101_r1_r3_45, ho', c1, k10_r101_r1_r3_54, t10_30, t10_30_0, t10_30_1, t10_54, t10_54_0, t10_54_1, t10_69, t10_69_0, t10_69_1, t10_82, t10_82_0, t10_82_1, t10_133, t10_133_0, t10_133_1, t10_147, t10_147_0, t10_147_1]
    · rw [e263, m263_0, wh]
      simp (disch := omega) only [rt_c, b_some, List.cons_append, List.nil_append, Bool.cond_not, cond_true, cond_false, Bool.cond_decide, nI_add, nI_clamp, xin_n, dle_e, dlt_e, deq_e, xb_0, xb_1, decide_true, decide_false, Bool.not_true, Bool.not_false, Bool.and_true, Bool.true_and, Bool.and_false, Bool.false_and, Bool.true_or, Bool.false_or, Bool.or_true, Bool.or_false, if_true, if_false, up1_s, n_31, Int32.lt_irrefl, m263_4, nm2, xb_t, Nat.one_ne_zero, m263_14, hb0, o3, m263_40, ho', e1, m263_49, t263_22, t263_22_0, t263_22_1, t263_49, t263_49_0, t263_49_1, t263_64, t263_64_0, t263_64_1, t263_216, t263_216_0, t263_216_1, t263_237, t263_237_0, t263_237_1, t263_278, t263_278_0, t263_278_1, t263_305, t263_305_0, t263_305_1, t263_346, t263_346_0, t263_346_1, t263_376, t263_376_0, t263_376_1]
  obtain ⟨x, x1, x2⟩ : ∃ x, x < H ∧ o = nI x := by
    rcases o1 with h1 | h1
    · exact absurd h1 ho
    · exact h1
  subst x2
  by_cases hk : k < 40
  rotate_left
  · have h6 : k = 40 := by omega
    obtain ⟨I1, J1, c1, e1, g1⟩ := gd_no (d + 4) (d' + 4) sl sl' I A N V lt none sp sr X J w B M (c := 4) (by decide) hB.1 h (Or.inl (by decide))
    refine Or.inr ⟨I1, A, lt, none, J1, w, B, ?_, ?_, g1.2.1, Fb_c (Bd_Cb g1) (fun _ _ => rfl)⟩
    · rw [e10, k10_r101_r1_r3_0, nm1]
      simp (disch := omega) only [rt_c, b_some, List.cons_append, List.nil_append, Bool.cond_not, cond_true, cond_false, Bool.cond_decide, nI_add, nI_clamp, xin_n, dle_e, dlt_e, deq_e, xb_0, xb_1, decide_true, decide_false, Bool.not_true, Bool.not_false, Bool.and_true, Bool.true_and, Bool.and_false, Bool.false_and, Bool.true_or, Bool.false_or, Bool.or_true, Bool.or_false, if_true, if_false, up1_s, n_31, Int32.lt_irrefl, k10_r101_r1_r3_4, xb_t, Nat.one_ne_zero, k10_r101_r1_r3_19, am, o2a, k10_r101_r1_r3_45, ho, i4, h6, Nat.lt_irrefl, c1, k10_r101_r1_r3_69, t10_30, t10_30_0, t10_30_1, t10_54, t10_54_0, t10_54_1, t10_69, t10_69_0, t10_69_1, t10_82, t10_82_0, t10_82_1, t10_133, t10_133_0, t10_133_1, t10_147, t10_147_0, t10_147_1]
    · rw [e263, m263_0, wh]
      simp (disch := omega) only [rt_c, b_some, List.cons_append, List.nil_append, Bool.cond_not, cond_true, cond_false, Bool.cond_decide, nI_add, nI_clamp, xin_n, dle_e, dlt_e, deq_e, xb_0, xb_1, decide_true, decide_false, Bool.not_true, Bool.not_false, Bool.and_true, Bool.true_and, Bool.and_false, Bool.false_and, Bool.true_or, Bool.false_or, Bool.or_true, Bool.or_false, if_true, if_false, up1_s, n_31, Int32.lt_irrefl, m263_4, nm2, xb_t, Nat.one_ne_zero, m263_14, hb0, o3, m263_40, ho, j37, h6, e1, m263_64, t263_22, t263_22_0, t263_22_1, t263_49, t263_49_0, t263_49_1, t263_64, t263_64_0, t263_64_1, t263_216, t263_216_0, t263_216_1, t263_237, t263_237_0, t263_237_1, t263_278, t263_278_0, t263_278_1, t263_305, t263_305_0, t263_305_1, t263_346, t263_346_0, t263_346_1, t263_376, t263_376_0, t263_376_1]
  have h6 : ¬ k = 40 := by omega
  have hB1 : Bt t b A (up1 B 16 (upd (upd (upd (upd (B 16) (4 * k) (nI 1)) (4 * k + 1) (nI x)) (4 * k + 2) (nI 0)) (4 * k + 3) (nI 0))) := Bt_c hB rfl (up1_n (by decide))
  obtain ⟨κ1, v1, s1, f1, lt1, tw1, J1, w1, a1, a2, t1, a4, a5⟩ := adv (d + 1) (d' + 3) sl sl' I A N V sp sr X (up1 B 16 (upd (upd (upd (upd (B 16) (4 * k) (nI 1)) (4 * k + 1) (nI x)) (4 * k + 2) (nI 0)) (4 * k + 3) (nI 0))) M hB1 hL hX h (by decide) (up1 (I 1) 9 (nI x)) J (fun k hk => up1_n (by omega)) (fun k hk => rfl)
  have t1' : Tk t L (n + 1) κ1 v1 s1 ((up1 I 1 f1) 1) lt1 tw1 J1 w1 := by rw [up1_s]; exact t1
  have x9 : (up1 I 1 f1) 1 9 = nI x := by rw [up1_s, a4 9 (by decide), up1_s]
  have a4x : f1 9 = nI x := by rw [a4 9 (by decide), up1_s]
  have hc1 : Cb I (up1 I 1 f1) J J1 := ⟨fun q q1 => up1_n q1, fun k hk => a5 k (by omega)⟩
  have h104 : C (d + 3) 104 [.ref 1, .ref 3, .int (-1)] sl (CH I A N V lt none sp sr X) = some ([.int (x_b true)], sl, CH (up1 I 1 f1) A N V lt1 tw1 sp sr X) := by
    rw [e104, k104_r1_r3_0, f4]
    simp (disch := omega) only [rt_c, b_some, List.cons_append, List.nil_append, Bool.cond_not, cond_true, cond_false, Bool.cond_decide, nI_add, nI_clamp, xin_n, dle_e, dlt_e, deq_e, xb_0, xb_1, decide_true, decide_false, Bool.not_true, Bool.not_false, Bool.and_true, Bool.true_and, Bool.and_false, Bool.false_and, Bool.true_or, Bool.false_or, Bool.or_true, Bool.or_false, if_true, if_false, up1_s, n_31, Int32.lt_irrefl, o2b, k104_r1_r3_22, ho, a1, k104_r1_r3_48, t104_13, t104_13_0, t104_13_1, t104_38, t104_38_0, t104_38_1, t104_49, t104_49_0, t104_49_1]
  have k4 := c177 (d' + 1) sl' J1 w1 (up1 B 16 (upd (upd (upd (upd (B 16) (4 * k) (nI 1)) (4 * k + 1) (nI x)) (4 * k + 2) (nI 0)) (4 * k + 3) (nI 0))) M (show 4 ≤ 20 by decide) t1'
  -- 'borrows'
  rcases gd_borrows (d + 1) (d' + 2) sl sl' (up1 I 1 f1) A N V lt1 tw1 sp sr X J1 w1 (up1 B 16 (upd (upd (upd (upd (B 16) (4 * k) (nI 1)) (4 * k + 1) (nI x)) (4 * k + 2) (nI 0)) (4 * k + 3) (nI 0))) M hB1 hL hX t1' with ⟨z1, z2, I2, lt2, tw2, J2, w2, c2, e2, g2⟩ | ⟨z1, I2, J2, c2, e2, g2⟩
  rotate_left
  · rw [decide_eq_false z1] at k4
    have h13 : C (d + 4) 13 [.ref 101, .ref 1, .ref 3] sl (CH I A N V lt none sp sr X) = some ([.int (x_b false)], sl, CH I2 A N V lt1 tw1 sp sr X) := by
      rw [e13, k13_r101_r1_r3_0, h104]
      simp (disch := omega) only [rt_c, b_some, List.cons_append, List.nil_append, Bool.cond_not, cond_true, cond_false, Bool.cond_decide, nI_add, nI_clamp, xin_n, dle_e, dlt_e, deq_e, xb_0, xb_1, decide_true, decide_false, Bool.not_true, Bool.not_false, Bool.and_true, Bool.true_and, Bool.and_false, Bool.false_and, Bool.true_or, Bool.false_or, Bool.or_true, Bool.or_false, if_true, if_false, up1_s, n_31, Int32.lt_irrefl, k13_r101_r1_r3_6, xb_t, xb_f, Nat.one_ne_zero, c2, k13_r101_r1_r3_23, t13_10, t13_10_0, t13_10_1, t13_38, t13_38_0, t13_38_1, t13_55, t13_55_0, t13_55_1, t13_70, t13_70_0, t13_70_1]
    have h261 : C (d' + 4) 261 [.ref 0, .int (nI (4 * k))] sl' (RH J1 w1 (up1 B 16 (upd (upd (upd (upd (B 16) (4 * k) (nI 1)) (4 * k + 1) (nI x)) (4 * k + 2) (nI 0)) (4 * k + 3) (nI 0))) M) = some ([.int (x_b false)], sl', RH J2 w1 (up1 B 16 (upd (upd (upd (upd (B 16) (4 * k) (nI 1)) (4 * k + 1) (nI x)) (4 * k + 2) (nI 0)) (4 * k + 3) (nI 0))) M) := by
      rw [e261, m261_0, k4]
      simp (disch := omega) only [rt_c, b_some, List.cons_append, List.nil_append, Bool.cond_not, cond_true, cond_false, Bool.cond_decide, nI_add, nI_clamp, xin_n, dle_e, dlt_e, deq_e, xb_0, xb_1, decide_true, decide_false, Bool.not_true, Bool.not_false, Bool.and_true, Bool.true_and, Bool.and_false, Bool.false_and, Bool.true_or, Bool.false_or, Bool.or_true, Bool.or_false, if_true, if_false, up1_s, n_31, Int32.lt_irrefl, m261_5, xb_f, e2, m261_13, t261_13, t261_13_0, t261_13_1, t261_73, t261_73_0, t261_73_1]
    refine Or.inr ⟨I2, A, lt1, tw1, J2, w1, up1 B 16 (upd (upd (upd (upd (B 16) (4 * k) (nI 1)) (4 * k + 1) (nI x)) (4 * k + 2) (nI 0)) (4 * k + 3) (nI 0)), ?_, ?_, g2.2.1, Fb_c (Cb_t hc1 (Bd_Cb g2)) (fun q hq => up1_n hq)⟩
    · rw [e10, k10_r101_r1_r3_0, nm1]
      simp (disch := omega) only [rt_c, b_some, List.cons_append, List.nil_append, Bool.cond_not, cond_true, cond_false, Bool.cond_decide, nI_add, nI_clamp, xin_n, dle_e, dlt_e, deq_e, xb_0, xb_1, decide_true, decide_false, Bool.not_true, Bool.not_false, Bool.and_true, Bool.true_and, Bool.and_false, Bool.false_and, Bool.true_or, Bool.false_or, Bool.or_true, Bool.or_false, if_true, if_false, up1_s, n_31, Int32.lt_irrefl, k10_r101_r1_r3_4, xb_t, xb_f, Nat.one_ne_zero, k10_r101_r1_r3_19, am, o2a, k10_r101_r1_r3_45, ho, i4, hk, h13, k10_r101_r1_r3_82, t10_30, t10_30_0, t10_30_1, t10_54, t10_54_0, t10_54_1, t10_69, t10_69_0, t10_69_1, t10_82, t10_82_0, t10_82_1, t10_133, t10_133_0, t10_133_1, t10_147, t10_147_0, t10_147_1]
    · rw [e263, m263_0, wh]
      simp (disch := omega) only [rt_c, b_some, List.cons_append, List.nil_append, Bool.cond_not, cond_true, cond_false, Bool.cond_decide, nI_add, nI_clamp, xin_n, dle_e, dlt_e, deq_e, xb_0, xb_1, decide_true, decide_false, Bool.not_true, Bool.not_false, Bool.and_true, Bool.true_and, Bool.and_false, Bool.false_and, Bool.true_or, Bool.false_or, Bool.or_true, Bool.or_false, if_true, if_false, up1_s, n_31, Int32.lt_irrefl, m263_4, nm2, xb_t, Nat.one_ne_zero, m263_14, hb0, o3, m263_40, ho, j37, h6, hmul, up1_up, up1_n, m263_108, a2, m263_135, m263_136_c1, m263_217, h261, xb_f, m263_222, t263_22, t263_22_0, t263_22_1, t263_49, t263_49_0, t263_49_1, t263_64, t263_64_0, t263_64_1, t263_216, t263_216_0, t263_216_1, t263_237, t263_237_0, t263_237_1, t263_278, t263_278_0, t263_278_1, t263_305, t263_305_0, t263_305_1, t263_346, t263_346_0, t263_346_1, t263_376, t263_376_0, t263_376_1]
  rw [decide_eq_true ⟨z1, z2⟩] at k4
  obtain ⟨⟨κ2, v2, s2, t2⟩, -, -⟩ := g2.2
  rcases gd_num (d + 1) (d' + 1) sl sl' I2 A N V lt2 tw2 sp sr X J2 w2 (up1 B 16 (upd (upd (upd (upd (B 16) (4 * k) (nI 1)) (4 * k + 1) (nI x)) (4 * k + 2) (nI 0)) (4 * k + 3) (nI 0))) M (a := 1) (z := 200) (by decide) (by decide) hB1 hL hX t2 with ⟨u3, I3, lt3, tw3, J3, w3, p3, q3, c3, e3, g3, x3, y3⟩ | ⟨I3, J3, c3, e3, g3⟩
  rotate_left
  · have h13 : C (d + 4) 13 [.ref 101, .ref 1, .ref 3] sl (CH I A N V lt none sp sr X) = some ([.int (x_b false)], sl, CH I3 A N V lt2 tw2 sp sr X) := by
      rw [e13, k13_r101_r1_r3_0, h104]
      simp (disch := omega) only [rt_c, b_some, List.cons_append, List.nil_append, Bool.cond_not, cond_true, cond_false, Bool.cond_decide, nI_add, nI_clamp, xin_n, dle_e, dlt_e, deq_e, xb_0, xb_1, decide_true, decide_false, Bool.not_true, Bool.not_false, Bool.and_true, Bool.true_and, Bool.and_false, Bool.false_and, Bool.true_or, Bool.false_or, Bool.or_true, Bool.or_false, if_true, if_false, up1_s, n_31, Int32.lt_irrefl, k13_r101_r1_r3_6, xb_t, xb_f, Nat.one_ne_zero, c2, k13_r101_r1_r3_23, c3, k13_r101_r1_r3_34, t13_10, t13_10_0, t13_10_1, t13_38, t13_38_0, t13_38_1, t13_55, t13_55_0, t13_55_1, t13_70, t13_70_0, t13_70_1]
    have h261 : C (d' + 4) 261 [.ref 0, .int (nI (4 * k))] sl' (RH J1 w1 (up1 B 16 (upd (upd (upd (upd (B 16) (4 * k) (nI 1)) (4 * k + 1) (nI x)) (4 * k + 2) (nI 0)) (4 * k + 3) (nI 0))) M) = some ([.int (x_b false)], sl', RH J3 w2 (up1 B 16 (upd (upd (upd (upd (B 16) (4 * k) (nI 1)) (4 * k + 1) (nI x)) (4 * k + 2) (nI 0)) (4 * k + 3) (nI 0))) M) := by
      rw [e261, m261_0, k4]
      simp (disch := omega) only [rt_c, b_some, List.cons_append, List.nil_append, Bool.cond_not, cond_true, cond_false, Bool.cond_decide, nI_add, nI_clamp, xin_n, dle_e, dlt_e, deq_e, xb_0, xb_1, decide_true, decide_false, Bool.not_true, Bool.not_false, Bool.and_true, Bool.true_and, Bool.and_false, Bool.false_and, Bool.true_or, Bool.false_or, Bool.or_true, Bool.or_false, if_true, if_false, up1_s, n_31, Int32.lt_irrefl, m261_5, xb_t, xb_f, Nat.one_ne_zero, e2, m261_18, e3, m261_30, c258_0, m261_33, t261_13, t261_13_0, t261_13_1, t261_73, t261_73_0, t261_73_1]
    refine Or.inr ⟨I3, A, lt2, tw2, J3, w2, up1 B 16 (upd (upd (upd (upd (B 16) (4 * k) (nI 1)) (4 * k + 1) (nI x)) (4 * k + 2) (nI 0)) (4 * k + 3) (nI 0)), ?_, ?_, g3.2.1, Fb_c (Cb_t hc1 (Cb_t (Gd_Cb g2) (Bd_Cb g3))) (fun q hq => up1_n hq)⟩
    · rw [e10, k10_r101_r1_r3_0, nm1]
      simp (disch := omega) only [rt_c, b_some, List.cons_append, List.nil_append, Bool.cond_not, cond_true, cond_false, Bool.cond_decide, nI_add, nI_clamp, xin_n, dle_e, dlt_e, deq_e, xb_0, xb_1, decide_true, decide_false, Bool.not_true, Bool.not_false, Bool.and_true, Bool.true_and, Bool.and_false, Bool.false_and, Bool.true_or, Bool.false_or, Bool.or_true, Bool.or_false, if_true, if_false, up1_s, n_31, Int32.lt_irrefl, k10_r101_r1_r3_4, xb_t, xb_f, Nat.one_ne_zero, k10_r101_r1_r3_19, am, o2a, k10_r101_r1_r3_45, ho, i4, hk, h13, k10_r101_r1_r3_82, t10_30, t10_30_0, t10_30_1, t10_54, t10_54_0, t10_54_1, t10_69, t10_69_0, t10_69_1, t10_82, t10_82_0, t10_82_1, t10_133, t10_133_0, t10_133_1, t10_147, t10_147_0, t10_147_1]
    · rw [e263, m263_0, wh]
      simp (disch := omega) only [rt_c, b_some, List.cons_append, List.nil_append, Bool.cond_not, cond_true, cond_false, Bool.cond_decide, nI_add, nI_clamp, xin_n, dle_e, dlt_e, deq_e, xb_0, xb_1, decide_true, decide_false, Bool.not_true, Bool.not_false, Bool.and_true, Bool.true_and, Bool.and_false, Bool.false_and, Bool.true_or, Bool.false_or, Bool.or_true, Bool.or_false, if_true, if_false, up1_s, n_31, Int32.lt_irrefl, m263_4, nm2, xb_t, Nat.one_ne_zero, m263_14, hb0, o3, m263_40, ho, j37, h6, hmul, up1_up, up1_n, m263_108, a2, m263_135, m263_136_c1, m263_217, h261, xb_f, m263_222, t263_22, t263_22_0, t263_22_1, t263_49, t263_49_0, t263_49_1, t263_64, t263_64_0, t263_64_1, t263_216, t263_216_0, t263_216_1, t263_237, t263_237_0, t263_237_1, t263_278, t263_278_0, t263_278_1, t263_305, t263_305_0, t263_305_1, t263_346, t263_346_0, t263_346_1, t263_376, t263_376_0, t263_376_1]
  obtain ⟨⟨κ3, v3, s3, t3⟩, -, -⟩ := g3.2
  have hB3 : Bt t b A (up1 B 16 (upd (upd (upd (upd (upd (B 16) (4 * k) (nI 1)) (4 * k + 1) (nI x)) (4 * k + 2) (nI 0)) (4 * k + 3) (nI 0)) (4 * k + 3) (nI u3))) := Bt_c hB rfl (up1_n (by decide))
  have i38 : I3 3 8 = nI H := by rw [g3.1 3 (by decide), g2.1 3 (by decide), up1_n (by decide)]; exact hI3
  rcases gd_house_3 (d + 1) d' sl sl' I3 A N V lt3 tw3 sp sr X J3 w3 (up1 B 16 (upd (upd (upd (upd (upd (B 16) (4 * k) (nI 1)) (4 * k + 1) (nI x)) (4 * k + 2) (nI 0)) (4 * k + 3) (nI 0)) (4 * k + 3) (nI u3))) M hH6 i38 hN (nI x) hB3 hL hX t3 with ⟨u4, I4, lt4, tw4, J4, w4, p4, q4, c4, e4, g4, x4, y4⟩ | ⟨I4, J4, c4, e4, g4⟩
  rotate_left
  · have h13 : C (d + 4) 13 [.ref 101, .ref 1, .ref 3] sl (CH I A N V lt none sp sr X) = some ([.int (x_b false)], sl, CH I4 A N V lt3 tw3 sp sr X) := by
      rw [e13, k13_r101_r1_r3_0, h104]
      simp (disch := omega) only [rt_c, b_some, List.cons_append, List.nil_append, Bool.cond_not, cond_true, cond_false, Bool.cond_decide, nI_add, nI_clamp, xin_n, dle_e, dlt_e, deq_e, xb_0, xb_1, decide_true, decide_false, Bool.not_true, Bool.not_false, Bool.and_true, Bool.true_and, Bool.and_false, Bool.false_and, Bool.true_or, Bool.false_or, Bool.or_true, Bool.or_false, if_true, if_false, up1_s, n_31, Int32.lt_irrefl, k13_r101_r1_r3_6, xb_t, xb_f, Nat.one_ne_zero, x9, a4x, c2, k13_r101_r1_r3_23, c3, k13_r101_r1_r3_34, c4, k13_r101_r1_r3_51, t13_10, t13_10_0, t13_10_1, t13_38, t13_38_0, t13_38_1, t13_55, t13_55_0, t13_55_1, t13_70, t13_70_0, t13_70_1]
    have h261 : C (d' + 4) 261 [.ref 0, .int (nI (4 * k))] sl' (RH J1 w1 (up1 B 16 (upd (upd (upd (upd (B 16) (4 * k) (nI 1)) (4 * k + 1) (nI x)) (4 * k + 2) (nI 0)) (4 * k + 3) (nI 0))) M) = some ([.int (x_b false)], sl', RH J4 w3 (up1 B 16 (upd (upd (upd (upd (upd (B 16) (4 * k) (nI 1)) (4 * k + 1) (nI x)) (4 * k + 2) (nI 0)) (4 * k + 3) (nI 0)) (4 * k + 3) (nI u3))) M) := by
      rw [e261, m261_0, k4]
      simp (disch := omega) only [rt_c, b_some, List.cons_append, List.nil_append, Bool.cond_not, cond_true, cond_false, Bool.cond_decide, nI_add, nI_clamp, xin_n, dle_e, dlt_e, deq_e, xb_0, xb_1, decide_true, decide_false, Bool.not_true, Bool.not_false, Bool.and_true, Bool.true_and, Bool.and_false, Bool.false_and, Bool.true_or, Bool.false_or, Bool.or_true, Bool.or_false, if_true, if_false, up1_s, n_31, Int32.lt_irrefl, m261_5, xb_t, xb_f, Nat.one_ne_zero, e2, m261_18, e3, m261_30, c258_1, m261_33, y3, up1_up, up1_n, upd_n, upd_s, hb0, e4, m261_62, c258_0, m261_65, t261_13, t261_13_0, t261_13_1, t261_73, t261_73_0, t261_73_1]
    refine Or.inr ⟨I4, A, lt3, tw3, J4, w3, up1 B 16 (upd (upd (upd (upd (upd (B 16) (4 * k) (nI 1)) (4 * k + 1) (nI x)) (4 * k + 2) (nI 0)) (4 * k + 3) (nI 0)) (4 * k + 3) (nI u3)), ?_, ?_, g4.2.1, Fb_c (Cb_t hc1 (Cb_t (Gd_Cb g2) (Cb_t (Gd_Cb g3) (Bd_Cb g4)))) (fun q hq => up1_n hq)⟩
    · rw [e10, k10_r101_r1_r3_0, nm1]
      simp (disch := omega) only [rt_c, b_some, List.cons_append, List.nil_append, Bool.cond_not, cond_true, cond_false, Bool.cond_decide, nI_add, nI_clamp, xin_n, dle_e, dlt_e, deq_e, xb_0, xb_1, decide_true, decide_false, Bool.not_true, Bool.not_false, Bool.and_true, Bool.true_and, Bool.and_false, Bool.false_and, Bool.true_or, Bool.false_or, Bool.or_true, Bool.or_false, if_true, if_false, up1_s, n_31, Int32.lt_irrefl, k10_r101_r1_r3_4, xb_t, xb_f, Nat.one_ne_zero, k10_r101_r1_r3_19, am, o2a, k10_r101_r1_r3_45, ho, i4, hk, h13, k10_r101_r1_r3_82, t10_30, t10_30_0, t10_30_1, t10_54, t10_54_0, t10_54_1, t10_69, t10_69_0, t10_69_1, t10_82, t10_82_0, t10_82_1, t10_133, t10_133_0, t10_133_1, t10_147, t10_147_0, t10_147_1]
    · rw [e263, m263_0, wh]
      simp (disch := omega) only [rt_c, b_some, List.cons_append, List.nil_append, Bool.cond_not, cond_true, cond_false, Bool.cond_decide, nI_add, nI_clamp, xin_n, dle_e, dlt_e, deq_e, xb_0, xb_1, decide_true, decide_false, Bool.not_true, Bool.not_false, Bool.and_true, Bool.true_and, Bool.and_false, Bool.false_and, Bool.true_or, Bool.false_or, Bool.or_true, Bool.or_false, if_true, if_false, up1_s, n_31, Int32.lt_irrefl, m263_4, nm2, xb_t, Nat.one_ne_zero, m263_14, hb0, o3, m263_40, ho, j37, h6, hmul, up1_up, up1_n, m263_108, a2, m263_135, m263_136_c1, m263_217, h261, xb_f, m263_222, t263_22, t263_22_0, t263_22_1, t263_49, t263_49_0, t263_49_1, t263_64, t263_64_0, t263_64_1, t263_216, t263_216_0, t263_216_1, t263_237, t263_237_0, t263_237_1, t263_278, t263_278_0, t263_278_1, t263_305, t263_305_0, t263_305_1, t263_346, t263_346_0, t263_346_1, t263_376, t263_376_0, t263_376_1]
  obtain ⟨⟨κ4, v4, s4, t4⟩, -, -⟩ := g4.2
  have hchain : Cb I I4 J J4 := Cb_t hc1 (Cb_t (Gd_Cb g2) (Cb_t (Gd_Cb g3) (Gd_Cb g4)))
  have i4' : I4 101 4 = nI k := by rw [hchain.1 101 (by decide)]; exact i4
  have h14 := q14 (d + 3) sl I4 A N V lt4 sp sr X tw4 (nI 10) (nI x) (nI u4) (nI u3) hk i4'
  have h13 : C (d + 4) 13 [.ref 101, .ref 1, .ref 3] sl (CH I A N V lt none sp sr X) = some ([.int (x_b true)], sl, CH (up1 I4 101 (up1 (I4 101) 4 (nI (k + 1)))) (up1 (up1 (up1 (up1 A 102 (upd (A 102) k (nI 10))) 103 (upd (A 103) k (nI x))) 104 (upd (A 104) k (nI u4))) 105 (upd (A 105) k (nI u3))) N V lt4 tw4 sp sr X) := by
    rw [e13, k13_r101_r1_r3_0, h104]
    simp (disch := omega) only [rt_c, b_some, List.cons_append, List.nil_append, Bool.cond_not, cond_true, cond_false, Bool.cond_decide, nI_add, nI_clamp, xin_n, dle_e, dlt_e, deq_e, xb_0, xb_1, decide_true, decide_false, Bool.not_true, Bool.not_false, Bool.and_true, Bool.true_and, Bool.and_false, Bool.false_and, Bool.true_or, Bool.false_or, Bool.or_true, Bool.or_false, if_true, if_false, up1_s, n_31, Int32.lt_irrefl, k13_r101_r1_r3_6, xb_t, Nat.one_ne_zero, x9, a4x, c2, k13_r101_r1_r3_23, c3, k13_r101_r1_r3_34, x3, c4, k13_r101_r1_r3_51, x4, h14, k13_r101_r1_r3_69, t13_10, t13_10_0, t13_10_1, t13_38, t13_38_0, t13_38_1, t13_55, t13_55_0, t13_55_1, t13_70, t13_70_0, t13_70_1]
  have h261 : C (d' + 4) 261 [.ref 0, .int (nI (4 * k))] sl' (RH J1 w1 (up1 B 16 (upd (upd (upd (upd (B 16) (4 * k) (nI 1)) (4 * k + 1) (nI x)) (4 * k + 2) (nI 0)) (4 * k + 3) (nI 0))) M) = some ([.int (x_b true)], sl', RH J4 w4 (up1 B 16 (upd (upd (upd (upd (upd (upd (B 16) (4 * k) (nI 1)) (4 * k + 1) (nI x)) (4 * k + 2) (nI 0)) (4 * k + 3) (nI 0)) (4 * k + 3) (nI u3)) (4 * k + 2) (nI u4))) M) := by
    rw [e261, m261_0, k4]
    simp (disch := omega) only [rt_c, b_some, List.cons_append, List.nil_append, Bool.cond_not, cond_true, cond_false, Bool.cond_decide, nI_add, nI_clamp, xin_n, dle_e, dlt_e, deq_e, xb_0, xb_1, decide_true, decide_false, Bool.not_true, Bool.not_false, Bool.and_true, Bool.true_and, Bool.and_false, Bool.false_and, Bool.true_or, Bool.false_or, Bool.or_true, Bool.or_false, if_true, if_false, up1_s, n_31, Int32.lt_irrefl, m261_5, xb_t, Nat.one_ne_zero, e2, m261_18, e3, m261_30, c258_1, m261_33, y3, up1_up, up1_n, upd_n, upd_s, hb0, e4, m261_62, m261_65, y4, t261_13, t261_13_0, t261_13_1, t261_73, t261_73_0, t261_73_1]
  have hne : u4 ≠ x := fun e => q4 (by rw [e])
  refine Or.inl ⟨up1 I4 101 (up1 (I4 101) 4 (nI (k + 1))), up1 (up1 (up1 (up1 A 102 (upd (A 102) k (nI 10))) 103 (upd (A 103) k (nI x))) 104 (upd (A 104) k (nI u4))) 105 (upd (A 105) k (nI u3)), lt4, tw4, J4, w4, up1 B 16 (upd (upd (upd (upd (upd (upd (B 16) (4 * k) (nI 1)) (4 * k + 1) (nI x)) (4 * k + 2) (nI 0)) (4 * k + 3) (nI 0)) (4 * k + 3) (nI u3)) (4 * k + 2) (nI u4)), ?_, ?_, ⟨κ4, v4, s4, ?_⟩, ⟨by omega, fun i hi => ?_⟩, ?_, ?_, ?_, ?_, fun q r1 r2 => ?_, fun q r1 => ?_, fun q r1 => ?_, fun q r1 => ?_, fun q r1 => up1_n r1⟩
  · rw [e10, k10_r101_r1_r3_0, nm1]
    simp (disch := omega) only [rt_c, b_some, List.cons_append, List.nil_append, Bool.cond_not, cond_true, cond_false, Bool.cond_decide, nI_add, nI_clamp, xin_n, dle_e, dlt_e, deq_e, xb_0, xb_1, decide_true, decide_false, Bool.not_true, Bool.not_false, Bool.and_true, Bool.true_and, Bool.and_false, Bool.false_and, Bool.true_or, Bool.false_or, Bool.or_true, Bool.or_false, if_true, if_false, up1_s, n_31, Int32.lt_irrefl, k10_r101_r1_r3_4, xb_t, xb_f, Nat.one_ne_zero, k10_r101_r1_r3_19, am, o2a, k10_r101_r1_r3_45, ho, i4, hk, h13, k10_r101_r1_r3_82, t10_30, t10_30_0, t10_30_1, t10_54, t10_54_0, t10_54_1, t10_69, t10_69_0, t10_69_1, t10_82, t10_82_0, t10_82_1, t10_133, t10_133_0, t10_133_1, t10_147, t10_147_0, t10_147_1]
  · intro bo J9 w9 B9 h182
    rw [e263, m263_0, wh]
    cases bo with
    | true =>
      simp (disch := omega) only [rt_c, b_some, List.cons_append, List.nil_append, Bool.cond_not, cond_true, cond_false, Bool.cond_decide, nI_add, nI_clamp, xin_n, dle_e, dlt_e, deq_e, xb_0, xb_1, decide_true, decide_false, Bool.not_true, Bool.not_false, Bool.and_true, Bool.true_and, Bool.and_false, Bool.false_and, Bool.true_or, Bool.false_or, Bool.or_true, Bool.or_false, if_true, if_false, up1_s, n_31, Int32.lt_irrefl, m263_4, nm2, xb_t, Nat.one_ne_zero, m263_14, hb0, o3, m263_40, ho, j37, h6, hmul, up1_up, up1_n, m263_108, a2, m263_135, m263_136_c1, m263_217, h261, m263_222, h182, m263_229, t263_22, t263_22_0, t263_22_1, t263_49, t263_49_0, t263_49_1, t263_64, t263_64_0, t263_64_1, t263_216, t263_216_0, t263_216_1, t263_237, t263_237_0, t263_237_1, t263_278, t263_278_0, t263_278_1, t263_305, t263_305_0, t263_305_1, t263_346, t263_346_0, t263_346_1, t263_376, t263_376_0, t263_376_1]
    | false =>
      simp (disch := omega) only [rt_c, b_some, List.cons_append, List.nil_append, Bool.cond_not, cond_true, cond_false, Bool.cond_decide, nI_add, nI_clamp, xin_n, dle_e, dlt_e, deq_e, xb_0, xb_1, decide_true, decide_false, Bool.not_true, Bool.not_false, Bool.and_true, Bool.true_and, Bool.and_false, Bool.false_and, Bool.true_or, Bool.false_or, Bool.or_true, Bool.or_false, if_true, if_false, up1_s, n_31, Int32.lt_irrefl, m263_4, nm2, xb_t, Nat.one_ne_zero, m263_14, hb0, o3, m263_40, ho, j37, h6, hmul, up1_up, up1_n, m263_108, a2, m263_135, m263_136_c1, m263_217, h261, m263_222, h182, xb_f, m263_229, t263_22, t263_22_0, t263_22_1, t263_49, t263_49_0, t263_49_1, t263_64, t263_64_0, t263_64_1, t263_216, t263_216_0, t263_216_1, t263_237, t263_237_0, t263_237_1, t263_278, t263_278_0, t263_278_1, t263_305, t263_305_0, t263_305_1, t263_346, t263_346_0, t263_346_1, t263_376, t263_376_0, t263_376_1]
  · rw [up1_n (by decide)]; exact Tk_le t4 (by omega)
  · simp (disch := omega) only [up1_s, up1_n]
    by_cases hik : i = k
    · subst hik
      refine ⟨1, x, ?_, ?_, ?_, ?_, Or.inr (Or.inl ⟨rfl, u4, u3, x1, p4, hne, p3, q3, ?_, ?_, ?_, ?_⟩)⟩ <;> simp (disch := omega) only [up1, upd, Nat.add_left_cancel_iff, if_neg, if_pos, if_true, if_false]
    · have hik2 : i < k := by omega
      have := hR i hik2
      unfold Ln at this ⊢
      simp (disch := omega) only [up1, upd, Nat.add_left_cancel_iff, if_neg, if_pos, if_true, if_false]
      exact this
  · rw [up1_s, up1_s]
  · rw [g4.2.2.2 37 (by decide), g3.2.2.2 37 (by decide), g2.2.2.2 37 (by decide), a5 37 (by decide)]; exact j37
  · rw [up1_n (by decide), g4.2.2.1, g3.2.2.1, g2.2.2.1, up1_s, a4 10 (by decide), up1_n (by decide)]
  · rw [g4.2.2.2 10 (by decide), g3.2.2.2 10 (by decide), g2.2.2.2 10 (by decide), a5 10 (by decide)]
  · rw [up1_n r2]; exact hchain.1 q r1
  · rw [up1_s, up1_n r1, hchain.1 101 (by decide)]
  · rw [up1_n (by omega), up1_n (by omega), up1_n (by omega), up1_n (by omega)]
  · exact hchain.2 q r1
/-- neither a name nor an act -/
theorem rb_no (hB : Bt t b A B) (h : Tk t L n κ v s (I 1) lt tw J w) (h3 : κ ≠ 3) (hv : ¬ (κ = 2 ∧ (v = 3 ∨ v = 5 ∨ v = 6 ∨ v = 7 ∨ v = 8))) : Ob d d' sl sl' t L n k V sp sr X I A N lt tw J w B M H := by
  have nm1 := q95 (d + 4) sl I A N V lt tw sp sr X h
  have nm2 := c179 (d' + 2) sl' J w B M h
  rw [decide_eq_false h3] at nm1 nm2
  have wh := c262 (d' + 1) sl' J w B M h
  have hw1 : wht κ v = 1 := by
    unfold wht
    rw [if_neg (by omega), if_neg (by omega), if_neg (by omega)]
  rw [hw1] at wh
  obtain ⟨I1, J1, c1, e1, g1⟩ := gd_no (d + 4) (d' + 4) sl sl' I A N V lt tw sp sr X J w B M (c := 1) (by decide) hB.1 h (Or.inr rfl)
  refine Or.inr ⟨I1, A, lt, tw, J1, w, B, ?_, ?_, g1.2.1, Fb_c (Bd_Cb g1) (fun _ _ => rfl)⟩
  · rw [e10, k10_r101_r1_r3_0, nm1]
    by_cases hk : κ = 2
    · subst hk
      obtain ⟨v20, ht, hw⟩ := Tk_word h
      subst ht
      have ac := q11 (d + 4) sl I A N V lt (some (1000000 + v)) sp sr X v20
      have ha : actI v = -1 := by
        unfold actI
        rw [if_neg (by omega), if_neg (by omega), if_neg (by omega), if_neg (by omega), if_neg (by omega)]
      rw [ha] at ac
      simp (disch := omega) only [rt_c, b_some, List.cons_append, List.nil_append, Bool.cond_not, cond_true, cond_false, Bool.cond_decide, nI_add, nI_clamp, xin_n, dle_e, dlt_e, deq_e, xb_0, xb_1, decide_true, decide_false, Bool.not_true, Bool.not_false, Bool.and_true, Bool.true_and, Bool.and_false, Bool.false_and, Bool.true_or, Bool.false_or, Bool.or_true, Bool.or_false, if_true, if_false, up1_s, n_31, Int32.lt_irrefl, k10_r101_r1_r3_4_1, xb_f, ac, k10_r101_r1_r3_19, c1, k10_r101_r1_r3_30, t10_30, t10_30_0, t10_30_1, t10_54, t10_54_0, t10_54_1, t10_69, t10_69_0, t10_69_1, t10_82, t10_82_0, t10_82_1, t10_133, t10_133_0, t10_133_1, t10_147, t10_147_0, t10_147_1]
    · have ht := Tk_nw h hk
      subst ht
      have ac : C (d + 4) 11 [.null] sl (CH I A N V lt none sp sr X) = some ([.int (-1)], sl, CH I A N V lt none sp sr X) := by
        rw [e11n, k11_n_0]
        simp (disch := omega) only [rt_c, b_some, List.cons_append, List.nil_append, Bool.cond_not, cond_true, cond_false, Bool.cond_decide, nI_add, nI_clamp, xin_n, dle_e, dlt_e, deq_e, xb_0, xb_1, decide_true, decide_false, Bool.not_true, Bool.not_false, Bool.and_true, Bool.true_and, Bool.and_false, Bool.false_and, Bool.true_or, Bool.false_or, Bool.or_true, Bool.or_false, if_true, if_false, up1_s, n_31, Int32.lt_irrefl, t11_8, t11_18, t11_28, t11_38, t11_52]
      simp (disch := omega) only [rt_c, b_some, List.cons_append, List.nil_append, Bool.cond_not, cond_true, cond_false, Bool.cond_decide, nI_add, nI_clamp, xin_n, dle_e, dlt_e, deq_e, xb_0, xb_1, decide_true, decide_false, Bool.not_true, Bool.not_false, Bool.and_true, Bool.true_and, Bool.and_false, Bool.false_and, Bool.true_or, Bool.false_or, Bool.or_true, Bool.or_false, if_true, if_false, up1_s, n_31, Int32.lt_irrefl, k10_r101_r1_r3_4, xb_f, ac, k10_r101_r1_r3_19, c1, k10_r101_r1_r3_30, t10_30, t10_30_0, t10_30_1, t10_54, t10_54_0, t10_54_1, t10_69, t10_69_0, t10_69_1, t10_82, t10_82_0, t10_82_1, t10_133, t10_133_0, t10_133_1, t10_147, t10_147_0, t10_147_1]
  · rw [e263, m263_0, wh]
    simp (disch := omega) only [rt_c, b_some, List.cons_append, List.nil_append, Bool.cond_not, cond_true, cond_false, Bool.cond_decide, nI_add, nI_clamp, xin_n, dle_e, dlt_e, deq_e, xb_0, xb_1, decide_true, decide_false, Bool.not_true, Bool.not_false, Bool.and_true, Bool.true_and, Bool.and_false, Bool.false_and, Bool.true_or, Bool.false_or, Bool.or_true, Bool.or_false, if_true, if_false, up1_s, n_31, Int32.lt_irrefl, m263_4, nm2, xb_f, m263_14, e1, m263_22, t263_22, t263_22_0, t263_22_1, t263_49, t263_49_0, t263_49_1, t263_64, t263_64_0, t263_64_1, t263_216, t263_216_0, t263_216_1, t263_237, t263_237_0, t263_237_1, t263_278, t263_278_0, t263_278_1, t263_305, t263_305_0, t263_305_1, t263_346, t263_346_0, t263_346_1, t263_376, t263_376_0, t263_376_1]
theorem rb_line (hH6 : H ≤ 6) (hI3 : I 3 8 = nI H) (hb0 : B 2 0 = nI H) (hN : Nm (N 4) (M 7) H) (hB : Bt t b A B) (hL : L ≤ 940) (hX : Nat.ble X.length 1 = true) (h : Tk t L n κ v s (I 1) lt tw J w) (hR : RB A B H k) (i4 : I 101 4 = nI k) (j37 : J 37 = nI k) : Ob d d' sl sl' t L n k V sp sr X I A N lt tw J w B M H := by
  by_cases h3 : κ = 3
  · subst h3
    exact rb_1 d d' sl sl' I A N V lt tw sp sr X J w B M hH6 hI3 hb0 hN hB hL hX h hR i4 j37
  by_cases hv : κ = 2 ∧ (v = 3 ∨ v = 5 ∨ v = 6 ∨ v = 7 ∨ v = 8)
  · obtain ⟨rfl, hv⟩ := hv
    obtain ⟨-, ht, -⟩ := Tk_word h
    subst ht
    rcases hv with rfl | rfl | rfl | rfl | rfl
    · exact rb_0 d d' sl sl' I A N V lt sp sr X J w B M hH6 hI3 hb0 hN hB hL hX h hR i4 j37
    · exact rb_2 d d' sl sl' I A N V lt sp sr X J w B M hH6 hI3 hb0 hN hB hL hX h hR i4 j37
    · exact rb_3 d d' sl sl' I A N V lt sp sr X J w B M hH6 hI3 hb0 hN hB hL hX h hR i4 j37
    · exact rb_4 d d' sl sl' I A N V lt sp sr X J w B M hH6 hI3 hb0 hN hB hL hX h hR i4 j37
    · exact rb_5 d d' sl sl' I A N V lt sp sr X J w B M hH6 hI3 hb0 hN hB hL hX h hR i4 j37
  · exact rb_no d d' sl sl' I A N V lt tw sp sr X J w B M hB h h3 hv
end BKN
