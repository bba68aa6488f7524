/-! READERS: the lines of a shire, second half -/
section SRM
variable (d d' sl sl' : Nat) (I : Nat → Nat → Int32) (A : Nat → Nat → Int32) (N : Nat → Nat → Int64) (V : Nat → Nat → Option Nat) (lt : Int64) (tw : Option Nat) (sp sr : Nat) (go : Bool) (J : Nat → Int32) (w : Int64) (B : Nat → Nat → Int32) (M : Nat → Nat → Int64) {t L n κ v : Nat} {s : List Nat} {b : Nat → Nat}
theorem sr_debt {H m : Nat} (hB : Bt t b A B) (hL : L ≤ 940) (h : Tk t L n 2 v s (I 1) lt tw J w) (hR : RR I A N B M H m) (j23 : J 23 = x_b go) (f10 : I 1 10 = nI 0) (j10 : J 10 = nI 0) : Oc (d + 3) (d' + 4) sl sl' 84 191 t L (n + 1) V sp sr I A N lt tw go J w B M := by
  obtain ⟨⟨r1, r2, r3, r4, r5, r6, r7, r8⟩, rg, ry, rh, rd, rz, rl, rN⟩ := hR
  by_cases hH : m < 12
  rotate_left
  · have h6 : m = 12 := by omega
    obtain ⟨I1, J1, c1, e1, g1⟩ := gd_no (d + 2) (d' + 2) sl sl' I A N V lt tw sp sr [.inr (7, [.ref 1, .ref 12, .int (x_b go)])] J w B M (c := 4) (by decide) hB.1 h (Or.inl (by decide))
    refine Or.inr ⟨I1, A, N, lt, tw, go, J1, w, B, M, ?_, ?_, g1.2.1, Fq_c (Bd_Ch g1) (fun _ _ => rfl) (fun _ _ => rfl) (fun _ _ => rfl) (fun _ _ => rfl)⟩
    · rw [e84, k84_r146_0, r5]
      simp (disch := omega) only [rt_c, b_some, List.cons_append, List.nil_append, Bool.cond_not, cond_true, cond_false, Bool.cond_decide, nI_add, nI_clamp, xin_n, dle_e, dlt_e, deq_e, xb_0, xb_1, decide_true, decide_false, Bool.not_true, Bool.not_false, Bool.and_true, Bool.true_and, Bool.and_false, Bool.false_and, Bool.true_or, Bool.false_or, Bool.or_true, Bool.or_false, if_true, if_false, up1_s, n_31, Int32.lt_irrefl, h6, Nat.lt_irrefl, c1, k84_r146_20, t84_20, t84_20_0, t84_20_1, t84_44, t84_44_0, t84_44_1, t84_69, t84_69_0, t84_69_1, t84_93, t84_93_0, t84_93_1, t84_116, t84_116_0, t84_116_1, t84_135, t84_135_0, t84_135_1]
    · rw [e191, m191_0, e187, m187_0]
      simp (disch := omega) only [rt_c, b_some, List.cons_append, List.nil_append, Bool.cond_not, cond_true, cond_false, Bool.cond_decide, nI_add, nI_clamp, xin_n, dle_e, dlt_e, deq_e, xb_0, xb_1, decide_true, decide_false, Bool.not_true, Bool.not_false, Bool.and_true, Bool.true_and, Bool.and_false, Bool.false_and, Bool.true_or, Bool.false_or, Bool.or_true, Bool.or_false, if_true, if_false, up1_s, n_31, Int32.lt_irrefl, r6, h6, e1, m187_15, t187_15, t187_15_0, t187_15_1, t187_21, t187_21_0, t187_21_1, m191_7, xb_f, t191_11, t191_11_0, t191_11_1, t191_80, t191_80_0, t191_80_1, t191_119, t191_119_0, t191_119_1, t191_131, t191_131_0, t191_131_1]
  have h6 : ¬ m = 12 := by omega
  obtain ⟨I1, lt1, tw1, J1, w1, a1, a2, a3, a4, a5⟩ := gd_adv (d + 1) (d' + 1) sl sl' I A N V lt tw sp sr [.inr (7, [.ref 1, .ref 12, .int (x_b go)])] J w B M hB hL rfl h (by decide)
  obtain ⟨⟨κ1, v1, s1, t1⟩, -, -⟩ := a3.2
  have c0 : C (d' + 3) 187 [.ref 0, .int (nI 1), .int (nI 12)] sl' (RH J w B M) = some ([.int (x_b true)], sl', RH J1 w1 B M) := by
    rw [e187, m187_0]
    simp (disch := omega) only [rt_c, b_some, List.cons_append, List.nil_append, Bool.cond_not, cond_true, cond_false, Bool.cond_decide, nI_add, nI_clamp, xin_n, dle_e, dlt_e, deq_e, xb_0, xb_1, decide_true, decide_false, Bool.not_true, Bool.not_false, Bool.and_true, Bool.true_and, Bool.and_false, Bool.false_and, Bool.true_or, Bool.false_or, Bool.or_true, Bool.or_false, if_true, if_false, up1_s, n_31, Int32.lt_irrefl, r6, h6, a2, m187_20, t187_15, t187_15_0, t187_15_1, t187_21, t187_21_0, t187_21_1]
  have hH1 : I1 12 8 = nI H := by rw [a3.1 12 (by decide)]; exact r3
  rcases gd_house_12 d d' sl sl' I1 A N V lt1 tw1 sp sr [.inr (7, [.ref 1, .ref 12, .int (x_b go)])] J1 w1 B M r1 hH1 rN (-1) hB hL rfl t1 with ⟨u2, I2, lt2, tw2, J2, w2, p2, q2, c2, e2, g2, x2, y2⟩ | ⟨I2, J2, c2, e2, g2⟩
  rotate_left
  · refine Or.inr ⟨I2, A, N, lt1, tw1, go, J2, w1, B, M, ?_, ?_, g2.2.1, Fq_c (Ch_t (Gd_Ch a3) (Bd_Ch g2)) (fun _ _ => rfl) (fun _ _ => rfl) (fun _ _ => rfl) (fun _ _ => rfl)⟩
    · rw [e84, k84_r146_0, r5]
      simp (disch := omega) only [rt_c, b_some, List.cons_append, List.nil_append, Bool.cond_not, cond_true, cond_false, Bool.cond_decide, nI_add, nI_clamp, xin_n, dle_e, dlt_e, deq_e, xb_0, xb_1, decide_true, decide_false, Bool.not_true, Bool.not_false, Bool.and_true, Bool.true_and, Bool.and_false, Bool.false_and, Bool.true_or, Bool.false_or, Bool.or_true, Bool.or_false, if_true, if_false, up1_s, n_31, Int32.lt_irrefl, hH, a1, k84_r146_28, Nat.one_ne_zero, c2, k84_r146_40, xb_t, xb_f, t84_20, t84_20_0, t84_20_1, t84_44, t84_44_0, t84_44_1, t84_69, t84_69_0, t84_69_1, t84_93, t84_93_0, t84_93_1, t84_116, t84_116_0, t84_116_1, t84_135, t84_135_0, t84_135_1]
    · rw [e191, m191_0, c0]
      simp (disch := omega) only [rt_c, b_some, List.cons_append, List.nil_append, Bool.cond_not, cond_true, cond_false, Bool.cond_decide, nI_add, nI_clamp, xin_n, dle_e, dlt_e, deq_e, xb_0, xb_1, decide_true, decide_false, Bool.not_true, Bool.not_false, Bool.and_true, Bool.true_and, Bool.and_false, Bool.false_and, Bool.true_or, Bool.false_or, Bool.or_true, Bool.or_false, if_true, if_false, up1_s, n_31, Int32.lt_irrefl, m191_7, Nat.one_ne_zero, r4, r6, e2, m191_39, c188_0, m191_42, xb_t, xb_f, t191_11, t191_11_0, t191_11_1, t191_80, t191_80_0, t191_80_1, t191_119, t191_119_0, t191_119_1, t191_131, t191_131_0, t191_131_1]
  have hB2 : Bt t b A (up1 B 3 (upd (B 3) (22 + m) (nI u2))) := Bt_c hB rfl (up1_n (by decide))
  obtain ⟨⟨κ2, v2, s2, t2⟩, -, -⟩ := g2.2
  have hH2 : I2 12 8 = nI H := by rw [g2.1 12 (by decide)]; exact hH1
  rcases gd_house_12 d d' sl sl' I2 A N V lt2 tw2 sp sr [.inr (7, [.ref 1, .ref 12, .int (x_b go)])] J2 w2 (up1 B 3 (upd (B 3) (22 + m) (nI u2))) M r1 hH2 rN (nI u2) hB2 hL rfl t2 with ⟨u3, I3, lt3, tw3, J3, w3, p3, q3, c3, e3, g3, x3, y3⟩ | ⟨I3, J3, c3, e3, g3⟩
  rotate_left
  · refine Or.inr ⟨I3, A, N, lt2, tw2, go, J3, w2, (up1 B 3 (upd (B 3) (22 + m) (nI u2))), M, ?_, ?_, g3.2.1, Fq_c (Ch_t (Ch_t (Gd_Ch a3) (Gd_Ch g2)) (Bd_Ch g3)) (fun _ _ => rfl) (fun _ _ => rfl) (fun q hq => up1_n hq) (fun _ _ => rfl)⟩
    · rw [e84, k84_r146_0, r5]
      simp (disch := omega) only [rt_c, b_some, List.cons_append, List.nil_append, Bool.cond_not, cond_true, cond_false, Bool.cond_decide, nI_add, nI_clamp, xin_n, dle_e, dlt_e, deq_e, xb_0, xb_1, decide_true, decide_false, Bool.not_true, Bool.not_false, Bool.and_true, Bool.true_and, Bool.and_false, Bool.false_and, Bool.true_or, Bool.false_or, Bool.or_true, Bool.or_false, if_true, if_false, up1_s, n_31, Int32.lt_irrefl, hH, a1, k84_r146_28, Nat.one_ne_zero, c2, k84_r146_40, x2, c3, k84_r146_65, xb_t, xb_f, t84_20, t84_20_0, t84_20_1, t84_44, t84_44_0, t84_44_1, t84_69, t84_69_0, t84_69_1, t84_93, t84_93_0, t84_93_1, t84_116, t84_116_0, t84_116_1, t84_135, t84_135_0, t84_135_1]
    · rw [e191, m191_0, c0]
      simp (disch := omega) only [rt_c, b_some, List.cons_append, List.nil_append, Bool.cond_not, cond_true, cond_false, Bool.cond_decide, nI_add, nI_clamp, xin_n, dle_e, dlt_e, deq_e, xb_0, xb_1, decide_true, decide_false, Bool.not_true, Bool.not_false, Bool.and_true, Bool.true_and, Bool.and_false, Bool.false_and, Bool.true_or, Bool.false_or, Bool.or_true, Bool.or_false, if_true, if_false, up1_s, n_31, Int32.lt_irrefl, m191_7, Nat.one_ne_zero, r4, r6, e2, m191_39, c188_1, m191_42, y2, up1_up, upd_s, upd_n, e3, m191_73, c188_0, m191_76, xb_t, xb_f, t191_11, t191_11_0, t191_11_1, t191_80, t191_80_0, t191_80_1, t191_119, t191_119_0, t191_119_1, t191_131, t191_131_0, t191_131_1]
  have hB3 : Bt t b A (up1 B 3 (upd (upd (B 3) (22 + m) (nI u2)) (34 + m) (nI u3))) := Bt_c hB rfl (up1_n (by decide))
  obtain ⟨⟨κ3, v3, s3, t3⟩, -, -⟩ := g3.2
  have hH3 : I3 12 8 = nI H := by rw [g3.1 12 (by decide)]; exact hH2
  rcases gd_num d (d' + 1) sl sl' I3 A N V lt3 tw3 sp sr [.inr (7, [.ref 1, .ref 12, .int (x_b go)])] J3 w3 (up1 B 3 (upd (upd (B 3) (22 + m) (nI u2)) (34 + m) (nI u3))) M (a := 1) (z := 200) (by decide) (by decide) hB3 hL rfl t3 with ⟨u4, I4, lt4, tw4, J4, w4, p4, q4, c4, e4, g4, x4, y4⟩ | ⟨I4, J4, c4, e4, g4⟩
  rotate_left
  · refine Or.inr ⟨I4, A, N, lt3, tw3, go, J4, w3, (up1 B 3 (upd (upd (B 3) (22 + m) (nI u2)) (34 + m) (nI u3))), M, ?_, ?_, g4.2.1, Fq_c (Ch_t (Ch_t (Ch_t (Gd_Ch a3) (Gd_Ch g2)) (Gd_Ch g3)) (Bd_Ch g4)) (fun _ _ => rfl) (fun _ _ => rfl) (fun q hq => up1_n hq) (fun _ _ => rfl)⟩
    · rw [e84, k84_r146_0, r5]
      simp (disch := omega) only [rt_c, b_some, List.cons_append, List.nil_append, Bool.cond_not, cond_true, cond_false, Bool.cond_decide, nI_add, nI_clamp, xin_n, dle_e, dlt_e, deq_e, xb_0, xb_1, decide_true, decide_false, Bool.not_true, Bool.not_false, Bool.and_true, Bool.true_and, Bool.and_false, Bool.false_and, Bool.true_or, Bool.false_or, Bool.or_true, Bool.or_false, if_true, if_false, up1_s, n_31, Int32.lt_irrefl, hH, a1, k84_r146_28, Nat.one_ne_zero, c2, k84_r146_40, x2, c3, k84_r146_65, x3, c4, k84_r146_89, xb_t, xb_f, t84_20, t84_20_0, t84_20_1, t84_44, t84_44_0, t84_44_1, t84_69, t84_69_0, t84_69_1, t84_93, t84_93_0, t84_93_1, t84_116, t84_116_0, t84_116_1, t84_135, t84_135_0, t84_135_1]
    · rw [e191, m191_0, c0]
      simp (disch := omega) only [rt_c, b_some, List.cons_append, List.nil_append, Bool.cond_not, cond_true, cond_false, Bool.cond_decide, nI_add, nI_clamp, xin_n, dle_e, dlt_e, deq_e, xb_0, xb_1, decide_true, decide_false, Bool.not_true, Bool.not_false, Bool.and_true, Bool.true_and, Bool.and_false, Bool.false_and, Bool.true_or, Bool.false_or, Bool.or_true, Bool.or_false, if_true, if_false, up1_s, n_31, Int32.lt_irrefl, m191_7, Nat.one_ne_zero, r4, r6, e2, m191_39, c188_1, m191_42, y2, up1_up, upd_s, upd_n, e3, m191_73, c188_1, m191_76, y3, up1_up, e4, m191_94, c188_0, m191_97, xb_t, xb_f, t191_11, t191_11_0, t191_11_1, t191_80, t191_80_0, t191_80_1, t191_119, t191_119_0, t191_119_1, t191_131, t191_131_0, t191_131_1]
  have hB4 : Bt t b A (up1 B 3 (upd (upd (upd (B 3) (22 + m) (nI u2)) (34 + m) (nI u3)) (46 + m) (nI u4))) := Bt_c hB rfl (up1_n (by decide))
  obtain ⟨⟨κ4, v4, s4, t4⟩, -, -⟩ := g4.2
  have hH4 : I4 12 8 = nI H := by rw [g4.1 12 (by decide)]; exact hH3
  rcases gd_num d (d' + 1) sl sl' I4 A N V lt4 tw4 sp sr [.inr (7, [.ref 1, .ref 12, .int (x_b go)])] J4 w4 (up1 B 3 (upd (upd (upd (B 3) (22 + m) (nI u2)) (34 + m) (nI u3)) (46 + m) (nI u4))) M (a := 0) (z := 99) (by decide) (by decide) hB4 hL rfl t4 with ⟨u5, I5, lt5, tw5, J5, w5, p5, q5, c5, e5, g5, x5, y5⟩ | ⟨I5, J5, c5, e5, g5⟩
  rotate_left
  · refine Or.inr ⟨I5, A, N, lt4, tw4, go, J5, w4, (up1 B 3 (upd (upd (upd (B 3) (22 + m) (nI u2)) (34 + m) (nI u3)) (46 + m) (nI u4))), M, ?_, ?_, g5.2.1, Fq_c (Ch_t (Ch_t (Ch_t (Ch_t (Gd_Ch a3) (Gd_Ch g2)) (Gd_Ch g3)) (Gd_Ch g4)) (Bd_Ch g5)) (fun _ _ => rfl) (fun _ _ => rfl) (fun q hq => up1_n hq) (fun _ _ => rfl)⟩
    · rw [e84, k84_r146_0, r5]
      simp (disch := omega) only [rt_c, b_some, List.cons_append, List.nil_append, Bool.cond_not, cond_true, cond_false, Bool.cond_decide, nI_add, nI_clamp, xin_n, dle_e, dlt_e, deq_e, xb_0, xb_1, decide_true, decide_false, Bool.not_true, Bool.not_false, Bool.and_true, Bool.true_and, Bool.and_false, Bool.false_and, Bool.true_or, Bool.false_or, Bool.or_true, Bool.or_false, if_true, if_false, up1_s, n_31, Int32.lt_irrefl, hH, a1, k84_r146_28, Nat.one_ne_zero, c2, k84_r146_40, x2, c3, k84_r146_65, x3, c4, k84_r146_89, x4, c5, k84_r146_112, xb_t, xb_f, t84_20, t84_20_0, t84_20_1, t84_44, t84_44_0, t84_44_1, t84_69, t84_69_0, t84_69_1, t84_93, t84_93_0, t84_93_1, t84_116, t84_116_0, t84_116_1, t84_135, t84_135_0, t84_135_1]
    · rw [e191, m191_0, c0]
      simp (disch := omega) only [rt_c, b_some, List.cons_append, List.nil_append, Bool.cond_not, cond_true, cond_false, Bool.cond_decide, nI_add, nI_clamp, xin_n, dle_e, dlt_e, deq_e, xb_0, xb_1, decide_true, decide_false, Bool.not_true, Bool.not_false, Bool.and_true, Bool.true_and, Bool.and_false, Bool.false_and, Bool.true_or, Bool.false_or, Bool.or_true, Bool.or_false, if_true, if_false, up1_s, n_31, Int32.lt_irrefl, m191_7, Nat.one_ne_zero, r4, r6, e2, m191_39, c188_1, m191_42, y2, up1_up, upd_s, upd_n, e3, m191_73, c188_1, m191_76, y3, up1_up, e4, m191_94, c188_1, m191_97, y4, up1_up, e5, m191_112, c188_0, m191_115, xb_t, xb_f, t191_11, t191_11_0, t191_11_1, t191_80, t191_80_0, t191_80_1, t191_119, t191_119_0, t191_119_1, t191_131, t191_131_0, t191_131_1]
  have hB5 : Bt t b A (up1 B 3 (upd (upd (upd (upd (B 3) (22 + m) (nI u2)) (34 + m) (nI u3)) (46 + m) (nI u4)) (58 + m) (nI u5))) := Bt_c hB rfl (up1_n (by decide))
  obtain ⟨⟨κ5, v5, s5, t5⟩, -, -⟩ := g5.2
  have hH5 : I5 12 8 = nI H := by rw [g5.1 12 (by decide)]; exact hH4
  have i12 : I5 12 = I 12 := by rw [g5.1 12 (by decide), g4.1 12 (by decide), g3.1 12 (by decide), g2.1 12 (by decide), a3.1 12 (by decide)]
  have h49 : C (d + 2) 49 [.ref 12, .int (nI u2), .int (nI u3), .int (nI u4), .int (nI u5)] sl (CH I5 A N V lt5 tw5 sp sr [.inr (7, [.ref 1, .ref 12, .int (x_b go)])]) = some ([], sl, CH (up1 I5 12 (up1 (I5 12) 9 (nI (m + 1)))) (up1 (up1 (up1 (up1 A 17 (upd (A 17) m (nI u2))) 18 (upd (A 18) m (nI u3))) 19 (upd (A 19) m (nI u4))) 20 (upd (A 20) m (nI u5))) N V lt5 tw5 sp sr [.inr (7, [.ref 1, .ref 12, .int (x_b go)])]) := by
    have h8 : ¬ 12 ≤ m := by omega
    have h9 : I5 12 9 = nI m := by rw [i12]; exact r5
    rw [e49, k49_r12_0, h9]
    simp (disch := omega) only [rt_c, b_some, List.cons_append, List.nil_append, Bool.cond_not, cond_true, cond_false, Bool.cond_decide, nI_add, nI_clamp, xin_n, dle_e, dlt_e, deq_e, xb_0, xb_1, decide_true, decide_false, Bool.not_true, Bool.not_false, Bool.and_true, Bool.true_and, Bool.and_false, Bool.false_and, Bool.true_or, Bool.false_or, Bool.or_true, Bool.or_false, if_true, if_false, up1_s, n_31, Int32.lt_irrefl, h8, t49_60]
  have hne : u2 ≠ u3 := fun e => q3 (by rw [e])
  refine Or.inl ⟨(up1 I5 12 (up1 (I5 12) 9 (nI (m + 1)))), (up1 (up1 (up1 (up1 A 17 (upd (A 17) m (nI u2))) 18 (upd (A 18) m (nI u3))) 19 (upd (A 19) m (nI u4))) 20 (upd (A 20) m (nI u5))), N, lt5, tw5, go, J5, w5, (up1 B 3 (upd (upd (upd (upd (upd (B 3) (22 + m) (nI u2)) (34 + m) (nI u3)) (46 + m) (nI u4)) (58 + m) (nI u5)) 1 (nI (m + 1)))), M, ?_, ?_, ⟨⟨κ5, v5, s5, ?_⟩, ⟨H, m + 1, ?_⟩, ?_, ?_, ?_⟩, Fq_c (Ch_t (Ch_t (Ch_t (Ch_t (Ch_t (Gd_Ch a3) (Gd_Ch g2)) (Gd_Ch g3)) (Gd_Ch g4)) (Gd_Ch g5)) ⟨fun q q1 q2 => up1_n q2, fun _ _ => rfl⟩) (fun q hq => ?_) (fun _ _ => rfl) (fun q hq => up1_n hq) (fun _ _ => rfl)⟩
  · rw [e84, k84_r146_0, r5]
    simp (disch := omega) only [rt_c, b_some, List.cons_append, List.nil_append, Bool.cond_not, cond_true, cond_false, Bool.cond_decide, nI_add, nI_clamp, xin_n, dle_e, dlt_e, deq_e, xb_0, xb_1, decide_true, decide_false, Bool.not_true, Bool.not_false, Bool.and_true, Bool.true_and, Bool.and_false, Bool.false_and, Bool.true_or, Bool.false_or, Bool.or_true, Bool.or_false, if_true, if_false, up1_s, n_31, Int32.lt_irrefl, hH, a1, k84_r146_28, Nat.one_ne_zero, c2, k84_r146_40, x2, c3, k84_r146_65, x3, c4, k84_r146_89, x4, c5, k84_r146_112, x5, h49, k84_r146_134, xb_t, t84_20, t84_20_0, t84_20_1, t84_44, t84_44_0, t84_44_1, t84_69, t84_69_0, t84_69_1, t84_93, t84_93_0, t84_93_1, t84_116, t84_116_0, t84_116_1, t84_135, t84_135_0, t84_135_1]
  · rw [e191, m191_0, c0]
    simp (disch := omega) only [rt_c, b_some, List.cons_append, List.nil_append, Bool.cond_not, cond_true, cond_false, Bool.cond_decide, nI_add, nI_clamp, xin_n, dle_e, dlt_e, deq_e, xb_0, xb_1, decide_true, decide_false, Bool.not_true, Bool.not_false, Bool.and_true, Bool.true_and, Bool.and_false, Bool.false_and, Bool.true_or, Bool.false_or, Bool.or_true, Bool.or_false, if_true, if_false, up1_s, n_31, Int32.lt_irrefl, m191_7, Nat.one_ne_zero, r4, r6, e2, m191_39, c188_1, m191_42, y2, up1_up, upd_s, upd_n, e3, m191_73, c188_1, m191_76, y3, up1_up, e4, m191_94, c188_1, m191_97, y4, up1_up, e5, m191_112, c188_1, m191_115, y5, up1_up, xb_t, r6, t191_11, t191_11_0, t191_11_1, t191_80, t191_80_0, t191_80_1, t191_119, t191_119_0, t191_119_1, t191_131, t191_131_0, t191_131_1]
  · rw [up1_n (by decide)]
    exact Tk_le t5 (by omega)
  · refine ⟨⟨r1, by omega, ?_, ?_, ?_, ?_, ?_, ?_⟩, ?_, ?_, fun h hh => ?_, fun j hj => ?_, fun h h1 h2 => ?_, fun j h1 h2 => ?_, rN⟩
    · rw [up1_s, up1_n (by decide), i12]; exact r3
    · rw [up1_s]; simp (disch := omega) only [up1, upd, Nat.add_left_cancel_iff, if_neg, if_pos, if_true, if_false]; exact r4
    · rw [up1_s, up1_s]
    · rw [up1_s, upd_s]
    · rw [up1_s, up1_n (by decide), i12]; exact r7
    · rw [up1_s, up1_n (by decide), i12]; exact r8
    · obtain ⟨g, z1, z2, z3⟩ := rg
      refine ⟨g, z1, by rw [up1_s, up1_n (by decide), i12]; exact z2, ?_⟩
      rw [up1_s]; simp (disch := omega) only [up1, upd, Nat.add_left_cancel_iff, if_neg, if_pos, if_true, if_false]; exact z3
    · obtain ⟨g, z0, z1, z2, z3⟩ := ry
      refine ⟨g, z0, z1, by rw [up1_s, up1_n (by decide), i12]; exact z2, ?_⟩
      rw [up1_s]; simp (disch := omega) only [up1, upd, Nat.add_left_cancel_iff, if_neg, if_pos, if_true, if_false]; exact z3
    · simp (disch := omega) only [up1_s, up1_n]
      have := rh h hh
      simp (disch := omega) only [up1, upd, Nat.add_left_cancel_iff, if_neg, if_pos, if_true, if_false]
      exact this
    · simp (disch := omega) only [up1_s, up1_n]
      by_cases hh2 : j = m
      · subst hh2
        simp (disch := omega) only [up1, upd, Nat.add_left_cancel_iff, if_neg, if_pos, if_true, if_false]
        refine ⟨?_, ?_, ?_, ?_, u2, u3, u4, u5, p2, p3, hne, by omega, by omega, ?_, ?_, ?_, ?_⟩ <;> first | trivial | rfl
      · have hh3 : j < m := by omega
        have := rd j hh3
        simp (disch := omega) only [up1, upd, Nat.add_left_cancel_iff, if_neg, if_pos, if_true, if_false]
        exact this
    · have := rz h h1 h2
      rw [up1_s]; simp (disch := omega) only [up1, upd, Nat.add_left_cancel_iff, if_neg, if_pos, if_true, if_false]; exact this
    · have := rl j (by omega) h2
      rw [up1_s]; simp (disch := omega) only [up1, upd, Nat.add_left_cancel_iff, if_neg, if_pos, if_true, if_false]; exact this
  · rw [g5.2.2.2 23 (by decide), g4.2.2.2 23 (by decide), g3.2.2.2 23 (by decide), g2.2.2.2 23 (by decide), a3.2.2.2 23 (by decide)]; exact j23
  · rw [up1_n (by decide), g5.2.2.1, g4.2.2.1, g3.2.2.1, g2.2.2.1, a3.2.2.1]; exact f10
  · rw [g5.2.2.2 10 (by decide), g4.2.2.2 10 (by decide), g3.2.2.2 10 (by decide), g2.2.2.2 10 (by decide), a3.2.2.2 10 (by decide)]; exact j10
  · rw [up1_n (by omega), up1_n (by omega), up1_n (by omega), up1_n (by omega)]
theorem sr_grows {H m : Nat} (hB : Bt t b A B) (hL : L ≤ 940) (h : Tk t L n 2 v s (I 1) lt tw J w) (hR : RR I A N B M H m) (j23 : J 23 = x_b go) (f10 : I 1 10 = nI 0) (j10 : J 10 = nI 0) : Oc (d + 3) (d' + 3) sl sl' 85 192 t L (n + 1) V sp sr I A N lt tw go J w B M := by
  obtain ⟨⟨r1, r2, r3, r4, r5, r6, r7, r8⟩, rg, ry, rh, rd, rz, rl, rN⟩ := hR
  cases go with
  | true =>
    rw [xb_t] at j23
    obtain ⟨I1, J1, c1, e1, g1⟩ := gd_no (d + 2) (d' + 2) sl sl' I A N V lt tw sp sr [.inr (7, [.ref 1, .ref 12, .int (nI 1)])] J w B M (c := 3) (by decide) hB.1 h (Or.inl (by decide))
    refine Or.inr ⟨I1, A, N, lt, tw, true, J1, w, B, M, ?_, ?_, g1.2.1, Fq_c (Bd_Ch g1) (fun _ _ => rfl) (fun _ _ => rfl) (fun _ _ => rfl) (fun _ _ => rfl)⟩
    · rw [xb_t, e85, k85_r146_0]
      simp (disch := omega) only [rt_c, b_some, List.cons_append, List.nil_append, Bool.cond_not, cond_true, cond_false, Bool.cond_decide, nI_add, nI_clamp, xin_n, dle_e, dlt_e, deq_e, xb_0, xb_1, decide_true, decide_false, Bool.not_true, Bool.not_false, Bool.and_true, Bool.true_and, Bool.and_false, Bool.false_and, Bool.true_or, Bool.false_or, Bool.or_true, Bool.or_false, if_true, if_false, up1_s, n_31, Int32.lt_irrefl, Nat.one_ne_zero, c1, k85_r146_15, t85_15, t85_15_0, t85_15_1, t85_42, t85_42_0, t85_42_1, t85_71, t85_71_0, t85_71_1, t85_87, t85_87_0, t85_87_1]
    · rw [e192, m192_0, j23]
      simp (disch := omega) only [rt_c, b_some, List.cons_append, List.nil_append, Bool.cond_not, cond_true, cond_false, Bool.cond_decide, nI_add, nI_clamp, xin_n, dle_e, dlt_e, deq_e, xb_0, xb_1, decide_true, decide_false, Bool.not_true, Bool.not_false, Bool.and_true, Bool.true_and, Bool.and_false, Bool.false_and, Bool.true_or, Bool.false_or, Bool.or_true, Bool.or_false, if_true, if_false, up1_s, n_31, Int32.lt_irrefl, Nat.one_ne_zero, e1, m192_12, t192_12, t192_12_0, t192_12_1, t192_57, t192_57_0, t192_57_1]
  | false =>
    rw [xb_f] at j23
    obtain ⟨κ1, v1, s1, f1, lt1, tw1, J1, w1, a1, a2, t1, a4, a5⟩ := adv (d + 1) (d' + 1) sl sl' I A N V sp sr [.inr (7, [.ref 1, .ref 12, .int (nI 1)])] B M hB hL rfl h (by decide) (I 1) (up1 J 23 (nI 1)) (fun k hk => rfl) (fun k hk => up1_n (by omega))
    rw [up1_id] at a1
    have t1' : Tk t L (n + 1) κ1 v1 s1 ((up1 I 1 f1) 1) lt1 tw1 J1 w1 := by rw [up1_s]; exact t1
    have hc1 : Ch I (up1 I 1 f1) J J1 := ⟨fun q q1 _ => up1_n q1, fun k hk => by rw [a5 k (by omega), up1_n (by omega)]⟩
    rcases gd_num d d' sl sl' (up1 I 1 f1) A N V lt1 tw1 sp sr [.inr (7, [.ref 1, .ref 12, .int (nI 1)])] J1 w1 B M (a := 0) (z := 9) (by decide) (by decide) hB hL rfl t1' with ⟨u2, I2, lt2, tw2, J2, w2, p2, q2, c2, e2, g2, x2, y2⟩ | ⟨I2, J2, c2, e2, g2⟩
    rotate_left
    · refine Or.inr ⟨I2, A, N, lt1, tw1, true, J2, w1, B, M, ?_, ?_, g2.2.1, Fq_c (Ch_t hc1 (Bd_Ch g2)) (fun _ _ => rfl) (fun _ _ => rfl) (fun _ _ => rfl) (fun _ _ => rfl)⟩
      · rw [xb_f, xb_t, e85, k85_r146_0]
        simp (disch := omega) only [rt_c, b_some, List.cons_append, List.nil_append, Bool.cond_not, cond_true, cond_false, Bool.cond_decide, nI_add, nI_clamp, xin_n, dle_e, dlt_e, deq_e, xb_0, xb_1, decide_true, decide_false, Bool.not_true, Bool.not_false, Bool.and_true, Bool.true_and, Bool.and_false, Bool.false_and, Bool.true_or, Bool.false_or, Bool.or_true, Bool.or_false, if_true, if_false, up1_s, n_31, Int32.lt_irrefl, a1, k85_r146_28, c2, k85_r146_38, xb_f, t85_15, t85_15_0, t85_15_1, t85_42, t85_42_0, t85_42_1, t85_71, t85_71_0, t85_71_1, t85_87, t85_87_0, t85_87_1]
      · rw [e192, m192_0, j23]
        simp (disch := omega) only [rt_c, b_some, List.cons_append, List.nil_append, Bool.cond_not, cond_true, cond_false, Bool.cond_decide, nI_add, nI_clamp, xin_n, dle_e, dlt_e, deq_e, xb_0, xb_1, decide_true, decide_false, Bool.not_true, Bool.not_false, Bool.and_true, Bool.true_and, Bool.and_false, Bool.false_and, Bool.true_or, Bool.false_or, Bool.or_true, Bool.or_false, if_true, if_false, up1_s, n_31, Int32.lt_irrefl, a2, m192_22, e2, xb_f, m192_31, c188_0, m192_34, t192_12, t192_12_0, t192_12_1, t192_57, t192_57_0, t192_57_1]
    obtain ⟨⟨κ2, v2, s2, t2⟩, -, -⟩ := g2.2
    have hB2 : Bt t b A (up1 B 3 (upd (B 3) 2 (nI u2))) := Bt_c hB rfl (up1_n (by decide))
    have t2' : Tk t L (n + 1 + 1) κ2 v2 s2 ((up1 I2 12 (up1 (I2 12) 10 (nI u2))) 1) lt2 tw2 J2 w2 := by rw [up1_n (by decide)]; exact t2
    have hc2 : Ch I (up1 I2 12 (up1 (I2 12) 10 (nI u2))) J J2 := Ch_t (Ch_t hc1 (Gd_Ch g2)) ⟨fun q _ q2 => up1_n q2, fun _ _ => rfl⟩
    rcases gd_num d d' sl sl' (up1 I2 12 (up1 (I2 12) 10 (nI u2))) A N V lt2 tw2 sp sr [.inr (7, [.ref 1, .ref 12, .int (nI 1)])] J2 w2 (up1 B 3 (upd (B 3) 2 (nI u2))) M (a := 1) (z := 30) (by decide) (by decide) hB2 hL rfl t2' with ⟨u3, I3, lt3, tw3, J3, w3, p3, q3, c3, e3, g3, x3, y3⟩ | ⟨I3, J3, c3, e3, g3⟩
    rotate_left
    · refine Or.inr ⟨I3, A, N, lt2, tw2, true, J3, w2, (up1 B 3 (upd (B 3) 2 (nI u2))), M, ?_, ?_, g3.2.1, Fq_c (Ch_t hc2 (Bd_Ch g3)) (fun _ _ => rfl) (fun _ _ => rfl) (fun q hq => up1_n hq) (fun _ _ => rfl)⟩
      · rw [xb_f, xb_t, e85, k85_r146_0]
        simp (disch := omega) only [rt_c, b_some, List.cons_append, List.nil_append, Bool.cond_not, cond_true, cond_false, Bool.cond_decide, nI_add, nI_clamp, xin_n, dle_e, dlt_e, deq_e, xb_0, xb_1, decide_true, decide_false, Bool.not_true, Bool.not_false, Bool.and_true, Bool.true_and, Bool.and_false, Bool.false_and, Bool.true_or, Bool.false_or, Bool.or_true, Bool.or_false, if_true, if_false, up1_s, n_31, Int32.lt_irrefl, a1, k85_r146_28, c2, k85_r146_38, x2, xb_t, Nat.one_ne_zero, c3, k85_r146_67, xb_f, t85_15, t85_15_0, t85_15_1, t85_42, t85_42_0, t85_42_1, t85_71, t85_71_0, t85_71_1, t85_87, t85_87_0, t85_87_1]
      · rw [e192, m192_0, j23]
        simp (disch := omega) only [rt_c, b_some, List.cons_append, List.nil_append, Bool.cond_not, cond_true, cond_false, Bool.cond_decide, nI_add, nI_clamp, xin_n, dle_e, dlt_e, deq_e, xb_0, xb_1, decide_true, decide_false, Bool.not_true, Bool.not_false, Bool.and_true, Bool.true_and, Bool.and_false, Bool.false_and, Bool.true_or, Bool.false_or, Bool.or_true, Bool.or_false, if_true, if_false, up1_s, n_31, Int32.lt_irrefl, a2, m192_22, e2, xb_t, Nat.one_ne_zero, m192_31, c188_1, m192_34, y2, e3, xb_f, m192_46, c188_0, m192_49, t192_12, t192_12_0, t192_12_1, t192_57, t192_57_0, t192_57_1]
    obtain ⟨⟨κ3, v3, s3, t3⟩, -, -⟩ := g3.2
    have i12 : I3 12 = up1 (I 12) 10 (nI u2) := by rw [g3.1 12 (by decide), up1_s, g2.1 12 (by decide), up1_n (by decide)]
    refine Or.inl ⟨up1 I3 12 (up1 (I3 12) 11 (nI u3)), A, N, lt3, tw3, true, J3, w3, (up1 B 3 (upd (upd (B 3) 2 (nI u2)) 3 (nI u3))), M, ?_, ?_, ⟨⟨κ3, v3, s3, ?_⟩, ⟨H, m, ?_⟩, ?_, ?_, ?_⟩, Fq_c (Ch_t hc2 (Ch_t (Gd_Ch g3) ⟨fun q _ q2 => up1_n q2, fun _ _ => rfl⟩)) (fun _ _ => rfl) (fun _ _ => rfl) (fun q hq => up1_n hq) (fun _ _ => rfl)⟩
    · rw [xb_f, xb_t, e85, k85_r146_0]
      simp (disch := omega) only [rt_c, b_some, List.cons_append, List.nil_append, Bool.cond_not, cond_true, cond_false, Bool.cond_decide, nI_add, nI_clamp, xin_n, dle_e, dlt_e, deq_e, xb_0, xb_1, decide_true, decide_false, Bool.not_true, Bool.not_false, Bool.and_true, Bool.true_and, Bool.and_false, Bool.false_and, Bool.true_or, Bool.false_or, Bool.or_true, Bool.or_false, if_true, if_false, up1_s, n_31, Int32.lt_irrefl, a1, k85_r146_28, c2, k85_r146_38, x2, xb_t, Nat.one_ne_zero, c3, k85_r146_67, x3, t85_15, t85_15_0, t85_15_1, t85_42, t85_42_0, t85_42_1, t85_71, t85_71_0, t85_71_1, t85_87, t85_87_0, t85_87_1]
    · rw [e192, m192_0, j23]
      simp (disch := omega) only [rt_c, b_some, List.cons_append, List.nil_append, Bool.cond_not, cond_true, cond_false, Bool.cond_decide, nI_add, nI_clamp, xin_n, dle_e, dlt_e, deq_e, xb_0, xb_1, decide_true, decide_false, Bool.not_true, Bool.not_false, Bool.and_true, Bool.true_and, Bool.and_false, Bool.false_and, Bool.true_or, Bool.false_or, Bool.or_true, Bool.or_false, if_true, if_false, up1_s, n_31, Int32.lt_irrefl, a2, m192_22, e2, xb_t, Nat.one_ne_zero, m192_31, c188_1, m192_34, y2, e3, m192_46, m192_49, y3, up1_up, t192_12, t192_12_0, t192_12_1, t192_57, t192_57_0, t192_57_1]
    · rw [up1_n (by decide)]
      exact Tk_le t3 (by omega)
    · refine ⟨⟨r1, r2, ?_, ?_, ?_, ?_, ?_, ?_⟩, ⟨u2, q2, ?_, ?_⟩, ⟨u3, p3, q3, ?_, ?_⟩, fun h hh => ?_, fun j hj => ?_, fun h h1 h2 => ?_, fun j h1 h2 => ?_, rN⟩
      · rw [up1_s, up1_n (by decide), i12, up1_n (by decide)]; exact r3
      · rw [up1_s]; simp (disch := omega) only [up1, upd, Nat.add_left_cancel_iff, if_neg, if_pos, if_true, if_false]; exact r4
      · rw [up1_s, up1_n (by decide), i12, up1_n (by decide)]; exact r5
      · rw [up1_s]; simp (disch := omega) only [up1, upd, Nat.add_left_cancel_iff, if_neg, if_pos, if_true, if_false]; exact r6
      · rw [up1_s, up1_n (by decide), i12, up1_n (by decide)]; exact r7
      · rw [up1_s, up1_n (by decide), i12, up1_n (by decide)]; exact r8
      · rw [up1_s, up1_n (by decide), i12, up1_s]
      · rw [up1_s, upd_n (by decide), upd_s]
      · rw [up1_s, up1_s]
      · rw [up1_s, upd_s]
      · have := rh h hh
        rw [up1_s]; simp (disch := omega) only [up1, upd, Nat.add_left_cancel_iff, if_neg, if_pos, if_true, if_false]; exact this
      · have := rd j hj
        rw [up1_s]; simp (disch := omega) only [up1, upd, Nat.add_left_cancel_iff, if_neg, if_pos, if_true, if_false]; exact this
      · have := rz h h1 h2
        rw [up1_s]; simp (disch := omega) only [up1, upd, Nat.add_left_cancel_iff, if_neg, if_pos, if_true, if_false]; exact this
      · have := rl j h1 h2
        rw [up1_s]; simp (disch := omega) only [up1, upd, Nat.add_left_cancel_iff, if_neg, if_pos, if_true, if_false]; exact this
    · rw [g3.2.2.2 23 (by decide), g2.2.2.2 23 (by decide), a5 23 (by decide), up1_s, xb_t]
    · rw [up1_n (by decide), g3.2.2.1, up1_n (by decide), g2.2.2.1, up1_s, a4 10 (by decide)]; exact f10
    · rw [g3.2.2.2 10 (by decide), g2.2.2.2 10 (by decide), a5 10 (by decide), up1_n (by decide)]; exact j10
end SRM
