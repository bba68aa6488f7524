/-! READERS: the lines of a shire -/
def Rs (t L n : Nat) (I A : Nat → Nat → Int32) (N : Nat → Nat → Int64) (lt : Int64) (tw : Option Nat) (go : Bool) (J : Nat → Int32) (w : Int64) (B : Nat → Nat → Int32) (M : Nat → Nat → Int64) : Prop := (∃ κ v s, Tk t L n κ v s (I 1) lt tw J w) ∧ (∃ H m, RR I A N B M H m) ∧ J 23 = x_b go ∧ I 1 10 = nI 0 ∧ J 10 = nI 0
def Oc (d d' sl sl' jc jr t L n : Nat) (V : Nat → Nat → Option Nat) (sp sr : Nat) (I A : Nat → Nat → Int32) (N : Nat → Nat → Int64) (lt : Int64) (tw : Option Nat) (go : Bool) (J : Nat → Int32) (w : Int64) (B : Nat → Nat → Int32) (M : Nat → Nat → Int64) : Prop :=
  (∃ I' A' N' lt' tw' go' J' w' B' M', C d jc [.ref 146] sl (CH I A N V lt tw sp sr [.inr (7, [.ref 1, .ref 12, .int (x_b go)])]) = some ([.int (x_b true)], sl, CH I' A' N' V lt' tw' sp sr [.inr (7, [.ref 1, .ref 12, .int (x_b go')])]) ∧ C d' jr [.ref 0] sl' (RH J w B M) = some ([.int (x_b true)], sl', RH J' w' B' M') ∧ Rs t L n I' A' N' lt' tw' go' J' w' B' M' ∧ Fq I A N J B M I' A' N' J' B' M') ∨
  (∃ I' A' N' lt' tw' go' J' w' B' M', C d jc [.ref 146] sl (CH I A N V lt tw sp sr [.inr (7, [.ref 1, .ref 12, .int (x_b go)])]) = some ([.int (x_b false)], sl, CH I' A' N' V lt' tw' sp sr [.inr (7, [.ref 1, .ref 12, .int (x_b go')])]) ∧ C d' jr [.ref 0] sl' (RH J w B M) = some ([.int (x_b false)], sl', RH J' w' B' M') ∧ Fl (I' 1) J' ∧ Fq I A N J B M I' A' N' J' B' M')
def Ch (I I' : Nat → Nat → Int32) (J J' : Nat → Int32) : Prop := (∀ q, q ≠ 1 → q ≠ 12 → I' q = I q) ∧ (∀ k, k < 5 ∨ (11 < k ∧ k ≠ 13 ∧ k ≠ 23) → J' k = J k)
theorem Gd_Ch {t L n : Nat} {I I' : Nat → Nat → Int32} {lt' : Int64} {tw' : Option Nat} {J J' : Nat → Int32} {w' : Int64} (h : Gd t L n I I' lt' tw' J J' w') : Ch I I' J J' := ⟨fun q q1 _ => h.1 q q1, fun k hk => h.2.2.2 k (by omega)⟩
theorem Bd_Ch {I I' : Nat → Nat → Int32} {J J' : Nat → Int32} (h : Bd I I' J J') : Ch I I' J J' := ⟨fun q q1 _ => h.1 q q1, fun k hk => h.2.2.2 k (by omega)⟩
theorem Ch_t {I I1 I2 : Nat → Nat → Int32} {J J1 J2 : Nat → Int32} (h : Ch I I1 J J1) (h' : Ch I1 I2 J1 J2) : Ch I I2 J J2 := ⟨fun q q1 q2 => (h'.1 q q1 q2).trans (h.1 q q1 q2), fun k hk => (h'.2 k hk).trans (h.2 k hk)⟩
theorem Fq_c {I I' A A' : Nat → Nat → Int32} {N N' : Nat → Nat → Int64} {J J' : Nat → Int32} {B B' : Nat → Nat → Int32} {M M' : Nat → Nat → Int64} (h : Ch I I' J J') (hA : ∀ q, q < 14 ∨ 20 < q → A' q = A q) (hN : ∀ q, q ≠ 13 → N' q = N q) (hB : ∀ q, q ≠ 3 → B' q = B q) (hM : ∀ q, q ≠ 8 → M' q = M q) : Fq I A N J B M I' A' N' J' B' M' := ⟨h.1, hA, hN, h.2, hB, hM⟩
theorem Tk_le {t L n n' κ v : Nat} {s : List Nat} {f : Nat → Int32} {lt : Int64} {tw : Option Nat} {J : Nat → Int32} {w : Int64} (h : Tk t L n κ v s f lt tw J w) (hn : n' ≤ n) : Tk t L n' κ v s f lt tw J w := by
  obtain ⟨p, q, a1, a2, a3, a4, a5, a6, a7, a8, a9, a10, a11, a12, a13⟩ := h
  exact ⟨p, q, a1, a2, a3, a4, a5, a6, a7, a8, a9, a10, by omega, a12, a13⟩
theorem updL_s {f : Nat → Int64} {k : Nat} {x : Int64} : vp_updL f k x k = x := by simp [vp_updL]
theorem updL_n {f : Nat → Int64} {k j : Nat} {x : Int64} (h : j ≠ k) : vp_updL f k x j = f j := by simp [vp_updL, h]
section RFZ
variable (d sl : Nat) (I : Nat → Int32) (w : Int64) (A : Nat → Nat → Int32) (N : Nat → Nat → Int64)
theorem c188_1 {i : Nat} (hi : i < 70) : C d 188 [.ref 0, .int (nI i), .int (nI 1)] sl (RH I w A N) = some ([.int (nI 1)], sl, RH I w (up1 A 3 (upd (A 3) i (I 13))) N) := c188_t d sl I w A N hi
theorem c188_0 (i : Int32) : C d 188 [.ref 0, .int i, .int (nI 0)] sl (RH I w A N) = some ([.int (nI 0)], sl, RH I w A N) := c188_f d sl I w A N i
end RFZ
section SRL
variable (d d' sl sl' : Nat) (I : Nat → Nat → Int32) (A : Nat → Nat → Int32) (N : Nat → Nat → Int64) (V : Nat → Nat → Option Nat) (lt : Int64) (tw : Option Nat) (sp sr : Nat) (go : Bool) (J : Nat → Int32) (w : Int64) (B : Nat → Nat → Int32) (M : Nat → Nat → Int64) {t L n κ v : Nat} {s : List Nat} {b : Nat → Nat}
theorem sr_house {H m : Nat} (hB : Bt t b A B) (hL : L ≤ 940) (h : Tk t L n 2 v s (I 1) lt tw J w) (hR : RR I A N B M H m) (j23 : J 23 = x_b go) (f10 : I 1 10 = nI 0) (j10 : J 10 = nI 0) : Oc (d + 3) (d' + 3) sl sl' 83 189 t L (n + 1) V sp sr I A N lt tw go J w B M := by
  obtain ⟨⟨r1, r2, r3, r4, r5, r6, r7, r8⟩, rg, ry, rh, rd, rz, rl, rN⟩ := hR
  by_cases hH : H < 6
  rotate_left
  · have h6 : H = 6 := by omega
    obtain ⟨I1, J1, c1, e1, g1⟩ := gd_no (d + 2) (d' + 1) sl sl' I A N V lt tw sp sr [.inr (7, [.ref 1, .ref 12, .int (x_b go)])] J w B M (c := 4) (by decide) hB.1 h (Or.inl (by decide))
    refine Or.inr ⟨I1, A, N, lt, tw, go, J1, w, B, M, ?_, ?_, g1.2.1, Fq_c (Bd_Ch g1) (fun _ _ => rfl) (fun _ _ => rfl) (fun _ _ => rfl) (fun _ _ => rfl)⟩
    · rw [e83, k83_r146_0, r3]
      simp (disch := omega) only [rt_c, b_some, List.cons_append, List.nil_append, Bool.cond_not, cond_true, cond_false, Bool.cond_decide, nI_add, nI_clamp, xin_n, dle_e, dlt_e, deq_e, xb_0, xb_1, decide_true, decide_false, Bool.not_true, Bool.not_false, Bool.and_true, Bool.true_and, Bool.and_false, Bool.false_and, Bool.true_or, Bool.false_or, Bool.or_true, Bool.or_false, if_true, if_false, up1_s, n_31, Int32.lt_irrefl, h6, Nat.lt_irrefl, c1, k83_r146_20, t83_20, t83_20_0, t83_20_1, t83_46, t83_46_0, t83_46_1, t83_75, t83_75_0, t83_75_1, t83_98, t83_98_0, t83_98_1, t83_121, t83_121_0, t83_121_1, t83_145, t83_145_0, t83_145_1, t83_165, t83_165_0, t83_165_1]
    · rw [e189, m189_0, e187, m187_0]
      simp (disch := omega) only [rt_c, b_some, List.cons_append, List.nil_append, Bool.cond_not, cond_true, cond_false, Bool.cond_decide, nI_add, nI_clamp, xin_n, dle_e, dlt_e, deq_e, xb_0, xb_1, decide_true, decide_false, Bool.not_true, Bool.not_false, Bool.and_true, Bool.true_and, Bool.and_false, Bool.false_and, Bool.true_or, Bool.false_or, Bool.or_true, Bool.or_false, if_true, if_false, up1_s, n_31, Int32.lt_irrefl, r4, h6, e1, m187_15, t187_15, t187_15_0, t187_15_1, t187_21, t187_21_0, t187_21_1, m189_7, xb_f, t189_11, t189_11_0, t189_11_1, t189_31, t189_31_0, t189_31_1, t189_53, t189_53_0, t189_53_1, t189_123, t189_123_0, t189_123_1, t189_135, t189_135_0, t189_135_1]
  have h6 : ¬ H = 6 := by omega
  obtain ⟨I1, lt1, tw1, J1, w1, a1, a2, a3, a4, a5⟩ := gd_adv (d + 1) d' sl sl' I A N V lt tw sp sr [.inr (7, [.ref 1, .ref 12, .int (x_b go)])] J w B M hB hL rfl h (by decide)
  obtain ⟨⟨κ1, v1, s1, t1⟩, -, -⟩ := a3.2
  have c0 : C (d' + 2) 187 [.ref 0, .int (nI 0), .int (nI 6)] sl' (RH J w B M) = some ([.int (x_b true)], sl', RH J1 w1 B M) := by
    rw [e187, m187_0]
    simp (disch := omega) only [rt_c, b_some, List.cons_append, List.nil_append, Bool.cond_not, cond_true, cond_false, Bool.cond_decide, nI_add, nI_clamp, xin_n, dle_e, dlt_e, deq_e, xb_0, xb_1, decide_true, decide_false, Bool.not_true, Bool.not_false, Bool.and_true, Bool.true_and, Bool.and_false, Bool.false_and, Bool.true_or, Bool.false_or, Bool.or_true, Bool.or_false, if_true, if_false, up1_s, n_31, Int32.lt_irrefl, r4, h6, a2, m187_20, t187_15, t187_15_0, t187_15_1, t187_21, t187_21_0, t187_21_1]
  have nm1 := q95 (d + 2) sl I1 A N V lt1 tw1 sp sr [.inr (7, [.ref 1, .ref 12, .int (x_b go)])] t1
  have nm2 := c179 d' sl' J1 w1 B M t1
  by_cases hk : κ1 = 3
  rotate_left
  · rw [decide_eq_false hk] at nm1 nm2
    obtain ⟨I2, J2, c1, e1, g1⟩ := gd_no (d + 2) (d' + 2) sl sl' I1 A N V lt1 tw1 sp sr [.inr (7, [.ref 1, .ref 12, .int (x_b go)])] J1 w1 B M (c := 1) (by decide) hB.1 t1 (Or.inr rfl)
    refine Or.inr ⟨I2, A, N, lt1, tw1, go, J2, w1, B, M, ?_, ?_, g1.2.1, Fq_c (Ch_t (Gd_Ch a3) (Bd_Ch g1)) (fun _ _ => rfl) (fun _ _ => rfl) (fun _ _ => rfl) (fun _ _ => rfl)⟩
    · rw [e83, k83_r146_0, r3]
      simp (disch := omega) only [rt_c, b_some, List.cons_append, List.nil_append, Bool.cond_not, cond_true, cond_false, Bool.cond_decide, nI_add, nI_clamp, xin_n, dle_e, dlt_e, deq_e, xb_0, xb_1, decide_true, decide_false, Bool.not_true, Bool.not_false, Bool.and_true, Bool.true_and, Bool.and_false, Bool.false_and, Bool.true_or, Bool.false_or, Bool.or_true, Bool.or_false, if_true, if_false, up1_s, n_31, Int32.lt_irrefl, hH, a1, k83_r146_28, nm1, k83_r146_35, xb_f, c1, k83_r146_46, t83_20, t83_20_0, t83_20_1, t83_46, t83_46_0, t83_46_1, t83_75, t83_75_0, t83_75_1, t83_98, t83_98_0, t83_98_1, t83_121, t83_121_0, t83_121_1, t83_145, t83_145_0, t83_145_1, t83_165, t83_165_0, t83_165_1]
    · rw [e189, m189_0, c0]
      simp (disch := omega) only [rt_c, b_some, List.cons_append, List.nil_append, Bool.cond_not, cond_true, cond_false, Bool.cond_decide, nI_add, nI_clamp, xin_n, dle_e, dlt_e, deq_e, xb_0, xb_1, decide_true, decide_false, Bool.not_true, Bool.not_false, Bool.and_true, Bool.true_and, Bool.and_false, Bool.false_and, Bool.true_or, Bool.false_or, Bool.or_true, Bool.or_false, if_true, if_false, up1_s, n_31, Int32.lt_irrefl, m189_7, xb_t, xb_f, Nat.one_ne_zero, nm2, m189_23, e1, m189_31, t189_11, t189_11_0, t189_11_1, t189_31, t189_31_0, t189_31_1, t189_53, t189_53_0, t189_53_1, t189_123, t189_123_0, t189_123_1, t189_135, t189_135_0, t189_135_1]
  subst hk
  rw [decide_eq_true (p := 3 = 3) rfl] at nm1 nm2
  obtain ⟨s_1, s_2, s_3, s_4⟩ := Tk_name t1
  have hH1 : I1 12 8 = nI H := by rw [a3.1 12 (by decide)]; exact r3
  obtain ⟨o, o1, o2, o3, o4⟩ := fd_12 (d + 2) (d' + 2) sl sl' I1 A N V lt1 tw1 sp sr [.inr (7, [.ref 1, .ref 12, .int (x_b go)])] J1 w1 B M r1 hH1 rN s_1
  rw [← s_3] at o3
  rw [← s_4] at o4
  by_cases ho : o = -1
  rotate_left
  · obtain ⟨I2, J2, c1, e1, g1⟩ := gd_no (d + 2) (d' + 2) sl sl' I1 A N V lt1 tw1 sp sr [.inr (7, [.ref 1, .ref 12, .int (x_b go)])] J1 w1 B M (c := 3) (by decide) hB.1 t1 (Or.inl (by decide))
    refine Or.inr ⟨I2, A, N, lt1, tw1, go, J2, w1, B, M, ?_, ?_, g1.2.1, Fq_c (Ch_t (Gd_Ch a3) (Bd_Ch g1)) (fun _ _ => rfl) (fun _ _ => rfl) (fun _ _ => rfl) (fun _ _ => rfl)⟩
    · rw [e83, k83_r146_0, r3]
      simp (disch := omega) only [rt_c, b_some, List.cons_append, List.nil_append, Bool.cond_not, cond_true, cond_false, Bool.cond_decide, nI_add, nI_clamp, xin_n, dle_e, dlt_e, deq_e, xb_0, xb_1, decide_true, decide_false, Bool.not_true, Bool.not_false, Bool.and_true, Bool.true_and, Bool.and_false, Bool.false_and, Bool.true_or, Bool.false_or, Bool.or_true, Bool.or_false, if_true, if_false, up1_s, n_31, Int32.lt_irrefl, hH, a1, k83_r146_28, nm1, k83_r146_35, xb_t, xb_f, Nat.one_ne_zero, o3, k83_r146_63, ho, c1, k83_r146_75, t83_20, t83_20_0, t83_20_1, t83_46, t83_46_0, t83_46_1, t83_75, t83_75_0, t83_75_1, t83_98, t83_98_0, t83_98_1, t83_121, t83_121_0, t83_121_1, t83_145, t83_145_0, t83_145_1, t83_165, t83_165_0, t83_165_1]
    · rw [e189, m189_0, c0]
      simp (disch := omega) only [rt_c, b_some, List.cons_append, List.nil_append, Bool.cond_not, cond_true, cond_false, Bool.cond_decide, nI_add, nI_clamp, xin_n, dle_e, dlt_e, deq_e, xb_0, xb_1, decide_true, decide_false, Bool.not_true, Bool.not_false, Bool.and_true, Bool.true_and, Bool.and_false, Bool.false_and, Bool.true_or, Bool.false_or, Bool.or_true, Bool.or_false, if_true, if_false, up1_s, n_31, Int32.lt_irrefl, m189_7, xb_t, xb_f, Nat.one_ne_zero, nm2, m189_23, r4, o4, m189_44, ho, e1, m189_53, t189_11, t189_11_0, t189_11_1, t189_31, t189_31_0, t189_31_1, t189_53, t189_53_0, t189_53_1, t189_123, t189_123_0, t189_123_1, t189_135, t189_135_0, t189_135_1]
  have ho' : (o = -1) = True := eq_true ho
  obtain ⟨I2, lt2, tw2, J2, w2, b1, b2, b3, b4, b5⟩ := gd_adv (d + 1) (d' + 1) sl sl' I1 A N V lt1 tw1 sp sr [.inr (7, [.ref 1, .ref 12, .int (x_b go)])] J1 w1 B (up1 M 8 (vp_updL (M 8) H w1)) hB hL rfl t1 (by decide)
  obtain ⟨⟨κ2, v2, s2, t2⟩, -, -⟩ := b3.2
  rcases gd_num d d' sl sl' I2 A N V lt2 tw2 sp sr [.inr (7, [.ref 1, .ref 12, .int (x_b go)])] J2 w2 B (up1 M 8 (vp_updL (M 8) H w1)) (a := 0) (z := 999) (by decide) (by decide) hB hL rfl t2 with ⟨u3, I3, lt3, tw3, J3, w3, p3, q3, c3, e3, g3, x3, y3⟩ | ⟨I3, J3, c3, e3, g3⟩
  rotate_left
  · refine Or.inr ⟨I3, A, N, lt2, tw2, go, J3, w2, B, (up1 M 8 (vp_updL (M 8) H w1)), ?_, ?_, g3.2.1, Fq_c (Ch_t (Ch_t (Gd_Ch a3) (Gd_Ch b3)) (Bd_Ch g3)) (fun _ _ => rfl) (fun _ _ => rfl) (fun _ _ => rfl) (fun q hq => up1_n hq)⟩
    · rw [e83, k83_r146_0, r3]
      simp (disch := omega) only [rt_c, b_some, List.cons_append, List.nil_append, Bool.cond_not, cond_true, cond_false, Bool.cond_decide, nI_add, nI_clamp, xin_n, dle_e, dlt_e, deq_e, xb_0, xb_1, decide_true, decide_false, Bool.not_true, Bool.not_false, Bool.and_true, Bool.true_and, Bool.and_false, Bool.false_and, Bool.true_or, Bool.false_or, Bool.or_true, Bool.or_false, if_true, if_false, up1_s, n_31, Int32.lt_irrefl, hH, a1, k83_r146_28, nm1, k83_r146_35, Nat.one_ne_zero, o3, k83_r146_63, ho', b1, k83_r146_83, c3, k83_r146_94, xb_t, xb_f, t83_20, t83_20_0, t83_20_1, t83_46, t83_46_0, t83_46_1, t83_75, t83_75_0, t83_75_1, t83_98, t83_98_0, t83_98_1, t83_121, t83_121_0, t83_121_1, t83_145, t83_145_0, t83_145_1, t83_165, t83_165_0, t83_165_1]
    · rw [e189, m189_0, c0]
      simp (disch := omega) only [rt_c, b_some, List.cons_append, List.nil_append, Bool.cond_not, cond_true, cond_false, Bool.cond_decide, nI_add, nI_clamp, xin_n, dle_e, dlt_e, deq_e, xb_0, xb_1, decide_true, decide_false, Bool.not_true, Bool.not_false, Bool.and_true, Bool.true_and, Bool.and_false, Bool.false_and, Bool.true_or, Bool.false_or, Bool.or_true, Bool.or_false, if_true, if_false, up1_s, n_31, Int32.lt_irrefl, m189_7, Nat.one_ne_zero, nm2, m189_23, r4, o4, m189_44, ho', b2, m189_68, e3, m189_80, c188_0, m189_83, xb_t, xb_f, t189_11, t189_11_0, t189_11_1, t189_31, t189_31_0, t189_31_1, t189_53, t189_53_0, t189_53_1, t189_123, t189_123_0, t189_123_1, t189_135, t189_135_0, t189_135_1]
  have hB3 : Bt t b A (up1 B 3 (upd (B 3) (4 + H) (nI u3))) := Bt_c hB rfl (up1_n (by decide))
  obtain ⟨⟨κ3, v3, s3, t3⟩, -, -⟩ := g3.2
  rcases gd_num d d' sl sl' I3 A N V lt3 tw3 sp sr [.inr (7, [.ref 1, .ref 12, .int (x_b go)])] J3 w3 (up1 B 3 (upd (B 3) (4 + H) (nI u3))) (up1 M 8 (vp_updL (M 8) H w1)) (a := 0) (z := 30) (by decide) (by decide) hB3 hL rfl t3 with ⟨u4, I4, lt4, tw4, J4, w4, p4, q4, c4, e4, g4, x4, y4⟩ | ⟨I4, J4, c4, e4, g4⟩
  rotate_left
  · refine Or.inr ⟨I4, A, N, lt3, tw3, go, J4, w3, (up1 B 3 (upd (B 3) (4 + H) (nI u3))), (up1 M 8 (vp_updL (M 8) H w1)), ?_, ?_, g4.2.1, Fq_c (Ch_t (Ch_t (Ch_t (Gd_Ch a3) (Gd_Ch b3)) (Gd_Ch g3)) (Bd_Ch g4)) (fun _ _ => rfl) (fun _ _ => rfl) (fun q hq => up1_n hq) (fun q hq => up1_n hq)⟩
    · rw [e83, k83_r146_0, r3]
      simp (disch := omega) only [rt_c, b_some, List.cons_append, List.nil_append, Bool.cond_not, cond_true, cond_false, Bool.cond_decide, nI_add, nI_clamp, xin_n, dle_e, dlt_e, deq_e, xb_0, xb_1, decide_true, decide_false, Bool.not_true, Bool.not_false, Bool.and_true, Bool.true_and, Bool.and_false, Bool.false_and, Bool.true_or, Bool.false_or, Bool.or_true, Bool.or_false, if_true, if_false, up1_s, n_31, Int32.lt_irrefl, hH, a1, k83_r146_28, nm1, k83_r146_35, Nat.one_ne_zero, o3, k83_r146_63, ho', b1, k83_r146_83, c3, k83_r146_94, x3, c4, k83_r146_117, xb_t, xb_f, t83_20, t83_20_0, t83_20_1, t83_46, t83_46_0, t83_46_1, t83_75, t83_75_0, t83_75_1, t83_98, t83_98_0, t83_98_1, t83_121, t83_121_0, t83_121_1, t83_145, t83_145_0, t83_145_1, t83_165, t83_165_0, t83_165_1]
    · rw [e189, m189_0, c0]
      simp (disch := omega) only [rt_c, b_some, List.cons_append, List.nil_append, Bool.cond_not, cond_true, cond_false, Bool.cond_decide, nI_add, nI_clamp, xin_n, dle_e, dlt_e, deq_e, xb_0, xb_1, decide_true, decide_false, Bool.not_true, Bool.not_false, Bool.and_true, Bool.true_and, Bool.and_false, Bool.false_and, Bool.true_or, Bool.false_or, Bool.or_true, Bool.or_false, if_true, if_false, up1_s, n_31, Int32.lt_irrefl, m189_7, Nat.one_ne_zero, nm2, m189_23, r4, o4, m189_44, ho', b2, m189_68, e3, m189_80, c188_1, m189_83, y3, up1_up, e4, m189_98, c188_0, m189_101, xb_t, xb_f, t189_11, t189_11_0, t189_11_1, t189_31, t189_31_0, t189_31_1, t189_53, t189_53_0, t189_53_1, t189_123, t189_123_0, t189_123_1, t189_135, t189_135_0, t189_135_1]
  have hB4 : Bt t b A (up1 B 3 (upd (upd (B 3) (4 + H) (nI u3)) (10 + H) (nI u4))) := Bt_c hB rfl (up1_n (by decide))
  obtain ⟨⟨κ4, v4, s4, t4⟩, -, -⟩ := g4.2
  rcases gd_num d d' sl sl' I4 A N V lt4 tw4 sp sr [.inr (7, [.ref 1, .ref 12, .int (x_b go)])] J4 w4 (up1 B 3 (upd (upd (B 3) (4 + H) (nI u3)) (10 + H) (nI u4))) (up1 M 8 (vp_updL (M 8) H w1)) (a := 1) (z := 6) (by decide) (by decide) hB4 hL rfl t4 with ⟨u5, I5, lt5, tw5, J5, w5, p5, q5, c5, e5, g5, x5, y5⟩ | ⟨I5, J5, c5, e5, g5⟩
  rotate_left
  · refine Or.inr ⟨I5, A, N, lt4, tw4, go, J5, w4, (up1 B 3 (upd (upd (B 3) (4 + H) (nI u3)) (10 + H) (nI u4))), (up1 M 8 (vp_updL (M 8) H w1)), ?_, ?_, g5.2.1, Fq_c (Ch_t (Ch_t (Ch_t (Ch_t (Gd_Ch a3) (Gd_Ch b3)) (Gd_Ch g3)) (Gd_Ch g4)) (Bd_Ch g5)) (fun _ _ => rfl) (fun _ _ => rfl) (fun q hq => up1_n hq) (fun q hq => up1_n hq)⟩
    · rw [e83, k83_r146_0, r3]
      simp (disch := omega) only [rt_c, b_some, List.cons_append, List.nil_append, Bool.cond_not, cond_true, cond_false, Bool.cond_decide, nI_add, nI_clamp, xin_n, dle_e, dlt_e, deq_e, xb_0, xb_1, decide_true, decide_false, Bool.not_true, Bool.not_false, Bool.and_true, Bool.true_and, Bool.and_false, Bool.false_and, Bool.true_or, Bool.false_or, Bool.or_true, Bool.or_false, if_true, if_false, up1_s, n_31, Int32.lt_irrefl, hH, a1, k83_r146_28, nm1, k83_r146_35, Nat.one_ne_zero, o3, k83_r146_63, ho', b1, k83_r146_83, c3, k83_r146_94, x3, c4, k83_r146_117, x4, c5, k83_r146_141, xb_t, xb_f, t83_20, t83_20_0, t83_20_1, t83_46, t83_46_0, t83_46_1, t83_75, t83_75_0, t83_75_1, t83_98, t83_98_0, t83_98_1, t83_121, t83_121_0, t83_121_1, t83_145, t83_145_0, t83_145_1, t83_165, t83_165_0, t83_165_1]
    · rw [e189, m189_0, c0]
      simp (disch := omega) only [rt_c, b_some, List.cons_append, List.nil_append, Bool.cond_not, cond_true, cond_false, Bool.cond_decide, nI_add, nI_clamp, xin_n, dle_e, dlt_e, deq_e, xb_0, xb_1, decide_true, decide_false, Bool.not_true, Bool.not_false, Bool.and_true, Bool.true_and, Bool.and_false, Bool.false_and, Bool.true_or, Bool.false_or, Bool.or_true, Bool.or_false, if_true, if_false, up1_s, n_31, Int32.lt_irrefl, m189_7, Nat.one_ne_zero, nm2, m189_23, r4, o4, m189_44, ho', b2, m189_68, e3, m189_80, c188_1, m189_83, y3, up1_up, e4, m189_98, c188_1, m189_101, y4, up1_up, e5, m189_116, c188_0, m189_119, xb_t, xb_f, t189_11, t189_11_0, t189_11_1, t189_31, t189_31_0, t189_31_1, t189_53, t189_53_0, t189_53_1, t189_123, t189_123_0, t189_123_1, t189_135, t189_135_0, t189_135_1]
  have hB5 : Bt t b A (up1 B 3 (upd (upd (upd (B 3) (4 + H) (nI u3)) (10 + H) (nI u4)) (16 + H) (nI u5))) := Bt_c hB rfl (up1_n (by decide))
  obtain ⟨⟨κ5, v5, s5, t5⟩, -, -⟩ := g5.2
  have i12 : I5 12 = I 12 := by rw [g5.1 12 (by decide), g4.1 12 (by decide), g3.1 12 (by decide), b3.1 12 (by decide), a3.1 12 (by decide)]
  have h48 : C (d + 2) 48 [.ref 12, .long lt1, .int (nI u3), .int (nI u4), .int (nI u5)] sl (CH I5 A N V lt5 tw5 sp sr [.inr (7, [.ref 1, .ref 12, .int (x_b go)])]) = some ([], sl, CH (up1 I5 12 (up1 (I5 12) 8 (nI (H + 1)))) (up1 (up1 (up1 A 14 (upd (A 14) H (nI u3))) 15 (upd (A 15) H (nI u4))) 16 (upd (A 16) H (nI u5))) (up1 N 13 (vp_updL (N 13) H lt1)) V lt5 tw5 sp sr [.inr (7, [.ref 1, .ref 12, .int (x_b go)])]) := by
    have h8 : ¬ 6 ≤ H := by omega
    have h9 : I5 12 8 = nI H := by rw [i12]; exact r3
    rw [e48, k48_r12_0, h9]
    simp (disch := omega) only [rt_c, b_some, List.cons_append, List.nil_append, Bool.cond_not, cond_true, cond_false, Bool.cond_decide, nI_add, nI_clamp, xin_n, dle_e, dlt_e, deq_e, xb_0, xb_1, decide_true, decide_false, Bool.not_true, Bool.not_false, Bool.and_true, Bool.true_and, Bool.and_false, Bool.false_and, Bool.true_or, Bool.false_or, Bool.or_true, Bool.or_false, if_true, if_false, up1_s, n_31, Int32.lt_irrefl, h8, t48_61]
  refine Or.inl ⟨(up1 I5 12 (up1 (I5 12) 8 (nI (H + 1)))), (up1 (up1 (up1 A 14 (upd (A 14) H (nI u3))) 15 (upd (A 15) H (nI u4))) 16 (upd (A 16) H (nI u5))), (up1 N 13 (vp_updL (N 13) H lt1)), lt5, tw5, go, J5, w5, (up1 B 3 (upd (upd (upd (upd (B 3) (4 + H) (nI u3)) (10 + H) (nI u4)) (16 + H) (nI u5)) 0 (nI (H + 1)))), (up1 M 8 (vp_updL (M 8) H w1)), ?_, ?_, ⟨⟨κ5, v5, s5, ?_⟩, ⟨H + 1, m, ?_⟩, ?_, ?_, ?_⟩, Fq_c (Ch_t (Ch_t (Ch_t (Ch_t (Ch_t (Gd_Ch a3) (Gd_Ch b3)) (Gd_Ch g3)) (Gd_Ch g4)) (Gd_Ch g5)) ⟨fun q q1 q2 => up1_n q2, fun _ _ => rfl⟩) (fun q hq => ?_) (fun q hq => up1_n hq) (fun q hq => up1_n hq) (fun q hq => up1_n hq)⟩
  · rw [e83, k83_r146_0, r3]
    simp (disch := omega) only [rt_c, b_some, List.cons_append, List.nil_append, Bool.cond_not, cond_true, cond_false, Bool.cond_decide, nI_add, nI_clamp, xin_n, dle_e, dlt_e, deq_e, xb_0, xb_1, decide_true, decide_false, Bool.not_true, Bool.not_false, Bool.and_true, Bool.true_and, Bool.and_false, Bool.false_and, Bool.true_or, Bool.false_or, Bool.or_true, Bool.or_false, if_true, if_false, up1_s, n_31, Int32.lt_irrefl, hH, a1, k83_r146_28, nm1, k83_r146_35, Nat.one_ne_zero, o3, k83_r146_63, ho', b1, k83_r146_83, c3, k83_r146_94, x3, c4, k83_r146_117, x4, c5, k83_r146_141, x5, h48, k83_r146_164, xb_t, t83_20, t83_20_0, t83_20_1, t83_46, t83_46_0, t83_46_1, t83_75, t83_75_0, t83_75_1, t83_98, t83_98_0, t83_98_1, t83_121, t83_121_0, t83_121_1, t83_145, t83_145_0, t83_145_1, t83_165, t83_165_0, t83_165_1]
  · rw [e189, m189_0, c0]
    simp (disch := omega) only [rt_c, b_some, List.cons_append, List.nil_append, Bool.cond_not, cond_true, cond_false, Bool.cond_decide, nI_add, nI_clamp, xin_n, dle_e, dlt_e, deq_e, xb_0, xb_1, decide_true, decide_false, Bool.not_true, Bool.not_false, Bool.and_true, Bool.true_and, Bool.and_false, Bool.false_and, Bool.true_or, Bool.false_or, Bool.or_true, Bool.or_false, if_true, if_false, up1_s, n_31, Int32.lt_irrefl, m189_7, Nat.one_ne_zero, nm2, m189_23, r4, o4, m189_44, ho', b2, m189_68, e3, m189_80, c188_1, m189_83, y3, up1_up, e4, m189_98, c188_1, m189_101, y4, up1_up, e5, m189_116, c188_1, m189_119, y5, up1_up, xb_t, upd_n, r4, t189_11, t189_11_0, t189_11_1, t189_31, t189_31_0, t189_31_1, t189_53, t189_53_0, t189_53_1, t189_123, t189_123_0, t189_123_1, t189_135, t189_135_0, t189_135_1]
  · rw [up1_n (by decide)]
    exact Tk_le t5 (by omega)
  · refine ⟨⟨by omega, r2, ?_, ?_, ?_, ?_, ?_, ?_⟩, ?_, ?_, fun h hh => ?_, fun j hj => ?_, fun h h1 h2 => ?_, fun j h1 h2 => ?_, fun h hh => ?_⟩
    · rw [up1_s, up1_s]
    · rw [up1_s, upd_s]
    · rw [up1_s, up1_n (by decide), i12]; exact r5
    · rw [up1_s]; simp (disch := omega) only [up1, upd, Nat.add_left_cancel_iff, if_neg, if_pos, if_true, if_false]; exact r6
    · rw [up1_s, up1_n (by decide), i12]; exact r7
    · rw [up1_s, up1_n (by decide), i12]; exact r8
    · obtain ⟨g, z1, z2, z3⟩ := rg
      refine ⟨g, z1, by rw [up1_s, up1_n (by decide), i12]; exact z2, ?_⟩
      rw [up1_s]; simp (disch := omega) only [up1, upd, Nat.add_left_cancel_iff, if_neg, if_pos, if_true, if_false]; exact z3
    · obtain ⟨g, z0, z1, z2, z3⟩ := ry
      refine ⟨g, z0, z1, by rw [up1_s, up1_n (by decide), i12]; exact z2, ?_⟩
      rw [up1_s]; simp (disch := omega) only [up1, upd, Nat.add_left_cancel_iff, if_neg, if_pos, if_true, if_false]; exact z3
    · simp (disch := omega) only [up1_s, up1_n]
      by_cases hh2 : h = H
      · subst hh2
        simp (disch := omega) only [up1, upd, Nat.add_left_cancel_iff, if_neg, if_pos, if_true, if_false]
        refine ⟨?_, ?_, ?_, u5, q5, ?_⟩ <;> first | trivial | rfl
      · have hh3 : h < H := by omega
        have := rh h hh3
        simp (disch := omega) only [up1, upd, Nat.add_left_cancel_iff, if_neg, if_pos, if_true, if_false]
        exact this
    · simp (disch := omega) only [up1_s, up1_n]
      obtain ⟨z1, z2, z3, z4, a, c, l, g, y1, y2, y3, y4, y5, y6, y7, y8, y9⟩ := rd j hj
      simp (disch := omega) only [up1, upd, Nat.add_left_cancel_iff, if_neg, if_pos, if_true, if_false]
      exact ⟨z1, z2, z3, z4, a, c, l, g, by omega, by omega, y3, y4, y5, y6, y7, y8, y9⟩
    · have := rz h (by omega) h2
      rw [up1_s]; simp (disch := omega) only [up1, upd, Nat.add_left_cancel_iff, if_neg, if_pos, if_true, if_false]; exact this
    · have := rl j h1 h2
      rw [up1_s]; simp (disch := omega) only [up1, upd, Nat.add_left_cancel_iff, if_neg, if_pos, if_true, if_false]; exact this
    · rw [up1_s, up1_s]
      by_cases hh2 : h = H
      · subst hh2
        rw [updL_s, updL_s]
        exact ⟨s1, s_1, s_3, s_4⟩
      · rw [updL_n hh2, updL_n hh2]
        exact rN h (by omega)
  · rw [g5.2.2.2 23 (by decide), g4.2.2.2 23 (by decide), g3.2.2.2 23 (by decide), b3.2.2.2 23 (by decide), a3.2.2.2 23 (by decide)]; exact j23
  · rw [up1_n (by decide), g5.2.2.1, g4.2.2.1, g3.2.2.1, b3.2.2.1, a3.2.2.1]; exact f10
  · rw [g5.2.2.2 10 (by decide), g4.2.2.2 10 (by decide), g3.2.2.2 10 (by decide), b3.2.2.2 10 (by decide), a3.2.2.2 10 (by decide)]; exact j10
  · rw [up1_n (by omega), up1_n (by omega), up1_n (by omega)]
end SRL
