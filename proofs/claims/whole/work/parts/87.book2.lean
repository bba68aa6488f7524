/-! BOOK: one line -/
def Ln (a f g h l : Nat → Int32) (H i : Nat) : Prop := ∃ q x, a i = nI (10 * q) ∧ l (4 * i) = nI q ∧ f i = nI x ∧ l (4 * i + 1) = nI x ∧
  ((q = 0 ∧ x ≤ 11 ∧ ∃ y, 1 ≤ y ∧ y ≤ 999 ∧ g i = nI y ∧ l (4 * i + 2) = nI y) ∨ (q = 1 ∧ ∃ y z, x < H ∧ y < H ∧ y ≠ x ∧ 1 ≤ z ∧ z ≤ 200 ∧ g i = nI y ∧ l (4 * i + 2) = nI y ∧ h i = nI z ∧ l (4 * i + 3) = nI z) ∨ (q = 2 ∧ x ≤ 11 ∧ ∃ y, y < H ∧ g i = nI y ∧ l (4 * i + 2) = nI y) ∨ (q = 3 ∧ x ≤ 11) ∨ (q = 4 ∧ x ≤ 11 ∧ ∃ y, y ≤ 11 ∧ g i = nI y ∧ l (4 * i + 2) = nI y) ∨ (q = 5 ∧ 1 ≤ x ∧ x ≤ 60))
def RB (A : Nat → Nat → Int32) (B : Nat → Nat → Int32) (H k : Nat) : Prop := k ≤ 40 ∧ ∀ i, i < k → Ln (A 102) (A 103) (A 104) (A 105) (B 16) H i
def Fb (I A : Nat → Nat → Int32) (J : Nat → Int32) (B : Nat → Nat → Int32) (I' A' : Nat → Nat → Int32) (J' : Nat → Int32) (B' : Nat → Nat → Int32) : Prop := (∀ q, q ≠ 1 → q ≠ 101 → I' q = I q) ∧ (∀ k, k ≠ 4 → I' 101 k = I 101 k) ∧ (∀ q, q < 102 ∨ 105 < q → A' q = A q) ∧ (∀ k, k < 5 ∨ (11 < k ∧ k ≠ 13 ∧ k ≠ 37) → J' k = J k) ∧ (∀ q, q ≠ 16 → B' q = B q)
def Ob (d d' sl sl' t L n k : Nat) (V : Nat → Nat → Option Nat) (sp sr : Nat) (X : List AC) (I A : Nat → Nat → Int32) (N : Nat → Nat → Int64) (lt : Int64) (tw : Option Nat) (J : Nat → Int32) (w : Int64) (B : Nat → Nat → Int32) (M : Nat → Nat → Int64) (H : Nat) : Prop :=
  (∃ I' A' lt' tw' J' w' B', C (d + 5) 10 [.ref 101, .ref 1, .ref 3] sl (CH I A N V lt tw sp sr X) = some ([.int (x_b true)], sl, CH I' A' N V lt' tw' sp sr X) ∧ (∀ bo J2 w2 B2, C (d' + 4) 182 [.ref 0] sl' (RH J' w' B' M) = some ([.int (x_b bo)], sl', RH J2 w2 B2 M) → C (d' + 5) 263 [.ref 0] sl' (RH J w B M) = some ([.int (x_b bo)], sl', RH J2 w2 B2 M)) ∧ (∃ κ v s, Tk t L (n + 1) κ v s (I' 1) lt' tw' J' w') ∧ RB A' B' H (k + 1) ∧ I' 101 4 = nI (k + 1) ∧ J' 37 = nI k ∧ I' 1 10 = I 1 10 ∧ J' 10 = J 10 ∧ Fb I A J B I' A' J' B') ∨
  (∃ I' A' lt' tw' J' w' B', C (d + 5) 10 [.ref 101, .ref 1, .ref 3] sl (CH I A N V lt tw sp sr X) = some ([.int (x_b false)], sl, CH I' A' N V lt' tw' sp sr X) ∧ C (d' + 5) 263 [.ref 0] sl' (RH J w B M) = some ([.int (x_b false)], sl', RH J' w' B' M) ∧ Fl (I' 1) J' ∧ Fb I A J B I' A' J' B')
def Cb (I I' : Nat → Nat → Int32) (J J' : Nat → Int32) : Prop := (∀ q, q ≠ 1 → I' q = I q) ∧ (∀ k, k < 5 ∨ (11 < k ∧ k ≠ 13 ∧ k ≠ 37) → J' k = J k)
theorem Gd_Cb {t L n : Nat} {I I' : Nat → Nat → Int32} {lt' : Int64} {tw' : Option Nat} {J J' : Nat → Int32} {w' : Int64} (h : Gd t L n I I' lt' tw' J J' w') : Cb I I' J J' := ⟨fun q q1 => h.1 q q1, fun k hk => h.2.2.2 k (by omega)⟩
theorem Bd_Cb {I I' : Nat → Nat → Int32} {J J' : Nat → Int32} (h : Bd I I' J J') : Cb I I' J J' := ⟨fun q q1 => h.1 q q1, fun k hk => h.2.2.2 k (by omega)⟩
theorem Cb_t {I I1 I2 : Nat → Nat → Int32} {J J1 J2 : Nat → Int32} (h : Cb I I1 J J1) (h' : Cb I1 I2 J1 J2) : Cb I I2 J J2 := ⟨fun q q1 => (h'.1 q q1).trans (h.1 q q1), fun k hk => (h'.2 k hk).trans (h.2 k hk)⟩
theorem Fb_c {I I' A : Nat → Nat → Int32} {J J' : Nat → Int32} {B B' : Nat → Nat → Int32} (h : Cb I I' J J') (hB : ∀ q, q ≠ 16 → B' q = B q) : Fb I A J B I' A J' B' := ⟨fun q q1 _ => h.1 q q1, fun k _ => by rw [h.1 101 (by decide)], fun _ _ => rfl, h.2, hB⟩
theorem e11n (d sl : Nat) (h : List AC) : C d 11 [.null] sl h = rt 11 (R d 11 (0, [some .null], [], sl, h)) := C_rt _ _ _ _ _
theorem nI_mul4 {k : Nat} (hk : k ≤ 40) : nI 4 * nI k = nI (4 * k) := by
  have : ∀ k : Fin 41, nI 4 * nI k.val = nI (4 * k.val) := by decide +kernel
  exact this ⟨k, by omega⟩
section BKL
variable (d d' sl sl' : Nat) (I : Nat → Nat → Int32) (A : Nat → Nat → Int32) (N : Nat → Nat → Int64) (V : Nat → Nat → Option Nat) (lt : Int64) (sp sr : Nat) (X : List AC) (J : Nat → Int32) (w : Int64) (B : Nat → Nat → Int32) (M : Nat → Nat → Int64) {t L n k H : Nat} {s : List Nat} {b : Nat → Nat}
theorem q14 (tw : Option Nat) (a1 a2 a3 a4 : Int32) (hk : k < 40) (h4 : I 101 4 = nI k) : C d 14 [.ref 101, .int a1, .int a2, .int a3, .int a4] sl (CH I A N V lt tw sp sr X) = some ([], sl, CH (up1 I 101 (up1 (I 101) 4 (nI (k + 1)))) (up1 (up1 (up1 (up1 A 102 (upd (A 102) k a1)) 103 (upd (A 103) k a2)) 104 (upd (A 104) k a3)) 105 (upd (A 105) k a4)) N V lt tw sp sr X) := by
  have h8 : ¬ 40 ≤ k := by omega
  rw [e14, k14_r101_0, h4]
  simp (disch := omega) only [rt_c, b_some, List.cons_append, List.nil_append, Bool.cond_not, cond_true, cond_false, Bool.cond_decide, nI_add, nI_clamp, xin_n, dle_e, dlt_e, deq_e, xb_0, xb_1, decide_true, decide_false, Bool.not_true, Bool.not_false, Bool.and_true, Bool.true_and, Bool.and_false, Bool.false_and, Bool.true_or, Bool.false_or, Bool.or_true, Bool.or_false, if_true, if_false, up1_s, n_31, Int32.lt_irrefl, h8, t14_60]
theorem rb_0 (hH6 : H ≤ 6) (hI3 : I 3 8 = nI H) (hb0 : B 2 0 = nI H) (hN : Nm (N 4) (M 7) H) (hB : Bt t b A B) (hL : L ≤ 940) (hX : Nat.ble X.length 1 = true) (h : Tk t L n 2 3 s (I 1) lt (some (1000000 + 3)) J w) (hR : RB A B H k) (i4 : I 101 4 = nI k) (j37 : J 37 = nI k) : Ob d d' sl sl' t L n k V sp sr X I A N lt (some (1000000 + 3)) J w B M H := by
  obtain ⟨hk40, hR⟩ := hR
  have hmul := nI_mul4 hk40
  have nm1 := q95 (d + 4) sl I A N V lt (some (1000000 + 3)) sp sr X h
  rw [decide_eq_false (p := 2 = 3) (by decide)] at nm1
  have ac : C (d + 4) 11 [.ref (1000000 + 3)] sl (CH I A N V lt (some (1000000 + 3)) sp sr X) = some ([.int (nI 0)], sl, CH I A N V lt (some (1000000 + 3)) sp sr X) := q11 (d + 4) sl I A N V lt (some (1000000 + 3)) sp sr X (v := 3) (by decide)
  have wh : C (d' + 4) 262 [.ref 0] sl' (RH J w B M) = some ([.int (nI 0)], sl', RH J w B M) := c262 (d' + 1) sl' J w B M h
  have am : ¬ nI 0 = (-1 : Int32) := nI_m1 (by decide)
  by_cases hk : k < 40
  rotate_left
  · have h6 : k = 40 := by omega
    obtain ⟨I1, J1, c1, e1, g1⟩ := gd_no (d + 4) (d' + 4) sl sl' I A N V lt (some (1000000 + 3)) sp sr X J w B M (c := 4) (by decide) hB.1 h (Or.inl (by decide))
    refine Or.inr ⟨I1, A, lt, some (1000000 + 3), J1, w, B, ?_, ?_, g1.2.1, Fb_c (Bd_Cb g1) (fun _ _ => rfl)⟩
    · rw [e10, k10_r101_r1_r3_0, nm1]
      simp (disch := omega) only [rt_c, b_some, List.cons_append, List.nil_append, Bool.cond_not, cond_true, cond_false, Bool.cond_decide, nI_add, nI_clamp, xin_n, dle_e, dlt_e, deq_e, xb_0, xb_1, decide_true, decide_false, Bool.not_true, Bool.not_false, Bool.and_true, Bool.true_and, Bool.and_false, Bool.false_and, Bool.true_or, Bool.false_or, Bool.or_true, Bool.or_false, if_true, if_false, up1_s, n_31, Int32.lt_irrefl, k10_r101_r1_r3_4_1, xb_f, ac, k10_r101_r1_r3_19, am, Nat.reduceEqDiff, i4, h6, Nat.lt_irrefl, c1, k10_r101_r1_r3_69, t10_30, t10_30_0, t10_30_1, t10_54, t10_54_0, t10_54_1, t10_69, t10_69_0, t10_69_1, t10_82, t10_82_0, t10_82_1, t10_133, t10_133_0, t10_133_1, t10_147, t10_147_0, t10_147_1]
    · rw [e263, m263_0, wh]
      simp (disch := omega) only [rt_c, b_some, List.cons_append, List.nil_append, Bool.cond_not, cond_true, cond_false, Bool.cond_decide, nI_add, nI_clamp, xin_n, dle_e, dlt_e, deq_e, xb_0, xb_1, decide_true, decide_false, Bool.not_true, Bool.not_false, Bool.and_true, Bool.true_and, Bool.and_false, Bool.false_and, Bool.true_or, Bool.false_or, Bool.or_true, Bool.or_false, if_true, if_false, up1_s, n_31, Int32.lt_irrefl, m263_4, Nat.reduceEqDiff, Nat.zero_ne_one, j37, h6, e1, m263_64, t263_22, t263_22_0, t263_22_1, t263_49, t263_49_0, t263_49_1, t263_64, t263_64_0, t263_64_1, t263_216, t263_216_0, t263_216_1, t263_237, t263_237_0, t263_237_1, t263_278, t263_278_0, t263_278_1, t263_305, t263_305_0, t263_305_1, t263_346, t263_346_0, t263_346_1, t263_376, t263_376_0, t263_376_1]
  have h6 : ¬ k = 40 := by omega
  have hB1 : Bt t b A (up1 B 16 (upd (upd (upd (upd (B 16) (4 * k) (nI 0)) (4 * k + 1) (nI 0)) (4 * k + 2) (nI 0)) (4 * k + 3) (nI 0))) := Bt_c hB rfl (up1_n (by decide))
  obtain ⟨I1, lt1, tw1, J1, w1, a1, a2, a3, a4, a5⟩ := gd_adv (d + 3) (d' + 3) sl sl' I A N V lt (some (1000000 + 3)) sp sr X J w (up1 B 16 (upd (upd (upd (upd (B 16) (4 * k) (nI 0)) (4 * k + 1) (nI 0)) (4 * k + 2) (nI 0)) (4 * k + 3) (nI 0))) M hB1 hL hX h (by decide)
  obtain ⟨⟨κ1, v1, s1, t1⟩, -, -⟩ := a3.2
  have j1 : J1 37 = nI k := by rw [a5 37 (by decide)]; exact j37
  rcases gd_debt (d + 1) (d' + 1) sl sl' I1 A N V lt1 tw1 sp sr X J1 w1 (up1 B 16 (upd (upd (upd (upd (B 16) (4 * k) (nI 0)) (4 * k + 1) (nI 0)) (4 * k + 2) (nI 0)) (4 * k + 3) (nI 0))) M hB1 hL hX t1 with ⟨u2, I2, lt2, tw2, J2, w2, q2, c2, e2, g2, x2, y2⟩ | ⟨I2, J2, c2, e2, g2⟩
  rotate_left
  · refine Or.inr ⟨I2, A, lt1, tw1, J2, w1, up1 B 16 (upd (upd (upd (upd (B 16) (4 * k) (nI 0)) (4 * k + 1) (nI 0)) (4 * k + 2) (nI 0)) (4 * k + 3) (nI 0)), ?_, ?_, g2.2.1, Fb_c (Cb_t (Gd_Cb a3) (Bd_Cb g2)) (fun q hq => up1_n hq)⟩
    · rw [e10, k10_r101_r1_r3_0, nm1]
      simp (disch := omega) only [rt_c, b_some, List.cons_append, List.nil_append, Bool.cond_not, cond_true, cond_false, Bool.cond_decide, nI_add, nI_clamp, xin_n, dle_e, dlt_e, deq_e, xb_0, xb_1, decide_true, decide_false, Bool.not_true, Bool.not_false, Bool.and_true, Bool.true_and, Bool.and_false, Bool.false_and, Bool.true_or, Bool.false_or, Bool.or_true, Bool.or_false, if_true, if_false, up1_s, n_31, Int32.lt_irrefl, k10_r101_r1_r3_4_1, xb_f, ac, k10_r101_r1_r3_19, am, Nat.reduceEqDiff, i4, hk, a1, k10_r101_r1_r3_87, c2, k10_r101_r1_r3_110, t10_30, t10_30_0, t10_30_1, t10_54, t10_54_0, t10_54_1, t10_69, t10_69_0, t10_69_1, t10_82, t10_82_0, t10_82_1, t10_133, t10_133_0, t10_133_1, t10_147, t10_147_0, t10_147_1]
    · rw [e263, m263_0, wh]
      simp (disch := omega) only [rt_c, b_some, List.cons_append, List.nil_append, Bool.cond_not, cond_true, cond_false, Bool.cond_decide, nI_add, nI_clamp, xin_n, dle_e, dlt_e, deq_e, xb_0, xb_1, decide_true, decide_false, Bool.not_true, Bool.not_false, Bool.and_true, Bool.true_and, Bool.and_false, Bool.false_and, Bool.true_or, Bool.false_or, Bool.or_true, Bool.or_false, if_true, if_false, up1_s, n_31, Int32.lt_irrefl, m263_4, Nat.reduceEqDiff, Nat.zero_ne_one, j37, h6, hmul, a2, m263_135, m263_136_c0, m263_172, e2, xb_f, m263_180, c258_0, m263_183, t263_22, t263_22_0, t263_22_1, t263_49, t263_49_0, t263_49_1, t263_64, t263_64_0, t263_64_1, t263_216, t263_216_0, t263_216_1, t263_237, t263_237_0, t263_237_1, t263_278, t263_278_0, t263_278_1, t263_305, t263_305_0, t263_305_1, t263_346, t263_346_0, t263_346_1, t263_376, t263_376_0, t263_376_1]
  obtain ⟨⟨κ2, v2, s2, t2⟩, -, -⟩ := g2.2
  have hB2 : Bt t b A (up1 B 16 (upd (upd (upd (upd (upd (B 16) (4 * k) (nI 0)) (4 * k + 1) (nI 0)) (4 * k + 2) (nI 0)) (4 * k + 3) (nI 0)) (4 * k + 1) (nI u2))) := Bt_c hB rfl (up1_n (by decide))
  rcases gd_num (d + 1) (d' + 2) sl sl' I2 A N V lt2 tw2 sp sr X J2 w2 (up1 B 16 (upd (upd (upd (upd (upd (B 16) (4 * k) (nI 0)) (4 * k + 1) (nI 0)) (4 * k + 2) (nI 0)) (4 * k + 3) (nI 0)) (4 * k + 1) (nI u2))) M (a := 1) (z := 999) (by decide) (by decide) hB2 hL hX t2 with ⟨u3, I3, lt3, tw3, J3, w3, p3, q3, c3, e3, g3, x3, y3⟩ | ⟨I3, J3, c3, e3, g3⟩
  rotate_left
  · have h12 : C (d + 4) 12 [.ref 1, .ref 3, .int (nI 0)] sl (CH I2 A N V lt2 tw2 sp sr X) = some ([.int (x_b false)], sl, CH I3 A N V lt2 tw2 sp sr X) := by
      rw [e12, k12_r1_r3_0, k12_r1_r3_1_c0, k12_r1_r3_36]
      simp (disch := omega) only [rt_c, b_some, List.cons_append, List.nil_append, Bool.cond_not, cond_true, cond_false, Bool.cond_decide, nI_add, nI_clamp, xin_n, dle_e, dlt_e, deq_e, xb_0, xb_1, decide_true, decide_false, Bool.not_true, Bool.not_false, Bool.and_true, Bool.true_and, Bool.and_false, Bool.false_and, Bool.true_or, Bool.false_or, Bool.or_true, Bool.or_false, if_true, if_false, up1_s, n_31, Int32.lt_irrefl, c3, k12_r1_r3_44, t12_44, t12_44_0, t12_44_1, t12_51, t12_51_0, t12_51_1, t12_59, t12_59_0, t12_59_1, t12_61, t12_61_0, t12_61_1]
    refine Or.inr ⟨I3, A, lt2, tw2, J3, w2, up1 B 16 (upd (upd (upd (upd (upd (B 16) (4 * k) (nI 0)) (4 * k + 1) (nI 0)) (4 * k + 2) (nI 0)) (4 * k + 3) (nI 0)) (4 * k + 1) (nI u2)), ?_, ?_, g3.2.1, Fb_c (Cb_t (Cb_t (Gd_Cb a3) (Gd_Cb g2)) (Bd_Cb g3)) (fun q hq => up1_n hq)⟩
    · rw [e10, k10_r101_r1_r3_0, nm1]
      simp (disch := omega) only [rt_c, b_some, List.cons_append, List.nil_append, Bool.cond_not, cond_true, cond_false, Bool.cond_decide, nI_add, nI_clamp, xin_n, dle_e, dlt_e, deq_e, xb_0, xb_1, decide_true, decide_false, Bool.not_true, Bool.not_false, Bool.and_true, Bool.true_and, Bool.and_false, Bool.false_and, Bool.true_or, Bool.false_or, Bool.or_true, Bool.or_false, if_true, if_false, up1_s, n_31, Int32.lt_irrefl, k10_r101_r1_r3_4_1, xb_f, ac, k10_r101_r1_r3_19, am, Nat.reduceEqDiff, i4, hk, a1, k10_r101_r1_r3_87, c2, k10_r101_r1_r3_110, x2, xb_t, Nat.one_ne_zero, h12, k10_r101_r1_r3_129, t10_30, t10_30_0, t10_30_1, t10_54, t10_54_0, t10_54_1, t10_69, t10_69_0, t10_69_1, t10_82, t10_82_0, t10_82_1, t10_133, t10_133_0, t10_133_1, t10_147, t10_147_0, t10_147_1]
    · rw [e263, m263_0, wh]
      simp (disch := omega) only [rt_c, b_some, List.cons_append, List.nil_append, Bool.cond_not, cond_true, cond_false, Bool.cond_decide, nI_add, nI_clamp, xin_n, dle_e, dlt_e, deq_e, xb_0, xb_1, decide_true, decide_false, Bool.not_true, Bool.not_false, Bool.and_true, Bool.true_and, Bool.and_false, Bool.false_and, Bool.true_or, Bool.false_or, Bool.or_true, Bool.or_false, if_true, if_false, up1_s, n_31, Int32.lt_irrefl, m263_4, Nat.reduceEqDiff, Nat.zero_ne_one, j37, h6, hmul, a2, m263_135, m263_136_c0, m263_172, e2, xb_t, Nat.one_ne_zero, m263_180, c258_1, m263_183, y2, up1_up, e3, xb_f, m263_198, c258_0, m263_201, t263_22, t263_22_0, t263_22_1, t263_49, t263_49_0, t263_49_1, t263_64, t263_64_0, t263_64_1, t263_216, t263_216_0, t263_216_1, t263_237, t263_237_0, t263_237_1, t263_278, t263_278_0, t263_278_1, t263_305, t263_305_0, t263_305_1, t263_346, t263_346_0, t263_346_1, t263_376, t263_376_0, t263_376_1]
  have h12 : C (d + 4) 12 [.ref 1, .ref 3, .int (nI 0)] sl (CH I2 A N V lt2 tw2 sp sr X) = some ([.int (x_b true)], sl, CH I3 A N V lt3 tw3 sp sr X) := by
    rw [e12, k12_r1_r3_0, k12_r1_r3_1_c0, k12_r1_r3_36]
    simp (disch := omega) only [rt_c, b_some, List.cons_append, List.nil_append, Bool.cond_not, cond_true, cond_false, Bool.cond_decide, nI_add, nI_clamp, xin_n, dle_e, dlt_e, deq_e, xb_0, xb_1, decide_true, decide_false, Bool.not_true, Bool.not_false, Bool.and_true, Bool.true_and, Bool.and_false, Bool.false_and, Bool.true_or, Bool.false_or, Bool.or_true, Bool.or_false, if_true, if_false, up1_s, n_31, Int32.lt_irrefl, c3, k12_r1_r3_44, t12_44, t12_44_0, t12_44_1, t12_51, t12_51_0, t12_51_1, t12_59, t12_59_0, t12_59_1, t12_61, t12_61_0, t12_61_1]
  obtain ⟨⟨κ3, v3, s3, t3⟩, -, -⟩ := g3.2
  have i4' : I3 101 4 = nI k := by rw [g3.1 101 (by decide), g2.1 101 (by decide), a3.1 101 (by decide)]; exact i4
  have h14 := q14 (d + 4) sl I3 A N V lt3 sp sr X tw3 (nI 0) (nI u2) (nI u3) (nI 0) hk i4'
  refine Or.inl ⟨up1 I3 101 (up1 (I3 101) 4 (nI (k + 1))), up1 (up1 (up1 (up1 A 102 (upd (A 102) k (nI 0))) 103 (upd (A 103) k (nI u2))) 104 (upd (A 104) k (nI u3))) 105 (upd (A 105) k (nI 0)), lt3, tw3, J3, w3, up1 B 16 (upd (upd (upd (upd (upd (upd (B 16) (4 * k) (nI 0)) (4 * k + 1) (nI 0)) (4 * k + 2) (nI 0)) (4 * k + 3) (nI 0)) (4 * k + 1) (nI u2)) (4 * k + 2) (nI u3)), ?_, ?_, ⟨κ3, v3, s3, ?_⟩, ⟨by omega, fun i hi => ?_⟩, ?_, ?_, ?_, ?_, fun q r1 r2 => ?_, fun q r1 => ?_, fun q r1 => ?_, fun q r1 => ?_, fun q r1 => up1_n r1⟩
  · rw [e10, k10_r101_r1_r3_0, nm1]
    simp (disch := omega) only [rt_c, b_some, List.cons_append, List.nil_append, Bool.cond_not, cond_true, cond_false, Bool.cond_decide, nI_add, nI_clamp, xin_n, dle_e, dlt_e, deq_e, xb_0, xb_1, decide_true, decide_false, Bool.not_true, Bool.not_false, Bool.and_true, Bool.true_and, Bool.and_false, Bool.false_and, Bool.true_or, Bool.false_or, Bool.or_true, Bool.or_false, if_true, if_false, up1_s, n_31, Int32.lt_irrefl, k10_r101_r1_r3_4_1, xb_f, ac, k10_r101_r1_r3_19, am, Nat.reduceEqDiff, i4, hk, a1, k10_r101_r1_r3_87, c2, k10_r101_r1_r3_110, x2, xb_t, Nat.one_ne_zero, h12, k10_r101_r1_r3_129, x3, h14, k10_r101_r1_r3_146, t10_30, t10_30_0, t10_30_1, t10_54, t10_54_0, t10_54_1, t10_69, t10_69_0, t10_69_1, t10_82, t10_82_0, t10_82_1, t10_133, t10_133_0, t10_133_1, t10_147, t10_147_0, t10_147_1]
  · intro bo J9 w9 B9 h182
    rw [e263, m263_0, wh]
    cases bo with
    | true =>
      simp (disch := omega) only [rt_c, b_some, List.cons_append, List.nil_append, Bool.cond_not, cond_true, cond_false, Bool.cond_decide, nI_add, nI_clamp, xin_n, dle_e, dlt_e, deq_e, xb_0, xb_1, decide_true, decide_false, Bool.not_true, Bool.not_false, Bool.and_true, Bool.true_and, Bool.and_false, Bool.false_and, Bool.true_or, Bool.false_or, Bool.or_true, Bool.or_false, if_true, if_false, up1_s, n_31, Int32.lt_irrefl, m263_4, Nat.reduceEqDiff, Nat.zero_ne_one, j37, h6, hmul, a2, m263_135, m263_136_c0, m263_172, e2, xb_t, Nat.one_ne_zero, m263_180, c258_1, m263_183, y2, up1_up, e3, m263_198, m263_201, y3, h182, m263_208, t263_22, t263_22_0, t263_22_1, t263_49, t263_49_0, t263_49_1, t263_64, t263_64_0, t263_64_1, t263_216, t263_216_0, t263_216_1, t263_237, t263_237_0, t263_237_1, t263_278, t263_278_0, t263_278_1, t263_305, t263_305_0, t263_305_1, t263_346, t263_346_0, t263_346_1, t263_376, t263_376_0, t263_376_1]
    | false =>
      simp (disch := omega) only [rt_c, b_some, List.cons_append, List.nil_append, Bool.cond_not, cond_true, cond_false, Bool.cond_decide, nI_add, nI_clamp, xin_n, dle_e, dlt_e, deq_e, xb_0, xb_1, decide_true, decide_false, Bool.not_true, Bool.not_false, Bool.and_true, Bool.true_and, Bool.and_false, Bool.false_and, Bool.true_or, Bool.false_or, Bool.or_true, Bool.or_false, if_true, if_false, up1_s, n_31, Int32.lt_irrefl, m263_4, Nat.reduceEqDiff, Nat.zero_ne_one, j37, h6, hmul, a2, m263_135, m263_136_c0, m263_172, e2, xb_t, Nat.one_ne_zero, m263_180, c258_1, m263_183, y2, up1_up, e3, m263_198, m263_201, y3, h182, xb_f, m263_208, t263_22, t263_22_0, t263_22_1, t263_49, t263_49_0, t263_49_1, t263_64, t263_64_0, t263_64_1, t263_216, t263_216_0, t263_216_1, t263_237, t263_237_0, t263_237_1, t263_278, t263_278_0, t263_278_1, t263_305, t263_305_0, t263_305_1, t263_346, t263_346_0, t263_346_1, t263_376, t263_376_0, t263_376_1]
  · rw [up1_n (by decide)]; exact Tk_le t3 (by omega)
  · simp (disch := omega) only [up1_s, up1_n]
    by_cases hik : i = k
    · subst hik
      refine ⟨0, u2, ?_, ?_, ?_, ?_, Or.inl ⟨rfl, q2, u3, p3, q3, ?_, ?_⟩⟩ <;> simp (disch := omega) only [up1, upd, Nat.add_left_cancel_iff, if_neg, if_pos, if_true, if_false]
    · have hik2 : i < k := by omega
      have := hR i hik2
      unfold Ln at this ⊢
      simp (disch := omega) only [up1, upd, Nat.add_left_cancel_iff, if_neg, if_pos, if_true, if_false]
      exact this
  · rw [up1_s, up1_s]
  · rw [g3.2.2.2 37 (by decide), g2.2.2.2 37 (by decide), a5 37 (by decide)]; exact j37
  · rw [up1_n (by decide), g3.2.2.1, g2.2.2.1, a3.2.2.1]
  · rw [g3.2.2.2 10 (by decide), g2.2.2.2 10 (by decide), a3.2.2.2 10 (by decide)]
  · rw [up1_n r2]; exact (Cb_t (Cb_t (Gd_Cb a3) (Gd_Cb g2)) (Gd_Cb g3)).1 q r1
  · rw [up1_s, up1_n r1, (Cb_t (Cb_t (Gd_Cb a3) (Gd_Cb g2)) (Gd_Cb g3)).1 101 (by decide)]
  · rw [up1_n (by omega), up1_n (by omega), up1_n (by omega), up1_n (by omega)]
  · exact (Cb_t (Cb_t (Gd_Cb a3) (Gd_Cb g2)) (Gd_Cb g3)).2 q r1
theorem rb_2 (hH6 : H ≤ 6) (hI3 : I 3 8 = nI H) (hb0 : B 2 0 = nI H) (hN : Nm (N 4) (M 7) H) (hB : Bt t b A B) (hL : L ≤ 940) (hX : Nat.ble X.length 1 = true) (h : Tk t L n 2 5 s (I 1) lt (some (1000000 + 5)) J w) (hR : RB A B H k) (i4 : I 101 4 = nI k) (j37 : J 37 = nI k) : Ob d d' sl sl' t L n k V sp sr X I A N lt (some (1000000 + 5)) J w B M H := by
  obtain ⟨hk40, hR⟩ := hR
  have hmul := nI_mul4 hk40
  have nm1 := q95 (d + 4) sl I A N V lt (some (1000000 + 5)) sp sr X h
  rw [decide_eq_false (p := 2 = 3) (by decide)] at nm1
  have ac : C (d + 4) 11 [.ref (1000000 + 5)] sl (CH I A N V lt (some (1000000 + 5)) sp sr X) = some ([.int (nI 20)], sl, CH I A N V lt (some (1000000 + 5)) sp sr X) := q11 (d + 4) sl I A N V lt (some (1000000 + 5)) sp sr X (v := 5) (by decide)
  have wh : C (d' + 4) 262 [.ref 0] sl' (RH J w B M) = some ([.int (nI 2)], sl', RH J w B M) := c262 (d' + 1) sl' J w B M h
  have am : ¬ nI 20 = (-1 : Int32) := nI_m1 (by decide)
  by_cases hk : k < 40
  rotate_left
  · have h6 : k = 40 := by omega
    obtain ⟨I1, J1, c1, e1, g1⟩ := gd_no (d + 4) (d' + 4) sl sl' I A N V lt (some (1000000 + 5)) sp sr X J w B M (c := 4) (by decide) hB.1 h (Or.inl (by decide))
    refine Or.inr ⟨I1, A, lt, some (1000000 + 5), J1, w, B, ?_, ?_, g1.2.1, Fb_c (Bd_Cb g1) (fun _ _ => rfl)⟩
    · rw [e10, k10_r101_r1_r3_0, nm1]
      simp (disch := omega) only [rt_c, b_some, List.cons_append, List.nil_append, Bool.cond_not, cond_true, cond_false, Bool.cond_decide, nI_add, nI_clamp, xin_n, dle_e, dlt_e, deq_e, xb_0, xb_1, decide_true, decide_false, Bool.not_true, Bool.not_false, Bool.and_true, Bool.true_and, Bool.and_false, Bool.false_and, Bool.true_or, Bool.false_or, Bool.or_true, Bool.or_false, if_true, if_false, up1_s, n_31, Int32.lt_irrefl, k10_r101_r1_r3_4_1, xb_f, ac, k10_r101_r1_r3_19, am, Nat.reduceEqDiff, i4, h6, Nat.lt_irrefl, c1, k10_r101_r1_r3_69, t10_30, t10_30_0, t10_30_1, t10_54, t10_54_0, t10_54_1, t10_69, t10_69_0, t10_69_1, t10_82, t10_82_0, t10_82_1, t10_133, t10_133_0, t10_133_1, t10_147, t10_147_0, t10_147_1]
    · rw [e263, m263_0, wh]
      simp (disch := omega) only [rt_c, b_some, List.cons_append, List.nil_append, Bool.cond_not, cond_true, cond_false, Bool.cond_decide, nI_add, nI_clamp, xin_n, dle_e, dlt_e, deq_e, xb_0, xb_1, decide_true, decide_false, Bool.not_true, Bool.not_false, Bool.and_true, Bool.true_and, Bool.and_false, Bool.false_and, Bool.true_or, Bool.false_or, Bool.or_true, Bool.or_false, if_true, if_false, up1_s, n_31, Int32.lt_irrefl, m263_4, Nat.reduceEqDiff, Nat.zero_ne_one, j37, h6, e1, m263_64, t263_22, t263_22_0, t263_22_1, t263_49, t263_49_0, t263_49_1, t263_64, t263_64_0, t263_64_1, t263_216, t263_216_0, t263_216_1, t263_237, t263_237_0, t263_237_1, t263_278, t263_278_0, t263_278_1, t263_305, t263_305_0, t263_305_1, t263_346, t263_346_0, t263_346_1, t263_376, t263_376_0, t263_376_1]
  have h6 : ¬ k = 40 := by omega
  have hB1 : Bt t b A (up1 B 16 (upd (upd (upd (upd (B 16) (4 * k) (nI 2)) (4 * k + 1) (nI 0)) (4 * k + 2) (nI 0)) (4 * k + 3) (nI 0))) := Bt_c hB rfl (up1_n (by decide))
  obtain ⟨I1, lt1, tw1, J1, w1, a1, a2, a3, a4, a5⟩ := gd_adv (d + 3) (d' + 3) sl sl' I A N V lt (some (1000000 + 5)) sp sr X J w (up1 B 16 (upd (upd (upd (upd (B 16) (4 * k) (nI 2)) (4 * k + 1) (nI 0)) (4 * k + 2) (nI 0)) (4 * k + 3) (nI 0))) M hB1 hL hX h (by decide)
  obtain ⟨⟨κ1, v1, s1, t1⟩, -, -⟩ := a3.2
  have j1 : J1 37 = nI k := by rw [a5 37 (by decide)]; exact j37
  rcases gd_debt (d + 1) (d' + 1) sl sl' I1 A N V lt1 tw1 sp sr X J1 w1 (up1 B 16 (upd (upd (upd (upd (B 16) (4 * k) (nI 2)) (4 * k + 1) (nI 0)) (4 * k + 2) (nI 0)) (4 * k + 3) (nI 0))) M hB1 hL hX t1 with ⟨u2, I2, lt2, tw2, J2, w2, q2, c2, e2, g2, x2, y2⟩ | ⟨I2, J2, c2, e2, g2⟩
  rotate_left
  · refine Or.inr ⟨I2, A, lt1, tw1, J2, w1, up1 B 16 (upd (upd (upd (upd (B 16) (4 * k) (nI 2)) (4 * k + 1) (nI 0)) (4 * k + 2) (nI 0)) (4 * k + 3) (nI 0)), ?_, ?_, g2.2.1, Fb_c (Cb_t (Gd_Cb a3) (Bd_Cb g2)) (fun q hq => up1_n hq)⟩
    · rw [e10, k10_r101_r1_r3_0, nm1]
      simp (disch := omega) only [rt_c, b_some, List.cons_append, List.nil_append, Bool.cond_not, cond_true, cond_false, Bool.cond_decide, nI_add, nI_clamp, xin_n, dle_e, dlt_e, deq_e, xb_0, xb_1, decide_true, decide_false, Bool.not_true, Bool.not_false, Bool.and_true, Bool.true_and, Bool.and_false, Bool.false_and, Bool.true_or, Bool.false_or, Bool.or_true, Bool.or_false, if_true, if_false, up1_s, n_31, Int32.lt_irrefl, k10_r101_r1_r3_4_1, xb_f, ac, k10_r101_r1_r3_19, am, Nat.reduceEqDiff, i4, hk, a1, k10_r101_r1_r3_87, c2, k10_r101_r1_r3_110, t10_30, t10_30_0, t10_30_1, t10_54, t10_54_0, t10_54_1, t10_69, t10_69_0, t10_69_1, t10_82, t10_82_0, t10_82_1, t10_133, t10_133_0, t10_133_1, t10_147, t10_147_0, t10_147_1]
    · rw [e263, m263_0, wh]
      simp (disch := omega) only [rt_c, b_some, List.cons_append, List.nil_append, Bool.cond_not, cond_true, cond_false, Bool.cond_decide, nI_add, nI_clamp, xin_n, dle_e, dlt_e, deq_e, xb_0, xb_1, decide_true, decide_false, Bool.not_true, Bool.not_false, Bool.and_true, Bool.true_and, Bool.and_false, Bool.false_and, Bool.true_or, Bool.false_or, Bool.or_true, Bool.or_false, if_true, if_false, up1_s, n_31, Int32.lt_irrefl, m263_4, Nat.reduceEqDiff, Nat.zero_ne_one, j37, h6, hmul, a2, m263_135, m263_136_c2, m263_238, e2, xb_f, m263_246, c258_0, m263_249, t263_22, t263_22_0, t263_22_1, t263_49, t263_49_0, t263_49_1, t263_64, t263_64_0, t263_64_1, t263_216, t263_216_0, t263_216_1, t263_237, t263_237_0, t263_237_1, t263_278, t263_278_0, t263_278_1, t263_305, t263_305_0, t263_305_1, t263_346, t263_346_0, t263_346_1, t263_376, t263_376_0, t263_376_1]
  obtain ⟨⟨κ2, v2, s2, t2⟩, -, -⟩ := g2.2
  have hB2 : Bt t b A (up1 B 16 (upd (upd (upd (upd (upd (B 16) (4 * k) (nI 2)) (4 * k + 1) (nI 0)) (4 * k + 2) (nI 0)) (4 * k + 3) (nI 0)) (4 * k + 1) (nI u2))) := Bt_c hB rfl (up1_n (by decide))
  have i3 : I2 3 8 = nI H := by rw [g2.1 3 (by decide), a3.1 3 (by decide)]; exact hI3
  have b0 : (up1 B 16 (upd (upd (upd (upd (upd (B 16) (4 * k) (nI 2)) (4 * k + 1) (nI 0)) (4 * k + 2) (nI 0)) (4 * k + 3) (nI 0)) (4 * k + 1) (nI u2))) 2 0 = nI H := by rw [up1_n (by decide)]; exact hb0
  rcases gd_hname (d + 1) d' sl sl' I2 A N V lt2 tw2 sp sr X J2 w2 (up1 B 16 (upd (upd (upd (upd (upd (B 16) (4 * k) (nI 2)) (4 * k + 1) (nI 0)) (4 * k + 2) (nI 0)) (4 * k + 3) (nI 0)) (4 * k + 1) (nI u2))) M hH6 i3 b0 hN hB2 hL hX t2 with ⟨u3, I3, lt3, tw3, J3, w3, q3, c3, e3, g3, x3, y3⟩ | ⟨I3, J3, c3, e3, g3⟩
  rotate_left
  · have h12 : C (d + 4) 12 [.ref 1, .ref 3, .int (nI 20)] sl (CH I2 A N V lt2 tw2 sp sr X) = some ([.int (x_b false)], sl, CH I3 A N V lt2 tw2 sp sr X) := by
      rw [e12, k12_r1_r3_0, k12_r1_r3_1_c20, k12_r1_r3_45]
      simp (disch := omega) only [rt_c, b_some, List.cons_append, List.nil_append, Bool.cond_not, cond_true, cond_false, Bool.cond_decide, nI_add, nI_clamp, xin_n, dle_e, dlt_e, deq_e, xb_0, xb_1, decide_true, decide_false, Bool.not_true, Bool.not_false, Bool.and_true, Bool.true_and, Bool.and_false, Bool.false_and, Bool.true_or, Bool.false_or, Bool.or_true, Bool.or_false, if_true, if_false, up1_s, n_31, Int32.lt_irrefl, c3, k12_r1_r3_51, t12_44, t12_44_0, t12_44_1, t12_51, t12_51_0, t12_51_1, t12_59, t12_59_0, t12_59_1, t12_61, t12_61_0, t12_61_1]
    refine Or.inr ⟨I3, A, lt2, tw2, J3, w2, up1 B 16 (upd (upd (upd (upd (upd (B 16) (4 * k) (nI 2)) (4 * k + 1) (nI 0)) (4 * k + 2) (nI 0)) (4 * k + 3) (nI 0)) (4 * k + 1) (nI u2)), ?_, ?_, g3.2.1, Fb_c (Cb_t (Cb_t (Gd_Cb a3) (Gd_Cb g2)) (Bd_Cb g3)) (fun q hq => up1_n hq)⟩
    · rw [e10, k10_r101_r1_r3_0, nm1]
      simp (disch := omega) only [rt_c, b_some, List.cons_append, List.nil_append, Bool.cond_not, cond_true, cond_false, Bool.cond_decide, nI_add, nI_clamp, xin_n, dle_e, dlt_e, deq_e, xb_0, xb_1, decide_true, decide_false, Bool.not_true, Bool.not_false, Bool.and_true, Bool.true_and, Bool.and_false, Bool.false_and, Bool.true_or, Bool.false_or, Bool.or_true, Bool.or_false, if_true, if_false, up1_s, n_31, Int32.lt_irrefl, k10_r101_r1_r3_4_1, xb_f, ac, k10_r101_r1_r3_19, am, Nat.reduceEqDiff, i4, hk, a1, k10_r101_r1_r3_87, c2, k10_r101_r1_r3_110, x2, xb_t, Nat.one_ne_zero, h12, k10_r101_r1_r3_129, t10_30, t10_30_0, t10_30_1, t10_54, t10_54_0, t10_54_1, t10_69, t10_69_0, t10_69_1, t10_82, t10_82_0, t10_82_1, t10_133, t10_133_0, t10_133_1, t10_147, t10_147_0, t10_147_1]
    · rw [e263, m263_0, wh]
      simp (disch := omega) only [rt_c, b_some, List.cons_append, List.nil_append, Bool.cond_not, cond_true, cond_false, Bool.cond_decide, nI_add, nI_clamp, xin_n, dle_e, dlt_e, deq_e, xb_0, xb_1, decide_true, decide_false, Bool.not_true, Bool.not_false, Bool.and_true, Bool.true_and, Bool.and_false, Bool.false_and, Bool.true_or, Bool.false_or, Bool.or_true, Bool.or_false, if_true, if_false, up1_s, n_31, Int32.lt_irrefl, m263_4, Nat.reduceEqDiff, Nat.zero_ne_one, j37, h6, hmul, a2, m263_135, m263_136_c2, m263_238, e2, xb_t, Nat.one_ne_zero, m263_246, c258_1, m263_249, y2, up1_up, e3, xb_f, m263_260, c258_0, m263_263, t263_22, t263_22_0, t263_22_1, t263_49, t263_49_0, t263_49_1, t263_64, t263_64_0, t263_64_1, t263_216, t263_216_0, t263_216_1, t263_237, t263_237_0, t263_237_1, t263_278, t263_278_0, t263_278_1, t263_305, t263_305_0, t263_305_1, t263_346, t263_346_0, t263_346_1, t263_376, t263_376_0, t263_376_1]
  have h12 : C (d + 4) 12 [.ref 1, .ref 3, .int (nI 20)] sl (CH I2 A N V lt2 tw2 sp sr X) = some ([.int (x_b true)], sl, CH I3 A N V lt3 tw3 sp sr X) := by
    rw [e12, k12_r1_r3_0, k12_r1_r3_1_c20, k12_r1_r3_45]
    simp (disch := omega) only [rt_c, b_some, List.cons_append, List.nil_append, Bool.cond_not, cond_true, cond_false, Bool.cond_decide, nI_add, nI_clamp, xin_n, dle_e, dlt_e, deq_e, xb_0, xb_1, decide_true, decide_false, Bool.not_true, Bool.not_false, Bool.and_true, Bool.true_and, Bool.and_false, Bool.false_and, Bool.true_or, Bool.false_or, Bool.or_true, Bool.or_false, if_true, if_false, up1_s, n_31, Int32.lt_irrefl, c3, k12_r1_r3_51, t12_44, t12_44_0, t12_44_1, t12_51, t12_51_0, t12_51_1, t12_59, t12_59_0, t12_59_1, t12_61, t12_61_0, t12_61_1]
  obtain ⟨⟨κ3, v3, s3, t3⟩, -, -⟩ := g3.2
  have i4' : I3 101 4 = nI k := by rw [g3.1 101 (by decide), g2.1 101 (by decide), a3.1 101 (by decide)]; exact i4
  have h14 := q14 (d + 4) sl I3 A N V lt3 sp sr X tw3 (nI 20) (nI u2) (nI u3) (nI 0) hk i4'
  refine Or.inl ⟨up1 I3 101 (up1 (I3 101) 4 (nI (k + 1))), up1 (up1 (up1 (up1 A 102 (upd (A 102) k (nI 20))) 103 (upd (A 103) k (nI u2))) 104 (upd (A 104) k (nI u3))) 105 (upd (A 105) k (nI 0)), lt3, tw3, J3, w3, up1 B 16 (upd (upd (upd (upd (upd (upd (B 16) (4 * k) (nI 2)) (4 * k + 1) (nI 0)) (4 * k + 2) (nI 0)) (4 * k + 3) (nI 0)) (4 * k + 1) (nI u2)) (4 * k + 2) (nI u3)), ?_, ?_, ⟨κ3, v3, s3, ?_⟩, ⟨by omega, fun i hi => ?_⟩, ?_, ?_, ?_, ?_, fun q r1 r2 => ?_, fun q r1 => ?_, fun q r1 => ?_, fun q r1 => ?_, fun q r1 => up1_n r1⟩
  · rw [e10, k10_r101_r1_r3_0, nm1]
    simp (disch := omega) only [rt_c, b_some, List.cons_append, List.nil_append, Bool.cond_not, cond_true, cond_false, Bool.cond_decide, nI_add, nI_clamp, xin_n, dle_e, dlt_e, deq_e, xb_0, xb_1, decide_true, decide_false, Bool.not_true, Bool.not_false, Bool.and_true, Bool.true_and, Bool.and_false, Bool.false_and, Bool.true_or, Bool.false_or, Bool.or_true, Bool.or_false, if_true, if_false, up1_s, n_31, Int32.lt_irrefl, k10_r101_r1_r3_4_1, xb_f, ac, k10_r101_r1_r3_19, am, Nat.reduceEqDiff, i4, hk, a1, k10_r101_r1_r3_87, c2, k10_r101_r1_r3_110, x2, xb_t, Nat.one_ne_zero, h12, k10_r101_r1_r3_129, x3, h14, k10_r101_r1_r3_146, t10_30, t10_30_0, t10_30_1, t10_54, t10_54_0, t10_54_1, t10_69, t10_69_0, t10_69_1, t10_82, t10_82_0, t10_82_1, t10_133, t10_133_0, t10_133_1, t10_147, t10_147_0, t10_147_1]
  · intro bo J9 w9 B9 h182
    rw [e263, m263_0, wh]
    cases bo with
    | true =>
      simp (disch := omega) only [rt_c, b_some, List.cons_append, List.nil_append, Bool.cond_not, cond_true, cond_false, Bool.cond_decide, nI_add, nI_clamp, xin_n, dle_e, dlt_e, deq_e, xb_0, xb_1, decide_true, decide_false, Bool.not_true, Bool.not_false, Bool.and_true, Bool.true_and, Bool.and_false, Bool.false_and, Bool.true_or, Bool.false_or, Bool.or_true, Bool.or_false, if_true, if_false, up1_s, n_31, Int32.lt_irrefl, m263_4, Nat.reduceEqDiff, Nat.zero_ne_one, j37, h6, hmul, a2, m263_135, m263_136_c2, m263_238, e2, xb_t, Nat.one_ne_zero, m263_246, c258_1, m263_249, y2, up1_up, e3, m263_260, m263_263, y3, h182, m263_270, t263_22, t263_22_0, t263_22_1, t263_49, t263_49_0, t263_49_1, t263_64, t263_64_0, t263_64_1, t263_216, t263_216_0, t263_216_1, t263_237, t263_237_0, t263_237_1, t263_278, t263_278_0, t263_278_1, t263_305, t263_305_0, t263_305_1, t263_346, t263_346_0, t263_346_1, t263_376, t263_376_0, t263_376_1]
    | false =>
      simp (disch := omega) only [rt_c, b_some, List.cons_append, List.nil_append, Bool.cond_not, cond_true, cond_false, Bool.cond_decide, nI_add, nI_clamp, xin_n, dle_e, dlt_e, deq_e, xb_0, xb_1, decide_true, decide_false, Bool.not_true, Bool.not_false, Bool.and_true, Bool.true_and, Bool.and_false, Bool.false_and, Bool.true_or, Bool.false_or, Bool.or_true, Bool.or_false, if_true, if_false, up1_s, n_31, Int32.lt_irrefl, m263_4, Nat.reduceEqDiff, Nat.zero_ne_one, j37, h6, hmul, a2, m263_135, m263_136_c2, m263_238, e2, xb_t, Nat.one_ne_zero, m263_246, c258_1, m263_249, y2, up1_up, e3, m263_260, m263_263, y3, h182, xb_f, m263_270, t263_22, t263_22_0, t263_22_1, t263_49, t263_49_0, t263_49_1, t263_64, t263_64_0, t263_64_1, t263_216, t263_216_0, t263_216_1, t263_237, t263_237_0, t263_237_1, t263_278, t263_278_0, t263_278_1, t263_305, t263_305_0, t263_305_1, t263_346, t263_346_0, t263_346_1, t263_376, t263_376_0, t263_376_1]
  · rw [up1_n (by decide)]; exact Tk_le t3 (by omega)
  · simp (disch := omega) only [up1_s, up1_n]
    by_cases hik : i = k
    · subst hik
      refine ⟨2, u2, ?_, ?_, ?_, ?_, Or.inr (Or.inr (Or.inl ⟨rfl, q2, u3, q3, ?_, ?_⟩))⟩ <;> simp (disch := omega) only [up1, upd, Nat.add_left_cancel_iff, if_neg, if_pos, if_true, if_false]
    · have hik2 : i < k := by omega
      have := hR i hik2
      unfold Ln at this ⊢
      simp (disch := omega) only [up1, upd, Nat.add_left_cancel_iff, if_neg, if_pos, if_true, if_false]
      exact this
  · rw [up1_s, up1_s]
  · rw [g3.2.2.2 37 (by decide), g2.2.2.2 37 (by decide), a5 37 (by decide)]; exact j37
  · rw [up1_n (by decide), g3.2.2.1, g2.2.2.1, a3.2.2.1]
  · rw [g3.2.2.2 10 (by decide), g2.2.2.2 10 (by decide), a3.2.2.2 10 (by decide)]
  · rw [up1_n r2]; exact (Cb_t (Cb_t (Gd_Cb a3) (Gd_Cb g2)) (Gd_Cb g3)).1 q r1
  · rw [up1_s, up1_n r1, (Cb_t (Cb_t (Gd_Cb a3) (Gd_Cb g2)) (Gd_Cb g3)).1 101 (by decide)]
  · rw [up1_n (by omega), up1_n (by omega), up1_n (by omega), up1_n (by omega)]
  · exact (Cb_t (Cb_t (Gd_Cb a3) (Gd_Cb g2)) (Gd_Cb g3)).2 q r1
theorem rb_3 (hH6 : H ≤ 6) (hI3 : I 3 8 = nI H) (hb0 : B 2 0 = nI H) (hN : Nm (N 4) (M 7) H) (hB : Bt t b A B) (hL : L ≤ 940) (hX : Nat.ble X.length 1 = true) (h : Tk t L n 2 6 s (I 1) lt (some (1000000 + 6)) J w) (hR : RB A B H k) (i4 : I 101 4 = nI k) (j37 : J 37 = nI k) : Ob d d' sl sl' t L n k V sp sr X I A N lt (some (1000000 + 6)) J w B M H := by
  obtain ⟨hk40, hR⟩ := hR
  have hmul := nI_mul4 hk40
  have nm1 := q95 (d + 4) sl I A N V lt (some (1000000 + 6)) sp sr X h
  rw [decide_eq_false (p := 2 = 3) (by decide)] at nm1
  have ac : C (d + 4) 11 [.ref (1000000 + 6)] sl (CH I A N V lt (some (1000000 + 6)) sp sr X) = some ([.int (nI 30)], sl, CH I A N V lt (some (1000000 + 6)) sp sr X) := q11 (d + 4) sl I A N V lt (some (1000000 + 6)) sp sr X (v := 6) (by decide)
  have wh : C (d' + 4) 262 [.ref 0] sl' (RH J w B M) = some ([.int (nI 3)], sl', RH J w B M) := c262 (d' + 1) sl' J w B M h
  have am : ¬ nI 30 = (-1 : Int32) := nI_m1 (by decide)
  by_cases hk : k < 40
  rotate_left
  · have h6 : k = 40 := by omega
    obtain ⟨I1, J1, c1, e1, g1⟩ := gd_no (d + 4) (d' + 4) sl sl' I A N V lt (some (1000000 + 6)) sp sr X J w B M (c := 4) (by decide) hB.1 h (Or.inl (by decide))
    refine Or.inr ⟨I1, A, lt, some (1000000 + 6), J1, w, B, ?_, ?_, g1.2.1, Fb_c (Bd_Cb g1) (fun _ _ => rfl)⟩
    · rw [e10, k10_r101_r1_r3_0, nm1]
      simp (disch := omega) only [rt_c, b_some, List.cons_append, List.nil_append, Bool.cond_not, cond_true, cond_false, Bool.cond_decide, nI_add, nI_clamp, xin_n, dle_e, dlt_e, deq_e, xb_0, xb_1, decide_true, decide_false, Bool.not_true, Bool.not_false, Bool.and_true, Bool.true_and, Bool.and_false, Bool.false_and, Bool.true_or, Bool.false_or, Bool.or_true, Bool.or_false, if_true, if_false, up1_s, n_31, Int32.lt_irrefl, k10_r101_r1_r3_4_1, xb_f, ac, k10_r101_r1_r3_19, am, Nat.reduceEqDiff, i4, h6, Nat.lt_irrefl, c1, k10_r101_r1_r3_69, t10_30, t10_30_0, t10_30_1, t10_54, t10_54_0, t10_54_1, t10_69, t10_69_0, t10_69_1, t10_82, t10_82_0, t10_82_1, t10_133, t10_133_0, t10_133_1, t10_147, t10_147_0, t10_147_1]
    · rw [e263, m263_0, wh]
      simp (disch := omega) only [rt_c, b_some, List.cons_append, List.nil_append, Bool.cond_not, cond_true, cond_false, Bool.cond_decide, nI_add, nI_clamp, xin_n, dle_e, dlt_e, deq_e, xb_0, xb_1, decide_true, decide_false, Bool.not_true, Bool.not_false, Bool.and_true, Bool.true_and, Bool.and_false, Bool.false_and, Bool.true_or, Bool.false_or, Bool.or_true, Bool.or_false, if_true, if_false, up1_s, n_31, Int32.lt_irrefl, m263_4, Nat.reduceEqDiff, Nat.zero_ne_one, j37, h6, e1, m263_64, t263_22, t263_22_0, t263_22_1, t263_49, t263_49_0, t263_49_1, t263_64, t263_64_0, t263_64_1, t263_216, t263_216_0, t263_216_1, t263_237, t263_237_0, t263_237_1, t263_278, t263_278_0, t263_278_1, t263_305, t263_305_0, t263_305_1, t263_346, t263_346_0, t263_346_1, t263_376, t263_376_0, t263_376_1]
  have h6 : ¬ k = 40 := by omega
  have hB1 : Bt t b A (up1 B 16 (upd (upd (upd (upd (B 16) (4 * k) (nI 3)) (4 * k + 1) (nI 0)) (4 * k + 2) (nI 0)) (4 * k + 3) (nI 0))) := Bt_c hB rfl (up1_n (by decide))
  obtain ⟨I1, lt1, tw1, J1, w1, a1, a2, a3, a4, a5⟩ := gd_adv (d + 3) (d' + 3) sl sl' I A N V lt (some (1000000 + 6)) sp sr X J w (up1 B 16 (upd (upd (upd (upd (B 16) (4 * k) (nI 3)) (4 * k + 1) (nI 0)) (4 * k + 2) (nI 0)) (4 * k + 3) (nI 0))) M hB1 hL hX h (by decide)
  obtain ⟨⟨κ1, v1, s1, t1⟩, -, -⟩ := a3.2
  have j1 : J1 37 = nI k := by rw [a5 37 (by decide)]; exact j37
  rcases gd_debt (d + 1) (d' + 1) sl sl' I1 A N V lt1 tw1 sp sr X J1 w1 (up1 B 16 (upd (upd (upd (upd (B 16) (4 * k) (nI 3)) (4 * k + 1) (nI 0)) (4 * k + 2) (nI 0)) (4 * k + 3) (nI 0))) M hB1 hL hX t1 with ⟨u2, I2, lt2, tw2, J2, w2, q2, c2, e2, g2, x2, y2⟩ | ⟨I2, J2, c2, e2, g2⟩
  rotate_left
  · refine Or.inr ⟨I2, A, lt1, tw1, J2, w1, up1 B 16 (upd (upd (upd (upd (B 16) (4 * k) (nI 3)) (4 * k + 1) (nI 0)) (4 * k + 2) (nI 0)) (4 * k + 3) (nI 0)), ?_, ?_, g2.2.1, Fb_c (Cb_t (Gd_Cb a3) (Bd_Cb g2)) (fun q hq => up1_n hq)⟩
    · rw [e10, k10_r101_r1_r3_0, nm1]
      simp (disch := omega) only [rt_c, b_some, List.cons_append, List.nil_append, Bool.cond_not, cond_true, cond_false, Bool.cond_decide, nI_add, nI_clamp, xin_n, dle_e, dlt_e, deq_e, xb_0, xb_1, decide_true, decide_false, Bool.not_true, Bool.not_false, Bool.and_true, Bool.true_and, Bool.and_false, Bool.false_and, Bool.true_or, Bool.false_or, Bool.or_true, Bool.or_false, if_true, if_false, up1_s, n_31, Int32.lt_irrefl, k10_r101_r1_r3_4_1, xb_f, ac, k10_r101_r1_r3_19, am, Nat.reduceEqDiff, i4, hk, a1, k10_r101_r1_r3_87, c2, k10_r101_r1_r3_110, t10_30, t10_30_0, t10_30_1, t10_54, t10_54_0, t10_54_1, t10_69, t10_69_0, t10_69_1, t10_82, t10_82_0, t10_82_1, t10_133, t10_133_0, t10_133_1, t10_147, t10_147_0, t10_147_1]
    · rw [e263, m263_0, wh]
      simp (disch := omega) only [rt_c, b_some, List.cons_append, List.nil_append, Bool.cond_not, cond_true, cond_false, Bool.cond_decide, nI_add, nI_clamp, xin_n, dle_e, dlt_e, deq_e, xb_0, xb_1, decide_true, decide_false, Bool.not_true, Bool.not_false, Bool.and_true, Bool.true_and, Bool.and_false, Bool.false_and, Bool.true_or, Bool.false_or, Bool.or_true, Bool.or_false, if_true, if_false, up1_s, n_31, Int32.lt_irrefl, m263_4, Nat.reduceEqDiff, Nat.zero_ne_one, j37, h6, hmul, a2, m263_135, m263_136_c3, m263_279, e2, xb_f, m263_287, c258_0, m263_290, t263_22, t263_22_0, t263_22_1, t263_49, t263_49_0, t263_49_1, t263_64, t263_64_0, t263_64_1, t263_216, t263_216_0, t263_216_1, t263_237, t263_237_0, t263_237_1, t263_278, t263_278_0, t263_278_1, t263_305, t263_305_0, t263_305_1, t263_346, t263_346_0, t263_346_1, t263_376, t263_376_0, t263_376_1]
  obtain ⟨⟨κ2, v2, s2, t2⟩, -, -⟩ := g2.2
  have hB2 : Bt t b A (up1 B 16 (upd (upd (upd (upd (upd (B 16) (4 * k) (nI 3)) (4 * k + 1) (nI 0)) (4 * k + 2) (nI 0)) (4 * k + 3) (nI 0)) (4 * k + 1) (nI u2))) := Bt_c hB rfl (up1_n (by decide))
  have h12 : C (d + 4) 12 [.ref 1, .ref 3, .int (nI 30)] sl (CH I2 A N V lt2 tw2 sp sr X) = some ([.int (x_b true)], sl, CH I2 A N V lt2 tw2 sp sr X) := by
    rw [e12, k12_r1_r3_0, k12_r1_r3_1_out _ _ _ _ _ _ _ _ _ _ _ _ _ (by decide), k12_r1_r3_60]
    simp (disch := omega) only [rt_c, b_some, List.cons_append, List.nil_append, Bool.cond_not, cond_true, cond_false, Bool.cond_decide, nI_add, nI_clamp, xin_n, dle_e, dlt_e, deq_e, xb_0, xb_1, decide_true, decide_false, Bool.not_true, Bool.not_false, Bool.and_true, Bool.true_and, Bool.and_false, Bool.false_and, Bool.true_or, Bool.false_or, Bool.or_true, Bool.or_false, if_true, if_false, up1_s, n_31, Int32.lt_irrefl, t12_44, t12_44_0, t12_44_1, t12_51, t12_51_0, t12_51_1, t12_59, t12_59_0, t12_59_1, t12_61, t12_61_0, t12_61_1]
  have i4' : I2 101 4 = nI k := by rw [g2.1 101 (by decide), a3.1 101 (by decide)]; exact i4
  have h14 := q14 (d + 4) sl I2 A N V lt2 sp sr X tw2 (nI 30) (nI u2) (nI u2) (nI 0) hk i4'
  refine Or.inl ⟨up1 I2 101 (up1 (I2 101) 4 (nI (k + 1))), up1 (up1 (up1 (up1 A 102 (upd (A 102) k (nI 30))) 103 (upd (A 103) k (nI u2))) 104 (upd (A 104) k (nI u2))) 105 (upd (A 105) k (nI 0)), lt2, tw2, J2, w2, up1 B 16 (upd (upd (upd (upd (upd (B 16) (4 * k) (nI 3)) (4 * k + 1) (nI 0)) (4 * k + 2) (nI 0)) (4 * k + 3) (nI 0)) (4 * k + 1) (nI u2)), ?_, ?_, ⟨κ2, v2, s2, ?_⟩, ⟨by omega, fun i hi => ?_⟩, ?_, ?_, ?_, ?_, fun q r1 r2 => ?_, fun q r1 => ?_, fun q r1 => ?_, fun q r1 => ?_, fun q r1 => up1_n r1⟩
  · rw [e10, k10_r101_r1_r3_0, nm1]
    simp (disch := omega) only [rt_c, b_some, List.cons_append, List.nil_append, Bool.cond_not, cond_true, cond_false, Bool.cond_decide, nI_add, nI_clamp, xin_n, dle_e, dlt_e, deq_e, xb_0, xb_1, decide_true, decide_false, Bool.not_true, Bool.not_false, Bool.and_true, Bool.true_and, Bool.and_false, Bool.false_and, Bool.true_or, Bool.false_or, Bool.or_true, Bool.or_false, if_true, if_false, up1_s, n_31, Int32.lt_irrefl, k10_r101_r1_r3_4_1, xb_f, ac, k10_r101_r1_r3_19, am, Nat.reduceEqDiff, i4, hk, a1, k10_r101_r1_r3_87, c2, k10_r101_r1_r3_110, x2, xb_t, Nat.one_ne_zero, h12, k10_r101_r1_r3_129, x2, h14, k10_r101_r1_r3_146, t10_30, t10_30_0, t10_30_1, t10_54, t10_54_0, t10_54_1, t10_69, t10_69_0, t10_69_1, t10_82, t10_82_0, t10_82_1, t10_133, t10_133_0, t10_133_1, t10_147, t10_147_0, t10_147_1]
  · intro bo J9 w9 B9 h182
    rw [e263, m263_0, wh]
    cases bo with
    | true =>
      simp (disch := omega) only [rt_c, b_some, List.cons_append, List.nil_append, Bool.cond_not, cond_true, cond_false, Bool.cond_decide, nI_add, nI_clamp, xin_n, dle_e, dlt_e, deq_e, xb_0, xb_1, decide_true, decide_false, Bool.not_true, Bool.not_false, Bool.and_true, Bool.true_and, Bool.and_false, Bool.false_and, Bool.true_or, Bool.false_or, Bool.or_true, Bool.or_false, if_true, if_false, up1_s, n_31, Int32.lt_irrefl, m263_4, Nat.reduceEqDiff, Nat.zero_ne_one, j37, h6, hmul, a2, m263_135, m263_136_c3, m263_279, e2, xb_t, Nat.one_ne_zero, m263_287, c258_1, m263_290, y2, up1_up, h182, m263_297, t263_22, t263_22_0, t263_22_1, t263_49, t263_49_0, t263_49_1, t263_64, t263_64_0, t263_64_1, t263_216, t263_216_0, t263_216_1, t263_237, t263_237_0, t263_237_1, t263_278, t263_278_0, t263_278_1, t263_305, t263_305_0, t263_305_1, t263_346, t263_346_0, t263_346_1, t263_376, t263_376_0, t263_376_1]
    | false =>
      simp (disch := omega) only [rt_c, b_some, List.cons_append, List.nil_append, Bool.cond_not, cond_true, cond_false, Bool.cond_decide, nI_add, nI_clamp, xin_n, dle_e, dlt_e, deq_e, xb_0, xb_1, decide_true, decide_false, Bool.not_true, Bool.not_false, Bool.and_true, Bool.true_and, Bool.and_false, Bool.false_and, Bool.true_or, Bool.false_or, Bool.or_true, Bool.or_false, if_true, if_false, up1_s, n_31, Int32.lt_irrefl, m263_4, Nat.reduceEqDiff, Nat.zero_ne_one, j37, h6, hmul, a2, m263_135, m263_136_c3, m263_279, e2, xb_t, Nat.one_ne_zero, m263_287, c258_1, m263_290, y2, up1_up, h182, xb_f, m263_297, t263_22, t263_22_0, t263_22_1, t263_49, t263_49_0, t263_49_1, t263_64, t263_64_0, t263_64_1, t263_216, t263_216_0, t263_216_1, t263_237, t263_237_0, t263_237_1, t263_278, t263_278_0, t263_278_1, t263_305, t263_305_0, t263_305_1, t263_346, t263_346_0, t263_346_1, t263_376, t263_376_0, t263_376_1]
  · rw [up1_n (by decide)]; exact Tk_le t2 (by omega)
  · simp (disch := omega) only [up1_s, up1_n]
    by_cases hik : i = k
    · subst hik
      refine ⟨3, u2, ?_, ?_, ?_, ?_, Or.inr (Or.inr (Or.inr (Or.inl ⟨rfl, q2⟩)))⟩ <;> simp (disch := omega) only [up1, upd, Nat.add_left_cancel_iff, if_neg, if_pos, if_true, if_false]
    · have hik2 : i < k := by omega
      have := hR i hik2
      unfold Ln at this ⊢
      simp (disch := omega) only [up1, upd, Nat.add_left_cancel_iff, if_neg, if_pos, if_true, if_false]
      exact this
  · rw [up1_s, up1_s]
  · rw [g2.2.2.2 37 (by decide), a5 37 (by decide)]; exact j37
  · rw [up1_n (by decide), g2.2.2.1, a3.2.2.1]
  · rw [g2.2.2.2 10 (by decide), a3.2.2.2 10 (by decide)]
  · rw [up1_n r2]; exact (Cb_t (Gd_Cb a3) (Gd_Cb g2)).1 q r1
  · rw [up1_s, up1_n r1, (Cb_t (Gd_Cb a3) (Gd_Cb g2)).1 101 (by decide)]
  · rw [up1_n (by omega), up1_n (by omega), up1_n (by omega), up1_n (by omega)]
  · exact (Cb_t (Gd_Cb a3) (Gd_Cb g2)).2 q r1
theorem rb_4 (hH6 : H ≤ 6) (hI3 : I 3 8 = nI H) (hb0 : B 2 0 = nI H) (hN : Nm (N 4) (M 7) H) (hB : Bt t b A B) (hL : L ≤ 940) (hX : Nat.ble X.length 1 = true) (h : Tk t L n 2 7 s (I 1) lt (some (1000000 + 7)) J w) (hR : RB A B H k) (i4 : I 101 4 = nI k) (j37 : J 37 = nI k) : Ob d d' sl sl' t L n k V sp sr X I A N lt (some (1000000 + 7)) J w B M H := by
  obtain ⟨hk40, hR⟩ := hR
  have hmul := nI_mul4 hk40
  have nm1 := q95 (d + 4) sl I A N V lt (some (1000000 + 7)) sp sr X h
  rw [decide_eq_false (p := 2 = 3) (by decide)] at nm1
  have ac : C (d + 4) 11 [.ref (1000000 + 7)] sl (CH I A N V lt (some (1000000 + 7)) sp sr X) = some ([.int (nI 40)], sl, CH I A N V lt (some (1000000 + 7)) sp sr X) := q11 (d + 4) sl I A N V lt (some (1000000 + 7)) sp sr X (v := 7) (by decide)
  have wh : C (d' + 4) 262 [.ref 0] sl' (RH J w B M) = some ([.int (nI 4)], sl', RH J w B M) := c262 (d' + 1) sl' J w B M h
  have am : ¬ nI 40 = (-1 : Int32) := nI_m1 (by decide)
  by_cases hk : k < 40
  rotate_left
  · have h6 : k = 40 := by omega
    obtain ⟨I1, J1, c1, e1, g1⟩ := gd_no (d + 4) (d' + 4) sl sl' I A N V lt (some (1000000 + 7)) sp sr X J w B M (c := 4) (by decide) hB.1 h (Or.inl (by decide))
    refine Or.inr ⟨I1, A, lt, some (1000000 + 7), J1, w, B, ?_, ?_, g1.2.1, Fb_c (Bd_Cb g1) (fun _ _ => rfl)⟩
    · rw [e10, k10_r101_r1_r3_0, nm1]
      simp (disch := omega) only [rt_c, b_some, List.cons_append, List.nil_append, Bool.cond_not, cond_true, cond_false, Bool.cond_decide, nI_add, nI_clamp, xin_n, dle_e, dlt_e, deq_e, xb_0, xb_1, decide_true, decide_false, Bool.not_true, Bool.not_false, Bool.and_true, Bool.true_and, Bool.and_false, Bool.false_and, Bool.true_or, Bool.false_or, Bool.or_true, Bool.or_false, if_true, if_false, up1_s, n_31, Int32.lt_irrefl, k10_r101_r1_r3_4_1, xb_f, ac, k10_r101_r1_r3_19, am, Nat.reduceEqDiff, i4, h6, Nat.lt_irrefl, c1, k10_r101_r1_r3_69, t10_30, t10_30_0, t10_30_1, t10_54, t10_54_0, t10_54_1, t10_69, t10_69_0, t10_69_1, t10_82, t10_82_0, t10_82_1, t10_133, t10_133_0, t10_133_1, t10_147, t10_147_0, t10_147_1]
    · rw [e263, m263_0, wh]
      simp (disch := omega) only [rt_c, b_some, List.cons_append, List.nil_append, Bool.cond_not, cond_true, cond_false, Bool.cond_decide, nI_add, nI_clamp, xin_n, dle_e, dlt_e, deq_e, xb_0, xb_1, decide_true, decide_false, Bool.not_true, Bool.not_false, Bool.and_true, Bool.true_and, Bool.and_false, Bool.false_and, Bool.true_or, Bool.false_or, Bool.or_true, Bool.or_false, if_true, if_false, up1_s, n_31, Int32.lt_irrefl, m263_4, Nat.reduceEqDiff, Nat.zero_ne_one, j37, h6, e1, m263_64, t263_22, t263_22_0, t263_22_1, t263_49, t263_49_0, t263_49_1, t263_64, t263_64_0, t263_64_1, t263_216, t263_216_0, t263_216_1, t263_237, t263_237_0, t263_237_1, t263_278, t263_278_0, t263_278_1, t263_305, t263_305_0, t263_305_1, t263_346, t263_346_0, t263_346_1, t263_376, t263_376_0, t263_376_1]
  have h6 : ¬ k = 40 := by omega
  have hB1 : Bt t b A (up1 B 16 (upd (upd (upd (upd (B 16) (4 * k) (nI 4)) (4 * k + 1) (nI 0)) (4 * k + 2) (nI 0)) (4 * k + 3) (nI 0))) := Bt_c hB rfl (up1_n (by decide))
  obtain ⟨I1, lt1, tw1, J1, w1, a1, a2, a3, a4, a5⟩ := gd_adv (d + 3) (d' + 3) sl sl' I A N V lt (some (1000000 + 7)) sp sr X J w (up1 B 16 (upd (upd (upd (upd (B 16) (4 * k) (nI 4)) (4 * k + 1) (nI 0)) (4 * k + 2) (nI 0)) (4 * k + 3) (nI 0))) M hB1 hL hX h (by decide)
  obtain ⟨⟨κ1, v1, s1, t1⟩, -, -⟩ := a3.2
  have j1 : J1 37 = nI k := by rw [a5 37 (by decide)]; exact j37
  rcases gd_debt (d + 1) (d' + 1) sl sl' I1 A N V lt1 tw1 sp sr X J1 w1 (up1 B 16 (upd (upd (upd (upd (B 16) (4 * k) (nI 4)) (4 * k + 1) (nI 0)) (4 * k + 2) (nI 0)) (4 * k + 3) (nI 0))) M hB1 hL hX t1 with ⟨u2, I2, lt2, tw2, J2, w2, q2, c2, e2, g2, x2, y2⟩ | ⟨I2, J2, c2, e2, g2⟩
  rotate_left
  · refine Or.inr ⟨I2, A, lt1, tw1, J2, w1, up1 B 16 (upd (upd (upd (upd (B 16) (4 * k) (nI 4)) (4 * k + 1) (nI 0)) (4 * k + 2) (nI 0)) (4 * k + 3) (nI 0)), ?_, ?_, g2.2.1, Fb_c (Cb_t (Gd_Cb a3) (Bd_Cb g2)) (fun q hq => up1_n hq)⟩
    · rw [e10, k10_r101_r1_r3_0, nm1]
      simp (disch := omega) only [rt_c, b_some, List.cons_append, List.nil_append, Bool.cond_not, cond_true, cond_false, Bool.cond_decide, nI_add, nI_clamp, xin_n, dle_e, dlt_e, deq_e, xb_0, xb_1, decide_true, decide_false, Bool.not_true, Bool.not_false, Bool.and_true, Bool.true_and, Bool.and_false, Bool.false_and, Bool.true_or, Bool.false_or, Bool.or_true, Bool.or_false, if_true, if_false, up1_s, n_31, Int32.lt_irrefl, k10_r101_r1_r3_4_1, xb_f, ac, k10_r101_r1_r3_19, am, Nat.reduceEqDiff, i4, hk, a1, k10_r101_r1_r3_87, c2, k10_r101_r1_r3_110, t10_30, t10_30_0, t10_30_1, t10_54, t10_54_0, t10_54_1, t10_69, t10_69_0, t10_69_1, t10_82, t10_82_0, t10_82_1, t10_133, t10_133_0, t10_133_1, t10_147, t10_147_0, t10_147_1]
    · rw [e263, m263_0, wh]
      simp (disch := omega) only [rt_c, b_some, List.cons_append, List.nil_append, Bool.cond_not, cond_true, cond_false, Bool.cond_decide, nI_add, nI_clamp, xin_n, dle_e, dlt_e, deq_e, xb_0, xb_1, decide_true, decide_false, Bool.not_true, Bool.not_false, Bool.and_true, Bool.true_and, Bool.and_false, Bool.false_and, Bool.true_or, Bool.false_or, Bool.or_true, Bool.or_false, if_true, if_false, up1_s, n_31, Int32.lt_irrefl, m263_4, Nat.reduceEqDiff, Nat.zero_ne_one, j37, h6, hmul, a2, m263_135, m263_136_c4, m263_306, e2, xb_f, m263_314, c258_0, m263_317, t263_22, t263_22_0, t263_22_1, t263_49, t263_49_0, t263_49_1, t263_64, t263_64_0, t263_64_1, t263_216, t263_216_0, t263_216_1, t263_237, t263_237_0, t263_237_1, t263_278, t263_278_0, t263_278_1, t263_305, t263_305_0, t263_305_1, t263_346, t263_346_0, t263_346_1, t263_376, t263_376_0, t263_376_1]
  obtain ⟨⟨κ2, v2, s2, t2⟩, -, -⟩ := g2.2
  have hB2 : Bt t b A (up1 B 16 (upd (upd (upd (upd (upd (B 16) (4 * k) (nI 4)) (4 * k + 1) (nI 0)) (4 * k + 2) (nI 0)) (4 * k + 3) (nI 0)) (4 * k + 1) (nI u2))) := Bt_c hB rfl (up1_n (by decide))
  rcases gd_debt d (d' + 1) sl sl' I2 A N V lt2 tw2 sp sr X J2 w2 (up1 B 16 (upd (upd (upd (upd (upd (B 16) (4 * k) (nI 4)) (4 * k + 1) (nI 0)) (4 * k + 2) (nI 0)) (4 * k + 3) (nI 0)) (4 * k + 1) (nI u2))) M hB2 hL hX t2 with ⟨u3, I3, lt3, tw3, J3, w3, q3, c3, e3, g3, x3, y3⟩ | ⟨I3, J3, c3, e3, g3⟩
  rotate_left
  · have h12 : C (d + 4) 12 [.ref 1, .ref 3, .int (nI 40)] sl (CH I2 A N V lt2 tw2 sp sr X) = some ([.int (x_b false)], sl, CH I3 A N V lt2 tw2 sp sr X) := by
      rw [e12, k12_r1_r3_0, k12_r1_r3_1_c40, k12_r1_r3_52]
      simp (disch := omega) only [rt_c, b_some, List.cons_append, List.nil_append, Bool.cond_not, cond_true, cond_false, Bool.cond_decide, nI_add, nI_clamp, xin_n, dle_e, dlt_e, deq_e, xb_0, xb_1, decide_true, decide_false, Bool.not_true, Bool.not_false, Bool.and_true, Bool.true_and, Bool.and_false, Bool.false_and, Bool.true_or, Bool.false_or, Bool.or_true, Bool.or_false, if_true, if_false, up1_s, n_31, Int32.lt_irrefl, c3, k12_r1_r3_59, t12_44, t12_44_0, t12_44_1, t12_51, t12_51_0, t12_51_1, t12_59, t12_59_0, t12_59_1, t12_61, t12_61_0, t12_61_1]
    refine Or.inr ⟨I3, A, lt2, tw2, J3, w2, up1 B 16 (upd (upd (upd (upd (upd (B 16) (4 * k) (nI 4)) (4 * k + 1) (nI 0)) (4 * k + 2) (nI 0)) (4 * k + 3) (nI 0)) (4 * k + 1) (nI u2)), ?_, ?_, g3.2.1, Fb_c (Cb_t (Cb_t (Gd_Cb a3) (Gd_Cb g2)) (Bd_Cb g3)) (fun q hq => up1_n hq)⟩
    · rw [e10, k10_r101_r1_r3_0, nm1]
      simp (disch := omega) only [rt_c, b_some, List.cons_append, List.nil_append, Bool.cond_not, cond_true, cond_false, Bool.cond_decide, nI_add, nI_clamp, xin_n, dle_e, dlt_e, deq_e, xb_0, xb_1, decide_true, decide_false, Bool.not_true, Bool.not_false, Bool.and_true, Bool.true_and, Bool.and_false, Bool.false_and, Bool.true_or, Bool.false_or, Bool.or_true, Bool.or_false, if_true, if_false, up1_s, n_31, Int32.lt_irrefl, k10_r101_r1_r3_4_1, xb_f, ac, k10_r101_r1_r3_19, am, Nat.reduceEqDiff, i4, hk, a1, k10_r101_r1_r3_87, c2, k10_r101_r1_r3_110, x2, xb_t, Nat.one_ne_zero, h12, k10_r101_r1_r3_129, t10_30, t10_30_0, t10_30_1, t10_54, t10_54_0, t10_54_1, t10_69, t10_69_0, t10_69_1, t10_82, t10_82_0, t10_82_1, t10_133, t10_133_0, t10_133_1, t10_147, t10_147_0, t10_147_1]
    · rw [e263, m263_0, wh]
      simp (disch := omega) only [rt_c, b_some, List.cons_append, List.nil_append, Bool.cond_not, cond_true, cond_false, Bool.cond_decide, nI_add, nI_clamp, xin_n, dle_e, dlt_e, deq_e, xb_0, xb_1, decide_true, decide_false, Bool.not_true, Bool.not_false, Bool.and_true, Bool.true_and, Bool.and_false, Bool.false_and, Bool.true_or, Bool.false_or, Bool.or_true, Bool.or_false, if_true, if_false, up1_s, n_31, Int32.lt_irrefl, m263_4, Nat.reduceEqDiff, Nat.zero_ne_one, j37, h6, hmul, a2, m263_135, m263_136_c4, m263_306, e2, xb_t, Nat.one_ne_zero, m263_314, c258_1, m263_317, y2, up1_up, e3, xb_f, m263_328, c258_0, m263_331, t263_22, t263_22_0, t263_22_1, t263_49, t263_49_0, t263_49_1, t263_64, t263_64_0, t263_64_1, t263_216, t263_216_0, t263_216_1, t263_237, t263_237_0, t263_237_1, t263_278, t263_278_0, t263_278_1, t263_305, t263_305_0, t263_305_1, t263_346, t263_346_0, t263_346_1, t263_376, t263_376_0, t263_376_1]
  have h12 : C (d + 4) 12 [.ref 1, .ref 3, .int (nI 40)] sl (CH I2 A N V lt2 tw2 sp sr X) = some ([.int (x_b true)], sl, CH I3 A N V lt3 tw3 sp sr X) := by
    rw [e12, k12_r1_r3_0, k12_r1_r3_1_c40, k12_r1_r3_52]
    simp (disch := omega) only [rt_c, b_some, List.cons_append, List.nil_append, Bool.cond_not, cond_true, cond_false, Bool.cond_decide, nI_add, nI_clamp, xin_n, dle_e, dlt_e, deq_e, xb_0, xb_1, decide_true, decide_false, Bool.not_true, Bool.not_false, Bool.and_true, Bool.true_and, Bool.and_false, Bool.false_and, Bool.true_or, Bool.false_or, Bool.or_true, Bool.or_false, if_true, if_false, up1_s, n_31, Int32.lt_irrefl, c3, k12_r1_r3_59, t12_44, t12_44_0, t12_44_1, t12_51, t12_51_0, t12_51_1, t12_59, t12_59_0, t12_59_1, t12_61, t12_61_0, t12_61_1]
  obtain ⟨⟨κ3, v3, s3, t3⟩, -, -⟩ := g3.2
  have i4' : I3 101 4 = nI k := by rw [g3.1 101 (by decide), g2.1 101 (by decide), a3.1 101 (by decide)]; exact i4
  have h14 := q14 (d + 4) sl I3 A N V lt3 sp sr X tw3 (nI 40) (nI u2) (nI u3) (nI 0) hk i4'
  refine Or.inl ⟨up1 I3 101 (up1 (I3 101) 4 (nI (k + 1))), up1 (up1 (up1 (up1 A 102 (upd (A 102) k (nI 40))) 103 (upd (A 103) k (nI u2))) 104 (upd (A 104) k (nI u3))) 105 (upd (A 105) k (nI 0)), lt3, tw3, J3, w3, up1 B 16 (upd (upd (upd (upd (upd (upd (B 16) (4 * k) (nI 4)) (4 * k + 1) (nI 0)) (4 * k + 2) (nI 0)) (4 * k + 3) (nI 0)) (4 * k + 1) (nI u2)) (4 * k + 2) (nI u3)), ?_, ?_, ⟨κ3, v3, s3, ?_⟩, ⟨by omega, fun i hi => ?_⟩, ?_, ?_, ?_, ?_, fun q r1 r2 => ?_, fun q r1 => ?_, fun q r1 => ?_, fun q r1 => ?_, fun q r1 => up1_n r1⟩
  · rw [e10, k10_r101_r1_r3_0, nm1]
    simp (disch := omega) only [rt_c, b_some, List.cons_append, List.nil_append, Bool.cond_not, cond_true, cond_false, Bool.cond_decide, nI_add, nI_clamp, xin_n, dle_e, dlt_e, deq_e, xb_0, xb_1, decide_true, decide_false, Bool.not_true, Bool.not_false, Bool.and_true, Bool.true_and, Bool.and_false, Bool.false_and, Bool.true_or, Bool.false_or, Bool.or_true, Bool.or_false, if_true, if_false, up1_s, n_31, Int32.lt_irrefl, k10_r101_r1_r3_4_1, xb_f, ac, k10_r101_r1_r3_19, am, Nat.reduceEqDiff, i4, hk, a1, k10_r101_r1_r3_87, c2, k10_r101_r1_r3_110, x2, xb_t, Nat.one_ne_zero, h12, k10_r101_r1_r3_129, x3, h14, k10_r101_r1_r3_146, t10_30, t10_30_0, t10_30_1, t10_54, t10_54_0, t10_54_1, t10_69, t10_69_0, t10_69_1, t10_82, t10_82_0, t10_82_1, t10_133, t10_133_0, t10_133_1, t10_147, t10_147_0, t10_147_1]
  · intro bo J9 w9 B9 h182
    rw [e263, m263_0, wh]
    cases bo with
    | true =>
      simp (disch := omega) only [rt_c, b_some, List.cons_append, List.nil_append, Bool.cond_not, cond_true, cond_false, Bool.cond_decide, nI_add, nI_clamp, xin_n, dle_e, dlt_e, deq_e, xb_0, xb_1, decide_true, decide_false, Bool.not_true, Bool.not_false, Bool.and_true, Bool.true_and, Bool.and_false, Bool.false_and, Bool.true_or, Bool.false_or, Bool.or_true, Bool.or_false, if_true, if_false, up1_s, n_31, Int32.lt_irrefl, m263_4, Nat.reduceEqDiff, Nat.zero_ne_one, j37, h6, hmul, a2, m263_135, m263_136_c4, m263_306, e2, xb_t, Nat.one_ne_zero, m263_314, c258_1, m263_317, y2, up1_up, e3, m263_328, m263_331, y3, h182, m263_338, t263_22, t263_22_0, t263_22_1, t263_49, t263_49_0, t263_49_1, t263_64, t263_64_0, t263_64_1, t263_216, t263_216_0, t263_216_1, t263_237, t263_237_0, t263_237_1, t263_278, t263_278_0, t263_278_1, t263_305, t263_305_0, t263_305_1, t263_346, t263_346_0, t263_346_1, t263_376, t263_376_0, t263_376_1]
    | false =>
      simp (disch := omega) only [rt_c, b_some, List.cons_append, List.nil_append, Bool.cond_not, cond_true, cond_false, Bool.cond_decide, nI_add, nI_clamp, xin_n, dle_e, dlt_e, deq_e, xb_0, xb_1, decide_true, decide_false, Bool.not_true, Bool.not_false, Bool.and_true, Bool.true_and, Bool.and_false, Bool.false_and, Bool.true_or, Bool.false_or, Bool.or_true, Bool.or_false, if_true, if_false, up1_s, n_31, Int32.lt_irrefl, m263_4, Nat.reduceEqDiff, Nat.zero_ne_one, j37, h6, hmul, a2, m263_135, m263_136_c4, m263_306, e2, xb_t, Nat.one_ne_zero, m263_314, c258_1, m263_317, y2, up1_up, e3, m263_328, m263_331, y3, h182, xb_f, m263_338, t263_22, t263_22_0, t263_22_1, t263_49, t263_49_0, t263_49_1, t263_64, t263_64_0, t263_64_1, t263_216, t263_216_0, t263_216_1, t263_237, t263_237_0, t263_237_1, t263_278, t263_278_0, t263_278_1, t263_305, t263_305_0, t263_305_1, t263_346, t263_346_0, t263_346_1, t263_376, t263_376_0, t263_376_1]
  · rw [up1_n (by decide)]; exact Tk_le t3 (by omega)
  · simp (disch := omega) only [up1_s, up1_n]
    by_cases hik : i = k
    · subst hik
      refine ⟨4, u2, ?_, ?_, ?_, ?_, Or.inr (Or.inr (Or.inr (Or.inr (Or.inl ⟨rfl, q2, u3, q3, ?_, ?_⟩))))⟩ <;> simp (disch := omega) only [up1, upd, Nat.add_left_cancel_iff, if_neg, if_pos, if_true, if_false]
    · have hik2 : i < k := by omega
      have := hR i hik2
      unfold Ln at this ⊢
      simp (disch := omega) only [up1, upd, Nat.add_left_cancel_iff, if_neg, if_pos, if_true, if_false]
      exact this
  · rw [up1_s, up1_s]
  · rw [g3.2.2.2 37 (by decide), g2.2.2.2 37 (by decide), a5 37 (by decide)]; exact j37
  · rw [up1_n (by decide), g3.2.2.1, g2.2.2.1, a3.2.2.1]
  · rw [g3.2.2.2 10 (by decide), g2.2.2.2 10 (by decide), a3.2.2.2 10 (by decide)]
  · rw [up1_n r2]; exact (Cb_t (Cb_t (Gd_Cb a3) (Gd_Cb g2)) (Gd_Cb g3)).1 q r1
  · rw [up1_s, up1_n r1, (Cb_t (Cb_t (Gd_Cb a3) (Gd_Cb g2)) (Gd_Cb g3)).1 101 (by decide)]
  · rw [up1_n (by omega), up1_n (by omega), up1_n (by omega), up1_n (by omega)]
  · exact (Cb_t (Cb_t (Gd_Cb a3) (Gd_Cb g2)) (Gd_Cb g3)).2 q r1
theorem rb_5 (hH6 : H ≤ 6) (hI3 : I 3 8 = nI H) (hb0 : B 2 0 = nI H) (hN : Nm (N 4) (M 7) H) (hB : Bt t b A B) (hL : L ≤ 940) (hX : Nat.ble X.length 1 = true) (h : Tk t L n 2 8 s (I 1) lt (some (1000000 + 8)) J w) (hR : RB A B H k) (i4 : I 101 4 = nI k) (j37 : J 37 = nI k) : Ob d d' sl sl' t L n k V sp sr X I A N lt (some (1000000 + 8)) J w B M H := by
  obtain ⟨hk40, hR⟩ := hR
  have hmul := nI_mul4 hk40
  have nm1 := q95 (d + 4) sl I A N V lt (some (1000000 + 8)) sp sr X h
  rw [decide_eq_false (p := 2 = 3) (by decide)] at nm1
  have ac : C (d + 4) 11 [.ref (1000000 + 8)] sl (CH I A N V lt (some (1000000 + 8)) sp sr X) = some ([.int (nI 50)], sl, CH I A N V lt (some (1000000 + 8)) sp sr X) := q11 (d + 4) sl I A N V lt (some (1000000 + 8)) sp sr X (v := 8) (by decide)
  have wh : C (d' + 4) 262 [.ref 0] sl' (RH J w B M) = some ([.int (nI 5)], sl', RH J w B M) := c262 (d' + 1) sl' J w B M h
  have am : ¬ nI 50 = (-1 : Int32) := nI_m1 (by decide)
  by_cases hk : k < 40
  rotate_left
  · have h6 : k = 40 := by omega
    obtain ⟨I1, J1, c1, e1, g1⟩ := gd_no (d + 4) (d' + 4) sl sl' I A N V lt (some (1000000 + 8)) sp sr X J w B M (c := 4) (by decide) hB.1 h (Or.inl (by decide))
    refine Or.inr ⟨I1, A, lt, some (1000000 + 8), J1, w, B, ?_, ?_, g1.2.1, Fb_c (Bd_Cb g1) (fun _ _ => rfl)⟩
    · rw [e10, k10_r101_r1_r3_0, nm1]
      simp (disch := omega) only [rt_c, b_some, List.cons_append, List.nil_append, Bool.cond_not, cond_true, cond_false, Bool.cond_decide, nI_add, nI_clamp, xin_n, dle_e, dlt_e, deq_e, xb_0, xb_1, decide_true, decide_false, Bool.not_true, Bool.not_false, Bool.and_true, Bool.true_and, Bool.and_false, Bool.false_and, Bool.true_or, Bool.false_or, Bool.or_true, Bool.or_false, if_true, if_false, up1_s, n_31, Int32.lt_irrefl, k10_r101_r1_r3_4_1, xb_f, ac, k10_r101_r1_r3_19, am, Nat.reduceEqDiff, i4, h6, Nat.lt_irrefl, c1, k10_r101_r1_r3_69, t10_30, t10_30_0, t10_30_1, t10_54, t10_54_0, t10_54_1, t10_69, t10_69_0, t10_69_1, t10_82, t10_82_0, t10_82_1, t10_133, t10_133_0, t10_133_1, t10_147, t10_147_0, t10_147_1]
    · rw [e263, m263_0, wh]
      simp (disch := omega) only [rt_c, b_some, List.cons_append, List.nil_append, Bool.cond_not, cond_true, cond_false, Bool.cond_decide, nI_add, nI_clamp, xin_n, dle_e, dlt_e, deq_e, xb_0, xb_1, decide_true, decide_false, Bool.not_true, Bool.not_false, Bool.and_true, Bool.true_and, Bool.and_false, Bool.false_and, Bool.true_or, Bool.false_or, Bool.or_true, Bool.or_false, if_true, if_false, up1_s, n_31, Int32.lt_irrefl, m263_4, Nat.reduceEqDiff, Nat.zero_ne_one, j37, h6, e1, m263_64, t263_22, t263_22_0, t263_22_1, t263_49, t263_49_0, t263_49_1, t263_64, t263_64_0, t263_64_1, t263_216, t263_216_0, t263_216_1, t263_237, t263_237_0, t263_237_1, t263_278, t263_278_0, t263_278_1, t263_305, t263_305_0, t263_305_1, t263_346, t263_346_0, t263_346_1, t263_376, t263_376_0, t263_376_1]
  have h6 : ¬ k = 40 := by omega
  have hB1 : Bt t b A (up1 B 16 (upd (upd (upd (upd (B 16) (4 * k) (nI 5)) (4 * k + 1) (nI 0)) (4 * k + 2) (nI 0)) (4 * k + 3) (nI 0))) := Bt_c hB rfl (up1_n (by decide))
  obtain ⟨I1, lt1, tw1, J1, w1, a1, a2, a3, a4, a5⟩ := gd_adv (d + 3) (d' + 3) sl sl' I A N V lt (some (1000000 + 8)) sp sr X J w (up1 B 16 (upd (upd (upd (upd (B 16) (4 * k) (nI 5)) (4 * k + 1) (nI 0)) (4 * k + 2) (nI 0)) (4 * k + 3) (nI 0))) M hB1 hL hX h (by decide)
  obtain ⟨⟨κ1, v1, s1, t1⟩, -, -⟩ := a3.2
  have j1 : J1 37 = nI k := by rw [a5 37 (by decide)]; exact j37
  have hx5 : (decide ((nI 5).toInt < (0 : Int)) || decide ((4 : Int) < (nI 5).toInt)) = true := by decide
  rcases gd_num (d + 2) (d' + 2) sl sl' I1 A N V lt1 tw1 sp sr X J1 w1 (up1 B 16 (upd (upd (upd (upd (B 16) (4 * k) (nI 5)) (4 * k + 1) (nI 0)) (4 * k + 2) (nI 0)) (4 * k + 3) (nI 0))) M (a := 1) (z := 60) (by decide) (by decide) hB1 hL hX t1 with ⟨u2, I2, lt2, tw2, J2, w2, p2, q2, c2, e2, g2, x2, y2⟩ | ⟨I2, J2, c2, e2, g2⟩
  rotate_left
  · refine Or.inr ⟨I2, A, lt1, tw1, J2, w1, up1 B 16 (upd (upd (upd (upd (B 16) (4 * k) (nI 5)) (4 * k + 1) (nI 0)) (4 * k + 2) (nI 0)) (4 * k + 3) (nI 0)), ?_, ?_, g2.2.1, Fb_c (Cb_t (Gd_Cb a3) (Bd_Cb g2)) (fun q hq => up1_n hq)⟩
    · rw [e10, k10_r101_r1_r3_0, nm1]
      simp (disch := omega) only [rt_c, b_some, List.cons_append, List.nil_append, Bool.cond_not, cond_true, cond_false, Bool.cond_decide, nI_add, nI_clamp, xin_n, dle_e, dlt_e, deq_e, xb_0, xb_1, decide_true, decide_false, Bool.not_true, Bool.not_false, Bool.and_true, Bool.true_and, Bool.and_false, Bool.false_and, Bool.true_or, Bool.false_or, Bool.or_true, Bool.or_false, if_true, if_false, up1_s, n_31, Int32.lt_irrefl, k10_r101_r1_r3_4_1, xb_f, ac, k10_r101_r1_r3_19, am, Nat.reduceEqDiff, i4, hk, a1, k10_r101_r1_r3_87, c2, k10_r101_r1_r3_100, k10_r101_r1_r3_110, t10_30, t10_30_0, t10_30_1, t10_54, t10_54_0, t10_54_1, t10_69, t10_69_0, t10_69_1, t10_82, t10_82_0, t10_82_1, t10_133, t10_133_0, t10_133_1, t10_147, t10_147_0, t10_147_1]
    · rw [e263, m263_0, wh]
      simp (disch := omega) only [rt_c, b_some, List.cons_append, List.nil_append, Bool.cond_not, cond_true, cond_false, Bool.cond_decide, nI_add, nI_clamp, xin_n, dle_e, dlt_e, deq_e, xb_0, xb_1, decide_true, decide_false, Bool.not_true, Bool.not_false, Bool.and_true, Bool.true_and, Bool.and_false, Bool.false_and, Bool.true_or, Bool.false_or, Bool.or_true, Bool.or_false, if_true, if_false, up1_s, n_31, Int32.lt_irrefl, m263_4, Nat.reduceEqDiff, Nat.zero_ne_one, j37, h6, hmul, a2, m263_135, m263_136_out _ _ _ _ _ _ _ _ _ hx5, m263_347, e2, xb_f, m263_358, c258_0, m263_361, t263_22, t263_22_0, t263_22_1, t263_49, t263_49_0, t263_49_1, t263_64, t263_64_0, t263_64_1, t263_216, t263_216_0, t263_216_1, t263_237, t263_237_0, t263_237_1, t263_278, t263_278_0, t263_278_1, t263_305, t263_305_0, t263_305_1, t263_346, t263_346_0, t263_346_1, t263_376, t263_376_0, t263_376_1]
  obtain ⟨⟨κ2, v2, s2, t2⟩, -, -⟩ := g2.2
  have hB2 : Bt t b A (up1 B 16 (upd (upd (upd (upd (upd (B 16) (4 * k) (nI 5)) (4 * k + 1) (nI 0)) (4 * k + 2) (nI 0)) (4 * k + 3) (nI 0)) (4 * k + 1) (nI u2))) := Bt_c hB rfl (up1_n (by decide))
  have h12 : C (d + 4) 12 [.ref 1, .ref 3, .int (nI 50)] sl (CH I2 A N V lt2 tw2 sp sr X) = some ([.int (x_b true)], sl, CH I2 A N V lt2 tw2 sp sr X) := by
    rw [e12, k12_r1_r3_0, k12_r1_r3_1_out _ _ _ _ _ _ _ _ _ _ _ _ _ (by decide), k12_r1_r3_60]
    simp (disch := omega) only [rt_c, b_some, List.cons_append, List.nil_append, Bool.cond_not, cond_true, cond_false, Bool.cond_decide, nI_add, nI_clamp, xin_n, dle_e, dlt_e, deq_e, xb_0, xb_1, decide_true, decide_false, Bool.not_true, Bool.not_false, Bool.and_true, Bool.true_and, Bool.and_false, Bool.false_and, Bool.true_or, Bool.false_or, Bool.or_true, Bool.or_false, if_true, if_false, up1_s, n_31, Int32.lt_irrefl, t12_44, t12_44_0, t12_44_1, t12_51, t12_51_0, t12_51_1, t12_59, t12_59_0, t12_59_1, t12_61, t12_61_0, t12_61_1]
  have i4' : I2 101 4 = nI k := by rw [g2.1 101 (by decide), a3.1 101 (by decide)]; exact i4
  have h14 := q14 (d + 4) sl I2 A N V lt2 sp sr X tw2 (nI 50) (nI u2) (nI u2) (nI 0) hk i4'
  refine Or.inl ⟨up1 I2 101 (up1 (I2 101) 4 (nI (k + 1))), up1 (up1 (up1 (up1 A 102 (upd (A 102) k (nI 50))) 103 (upd (A 103) k (nI u2))) 104 (upd (A 104) k (nI u2))) 105 (upd (A 105) k (nI 0)), lt2, tw2, J2, w2, up1 B 16 (upd (upd (upd (upd (upd (B 16) (4 * k) (nI 5)) (4 * k + 1) (nI 0)) (4 * k + 2) (nI 0)) (4 * k + 3) (nI 0)) (4 * k + 1) (nI u2)), ?_, ?_, ⟨κ2, v2, s2, ?_⟩, ⟨by omega, fun i hi => ?_⟩, ?_, ?_, ?_, ?_, fun q r1 r2 => ?_, fun q r1 => ?_, fun q r1 => ?_, fun q r1 => ?_, fun q r1 => up1_n r1⟩
  · rw [e10, k10_r101_r1_r3_0, nm1]
    simp (disch := omega) only [rt_c, b_some, List.cons_append, List.nil_append, Bool.cond_not, cond_true, cond_false, Bool.cond_decide, nI_add, nI_clamp, xin_n, dle_e, dlt_e, deq_e, xb_0, xb_1, decide_true, decide_false, Bool.not_true, Bool.not_false, Bool.and_true, Bool.true_and, Bool.and_false, Bool.false_and, Bool.true_or, Bool.false_or, Bool.or_true, Bool.or_false, if_true, if_false, up1_s, n_31, Int32.lt_irrefl, k10_r101_r1_r3_4_1, xb_f, ac, k10_r101_r1_r3_19, am, Nat.reduceEqDiff, i4, hk, a1, k10_r101_r1_r3_87, c2, k10_r101_r1_r3_100, k10_r101_r1_r3_110, x2, xb_t, Nat.one_ne_zero, h12, k10_r101_r1_r3_129, x2, h14, k10_r101_r1_r3_146, t10_30, t10_30_0, t10_30_1, t10_54, t10_54_0, t10_54_1, t10_69, t10_69_0, t10_69_1, t10_82, t10_82_0, t10_82_1, t10_133, t10_133_0, t10_133_1, t10_147, t10_147_0, t10_147_1]
  · intro bo J9 w9 B9 h182
    rw [e263, m263_0, wh]
    cases bo with
    | true =>
      simp (disch := omega) only [rt_c, b_some, List.cons_append, List.nil_append, Bool.cond_not, cond_true, cond_false, Bool.cond_decide, nI_add, nI_clamp, xin_n, dle_e, dlt_e, deq_e, xb_0, xb_1, decide_true, decide_false, Bool.not_true, Bool.not_false, Bool.and_true, Bool.true_and, Bool.and_false, Bool.false_and, Bool.true_or, Bool.false_or, Bool.or_true, Bool.or_false, if_true, if_false, up1_s, n_31, Int32.lt_irrefl, m263_4, Nat.reduceEqDiff, Nat.zero_ne_one, j37, h6, hmul, a2, m263_135, m263_136_out _ _ _ _ _ _ _ _ _ hx5, m263_347, e2, xb_t, Nat.one_ne_zero, m263_358, c258_1, m263_361, y2, up1_up, h182, m263_368, t263_22, t263_22_0, t263_22_1, t263_49, t263_49_0, t263_49_1, t263_64, t263_64_0, t263_64_1, t263_216, t263_216_0, t263_216_1, t263_237, t263_237_0, t263_237_1, t263_278, t263_278_0, t263_278_1, t263_305, t263_305_0, t263_305_1, t263_346, t263_346_0, t263_346_1, t263_376, t263_376_0, t263_376_1]
    | false =>
      simp (disch := omega) only [rt_c, b_some, List.cons_append, List.nil_append, Bool.cond_not, cond_true, cond_false, Bool.cond_decide, nI_add, nI_clamp, xin_n, dle_e, dlt_e, deq_e, xb_0, xb_1, decide_true, decide_false, Bool.not_true, Bool.not_false, Bool.and_true, Bool.true_and, Bool.and_false, Bool.false_and, Bool.true_or, Bool.false_or, Bool.or_true, Bool.or_false, if_true, if_false, up1_s, n_31, Int32.lt_irrefl, m263_4, Nat.reduceEqDiff, Nat.zero_ne_one, j37, h6, hmul, a2, m263_135, m263_136_out _ _ _ _ _ _ _ _ _ hx5, m263_347, e2, xb_t, Nat.one_ne_zero, m263_358, c258_1, m263_361, y2, up1_up, h182, xb_f, m263_368, t263_22, t263_22_0, t263_22_1, t263_49, t263_49_0, t263_49_1, t263_64, t263_64_0, t263_64_1, t263_216, t263_216_0, t263_216_1, t263_237, t263_237_0, t263_237_1, t263_278, t263_278_0, t263_278_1, t263_305, t263_305_0, t263_305_1, t263_346, t263_346_0, t263_346_1, t263_376, t263_376_0, t263_376_1]
  · rw [up1_n (by decide)]; exact Tk_le t2 (by omega)
  · simp (disch := omega) only [up1_s, up1_n]
    by_cases hik : i = k
    · subst hik
      refine ⟨5, u2, ?_, ?_, ?_, ?_, Or.inr (Or.inr (Or.inr (Or.inr (Or.inr ⟨rfl, p2, q2⟩))))⟩ <;> simp (disch := omega) only [up1, upd, Nat.add_left_cancel_iff, if_neg, if_pos, if_true, if_false]
    · have hik2 : i < k := by omega
      have := hR i hik2
      unfold Ln at this ⊢
      simp (disch := omega) only [up1, upd, Nat.add_left_cancel_iff, if_neg, if_pos, if_true, if_false]
      exact this
  · rw [up1_s, up1_s]
  · rw [g2.2.2.2 37 (by decide), a5 37 (by decide)]; exact j37
  · rw [up1_n (by decide), g2.2.2.1, a3.2.2.1]
  · rw [g2.2.2.2 10 (by decide), a3.2.2.2 10 (by decide)]
  · rw [up1_n r2]; exact (Cb_t (Gd_Cb a3) (Gd_Cb g2)).1 q r1
  · rw [up1_s, up1_n r1, (Cb_t (Gd_Cb a3) (Gd_Cb g2)).1 101 (by decide)]
  · rw [up1_n (by omega), up1_n (by omega), up1_n (by omega), up1_n (by omega)]
  · exact (Cb_t (Gd_Cb a3) (Gd_Cb g2)).2 q r1
end BKL
