/-! BOOK: judged; what was lived stays or goes -/
section BKQ
variable (d d' sl sl' : Nat) (N : Nat → Nat → Int64) (V : Nat → Nat → Option Nat) (lt : Int64) (tw : Option Nat) (sp sr : Nat) (X : List AC) (J : Nat → Int32) (w : Int64) (M : Nat → Nat → Int64) {H l : Nat}
theorem jd_end {m ii : Nat} (wv : Int32) (I A B : Nat → Nat → Int32) (hS : Sh I A 12 (B 2) H m) (h6 : I 101 6 = wv) (hii : ii ≤ 41) (h4 : I 101 4 = nI l) (hl : l ≤ 40) (hst : ¬ wv = nI 0 ∨ l ≤ ii) : rt 15 (R (d + 6) 15 (17, [some (.ref 101), some (.ref 12), some (.int (nI ii))], [], sl, CH I A N V lt tw sp sr X)) = some ([], sl, CH (up1 I 101 (up1 (up1 (I 101) 8 (B 2 70)) 9 (x_it (fun k s => s + B 2 (103 + k)) 0 m (nI 0)))) A N V lt tw sp sr X) := by
  have h12 : I 12 12 = B 2 70 := hS.2.1.2.2.1
  have hS2 : Sh (up1 I 101 (up1 (I 101) 8 (B 2 70))) A 12 (B 2) H m := Sh_c hS (fun _ _ => rfl) (up1_n (by decide)) (fun _ _ _ => rfl)
  have h66 := q66_12 (d + 5) sl (up1 I 101 (up1 (I 101) 8 (B 2 70))) A N V lt tw sp sr X hS2
  rw [k15_r101_r12_17, h6, h4, h12]
  by_cases hi : l ≤ ii
  · simp (disch := omega) only [rt_c, b_some, List.cons_append, List.nil_append, Bool.cond_not, cond_true, cond_false, Bool.cond_decide, nI_add, nI_clamp, xin_n, dle_e, dlt_e, deq_e, xb_0, xb_1, decide_true, decide_false, Bool.not_true, Bool.not_false, Bool.and_true, Bool.true_and, Bool.and_false, Bool.false_and, Bool.true_or, Bool.false_or, Bool.or_true, Bool.or_false, if_true, if_false, up1_s, n_31, Int32.lt_irrefl, hi, h66, k15_r101_r12_78, up1_up, t15_81]
  · have hw : ¬ wv = nI 0 := hst.resolve_right hi
    simp (disch := omega) only [rt_c, b_some, List.cons_append, List.nil_append, Bool.cond_not, cond_true, cond_false, Bool.cond_decide, nI_add, nI_clamp, xin_n, dle_e, dlt_e, deq_e, xb_0, xb_1, decide_true, decide_false, Bool.not_true, Bool.not_false, Bool.and_true, Bool.true_and, Bool.and_false, Bool.false_and, Bool.true_or, Bool.false_or, Bool.or_true, Bool.or_false, if_true, if_false, up1_s, n_31, Int32.lt_irrefl, hi, hw, h66, k15_r101_r12_78, up1_up, t15_81]
theorem jd_loop (a : Int32) (hl : l ≤ 40) (j37 : J 37 = nI l) : ∀ (q k m : Nat) (I A B : Nat → Nat → Int32), k + q = l → I 101 4 = nI l → I 101 6 = nI 0 → I 101 7 = nI k → Sh I A 12 (B 2) H m → Vd (B 2) H m → Yr (B 2) → RB A B H l →
    ∃ wv kk I' A' n' m', rt 15 (R (d + 6) 15 (17, [some (.ref 101), some (.ref 12), some (.int (nI k))], [], sl, CH I A N V lt tw sp sr X)) = some ([], sl, CH I' A' N V lt tw sp sr X) ∧ rt 265 (R (d' + 6) 265 (73, [some (.ref 0), some (.int a), some (.int (nI k)), some (.int (nI 0))], [], sl', RH J w B M)) = rt 265 (bC (C (d' + 5) 215 [.ref 0, .int (nI 103), .int (nI 12)] sl' (RH J w (up1 (up1 B 2 n') 17 (upd (upd (upd (B 17) 0 wv) 1 (nI kk)) 2 (n' 70))) M)) (fun vs sl h => R (d' + 6) 265 (143, [some (.ref 0), some (.int a), some (.int (nI kk)), some (.int wv)], vs ++ [.int (nI 3), .ref 17], sl, h))) ∧ kk ≤ l ∧ (I' 101 5 = I 101 5 ∧ I' 101 6 = wv ∧ I' 101 7 = nI kk ∧ I' 101 8 = n' 70 ∧ I' 101 9 = x_it (fun k s => s + n' (103 + k)) 0 m' (nI 0)) ∧ Sh I' A' 12 n' H m' ∧ Vd n' H m' ∧ Yr n' ∧ (∀ q, q ≠ 12 → q ≠ 101 → I' q = I q) ∧ (∀ q, q < 14 ∨ 20 < q → A' q = A q) ∧ (∀ k, (k < 70 ∨ 127 ≤ k) → n' k = B 2 k) := by
  intro q
  induction q with
  | zero =>
    intro k m I A B hk i4 i6 i7 hS hV hY hR
    have hkl : l ≤ k := by omega
    refine ⟨nI 0, k, _, A, B 2, m, jd_end d sl N V lt tw sp sr X (ii := k) (nI 0) I A B hS i6 (by omega) i4 hl (Or.inr hkl), ?_, by omega, ⟨?_, ?_, ?_, ?_, ?_⟩, Sh_c hS (fun _ _ => rfl) (up1_n (by decide)) (fun _ _ _ => rfl), hV, hY, fun q _ q2 => up1_n q2, fun _ _ => rfl, fun _ _ => rfl⟩
    · rw [m265_73, j37, up1_id]
      simp (disch := omega) only [rt_c, b_some, List.cons_append, List.nil_append, Bool.cond_not, cond_true, cond_false, Bool.cond_decide, nI_add, nI_clamp, xin_n, dle_e, dlt_e, deq_e, xb_0, xb_1, decide_true, decide_false, Bool.not_true, Bool.not_false, Bool.and_true, Bool.true_and, Bool.and_false, Bool.false_and, Bool.true_or, Bool.false_or, Bool.or_true, Bool.or_false, if_true, if_false, up1_s, n_31, Int32.lt_irrefl, hkl]
    · rw [up1_s, up1_n (by decide), up1_n (by decide)]
    · rw [up1_s, up1_n (by decide), up1_n (by decide)]; exact i6
    · rw [up1_s, up1_n (by decide), up1_n (by decide)]; exact i7
    · rw [up1_s, up1_n (by decide), up1_s]
    · rw [up1_s, up1_s]
  | succ q ih =>
    intro k m I A B hk i4 i6 i7 hS hV hY hR
    have hkl : ¬ l ≤ k := by omega
    have hmul := nI_mul4 (show k ≤ 40 by omega)
    obtain ⟨v, I1, A1, n1, m1, x1, x2, x3, x4, x5, x6, x7⟩ := lv_line d d' sl sl' I A N V lt tw sp sr X J w B M hS hV hY (show k < 40 by omega) (hR.2 k (by omega))
    have i101 : I1 101 = I 101 := x6.1 101 (by decide)
    by_cases hv : v = nI 0
    · subst hv
      have hS1 : Sh (up1 I1 101 (up1 (up1 (I 101) 6 (nI 0)) 7 (nI (k + 1)))) A1 12 ((up1 B 2 n1) 2) H m1 := by rw [up1_s]; exact Sh_c x3 (fun _ _ => rfl) (up1_n (by decide)) (fun _ _ _ => rfl)
      have hR1 : RB A1 (up1 B 2 n1) H l := by
        unfold RB at hR ⊢
        rw [x6.2 102 (by omega), x6.2 103 (by omega), x6.2 104 (by omega), x6.2 105 (by omega), up1_n (by decide)]
        exact hR
      obtain ⟨wv, kk, I', A', n', m', y1, y2, y3, ⟨y4, y5, y6, y7, y8⟩, y9, y10, y11, y12, y13, y14⟩ := ih (k + 1) m1 (up1 I1 101 (up1 (up1 (I 101) 6 (nI 0)) 7 (nI (k + 1)))) A1 (up1 B 2 n1) (by omega) (by rw [up1_s, up1_n (by decide), up1_n (by decide)]; exact i4) (by rw [up1_s, up1_n (by decide), up1_s]) (by rw [up1_s, up1_s]) hS1 (by rw [up1_s]; exact x4) (by rw [up1_s]; exact x5) hR1
      refine ⟨wv, kk, I', A', n', m', ?_, ?_, y3, ⟨by rw [y4, up1_s, up1_n (by decide), up1_n (by decide)], y5, y6, y7, y8⟩, y9, y10, y11, fun q q1 q2 => by rw [y12 q q1 q2, up1_n q2, x6.1 q q1], fun q hq => by rw [y13 q hq, x6.2 q (by omega)], fun k hk => by rw [y14 k hk, up1_s]; exact x7 k hk⟩
      · rw [← y1, k15_r101_r12_17, i4, i6]
        simp (disch := omega) only [rt_c, b_some, List.cons_append, List.nil_append, Bool.cond_not, cond_true, cond_false, Bool.cond_decide, nI_add, nI_clamp, xin_n, dle_e, dlt_e, deq_e, xb_0, xb_1, decide_true, decide_false, Bool.not_true, Bool.not_false, Bool.and_true, Bool.true_and, Bool.and_false, Bool.false_and, Bool.true_or, Bool.false_or, Bool.or_true, Bool.or_false, if_true, if_false, up1_s, n_31, Int32.lt_irrefl, hkl, x1, k15_r101_r12_39, i101, i7]
      · rw [up1_up, up1_n (show (17 : Nat) ≠ 2 by decide)] at y2
        rw [← y2, m265_73, j37]
        simp (disch := omega) only [rt_c, b_some, List.cons_append, List.nil_append, Bool.cond_not, cond_true, cond_false, Bool.cond_decide, nI_add, nI_clamp, xin_n, dle_e, dlt_e, deq_e, xb_0, xb_1, decide_true, decide_false, Bool.not_true, Bool.not_false, Bool.and_true, Bool.true_and, Bool.and_false, Bool.false_and, Bool.true_or, Bool.false_or, Bool.or_true, Bool.or_false, if_true, if_false, up1_s, n_31, Int32.lt_irrefl, hkl, hmul, x2, m265_92]
    · have hS1 : Sh (up1 I1 101 (up1 (I 101) 6 v)) A1 12 ((up1 B 2 n1) 2) H m1 := by rw [up1_s]; exact Sh_c x3 (fun _ _ => rfl) (up1_n (by decide)) (fun _ _ _ => rfl)
      have hend := jd_end d sl N V lt tw sp sr X v (up1 I1 101 (up1 (I 101) 6 v)) A1 (up1 B 2 n1) hS1 (ii := k + 1) (l := l) (by rw [up1_s, up1_s]) (by omega) (by rw [up1_s, up1_n (by decide)]; exact i4) hl (Or.inl hv)
      refine ⟨v, k, up1 (up1 I1 101 (up1 (I 101) 6 v)) 101 (up1 (up1 ((up1 I1 101 (up1 (I 101) 6 v)) 101) 8 ((up1 B 2 n1) 2 70)) 9 (x_it (fun k s => s + (up1 B 2 n1) 2 (103 + k)) 0 m1 (nI 0))), A1, n1, m1, ?_, ?_, by omega, ⟨?_, ?_, ?_, ?_, ?_⟩, ?_, x4, x5, fun q q1 q2 => ?_, fun q hq => x6.2 q (by omega), x7⟩
      · rw [k15_r101_r12_17, i4, i6]
        simp (disch := omega) only [rt_c, b_some, List.cons_append, List.nil_append, Bool.cond_not, cond_true, cond_false, Bool.cond_decide, nI_add, nI_clamp, xin_n, dle_e, dlt_e, deq_e, xb_0, xb_1, decide_true, decide_false, Bool.not_true, Bool.not_false, Bool.and_true, Bool.true_and, Bool.and_false, Bool.false_and, Bool.true_or, Bool.false_or, Bool.or_true, Bool.or_false, if_true, if_false, up1_s, n_31, Int32.lt_irrefl, hkl, x1, k15_r101_r12_39, i101, hv]
        exact hend
      · rw [m265_73, j37]
        simp (disch := omega) only [rt_c, b_some, List.cons_append, List.nil_append, Bool.cond_not, cond_true, cond_false, Bool.cond_decide, nI_add, nI_clamp, xin_n, dle_e, dlt_e, deq_e, xb_0, xb_1, decide_true, decide_false, Bool.not_true, Bool.not_false, Bool.and_true, Bool.true_and, Bool.and_false, Bool.false_and, Bool.true_or, Bool.false_or, Bool.or_true, Bool.or_false, if_true, if_false, up1_s, n_31, Int32.lt_irrefl, hkl, hmul, x2, m265_92, hv]
        rw [m265_73, j37]
        simp (disch := omega) only [rt_c, b_some, List.cons_append, List.nil_append, Bool.cond_not, cond_true, cond_false, Bool.cond_decide, nI_add, nI_clamp, xin_n, dle_e, dlt_e, deq_e, xb_0, xb_1, decide_true, decide_false, Bool.not_true, Bool.not_false, Bool.and_true, Bool.true_and, Bool.and_false, Bool.false_and, Bool.true_or, Bool.false_or, Bool.or_true, Bool.or_false, if_true, if_false, up1_s, n_31, Int32.lt_irrefl, hkl, hv, up1_n]
      · rw [up1_s, up1_n (by decide), up1_n (by decide), up1_s, up1_n (by decide)]
      · rw [up1_s, up1_n (by decide), up1_n (by decide), up1_s, up1_s]
      · rw [up1_s, up1_n (by decide), up1_n (by decide), up1_s, up1_n (by decide)]; exact i7
      · rw [up1_s, up1_n (by decide), up1_s, up1_s]
      · rw [up1_s, up1_s, up1_s]
      · exact Sh_c x3 (fun _ _ => rfl) (by rw [up1_n (by decide), up1_n (by decide)]) (fun _ _ _ => rfl)
      · rw [up1_n q2, up1_n q2, x6.1 q q1]
end BKQ
section BKR
variable (d sl : Nat) (I : Nat → Int32) (w : Int64) (A : Nat → Nat → Int32) (N : Nat → Nat → Int64)
theorem c266_loop (a : Int32) (f0 g0 : Nat → Int32) : ∀ (q i : Nat) (f g : Nat → Int32) (o : Option Value), (o = none ∨ ∃ v, o = some (.int v)) → i + q = 57 → (∀ k, k < i → f (70 + k) = g0 k ∧ g k = f0 (70 + k)) → (∀ k, (k < 70 ∨ 70 + i ≤ k) → f k = f0 k) → (∀ k, i ≤ k → g k = g0 k) → ∃ f' g' o', (o' = none ∨ ∃ v, o' = some (.int v)) ∧ rt 266 (R (d + 1) 266 (2, [some (.ref 0), some (.int a), some (.int (nI i)), o], [], sl, RH I w (up1 (up1 A 2 f) 6 g) N)) = rt 266 (R (d + 1) 266 (2, [some (.ref 0), some (.int a), some (.int (nI 57)), o'], [], sl, RH I w (up1 (up1 A 2 f') 6 g') N)) ∧ (∀ k, k < 57 → f' (70 + k) = g0 k ∧ g' k = f0 (70 + k)) ∧ (∀ k, (k < 70 ∨ 127 ≤ k) → f' k = f0 k) := by
  intro q
  induction q with
  | zero =>
    intro i f g o ho hi h1 h2 h3
    have hi2 : i = 57 := by omega
    subst hi2
    exact ⟨f, g, o, ho, rfl, h1, fun k hk => h2 k (by omega)⟩
  | succ q ih =>
    intro i f g o ho hi h1 h2 h3
    have hi2 : ¬ 57 ≤ i := by omega
    obtain ⟨f', g', o', x0, x1, x2, x3⟩ := ih (i + 1) (upd f (70 + i) (g i)) (upd g i (f (70 + i))) (some (.int (f (70 + i)))) (Or.inr ⟨_, rfl⟩) (by omega) (fun k hk => by
      by_cases hki : k = i
      · subst hki
        rw [upd_s, upd_s]
        exact ⟨h3 k (by omega), h2 _ (by omega)⟩
      · rw [upd_n (by omega), upd_n (by omega)]; exact h1 k (by omega)) (fun k hk => by rw [upd_n (by omega)]; exact h2 k (by omega)) (fun k hk => by rw [upd_n (by omega)]; exact h3 k (by omega))
    refine ⟨f', g', o', x0, ?_, x2, x3⟩
    have e9 : up1 (up1 (up1 (up1 A 2 f) 6 g) 2 (upd f (70 + i) (g i))) 6 (upd g i (f (70 + i))) = up1 (up1 A 2 (upd f (70 + i) (g i))) 6 (upd g i (f (70 + i))) := by
      funext q
      by_cases q6 : q = 6
      · subst q6; rw [up1_s, up1_s]
      · rw [up1_n q6, up1_n q6]
        by_cases q2 : q = 2
        · subst q2; rw [up1_s, up1_s]
        · rw [up1_n q2, up1_n q6, up1_n q2, up1_n q2]
    rw [← x1, ← e9]
    rcases ho with rfl | ⟨v, rfl⟩
    · rw [m266_2]
      simp (disch := omega) only [rt_c, b_some, List.cons_append, List.nil_append, Bool.cond_not, cond_true, cond_false, Bool.cond_decide, nI_add, nI_clamp, xin_n, dle_e, dlt_e, deq_e, xb_0, xb_1, decide_true, decide_false, Bool.not_true, Bool.not_false, Bool.and_true, Bool.true_and, Bool.and_false, Bool.false_and, Bool.true_or, Bool.false_or, Bool.or_true, Bool.or_false, if_true, if_false, up1_s, n_31, Int32.lt_irrefl, hi2, up1_n]
    · rw [m266_2_1]
      simp (disch := omega) only [rt_c, b_some, List.cons_append, List.nil_append, Bool.cond_not, cond_true, cond_false, Bool.cond_decide, nI_add, nI_clamp, xin_n, dle_e, dlt_e, deq_e, xb_0, xb_1, decide_true, decide_false, Bool.not_true, Bool.not_false, Bool.and_true, Bool.true_and, Bool.and_false, Bool.false_and, Bool.true_or, Bool.false_or, Bool.or_true, Bool.or_false, if_true, if_false, up1_s, n_31, Int32.lt_irrefl, hi2, up1_n]
end BKR
