/-! LINES, SIDE BY SIDE -/
def App (f : Nat → Int32) (t : Nat) (s : List Nat) (f' : Nat → Int32) : Prop := (∀ k, k < t → f' k = f k) ∧ ∀ i, i < s.length → f' (t + i) = nI (s.getD i 0)
theorem App_nil {f : Nat → Int32} {t : Nat} : App f t [] f := ⟨fun _ _ => rfl, fun i hi => by simp at hi⟩
theorem App_one {f : Nat → Int32} {t b : Nat} : App f t [b] (upd f t (nI b)) := by
  refine ⟨fun k hk => upd_n (by omega), fun i hi => ?_⟩
  have : i = 0 := by simp at hi; exact hi
  subst this
  rw [Nat.add_zero, upd_s]
  rfl
theorem App_tr {f f1 f2 : Nat → Int32} {t t' : Nat} {s s' : List Nat} (h : App f t s f1) (ht : t' = t + s.length) (h2 : App f1 t' s' f2) : App f t (s ++ s') f2 := by
  subst ht
  refine ⟨fun k hk => by rw [h2.1 k (by omega), h.1 k hk], fun i hi => ?_⟩
  by_cases his : i < s.length
  · rw [h2.1 (t + i) (by omega), h.2 i his]
    congr 1
    rw [List.getD_eq_getElem?_getD, List.getD_eq_getElem?_getD, List.getElem?_append_left his]
  · have := h2.2 (i - s.length) (by rw [List.length_append] at hi; omega)
    rw [show t + s.length + (i - s.length) = t + i by omega] at this
    rw [this]
    congr 1
    rw [List.getD_eq_getElem?_getD, List.getD_eq_getElem?_getD, List.getElem?_append_right (by omega)]
def strN : Nat → List Nat
  | 0 => [32, 111, 119, 101, 115, 32]
  | 1 => [32]
  | 2 => [32, 111, 102, 32]
  | _ => [32, 112, 97, 105, 100]
theorem str_len : ∀ k : Fin 4, (x_str k.val).length = (strN k.val).length ∧ (strN k.val).length ≤ 6 := by decide +kernel
theorem str_get : ∀ k : Fin 4, ∀ i : Fin 6, (x_str k.val).getD i.val 0 = nI ((strN k.val).getD i.val 0) ∧ (strN k.val).getD i.val 0 < 128 := by decide +kernel
theorem nar_lt {b : Nat} (hb : b < 128) : vp_nar .byte (nI b).toInt8.toInt32 = nI b := by
  have : ∀ b : Fin 128, vp_nar .byte (nI b.val).toInt8.toInt32 = nI b.val := by decide +kernel
  exact this ⟨b, hb⟩
def dgs : Nat → Nat → List Nat
  | 0, _ => []
  | k + 1, n => (if 9 < n then dgs k (n / 10) else []) ++ [48 + n % 10]
theorem dgs_4 {n : Nat} (hn : n ≤ 9999) : dgs 4 n = (if 1000 ≤ n then [48 + n / 1000 % 10] else []) ++ ((if 100 ≤ n then [48 + n / 100 % 10] else []) ++ ((if 10 ≤ n then [48 + n / 10 % 10] else []) ++ [48 + n % 10])) := by
  simp only [dgs]
  have e1 : n / 10 / 10 = n / 100 := by omega
  have e2 : n / 100 / 10 = n / 1000 := by omega
  by_cases h1 : 1000 ≤ n
  · have a1 : 9 < n := by omega
    have a2 : 9 < n / 10 := by omega
    have a3 : 9 < n / 100 := by omega
    have a4 : ¬ 9 < n / 1000 := by omega
    have a5 : 100 ≤ n := by omega
    have a6 : 10 ≤ n := by omega
    simp [e1, e2, h1, a1, a2, a3, a4, a5, a6]
  · by_cases h2 : 100 ≤ n
    · have a1 : 9 < n := by omega
      have a2 : 9 < n / 10 := by omega
      have a3 : ¬ 9 < n / 100 := by omega
      have a6 : 10 ≤ n := by omega
      simp [e1, h1, h2, a1, a2, a3, a6]
    · by_cases h3 : 10 ≤ n
      · have a1 : 9 < n := by omega
        have a2 : ¬ 9 < n / 10 := by omega
        simp [h1, h2, h3, a1, a2]
      · have a1 : ¬ 9 < n := by omega
        simp [h1, h2, h3, a1]
theorem dgs_len (k n : Nat) : (dgs k n).length ≤ k := by
  induction k generalizing n with
  | zero => simp [dgs]
  | succ k ih =>
    have := ih (n / 10)
    simp only [dgs]
    split <;> simp <;> omega
section CLL
variable (d sl : Nat) (I : Nat → Nat → Int32) (A : Nat → Nat → Int32) (N : Nat → Nat → Int64) (V : Nat → Nat → Option Nat) (lt : Int64) (tw : Option Nat) (sp sr : Nat) (X : List AC) {n : Nat → Int32} {H m : Nat}
theorem q22 {t b : Nat} (f : Nat → Int32) (ht : t < 32) (hb : b < 128) : C d 22 [.ref 106, .int (nI b)] sl (CH (up1 I 106 (up1 (I 106) 1 (nI t))) (up1 A 107 f) N V lt tw sp sr X) = some ([], sl, CH (up1 I 106 (up1 (I 106) 1 (nI (t + 1)))) (up1 A 107 (upd f t (nI b))) N V lt tw sp sr X) := by
  have h1 : ¬ 32 ≤ t := by omega
  rw [e22, k22_r106_0]
  simp (disch := omega) only [rt_c, b_some, List.cons_append, List.nil_append, Bool.cond_not, cond_true, cond_false, Bool.cond_decide, nI_add, nI_clamp, xin_n, dle_e, dlt_e, deq_e, xb_0, xb_1, decide_true, decide_false, Bool.not_true, Bool.not_false, Bool.and_true, Bool.true_and, Bool.and_false, Bool.false_and, Bool.true_or, Bool.false_or, Bool.or_true, Bool.or_false, if_true, if_false, up1_s, n_31, Int32.lt_irrefl, h1, nar_lt hb, up1_up, t22_30]
theorem q23_0 {t : Nat} (f : Nat → Int32) (ht : t + (strN 0).length ≤ 32) : ∃ f', C (d + 1) 23 [.ref 106, .ref 1000200] sl (CH (up1 I 106 (up1 (I 106) 1 (nI t))) (up1 A 107 f) N V lt tw sp sr X) = some ([], sl, CH (up1 I 106 (up1 (I 106) 1 (nI (t + (strN 0).length)))) (up1 A 107 f') N V lt tw sp sr X) ∧ App f t (strN 0) f' := by
  have hl := str_len ⟨0, by omega⟩
  have hg := str_get ⟨0, by omega⟩
  simp only at hl hg
  have e0 : (x_str (1000200 - 1000200)).length = (strN 0).length := hl.1
  have e1 : ∀ i, i < (strN 0).length → (x_str (1000200 - 1000200)).getD i 0 = nI ((strN 0).getD i 0) ∧ (strN 0).getD i 0 < 128 := fun i hi => hg ⟨i, by omega⟩
  have hl6 := hl.2
  generalize strN 0 = s at ht e0 e1 hl6
  have key : ∀ (q i : Nat) (g : Nat → Int32), i + q = s.length → (∀ k, k < t → g k = f k) → (∀ j, j < i → g (t + j) = nI (s.getD j 0)) → ∃ f', rt 23 (R (d + 1) 23 (2, [some (.ref 106), some (.ref 1000200), some (.int (nI i))], [], sl, CH (up1 I 106 (up1 (I 106) 1 (nI (t + i)))) (up1 A 107 g) N V lt tw sp sr X)) = some ([], sl, CH (up1 I 106 (up1 (I 106) 1 (nI (t + s.length)))) (up1 A 107 f') N V lt tw sp sr X) ∧ App f t s f' := by
    intro q
    induction q with
    | zero =>
      intro i g hi h1 h2
      have h3 : s.length ≤ i := by omega
      have h4 : i = s.length := by omega
      refine ⟨g, ?_, h1, fun j hj => h2 j (by omega)⟩
      rw [k23_r106_r1000200_2, e0]
      simp (disch := omega) only [rt_c, b_some, List.cons_append, List.nil_append, Bool.cond_not, cond_true, cond_false, Bool.cond_decide, nI_add, nI_clamp, xin_n, dle_e, dlt_e, deq_e, xb_0, xb_1, decide_true, decide_false, Bool.not_true, Bool.not_false, Bool.and_true, Bool.true_and, Bool.and_false, Bool.false_and, Bool.true_or, Bool.false_or, Bool.or_true, Bool.or_false, if_true, if_false, up1_s, n_31, Int32.lt_irrefl, h3, t23_25]
      rw [h4]
    | succ q ih =>
      intro i g hi h1 h2
      have h3 : ¬ s.length ≤ i := by omega
      have h4 := e1 i (by omega)
      have h22 := q22 d sl I A N V lt tw sp sr X g (show t + i < 32 by omega) h4.2
      obtain ⟨f', f1, f2⟩ := ih (i + 1) (upd g (t + i) (nI (s.getD i 0))) (by omega) (fun k hk => by rw [upd_n (by omega)]; exact h1 k hk) (fun j hj => by
        by_cases hji : j = i
        · rw [hji, upd_s]
        · rw [upd_n (by omega)]; exact h2 j (by omega))
      refine ⟨f', ?_, f2⟩
      rw [k23_r106_r1000200_2, e0]
      rw [show t + (i + 1) = t + i + 1 by omega] at f1
      simp (disch := omega) only [rt_c, b_some, List.cons_append, List.nil_append, Bool.cond_not, cond_true, cond_false, Bool.cond_decide, nI_add, nI_clamp, xin_n, dle_e, dlt_e, deq_e, xb_0, xb_1, decide_true, decide_false, Bool.not_true, Bool.not_false, Bool.and_true, Bool.true_and, Bool.and_false, Bool.false_and, Bool.true_or, Bool.false_or, Bool.or_true, Bool.or_false, if_true, if_false, up1_s, n_31, Int32.lt_irrefl, h3, h4.1, h22, k23_r106_r1000200_19, f1]
  obtain ⟨f', f1, f2⟩ := key s.length 0 f (by omega) (fun _ _ => rfl) (fun j hj => by omega)
  refine ⟨f', ?_, f2⟩
  rw [e23, k23_r106_r1000200_0]
  exact f1
theorem q23_1 {t : Nat} (f : Nat → Int32) (ht : t + (strN 1).length ≤ 32) : ∃ f', C (d + 1) 23 [.ref 106, .ref 1000201] sl (CH (up1 I 106 (up1 (I 106) 1 (nI t))) (up1 A 107 f) N V lt tw sp sr X) = some ([], sl, CH (up1 I 106 (up1 (I 106) 1 (nI (t + (strN 1).length)))) (up1 A 107 f') N V lt tw sp sr X) ∧ App f t (strN 1) f' := by
  have hl := str_len ⟨1, by omega⟩
  have hg := str_get ⟨1, by omega⟩
  simp only at hl hg
  have e0 : (x_str (1000201 - 1000200)).length = (strN 1).length := hl.1
  have e1 : ∀ i, i < (strN 1).length → (x_str (1000201 - 1000200)).getD i 0 = nI ((strN 1).getD i 0) ∧ (strN 1).getD i 0 < 128 := fun i hi => hg ⟨i, by omega⟩
  have hl6 := hl.2
  generalize strN 1 = s at ht e0 e1 hl6
  have key : ∀ (q i : Nat) (g : Nat → Int32), i + q = s.length → (∀ k, k < t → g k = f k) → (∀ j, j < i → g (t + j) = nI (s.getD j 0)) → ∃ f', rt 23 (R (d + 1) 23 (2, [some (.ref 106), some (.ref 1000201), some (.int (nI i))], [], sl, CH (up1 I 106 (up1 (I 106) 1 (nI (t + i)))) (up1 A 107 g) N V lt tw sp sr X)) = some ([], sl, CH (up1 I 106 (up1 (I 106) 1 (nI (t + s.length)))) (up1 A 107 f') N V lt tw sp sr X) ∧ App f t s f' := by
    intro q
    induction q with
    | zero =>
      intro i g hi h1 h2
      have h3 : s.length ≤ i := by omega
      have h4 : i = s.length := by omega
      refine ⟨g, ?_, h1, fun j hj => h2 j (by omega)⟩
      rw [k23_r106_r1000201_2, e0]
      simp (disch := omega) only [rt_c, b_some, List.cons_append, List.nil_append, Bool.cond_not, cond_true, cond_false, Bool.cond_decide, nI_add, nI_clamp, xin_n, dle_e, dlt_e, deq_e, xb_0, xb_1, decide_true, decide_false, Bool.not_true, Bool.not_false, Bool.and_true, Bool.true_and, Bool.and_false, Bool.false_and, Bool.true_or, Bool.false_or, Bool.or_true, Bool.or_false, if_true, if_false, up1_s, n_31, Int32.lt_irrefl, h3, t23_25]
      rw [h4]
    | succ q ih =>
      intro i g hi h1 h2
      have h3 : ¬ s.length ≤ i := by omega
      have h4 := e1 i (by omega)
      have h22 := q22 d sl I A N V lt tw sp sr X g (show t + i < 32 by omega) h4.2
      obtain ⟨f', f1, f2⟩ := ih (i + 1) (upd g (t + i) (nI (s.getD i 0))) (by omega) (fun k hk => by rw [upd_n (by omega)]; exact h1 k hk) (fun j hj => by
        by_cases hji : j = i
        · rw [hji, upd_s]
        · rw [upd_n (by omega)]; exact h2 j (by omega))
      refine ⟨f', ?_, f2⟩
      rw [k23_r106_r1000201_2, e0]
      rw [show t + (i + 1) = t + i + 1 by omega] at f1
      simp (disch := omega) only [rt_c, b_some, List.cons_append, List.nil_append, Bool.cond_not, cond_true, cond_false, Bool.cond_decide, nI_add, nI_clamp, xin_n, dle_e, dlt_e, deq_e, xb_0, xb_1, decide_true, decide_false, Bool.not_true, Bool.not_false, Bool.and_true, Bool.true_and, Bool.and_false, Bool.false_and, Bool.true_or, Bool.false_or, Bool.or_true, Bool.or_false, if_true, if_false, up1_s, n_31, Int32.lt_irrefl, h3, h4.1, h22, k23_r106_r1000201_19, f1]
  obtain ⟨f', f1, f2⟩ := key s.length 0 f (by omega) (fun _ _ => rfl) (fun j hj => by omega)
  refine ⟨f', ?_, f2⟩
  rw [e23, k23_r106_r1000201_0]
  exact f1
theorem q23_2 {t : Nat} (f : Nat → Int32) (ht : t + (strN 2).length ≤ 32) : ∃ f', C (d + 1) 23 [.ref 106, .ref 1000202] sl (CH (up1 I 106 (up1 (I 106) 1 (nI t))) (up1 A 107 f) N V lt tw sp sr X) = some ([], sl, CH (up1 I 106 (up1 (I 106) 1 (nI (t + (strN 2).length)))) (up1 A 107 f') N V lt tw sp sr X) ∧ App f t (strN 2) f' := by
  have hl := str_len ⟨2, by omega⟩
  have hg := str_get ⟨2, by omega⟩
  simp only at hl hg
  have e0 : (x_str (1000202 - 1000200)).length = (strN 2).length := hl.1
  have e1 : ∀ i, i < (strN 2).length → (x_str (1000202 - 1000200)).getD i 0 = nI ((strN 2).getD i 0) ∧ (strN 2).getD i 0 < 128 := fun i hi => hg ⟨i, by omega⟩
  have hl6 := hl.2
  generalize strN 2 = s at ht e0 e1 hl6
  have key : ∀ (q i : Nat) (g : Nat → Int32), i + q = s.length → (∀ k, k < t → g k = f k) → (∀ j, j < i → g (t + j) = nI (s.getD j 0)) → ∃ f', rt 23 (R (d + 1) 23 (2, [some (.ref 106), some (.ref 1000202), some (.int (nI i))], [], sl, CH (up1 I 106 (up1 (I 106) 1 (nI (t + i)))) (up1 A 107 g) N V lt tw sp sr X)) = some ([], sl, CH (up1 I 106 (up1 (I 106) 1 (nI (t + s.length)))) (up1 A 107 f') N V lt tw sp sr X) ∧ App f t s f' := by
    intro q
    induction q with
    | zero =>
      intro i g hi h1 h2
      have h3 : s.length ≤ i := by omega
      have h4 : i = s.length := by omega
      refine ⟨g, ?_, h1, fun j hj => h2 j (by omega)⟩
      rw [k23_r106_r1000202_2, e0]
      simp (disch := omega) only [rt_c, b_some, List.cons_append, List.nil_append, Bool.cond_not, cond_true, cond_false, Bool.cond_decide, nI_add, nI_clamp, xin_n, dle_e, dlt_e, deq_e, xb_0, xb_1, decide_true, decide_false, Bool.not_true, Bool.not_false, Bool.and_true, Bool.true_and, Bool.and_false, Bool.false_and, Bool.true_or, Bool.false_or, Bool.or_true, Bool.or_false, if_true, if_false, up1_s, n_31, Int32.lt_irrefl, h3, t23_25]
      rw [h4]
    | succ q ih =>
      intro i g hi h1 h2
      have h3 : ¬ s.length ≤ i := by omega
      have h4 := e1 i (by omega)
      have h22 := q22 d sl I A N V lt tw sp sr X g (show t + i < 32 by omega) h4.2
      obtain ⟨f', f1, f2⟩ := ih (i + 1) (upd g (t + i) (nI (s.getD i 0))) (by omega) (fun k hk => by rw [upd_n (by omega)]; exact h1 k hk) (fun j hj => by
        by_cases hji : j = i
        · rw [hji, upd_s]
        · rw [upd_n (by omega)]; exact h2 j (by omega))
      refine ⟨f', ?_, f2⟩
      rw [k23_r106_r1000202_2, e0]
      rw [show t + (i + 1) = t + i + 1 by omega] at f1
      simp (disch := omega) only [rt_c, b_some, List.cons_append, List.nil_append, Bool.cond_not, cond_true, cond_false, Bool.cond_decide, nI_add, nI_clamp, xin_n, dle_e, dlt_e, deq_e, xb_0, xb_1, decide_true, decide_false, Bool.not_true, Bool.not_false, Bool.and_true, Bool.true_and, Bool.and_false, Bool.false_and, Bool.true_or, Bool.false_or, Bool.or_true, Bool.or_false, if_true, if_false, up1_s, n_31, Int32.lt_irrefl, h3, h4.1, h22, k23_r106_r1000202_19, f1]
  obtain ⟨f', f1, f2⟩ := key s.length 0 f (by omega) (fun _ _ => rfl) (fun j hj => by omega)
  refine ⟨f', ?_, f2⟩
  rw [e23, k23_r106_r1000202_0]
  exact f1
theorem q23_3 {t : Nat} (f : Nat → Int32) (ht : t + (strN 3).length ≤ 32) : ∃ f', C (d + 1) 23 [.ref 106, .ref 1000203] sl (CH (up1 I 106 (up1 (I 106) 1 (nI t))) (up1 A 107 f) N V lt tw sp sr X) = some ([], sl, CH (up1 I 106 (up1 (I 106) 1 (nI (t + (strN 3).length)))) (up1 A 107 f') N V lt tw sp sr X) ∧ App f t (strN 3) f' := by
  have hl := str_len ⟨3, by omega⟩
  have hg := str_get ⟨3, by omega⟩
  simp only at hl hg
  have e0 : (x_str (1000203 - 1000200)).length = (strN 3).length := hl.1
  have e1 : ∀ i, i < (strN 3).length → (x_str (1000203 - 1000200)).getD i 0 = nI ((strN 3).getD i 0) ∧ (strN 3).getD i 0 < 128 := fun i hi => hg ⟨i, by omega⟩
  have hl6 := hl.2
  generalize strN 3 = s at ht e0 e1 hl6
  have key : ∀ (q i : Nat) (g : Nat → Int32), i + q = s.length → (∀ k, k < t → g k = f k) → (∀ j, j < i → g (t + j) = nI (s.getD j 0)) → ∃ f', rt 23 (R (d + 1) 23 (2, [some (.ref 106), some (.ref 1000203), some (.int (nI i))], [], sl, CH (up1 I 106 (up1 (I 106) 1 (nI (t + i)))) (up1 A 107 g) N V lt tw sp sr X)) = some ([], sl, CH (up1 I 106 (up1 (I 106) 1 (nI (t + s.length)))) (up1 A 107 f') N V lt tw sp sr X) ∧ App f t s f' := by
    intro q
    induction q with
    | zero =>
      intro i g hi h1 h2
      have h3 : s.length ≤ i := by omega
      have h4 : i = s.length := by omega
      refine ⟨g, ?_, h1, fun j hj => h2 j (by omega)⟩
      rw [k23_r106_r1000203_2, e0]
      simp (disch := omega) only [rt_c, b_some, List.cons_append, List.nil_append, Bool.cond_not, cond_true, cond_false, Bool.cond_decide, nI_add, nI_clamp, xin_n, dle_e, dlt_e, deq_e, xb_0, xb_1, decide_true, decide_false, Bool.not_true, Bool.not_false, Bool.and_true, Bool.true_and, Bool.and_false, Bool.false_and, Bool.true_or, Bool.false_or, Bool.or_true, Bool.or_false, if_true, if_false, up1_s, n_31, Int32.lt_irrefl, h3, t23_25]
      rw [h4]
    | succ q ih =>
      intro i g hi h1 h2
      have h3 : ¬ s.length ≤ i := by omega
      have h4 := e1 i (by omega)
      have h22 := q22 d sl I A N V lt tw sp sr X g (show t + i < 32 by omega) h4.2
      obtain ⟨f', f1, f2⟩ := ih (i + 1) (upd g (t + i) (nI (s.getD i 0))) (by omega) (fun k hk => by rw [upd_n (by omega)]; exact h1 k hk) (fun j hj => by
        by_cases hji : j = i
        · rw [hji, upd_s]
        · rw [upd_n (by omega)]; exact h2 j (by omega))
      refine ⟨f', ?_, f2⟩
      rw [k23_r106_r1000203_2, e0]
      rw [show t + (i + 1) = t + i + 1 by omega] at f1
      simp (disch := omega) only [rt_c, b_some, List.cons_append, List.nil_append, Bool.cond_not, cond_true, cond_false, Bool.cond_decide, nI_add, nI_clamp, xin_n, dle_e, dlt_e, deq_e, xb_0, xb_1, decide_true, decide_false, Bool.not_true, Bool.not_false, Bool.and_true, Bool.true_and, Bool.and_false, Bool.false_and, Bool.true_or, Bool.false_or, Bool.or_true, Bool.or_false, if_true, if_false, up1_s, n_31, Int32.lt_irrefl, h3, h4.1, h22, k23_r106_r1000203_19, f1]
  obtain ⟨f', f1, f2⟩ := key s.length 0 f (by omega) (fun _ _ => rfl) (fun j hj => by omega)
  refine ⟨f', ?_, f2⟩
  rw [e23, k23_r106_r1000203_0]
  exact f1
def shN : Nat → Int32
  | 0 => -8
  | j + 1 => nI (8 * j)
theorem shN_s {j : Nat} (hj : j < 7) : nI (8 * j) + (-8) = shN j := by
  have : ∀ j : Fin 7, nI (8 * j.val) + (-8 : Int32) = shN j.val := by decide +kernel
  exact this ⟨j, hj⟩
theorem q24 {t : Nat} {s : List Nat} (f : Nat → Int32) (hs : Lts s) (ht : t + s.length ≤ 32) : ∃ f', C (d + 1) 24 [.ref 106, .long (lN (p256 s))] sl (CH (up1 I 106 (up1 (I 106) 1 (nI t))) (up1 A 107 f) N V lt tw sp sr X) = some ([], sl, CH (up1 I 106 (up1 (I 106) 1 (nI (t + s.length)))) (up1 A 107 f') N V lt tw sp sr X) ∧ App f t s f' := by
  have hlt := p256_lt hs
  obtain ⟨hr1, hr2, hr3⟩ := Lts_r hs
  rw [p256_v] at hlt ⊢
  have hsr : s = s.reverse.reverse := (List.reverse_reverse s).symm
  have hsl : s.length = s.reverse.length := (List.length_reverse).symm
  generalize hrr : s.reverse = r at hr1 hr2 hr3 hlt hsr hsl ⊢
  have hlet : ∀ j, j < 7 → (((((lN (v256 r)).toUInt64 >>> ((nI (8 * j)).toInt64.toUInt64 &&& Int64.toUInt64 63)).toInt64) &&& (nI 255).toInt64).toInt32) = nI (r.getD j 0) := by
    intro j hj
    rw [wb_shr (by omega) (by omega), nI_l (by omega), show (255 : Nat) = 2 ^ 8 - 1 from rfl, wb_mask (Nat.lt_of_le_of_lt (Nat.div_le_self _ _) (by omega)) (by decide), lN_i]
    congr 1
    rw [Nat.pow_mul]
    exact v256_byte j hr1
  have key : ∀ (j t : Nat) (g : Nat → Int32) (o : Option Value), (o = none ∨ ∃ v, o = some (.int v)) → j ≤ 7 → t + (r.take j).length ≤ 32 → ∃ g', rt 24 (R (d + 1) 24 (3, [some (.ref 106), some (.long (lN (v256 r))), none, some (.int (shN j)), o], [], sl, CH (up1 I 106 (up1 (I 106) 1 (nI t))) (up1 A 107 g) N V lt tw sp sr X)) = some ([], sl, CH (up1 I 106 (up1 (I 106) 1 (nI (t + (r.take j).length)))) (up1 A 107 g') N V lt tw sp sr X) ∧ App g t (r.take j).reverse g' := by
    intro j
    induction j with
    | zero =>
      intro t g o ho hj ht
      have hn : (-8 : Int32) < nI 0 := by decide
      refine ⟨g, ?_, App_nil⟩
      show rt 24 (R (d + 1) 24 (3, [some (.ref 106), some (.long (lN (v256 r))), none, some (.int (-8)), o], [], sl, _)) = _
      rcases ho with rfl | ⟨v, rfl⟩
      · rw [k24_r106_3]
        simp (disch := omega) only [rt_c, b_some, List.cons_append, List.nil_append, Bool.cond_not, cond_true, cond_false, Bool.cond_decide, nI_add, nI_clamp, xin_n, dle_e, dlt_e, deq_e, xb_0, xb_1, decide_true, decide_false, Bool.not_true, Bool.not_false, Bool.and_true, Bool.true_and, Bool.and_false, Bool.false_and, Bool.true_or, Bool.false_or, Bool.or_true, Bool.or_false, if_true, if_false, up1_s, n_31, Int32.lt_irrefl, hn, t24_34]
        rfl
      · rw [k24_r106_3_1]
        simp (disch := omega) only [rt_c, b_some, List.cons_append, List.nil_append, Bool.cond_not, cond_true, cond_false, Bool.cond_decide, nI_add, nI_clamp, xin_n, dle_e, dlt_e, deq_e, xb_0, xb_1, decide_true, decide_false, Bool.not_true, Bool.not_false, Bool.and_true, Bool.true_and, Bool.and_false, Bool.false_and, Bool.true_or, Bool.false_or, Bool.or_true, Bool.or_false, if_true, if_false, up1_s, n_31, Int32.lt_irrefl, hn, t24_34]
        rfl
    | succ j ih =>
      intro t g o ho hj ht
      have hn : ¬ 8 * j < 0 := by omega
      have hL := hlet j (by omega)
      have hsh := shN_s (show j < 7 by omega)
      show ∃ g', rt 24 (R (d + 1) 24 (3, [some (.ref 106), some (.long (lN (v256 r))), none, some (.int (nI (8 * j))), o], [], sl, _)) = _ ∧ _
      by_cases hjr : j < r.length
      · have hc := hr1 r[j] (List.getElem_mem hjr)
        have hgd : r.getD j 0 = r[j] := by rw [List.getD_eq_getElem?_getD, List.getElem?_eq_getElem hjr]; rfl
        have htk : r.take (j + 1) = r.take j ++ [r[j]] := List.take_succ_eq_append_getElem hjr
        rw [hgd] at hL
        have hz : ¬ r[j] = 0 := by omega
        have hlen : (r.take (j + 1)).length = (r.take j).length + 1 := by rw [htk, List.length_append]; rfl
        have h22 := q22 d sl I A N V lt tw sp sr X g (t := t) (b := r[j]) (by omega) (by omega)
        obtain ⟨g', e1, e2⟩ := ih (t + 1) (upd g t (nI r[j])) (some (.int (nI r[j]))) (Or.inr ⟨_, rfl⟩) (by omega) (by omega)
        rw [show t + 1 + (r.take j).length = t + (r.take (j + 1)).length by omega] at e1
        refine ⟨g', ?_, ?_⟩
        · rcases ho with rfl | ⟨v, rfl⟩
          · rw [k24_r106_3]
            simp (disch := omega) only [rt_c, b_some, List.cons_append, List.nil_append, Bool.cond_not, cond_true, cond_false, Bool.cond_decide, nI_add, nI_clamp, xin_n, dle_e, dlt_e, deq_e, xb_0, xb_1, decide_true, decide_false, Bool.not_true, Bool.not_false, Bool.and_true, Bool.true_and, Bool.and_false, Bool.false_and, Bool.true_or, Bool.false_or, Bool.or_true, Bool.or_false, if_true, if_false, up1_s, n_31, Int32.lt_irrefl, hn, hL, hz, h22, k24_r106_28, hsh, e1]
          · rw [k24_r106_3_1]
            simp (disch := omega) only [rt_c, b_some, List.cons_append, List.nil_append, Bool.cond_not, cond_true, cond_false, Bool.cond_decide, nI_add, nI_clamp, xin_n, dle_e, dlt_e, deq_e, xb_0, xb_1, decide_true, decide_false, Bool.not_true, Bool.not_false, Bool.and_true, Bool.true_and, Bool.and_false, Bool.false_and, Bool.true_or, Bool.false_or, Bool.or_true, Bool.or_false, if_true, if_false, up1_s, n_31, Int32.lt_irrefl, hn, hL, hz, h22, k24_r106_28, hsh, e1]
        · rw [htk, List.reverse_append]
          exact App_tr App_one rfl e2
      · have hgd : r.getD j 0 = 0 := by rw [List.getD_eq_getElem?_getD, List.getElem?_eq_none (by omega)]; rfl
        have htk : r.take (j + 1) = r.take j := by rw [List.take_of_length_le (by omega), List.take_of_length_le (by omega)]
        rw [hgd] at hL
        obtain ⟨g', e1, e2⟩ := ih t g (some (.int (nI 0))) (Or.inr ⟨_, rfl⟩) (by omega) (by rw [← htk]; exact ht)
        rw [htk]
        refine ⟨g', ?_, e2⟩
        rcases ho with rfl | ⟨v, rfl⟩
        · rw [k24_r106_3]
          simp (disch := omega) only [rt_c, b_some, List.cons_append, List.nil_append, Bool.cond_not, cond_true, cond_false, Bool.cond_decide, nI_add, nI_clamp, xin_n, dle_e, dlt_e, deq_e, xb_0, xb_1, decide_true, decide_false, Bool.not_true, Bool.not_false, Bool.and_true, Bool.true_and, Bool.and_false, Bool.false_and, Bool.true_or, Bool.false_or, Bool.or_true, Bool.or_false, if_true, if_false, up1_s, n_31, Int32.lt_irrefl, hn, hL, k24_r106_28, hsh, e1]
        · rw [k24_r106_3_1]
          simp (disch := omega) only [rt_c, b_some, List.cons_append, List.nil_append, Bool.cond_not, cond_true, cond_false, Bool.cond_decide, nI_add, nI_clamp, xin_n, dle_e, dlt_e, deq_e, xb_0, xb_1, decide_true, decide_false, Bool.not_true, Bool.not_false, Bool.and_true, Bool.true_and, Bool.and_false, Bool.false_and, Bool.true_or, Bool.false_or, Bool.or_true, Bool.or_false, if_true, if_false, up1_s, n_31, Int32.lt_irrefl, hn, hL, k24_r106_28, hsh, e1]
  have ht7 : r.take 7 = r := List.take_of_length_le hr3
  obtain ⟨g', e1, e2⟩ := key 7 t f none (Or.inl rfl) (by omega) (by rw [ht7, ← hsl]; exact ht)
  rw [ht7, ← hsl] at e1
  rw [ht7, ← hsr] at e2
  refine ⟨g', ?_, e2⟩
  rw [e24, k24_r106_0]
  exact e1
theorem q25 {t v : Nat} (f : Nat → Int32) (hv : v ≤ 9999) (ht : t + (dgs 4 v).length ≤ 32) : ∃ f', C (d + 1) 25 [.ref 106, .int (nI v)] sl (CH (up1 I 106 (up1 (I 106) 1 (nI t))) (up1 A 107 f) N V lt tw sp sr X) = some ([], sl, CH (up1 I 106 (up1 (I 106) 1 (nI (t + (dgs 4 v).length)))) (up1 A 107 f') N V lt tw sp sr X) ∧ App f t (dgs 4 v) f' := by
  rw [dgs_4 hv] at ht ⊢
  have step : ∀ (u t : Nat) (g : Nat → Int32), (u = 1000 ∨ u = 100 ∨ u = 10) → t < 32 → ∃ g', rt 25 (R (d + 1) 25 (4, [some (.ref 106), some (.int (nI v)), some (.int (nI u))], [], sl, CH (up1 I 106 (up1 (I 106) 1 (nI t))) (up1 A 107 g) N V lt tw sp sr X)) = rt 25 (R (d + 1) 25 (4, [some (.ref 106), some (.int (nI v)), some (.int (nI (u / 10)))], [], sl, CH (up1 I 106 (up1 (I 106) 1 (nI (t + (if u ≤ v then [48 + v / u % 10] else []).length)))) (up1 A 107 g') N V lt tw sp sr X)) ∧ App g t (if u ≤ v then [48 + v / u % 10] else []) g' := by
    intro u t g hu ht
    have h1 : ¬ u ≤ 0 := by omega
    have h1' : ¬ u = 0 := by omega
    have h1'' : ¬ u = 1 := by omega
    have hd1 : nI v / nI u = nI (v / u) := pk_div (by omega) (by omega) (by omega)
    have hvu : v / u ≤ v := Nat.div_le_self _ _
    have hd2 : nI (v / u) / nI 10 = nI (v / u / 10) := pk_div (by omega) (by omega) (by omega)
    have hd3 : nI (v / u) - nI (v / u / 10) * nI 10 = nI (v / u % 10) := by
      rw [← hd2]
      exact pk_rem (by omega) (by omega) (by omega)
    have hd4 : nI u / nI 10 = nI (u / 10) := pk_div (by omega) (by omega) (by omega)
    by_cases h2 : u ≤ v
    · have h22 := q22 d sl I A N V lt tw sp sr X g (b := 48 + v / u % 10) ht (by omega)
      rw [if_pos h2]
      refine ⟨_, ?_, App_one⟩
      rw [k25_r106_4]
      simp (disch := omega) only [rt_c, b_some, List.cons_append, List.nil_append, Bool.cond_not, cond_true, cond_false, Bool.cond_decide, nI_add, nI_clamp, xin_n, dle_e, dlt_e, deq_e, xb_0, xb_1, decide_true, decide_false, Bool.not_true, Bool.not_false, Bool.and_true, Bool.true_and, Bool.and_false, Bool.false_and, Bool.true_or, Bool.false_or, Bool.or_true, Bool.or_false, if_true, if_false, up1_s, n_31, Int32.lt_irrefl, h1, h1', h2, hd1, hd2, hd3, h22, k25_r106_31, hd4]
      rfl
    · rw [if_neg h2]
      refine ⟨g, ?_, App_nil⟩
      rw [k25_r106_4]
      simp (disch := omega) only [rt_c, b_some, List.cons_append, List.nil_append, Bool.cond_not, cond_true, cond_false, Bool.cond_decide, nI_add, nI_clamp, xin_n, dle_e, dlt_e, deq_e, xb_0, xb_1, decide_true, decide_false, Bool.not_true, Bool.not_false, Bool.and_true, Bool.true_and, Bool.and_false, Bool.false_and, Bool.true_or, Bool.false_or, Bool.or_true, Bool.or_false, if_true, if_false, up1_s, n_31, Int32.lt_irrefl, h1, h1', h1'', h2, k25_r106_31, hd4]
      rfl
  simp only [List.length_append] at ht ⊢
  have ht1 : [48 + v % 10].length = 1 := rfl
  rw [ht1] at ht
  obtain ⟨g1, s1, a1⟩ := step 1000 t f (by omega) (by omega)
  obtain ⟨g2, s2, a2⟩ := step 100 (t + (if 1000 ≤ v then [48 + v / 1000 % 10] else []).length) g1 (by omega) (by omega)
  obtain ⟨g3, s3, a3⟩ := step 10 (t + (if 1000 ≤ v then [48 + v / 1000 % 10] else []).length + (if 100 ≤ v then [48 + v / 100 % 10] else []).length) g2 (by omega) (by omega)
  generalize hl1 : (if 1000 ≤ v then [48 + v / 1000 % 10] else []) = l1 at *
  generalize hl2 : (if 100 ≤ v then [48 + v / 100 % 10] else []) = l2 at *
  generalize hl3 : (if 10 ≤ v then [48 + v / 10 % 10] else []) = l3 at *
  have hd2 : nI v / nI 10 = nI (v / 10) := pk_div (by omega) (by omega) (by omega)
  have hd3 : nI v - nI (v / 10) * nI 10 = nI (v % 10) := by
    rw [← hd2]
    exact pk_rem (by omega) (by omega) (by omega)
  have hd1 : nI v / nI 1 = nI v := by rw [pk_div (by omega) (by omega) (by omega), Nat.div_one]
  have hd4 : nI 1 / nI 10 = nI 0 := by decide
  have h22 := q22 d sl I A N V lt tw sp sr X g3 (t := t + l1.length + l2.length + l3.length) (b := 48 + v % 10) (by omega) (by omega)
  refine ⟨upd g3 (t + l1.length + l2.length + l3.length) (nI (48 + v % 10)), ?_, App_tr a1 rfl (App_tr a2 rfl (App_tr a3 rfl App_one))⟩
  have e4 : rt 25 (R (d + 1) 25 (4, [some (.ref 106), some (.int (nI v)), some (.int (nI 1))], [], sl, CH (up1 I 106 (up1 (I 106) 1 (nI (t + l1.length + l2.length + l3.length)))) (up1 A 107 g3) N V lt tw sp sr X)) = some ([], sl, CH (up1 I 106 (up1 (I 106) 1 (nI (t + l1.length + l2.length + l3.length + 1)))) (up1 A 107 (upd g3 (t + l1.length + l2.length + l3.length) (nI (48 + v % 10)))) N V lt tw sp sr X) := by
    have h1 : ¬ 1 ≤ 0 := by omega
    rw [k25_r106_4]
    by_cases h2 : 1 ≤ v
    · simp (disch := omega) only [rt_c, b_some, List.cons_append, List.nil_append, Bool.cond_not, cond_true, cond_false, Bool.cond_decide, nI_add, nI_clamp, xin_n, dle_e, dlt_e, deq_e, xb_0, xb_1, decide_true, decide_false, Bool.not_true, Bool.not_false, Bool.and_true, Bool.true_and, Bool.and_false, Bool.false_and, Bool.true_or, Bool.false_or, Bool.or_true, Bool.or_false, if_true, if_false, up1_s, n_31, Int32.lt_irrefl, h1, h2, Nat.one_ne_zero, hd1, hd2, hd3, h22, k25_r106_31, hd4]
      rw [k25_r106_4]
      simp (disch := omega) only [rt_c, b_some, List.cons_append, List.nil_append, Bool.cond_not, cond_true, cond_false, Bool.cond_decide, nI_add, nI_clamp, xin_n, dle_e, dlt_e, deq_e, xb_0, xb_1, decide_true, decide_false, Bool.not_true, Bool.not_false, Bool.and_true, Bool.true_and, Bool.and_false, Bool.false_and, Bool.true_or, Bool.false_or, Bool.or_true, Bool.or_false, if_true, if_false, up1_s, n_31, Int32.lt_irrefl, Nat.le_refl, t25_39]
    · simp (disch := omega) only [rt_c, b_some, List.cons_append, List.nil_append, Bool.cond_not, cond_true, cond_false, Bool.cond_decide, nI_add, nI_clamp, xin_n, dle_e, dlt_e, deq_e, xb_0, xb_1, decide_true, decide_false, Bool.not_true, Bool.not_false, Bool.and_true, Bool.true_and, Bool.and_false, Bool.false_and, Bool.true_or, Bool.false_or, Bool.or_true, Bool.or_false, if_true, if_false, up1_s, n_31, Int32.lt_irrefl, h1, h2, Nat.one_ne_zero, hd1, hd2, hd3, h22, k25_r106_31, hd4]
      rw [k25_r106_4]
      simp (disch := omega) only [rt_c, b_some, List.cons_append, List.nil_append, Bool.cond_not, cond_true, cond_false, Bool.cond_decide, nI_add, nI_clamp, xin_n, dle_e, dlt_e, deq_e, xb_0, xb_1, decide_true, decide_false, Bool.not_true, Bool.not_false, Bool.and_true, Bool.true_and, Bool.and_false, Bool.false_and, Bool.true_or, Bool.false_or, Bool.or_true, Bool.or_false, if_true, if_false, up1_s, n_31, Int32.lt_irrefl, Nat.le_refl, t25_39]
  rw [e25, k25_r106_0]
  rw [show t + (l1.length + (l2.length + (l3.length + [48 + v % 10].length))) = t + l1.length + l2.length + l3.length + 1 by rw [ht1]; omega, ← e4]
  exact s1.trans (s2.trans s3)
end CLL
