/-! SHIRE: the reference's loops, the class's own blocks -/
def Nst (r n : Nat → Int32) : Prop := (∀ k, k < 70 → n k = r k) ∧ n 70 = nI 0 ∧ n 71 = nI 0 ∧ n 72 = r 1 ∧ (∀ h, h < 6 → n (73 + h) = r (4 + h)) ∧ (∀ k, k < 48 → n (79 + k) = r (22 + k)) ∧ n 127 = nI 0
section RFS
variable (d sl : Nat) (I : Nat → Int32) (w : Int64) (A : Nat → Nat → Int32) (N : Nat → Nat → Int64)
theorem c185 : ∃ f', C d 185 [.ref 0] sl (RH I w A N) = some ([], sl, RH I w (up1 A 2 f') N) ∧ Nst (A 2) f' := by
  have L3 : ∀ (q i : Nat) (f : Nat → Int32), i + q = 48 → (∀ k, k < 70 → f k = A 2 k) → f 70 = nI 0 → f 71 = nI 0 → f 72 = A 2 1 → (∀ h, h < 6 → f (73 + h) = A 2 (4 + h)) → (∀ k, k < i → f (79 + k) = A 2 (22 + k)) → f 127 = nI 0 → ∃ f', rt 185 (R d 185 (69, [some (.ref 0), some (.int (nI i))], [], sl, RH I w (up1 A 2 f) N)) = some ([], sl, RH I w (up1 A 2 f') N) ∧ Nst (A 2) f' := by
    intro q
    induction q with
    | zero =>
      intro i f hi h1 h2 h3 h4 h5 h6 h7
      have hi2 : 48 ≤ i := by omega
      refine ⟨f, ?_, h1, h2, h3, h4, h5, fun k hk => h6 k (by omega), h7⟩
      rw [m185_69]
      simp (disch := omega) only [rt_c, b_some, List.cons_append, List.nil_append, Bool.cond_not, cond_true, cond_false, Bool.cond_decide, nI_add, nI_clamp, xin_n, dle_e, dlt_e, deq_e, xb_0, xb_1, decide_true, decide_false, Bool.not_true, Bool.not_false, Bool.and_true, Bool.true_and, Bool.and_false, Bool.false_and, Bool.true_or, Bool.false_or, Bool.or_true, Bool.or_false, if_true, if_false, up1_s, n_31, Int32.lt_irrefl, hi2, t185_99]
    | succ q ih =>
      intro i f hi h1 h2 h3 h4 h5 h6 h7
      have hi2 : ¬ 48 ≤ i := by omega
      have he := h1 (22 + i) (by omega)
      obtain ⟨f', x1, x2⟩ := ih (i + 1) (upd f (79 + i) (f (22 + i))) (by omega) (fun k hk => by rw [upd_n (by omega)]; exact h1 k hk) (by rw [upd_n (by omega)]; exact h2) (by rw [upd_n (by omega)]; exact h3) (by rw [upd_n (by omega)]; exact h4) (fun h hh => by rw [upd_n (by omega)]; exact h5 h hh) (fun k hk => by
        by_cases hki : k = i
        · rw [hki, upd_s]; exact he
        · rw [upd_n (by omega)]; exact h6 k (by omega)) (by rw [upd_n (by omega)]; exact h7)
      refine ⟨f', ?_, x2⟩
      rw [m185_69]
      simp (disch := omega) only [rt_c, b_some, List.cons_append, List.nil_append, Bool.cond_not, cond_true, cond_false, Bool.cond_decide, nI_add, nI_clamp, xin_n, dle_e, dlt_e, deq_e, xb_0, xb_1, decide_true, decide_false, Bool.not_true, Bool.not_false, Bool.and_true, Bool.true_and, Bool.and_false, Bool.false_and, Bool.true_or, Bool.false_or, Bool.or_true, Bool.or_false, if_true, if_false, up1_s, n_31, Int32.lt_irrefl, hi2, up1_up, x1]
  have L2 : ∀ (q i : Nat) (f : Nat → Int32), i + q = 6 → (∀ k, k < 70 → f k = A 2 k) → f 70 = nI 0 → f 71 = nI 0 → f 72 = A 2 1 → (∀ h, h < i → f (73 + h) = A 2 (4 + h)) → f 127 = nI 0 → ∃ f', rt 185 (R d 185 (38, [some (.ref 0), some (.int (nI i))], [], sl, RH I w (up1 A 2 f) N)) = some ([], sl, RH I w (up1 A 2 f') N) ∧ Nst (A 2) f' := by
    intro q
    induction q with
    | zero =>
      intro i f hi h1 h2 h3 h4 h5 h7
      have hi2 : 6 ≤ i := by omega
      obtain ⟨f', x1, x2⟩ := L3 48 0 f (by omega) h1 h2 h3 h4 (fun h hh => h5 h (by omega)) (fun k hk => by omega) h7
      refine ⟨f', ?_, x2⟩
      rw [m185_38]
      simp (disch := omega) only [rt_c, b_some, List.cons_append, List.nil_append, Bool.cond_not, cond_true, cond_false, Bool.cond_decide, nI_add, nI_clamp, xin_n, dle_e, dlt_e, deq_e, xb_0, xb_1, decide_true, decide_false, Bool.not_true, Bool.not_false, Bool.and_true, Bool.true_and, Bool.and_false, Bool.false_and, Bool.true_or, Bool.false_or, Bool.or_true, Bool.or_false, if_true, if_false, up1_s, n_31, Int32.lt_irrefl, hi2, x1]
    | succ q ih =>
      intro i f hi h1 h2 h3 h4 h5 h7
      have hi2 : ¬ 6 ≤ i := by omega
      have he := h1 (4 + i) (by omega)
      obtain ⟨f', x1, x2⟩ := ih (i + 1) (upd f (73 + i) (f (4 + i))) (by omega) (fun k hk => by rw [upd_n (by omega)]; exact h1 k hk) (by rw [upd_n (by omega)]; exact h2) (by rw [upd_n (by omega)]; exact h3) (by rw [upd_n (by omega)]; exact h4) (fun k hk => by
        by_cases hki : k = i
        · rw [hki, upd_s]; exact he
        · rw [upd_n (by omega)]; exact h5 k (by omega)) (by rw [upd_n (by omega)]; exact h7)
      refine ⟨f', ?_, x2⟩
      rw [m185_38]
      simp (disch := omega) only [rt_c, b_some, List.cons_append, List.nil_append, Bool.cond_not, cond_true, cond_false, Bool.cond_decide, nI_add, nI_clamp, xin_n, dle_e, dlt_e, deq_e, xb_0, xb_1, decide_true, decide_false, Bool.not_true, Bool.not_false, Bool.and_true, Bool.true_and, Bool.and_false, Bool.false_and, Bool.true_or, Bool.false_or, Bool.or_true, Bool.or_false, if_true, if_false, up1_s, n_31, Int32.lt_irrefl, hi2, up1_up, x1]
  have L1 : ∀ (q i : Nat) (f : Nat → Int32), i + q = 369 → 70 ≤ i → (∀ k, k < 70 → f k = A 2 k) → (∀ k, 70 ≤ k → k < i → f k = nI 0) → ∃ f', rt 185 (R d 185 (3, [some (.ref 0), some (.int (nI i))], [], sl, RH I w (up1 A 2 f) N)) = some ([], sl, RH I w (up1 A 2 f') N) ∧ Nst (A 2) f' := by
    intro q
    induction q with
    | zero =>
      intro i f hi h70 h1 h2
      have hi2 : 369 ≤ i := by omega
      obtain ⟨f', x1, x2⟩ := L2 6 0 (upd f 72 (f 1)) (by omega) (fun k hk => by rw [upd_n (by omega)]; exact h1 k hk) (by rw [upd_n (by omega)]; exact h2 _ (by omega) (by omega)) (by rw [upd_n (by omega)]; exact h2 _ (by omega) (by omega)) (by rw [upd_s]; exact h1 1 (by omega)) (fun h hh => by omega) (by rw [upd_n (by omega)]; exact h2 _ (by omega) (by omega))
      refine ⟨f', ?_, x2⟩
      rw [m185_3]
      simp (disch := omega) only [rt_c, b_some, List.cons_append, List.nil_append, Bool.cond_not, cond_true, cond_false, Bool.cond_decide, nI_add, nI_clamp, xin_n, dle_e, dlt_e, deq_e, xb_0, xb_1, decide_true, decide_false, Bool.not_true, Bool.not_false, Bool.and_true, Bool.true_and, Bool.and_false, Bool.false_and, Bool.true_or, Bool.false_or, Bool.or_true, Bool.or_false, if_true, if_false, up1_s, n_31, Int32.lt_irrefl, hi2, up1_up, x1]
    | succ q ih =>
      intro i f hi h70 h1 h2
      have hi2 : ¬ 369 ≤ i := by omega
      obtain ⟨f', x1, x2⟩ := ih (i + 1) (upd f i (nI 0)) (by omega) (by omega) (fun k hk => by rw [upd_n (by omega)]; exact h1 k hk) (fun k k1 k2 => by
        by_cases hki : k = i
        · rw [hki, upd_s]
        · rw [upd_n hki]; exact h2 k k1 (by omega))
      refine ⟨f', ?_, x2⟩
      rw [m185_3]
      simp (disch := omega) only [rt_c, b_some, List.cons_append, List.nil_append, Bool.cond_not, cond_true, cond_false, Bool.cond_decide, nI_add, nI_clamp, xin_n, dle_e, dlt_e, deq_e, xb_0, xb_1, decide_true, decide_false, Bool.not_true, Bool.not_false, Bool.and_true, Bool.true_and, Bool.and_false, Bool.false_and, Bool.true_or, Bool.false_or, Bool.or_true, Bool.or_false, if_true, if_false, up1_s, n_31, Int32.lt_irrefl, hi2, up1_up, x1]
  obtain ⟨f', x1, x2⟩ := L1 299 70 (A 2) (by omega) (by omega) (fun _ _ => rfl) (fun k k1 k2 => by omega)
  rw [up1_id] at x1
  exact ⟨f', by rw [e185, m185_0]; exact x1, x2⟩
theorem c194_clr : ∀ (q i : Nat) (f : Nat → Int32), i + q = 70 → (∀ k, k < i → f k = nI 0) → ∃ f', rt 194 (R (d + 1) 194 (9, [some (.ref 0), some (.int (nI i)), none], [], sl, RH I w (up1 A 3 f) N)) = rt 194 (R (d + 1) 194 (49, [some (.ref 0), some (.int (nI 0)), none], [], sl, RH (up1 I 23 (nI 0)) w (up1 A 3 f') N)) ∧ f' 2 = nI 1 ∧ f' 3 = nI 5 ∧ ∀ k, k ≠ 2 → k ≠ 3 → k < 70 → f' k = nI 0 := by
  intro q
  induction q with
  | zero =>
    intro i f hi h
    have hi2 : 70 ≤ i := by omega
    refine ⟨upd (upd f 2 (nI 1)) 3 (nI 5), ?_, by rw [upd_n (by decide), upd_s], by rw [upd_s], fun k k1 k2 k3 => by rw [upd_n k2, upd_n k1]; exact h k (by omega)⟩
    rw [m194_9]
    simp (disch := omega) only [rt_c, b_some, List.cons_append, List.nil_append, Bool.cond_not, cond_true, cond_false, Bool.cond_decide, nI_add, nI_clamp, xin_n, dle_e, dlt_e, deq_e, xb_0, xb_1, decide_true, decide_false, Bool.not_true, Bool.not_false, Bool.and_true, Bool.true_and, Bool.and_false, Bool.false_and, Bool.true_or, Bool.false_or, Bool.or_true, Bool.or_false, if_true, if_false, up1_s, n_31, Int32.lt_irrefl, hi2, up1_up]
  | succ q ih =>
    intro i f hi h
    have hi2 : ¬ 70 ≤ i := by omega
    obtain ⟨f', x1, x2⟩ := ih (i + 1) (upd f i (nI 0)) (by omega) (fun k hk => by
      by_cases hki : k = i
      · rw [hki, upd_s]
      · rw [upd_n hki]; exact h k (by omega))
    refine ⟨f', ?_, x2⟩
    rw [m194_9]
    simp (disch := omega) only [rt_c, b_some, List.cons_append, List.nil_append, Bool.cond_not, cond_true, cond_false, Bool.cond_decide, nI_add, nI_clamp, xin_n, dle_e, dlt_e, deq_e, xb_0, xb_1, decide_true, decide_false, Bool.not_true, Bool.not_false, Bool.and_true, Bool.true_and, Bool.and_false, Bool.false_and, Bool.true_or, Bool.false_or, Bool.or_true, Bool.or_false, if_true, if_false, up1_s, n_31, Int32.lt_irrefl, hi2, up1_up, x1]
theorem c194_n (a : Int32) : ∀ (q i : Nat) (g : Nat → Int64), i + q = 6 → (∀ k, k < i → g k = N 8 k) → ∃ g' f', rt 194 (R (d + 1) 194 (111, [some (.ref 0), some (.int a), some (.int (nI i))], [], sl, RH I w A (up1 N 7 g))) = some ([.int a], sl, RH (up1 I 24 (nI 0)) w (up1 A 2 f') (up1 N 7 g')) ∧ Nst (A 2) f' ∧ ∀ k, k < 6 → g' k = N 8 k := by
  intro q
  induction q with
  | zero =>
    intro i g hi h
    have hi2 : 6 ≤ i := by omega
    obtain ⟨f', x1, x2⟩ := c185 d sl I w A (up1 N 7 g)
    refine ⟨g, f', ?_, x2, fun k hk => h k (by omega)⟩
    rw [m194_111]
    simp (disch := omega) only [rt_c, b_some, List.cons_append, List.nil_append, Bool.cond_not, cond_true, cond_false, Bool.cond_decide, nI_add, nI_clamp, xin_n, dle_e, dlt_e, deq_e, xb_0, xb_1, decide_true, decide_false, Bool.not_true, Bool.not_false, Bool.and_true, Bool.true_and, Bool.and_false, Bool.false_and, Bool.true_or, Bool.false_or, Bool.or_true, Bool.or_false, if_true, if_false, up1_s, n_31, Int32.lt_irrefl, hi2, x1, m194_139, t194_76, t194_145]
  | succ q ih =>
    intro i g hi h
    have hi2 : ¬ 6 ≤ i := by omega
    have hi3 : i < 6 := by omega
    obtain ⟨g', f', x1, x2⟩ := ih (i + 1) (vp_updL g i (N 8 i)) (by omega) (fun k hk => by
      by_cases hki : k = i
      · rw [hki, updL_s]
      · rw [updL_n hki]; exact h k (by omega))
    refine ⟨g', f', ?_, x2⟩
    rw [m194_111]
    simp (disch := omega) only [rt_c, b_some, List.cons_append, List.nil_append, Bool.cond_not, cond_true, cond_false, Bool.cond_decide, nI_add, nI_clamp, xin_n, dle_e, dlt_e, deq_e, xb_0, xb_1, decide_true, decide_false, Bool.not_true, Bool.not_false, Bool.and_true, Bool.true_and, Bool.and_false, Bool.false_and, Bool.true_or, Bool.false_or, Bool.or_true, Bool.or_false, if_true, if_false, up1_s, n_31, Int32.lt_irrefl, hi2, up1_up, up1_n, x1]
theorem c194_end (a : Int32) : ∀ (q i : Nat) (f : Nat → Int32), i + q = 70 → (∀ k, k < i → f k = A 3 k) → ∃ g' f', rt 194 (R (d + 1) 194 (85, [some (.ref 0), some (.int a), some (.int (nI i))], [], sl, RH I w (up1 A 2 f) N)) = some ([.int a], sl, RH (up1 I 24 (nI 0)) w (up1 A 2 f') (up1 N 7 g')) ∧ Nst (A 3) f' ∧ ∀ k, k < 6 → g' k = N 8 k := by
  intro q
  induction q with
  | zero =>
    intro i f hi h
    have hi2 : 70 ≤ i := by omega
    obtain ⟨g', f', x1, ⟨y1, y2, y3, y4, y5, y6, y7⟩, x3⟩ := c194_n d sl I w (up1 A 2 f) N a 6 0 (N 7) (by omega) (fun k hk => by omega)
    rw [up1_id] at x1
    rw [up1_s] at y1 y4 y5 y6
    refine ⟨g', f', ?_, ⟨fun k hk => by rw [y1 k hk]; exact h k (by omega), y2, y3, by rw [y4]; exact h 1 (by omega), fun k hk => by rw [y5 k hk]; exact h _ (by omega), fun k hk => by rw [y6 k hk]; exact h _ (by omega), y7⟩, x3⟩
    rw [m194_85]
    simp only [up1_up] at x1
    simp (disch := omega) only [rt_c, b_some, List.cons_append, List.nil_append, Bool.cond_not, cond_true, cond_false, Bool.cond_decide, nI_add, nI_clamp, xin_n, dle_e, dlt_e, deq_e, xb_0, xb_1, decide_true, decide_false, Bool.not_true, Bool.not_false, Bool.and_true, Bool.true_and, Bool.and_false, Bool.false_and, Bool.true_or, Bool.false_or, Bool.or_true, Bool.or_false, if_true, if_false, up1_s, n_31, Int32.lt_irrefl, hi2, x1]
  | succ q ih =>
    intro i f hi h
    have hi2 : ¬ 70 ≤ i := by omega
    obtain ⟨g', f', x1, x2⟩ := ih (i + 1) (upd f i (A 3 i)) (by omega) (fun k hk => by
      by_cases hki : k = i
      · rw [hki, upd_s]
      · rw [upd_n hki]; exact h k (by omega))
    refine ⟨g', f', ?_, x2⟩
    rw [m194_85]
    simp (disch := omega) only [rt_c, b_some, List.cons_append, List.nil_append, Bool.cond_not, cond_true, cond_false, Bool.cond_decide, nI_add, nI_clamp, xin_n, dle_e, dlt_e, deq_e, xb_0, xb_1, decide_true, decide_false, Bool.not_true, Bool.not_false, Bool.and_true, Bool.true_and, Bool.and_false, Bool.false_and, Bool.true_or, Bool.false_or, Bool.or_true, Bool.or_false, if_true, if_false, up1_s, n_31, Int32.lt_irrefl, hi2, up1_up, up1_n, x1]
end RFS
section OWN
variable (d sl : Nat) (I : Nat → Nat → Int32) (A : Nat → Nat → Int32) (N : Nat → Nat → Int64) (V : Nat → Nat → Option Nat) (lt : Int64) (tw : Option Nat) (sp sr : Nat)
set_option maxRecDepth 100000 in
theorem n117_25 (x : Int32) : R (d + 1) 117 (25, [some (.ref 0), none], [.ref 146], sl, (CH I A N V lt tw sp sr [.inr (7, [.ref 1, .ref 12, .int x])])) =
    bC (C d 81 [.ref 146] sl (CH I A N V lt tw sp sr [.inr (7, [.ref 1, .ref 12, .int x])])) (fun vs sl h => R (d + 1) 117 (28, [some (.ref 0), none], vs ++ [], sl, h)) :=
  (R_gob [10, 25, 28, 33, 58, 73] 400 _ _ _).trans rfl
set_option maxRecDepth 100000 in
theorem n117_28 (b0 x : Int32) : R (d + 1) 117 (28, [some (.ref 0), none], [.int b0], sl, (CH I A N V lt tw sp sr [.inr (7, [.ref 1, .ref 12, .int x])])) =
    bC (C d 119 [.ref 0] sl (CH I A N V lt tw sp sr [.inr (7, [.ref 1, .ref 12, .int x])])) (fun vs sl h => R (d + 1) 117 (33, [some (.ref 0), some (.int b0)], vs ++ [], sl, h)) :=
  (R_gob [10, 25, 28, 33, 58, 73] 400 _ _ _).trans rfl
set_option maxRecDepth 100000 in
theorem n117_33 (a1 x : Int32) : R (d + 1) 117 (33, [some (.ref 0), some (.int a1)], [], sl, (CH I A N V lt tw sp sr [.inr (7, [.ref 1, .ref 12, .int x])])) =
    cond (decide ((nI 0) ≤ a1)) (bC (C d 44 [.ref 3, .ref 12] sl (CH I A N V lt tw sp sr [.inr (7, [.ref 1, .ref 12, .int x])])) (fun vs sl h => R (d + 1) 117 (58, [some (.ref 0), some (.int a1)], vs ++ [], sl, h))) (some (46, [some (.ref 0), some (.int a1)], [.int ((-1 : Int32) - (I 1 11))], sl, (CH I A N V lt tw sp sr [.inr (7, [.ref 1, .ref 12, .int x])]))) :=
  (R_gob [10, 25, 28, 33, 58, 73] 400 _ _ _).trans rfl
set_option maxRecDepth 100000 in
theorem n117_58_108 (a1 x : Int32) : R (d + 1) 117 (58, [some (.ref 0), some (.int a1)], [], sl, (CH I A N V lt tw 108 112 [.inr (7, [.ref 1, .ref 12, .int x])])) =
    bC (C d 29 [.ref 21] sl (CH (up1 I 108 (up1 (I 108) 3 (nI 0))) A N V lt tw 108 112 [.inr (7, [.ref 1, .ref 12, .int x])])) (fun vs sl h => R (d + 1) 117 (73, [some (.ref 0), some (.int a1)], vs ++ [], sl, h)) :=
  (R_gob [10, 25, 28, 33, 58, 73] 400 _ _ _).trans rfl
set_option maxRecDepth 100000 in
theorem n117_73_108 (a1 x : Int32) : R (d + 1) 117 (73, [some (.ref 0), some (.int a1)], [], sl, (CH I A N V lt tw 108 112 [.inr (7, [.ref 1, .ref 12, .int x])])) =
    some (74, [some (.ref 0), some (.int a1)], [.int a1], sl, (CH I A N V lt tw 108 112 [.inr (7, [.ref 1, .ref 12, .int x])])) :=
  (R_gob [10, 25, 28, 33, 58, 73] 400 _ _ _).trans rfl
set_option maxRecDepth 100000 in
theorem n117_58_112 (a1 x : Int32) : R (d + 1) 117 (58, [some (.ref 0), some (.int a1)], [], sl, (CH I A N V lt tw 112 108 [.inr (7, [.ref 1, .ref 12, .int x])])) =
    bC (C d 29 [.ref 21] sl (CH (up1 I 112 (up1 (I 112) 3 (nI 0))) A N V lt tw 112 108 [.inr (7, [.ref 1, .ref 12, .int x])])) (fun vs sl h => R (d + 1) 117 (73, [some (.ref 0), some (.int a1)], vs ++ [], sl, h)) :=
  (R_gob [10, 25, 28, 33, 58, 73] 400 _ _ _).trans rfl
set_option maxRecDepth 100000 in
theorem n117_73_112 (a1 x : Int32) : R (d + 1) 117 (73, [some (.ref 0), some (.int a1)], [], sl, (CH I A N V lt tw 112 108 [.inr (7, [.ref 1, .ref 12, .int x])])) =
    some (74, [some (.ref 0), some (.int a1)], [.int a1], sl, (CH I A N V lt tw 112 108 [.inr (7, [.ref 1, .ref 12, .int x])])) :=
  (R_gob [10, 25, 28, 33, 58, 73] 400 _ _ _).trans rfl
end OWN
