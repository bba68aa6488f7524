/-! SENTENCES copied -/
theorem Cm_w {W : Nat → Option Nat} {S T n : Nat → Int32} : ∀ (f i k : Nat), Cm W S T n f i k → i ≤ k ∧ ∀ j, i ≤ j → j ≤ k → ∃ a, a ≤ 20 ∧ W j = some (1000000 + a) := by
  intro f
  induction f with
  | zero => intro i k h; exact absurd h (by intro h; exact h)
  | succ f ih =>
    intro i k hc
    rcases hc with ⟨a, h1, h2, h3, h4, h5, h6, h7⟩ | ⟨x, h1, h2, h3, h4, h5⟩ | ⟨x, y, h1, h2, h3, h4, h5, h6, h7⟩ | ⟨x, y, h1, h2, h3, h4, h5, h6, h7⟩
    · refine ⟨by omega, fun j j1 j2 => ⟨a, h2, ?_⟩⟩
      rw [show j = k by omega]; exact h5
    · obtain ⟨a1, a2⟩ := ih _ _ h5
      refine ⟨by omega, fun j j1 j2 => ?_⟩
      by_cases hj : j = k
      · exact ⟨11, by decide, by rw [hj]; exact h4⟩
      · exact a2 j j1 (by omega)
    · obtain ⟨a1, a2⟩ := ih _ _ h6
      obtain ⟨b1, b2⟩ := ih _ _ h7
      refine ⟨by omega, fun j j1 j2 => ?_⟩
      by_cases hj : j = k
      · exact ⟨10, by decide, by rw [hj]; exact h5⟩
      · by_cases hx : j ≤ x
        · exact a2 j j1 hx
        · exact b2 j (by omega) (by omega)
    · obtain ⟨a1, a2⟩ := ih _ _ h6
      obtain ⟨b1, b2⟩ := ih _ _ h7
      refine ⟨by omega, fun j j1 j2 => ?_⟩
      by_cases hj : j = k
      · exact ⟨9, by decide, by rw [hj]; exact h5⟩
      · by_cases hx : j ≤ x
        · exact a2 j j1 hx
        · exact b2 j (by omega) (by omega)
section SNC
variable (d sl : Nat) (N : Nat → Nat → Int64) (lt : Int64) (tw : Option Nat) (sp sr : Nat) (X : List AC)
theorem q32_142_108 (hX : Nat.ble X.length 1 = true) {n : Nat} (hn : n ≤ 40) : ∀ (q i : Nat) (I A : Nat → Nat → Int32) (V : Nat → Nat → Option Nat), i + q = n → I 108 3 = nI n → I 142 3 = nI i → (∀ j, j < n → ∃ a, a ≤ 20 ∧ V 109 j = some (1000000 + a)) → (∀ j, j < i → V 143 j = V 109 j ∧ A 144 j = A 110 j ∧ A 145 j = A 111 j) → ∃ I' A' V', rt 32 (R (d + 1) 32 (7, [some (.ref 142), some (.ref 108), some (.int (nI i))], [], sl, CH I A N V lt tw sp sr X)) = some ([], sl, CH I' A' N V' lt tw sp sr X) ∧ I' 142 3 = nI n ∧ (∀ j, j < n → V' 143 j = V 109 j ∧ A' 144 j = A 110 j ∧ A' 145 j = A 111 j) ∧ (∀ q, q ≠ 142 → I' q = I q) ∧ (∀ q, q ≠ 144 → q ≠ 145 → A' q = A q) ∧ (∀ q, q ≠ 143 → V' q = V q) := by
  intro q
  induction q with
  | zero =>
    intro i I A V hi hs hd hw hc
    have h1 : n ≤ i := by omega
    refine ⟨I, A, V, ?_, by rw [hd, show i = n by omega], fun j hj => hc j (by omega), fun _ _ => rfl, fun _ _ _ => rfl, fun _ _ => rfl⟩
    rw [k32_r142_r108_7, hs]
    simp (disch := omega) only [rt_c, b_some, List.cons_append, List.nil_append, Bool.cond_not, cond_true, cond_false, Bool.cond_decide, nI_add, nI_clamp, xin_n, dle_e, dlt_e, deq_e, xb_0, xb_1, decide_true, decide_false, Bool.not_true, Bool.not_false, Bool.and_true, Bool.true_and, Bool.and_false, Bool.false_and, Bool.true_or, Bool.false_or, Bool.or_true, Bool.or_false, if_true, if_false, up1_s, n_31, Int32.lt_irrefl, h1, t32_43]
  | succ q ih =>
    intro i I A V hi hs hd hw hc
    have h1 : ¬ n ≤ i := by omega
    have h40 : ¬ 40 ≤ i := by omega
    obtain ⟨a, a1, a2⟩ := hw i (by omega)
    have hsw := isw_n a1
    have h31 : C d 31 [.ref 142, .ref (1000000 + a), .int (A 110 i), .int (A 111 i)] sl (CH I A N V lt tw sp sr X) = some ([], sl, CH (up1 I 142 (up1 (I 142) 3 (nI (i + 1)))) (up1 (up1 A 144 (upd (A 144) i (A 110 i))) 145 (upd (A 145) i (A 111 i))) N (up1 V 143 (va_up (V 143) i (some (1000000 + a)))) lt tw sp sr X) := by
      rw [e31, k31_r142_0, hd]
      simp (disch := omega) only [rt_c, b_some, List.cons_append, List.nil_append, Bool.cond_not, cond_true, cond_false, Bool.cond_decide, nI_add, nI_clamp, xin_n, dle_e, dlt_e, deq_e, xb_0, xb_1, decide_true, decide_false, Bool.not_true, Bool.not_false, Bool.and_true, Bool.true_and, Bool.and_false, Bool.false_and, Bool.true_or, Bool.false_or, Bool.or_true, Bool.or_false, if_true, if_false, up1_s, n_31, Int32.lt_irrefl, h40, k31_r142_18 _ _ _ _ _ _ _ _ _ _ _ _ _ _ _ _ hX hsw, k31_r142_19, hd, t31_49]
    obtain ⟨I', A', V', x1, x2, x3, x4, x5, x6⟩ := ih (i + 1) (up1 I 142 (up1 (I 142) 3 (nI (i + 1)))) (up1 (up1 A 144 (upd (A 144) i (A 110 i))) 145 (upd (A 145) i (A 111 i))) (up1 V 143 (va_up (V 143) i (some (1000000 + a)))) (by omega) (by rw [up1_n (by decide)]; exact hs) (by rw [up1_s, up1_s]) (fun j hj => by rw [up1_n (by decide)]; exact hw j hj) (fun j hj => by
      simp (disch := omega) only [up1_s, up1_n]
      by_cases hji : j = i
      · subst hji
        refine ⟨?_, upd_s, upd_s⟩
        rw [a2]
        simp [va_up]
      · rw [upd_n hji, upd_n hji]
        refine ⟨?_, (hc j (by omega)).2⟩
        rw [← (hc j (by omega)).1]
        simp [va_up, hji])
    refine ⟨I', A', V', ?_, x2, fun j hj => ?_, fun q hq => by rw [x4 q hq, up1_n hq], fun q q1 q2 => by rw [x5 q q1 q2, up1_n q2, up1_n q1], fun q hq => by rw [x6 q hq, up1_n hq]⟩
    · rw [k32_r142_r108_7, hs]
      simp (disch := omega) only [rt_c, b_some, List.cons_append, List.nil_append, Bool.cond_not, cond_true, cond_false, Bool.cond_decide, nI_add, nI_clamp, xin_n, dle_e, dlt_e, deq_e, xb_0, xb_1, decide_true, decide_false, Bool.not_true, Bool.not_false, Bool.and_true, Bool.true_and, Bool.and_false, Bool.false_and, Bool.true_or, Bool.false_or, Bool.or_true, Bool.or_false, if_true, if_false, up1_s, n_31, Int32.lt_irrefl, h1, a2, x_rf, k32_r142_r108_22_1, h31, k32_r142_r108_37, x1]
    · have := x3 j hj
      simp (disch := omega) only [up1_n] at this
      exact this
theorem q32_142_112 (hX : Nat.ble X.length 1 = true) {n : Nat} (hn : n ≤ 40) : ∀ (q i : Nat) (I A : Nat → Nat → Int32) (V : Nat → Nat → Option Nat), i + q = n → I 112 3 = nI n → I 142 3 = nI i → (∀ j, j < n → ∃ a, a ≤ 20 ∧ V 113 j = some (1000000 + a)) → (∀ j, j < i → V 143 j = V 113 j ∧ A 144 j = A 114 j ∧ A 145 j = A 115 j) → ∃ I' A' V', rt 32 (R (d + 1) 32 (7, [some (.ref 142), some (.ref 112), some (.int (nI i))], [], sl, CH I A N V lt tw sp sr X)) = some ([], sl, CH I' A' N V' lt tw sp sr X) ∧ I' 142 3 = nI n ∧ (∀ j, j < n → V' 143 j = V 113 j ∧ A' 144 j = A 114 j ∧ A' 145 j = A 115 j) ∧ (∀ q, q ≠ 142 → I' q = I q) ∧ (∀ q, q ≠ 144 → q ≠ 145 → A' q = A q) ∧ (∀ q, q ≠ 143 → V' q = V q) := by
  intro q
  induction q with
  | zero =>
    intro i I A V hi hs hd hw hc
    have h1 : n ≤ i := by omega
    refine ⟨I, A, V, ?_, by rw [hd, show i = n by omega], fun j hj => hc j (by omega), fun _ _ => rfl, fun _ _ _ => rfl, fun _ _ => rfl⟩
    rw [k32_r142_r112_7, hs]
    simp (disch := omega) only [rt_c, b_some, List.cons_append, List.nil_append, Bool.cond_not, cond_true, cond_false, Bool.cond_decide, nI_add, nI_clamp, xin_n, dle_e, dlt_e, deq_e, xb_0, xb_1, decide_true, decide_false, Bool.not_true, Bool.not_false, Bool.and_true, Bool.true_and, Bool.and_false, Bool.false_and, Bool.true_or, Bool.false_or, Bool.or_true, Bool.or_false, if_true, if_false, up1_s, n_31, Int32.lt_irrefl, h1, t32_43]
  | succ q ih =>
    intro i I A V hi hs hd hw hc
    have h1 : ¬ n ≤ i := by omega
    have h40 : ¬ 40 ≤ i := by omega
    obtain ⟨a, a1, a2⟩ := hw i (by omega)
    have hsw := isw_n a1
    have h31 : C d 31 [.ref 142, .ref (1000000 + a), .int (A 114 i), .int (A 115 i)] sl (CH I A N V lt tw sp sr X) = some ([], sl, CH (up1 I 142 (up1 (I 142) 3 (nI (i + 1)))) (up1 (up1 A 144 (upd (A 144) i (A 114 i))) 145 (upd (A 145) i (A 115 i))) N (up1 V 143 (va_up (V 143) i (some (1000000 + a)))) lt tw sp sr X) := by
      rw [e31, k31_r142_0, hd]
      simp (disch := omega) only [rt_c, b_some, List.cons_append, List.nil_append, Bool.cond_not, cond_true, cond_false, Bool.cond_decide, nI_add, nI_clamp, xin_n, dle_e, dlt_e, deq_e, xb_0, xb_1, decide_true, decide_false, Bool.not_true, Bool.not_false, Bool.and_true, Bool.true_and, Bool.and_false, Bool.false_and, Bool.true_or, Bool.false_or, Bool.or_true, Bool.or_false, if_true, if_false, up1_s, n_31, Int32.lt_irrefl, h40, k31_r142_18 _ _ _ _ _ _ _ _ _ _ _ _ _ _ _ _ hX hsw, k31_r142_19, hd, t31_49]
    obtain ⟨I', A', V', x1, x2, x3, x4, x5, x6⟩ := ih (i + 1) (up1 I 142 (up1 (I 142) 3 (nI (i + 1)))) (up1 (up1 A 144 (upd (A 144) i (A 114 i))) 145 (upd (A 145) i (A 115 i))) (up1 V 143 (va_up (V 143) i (some (1000000 + a)))) (by omega) (by rw [up1_n (by decide)]; exact hs) (by rw [up1_s, up1_s]) (fun j hj => by rw [up1_n (by decide)]; exact hw j hj) (fun j hj => by
      simp (disch := omega) only [up1_s, up1_n]
      by_cases hji : j = i
      · subst hji
        refine ⟨?_, upd_s, upd_s⟩
        rw [a2]
        simp [va_up]
      · rw [upd_n hji, upd_n hji]
        refine ⟨?_, (hc j (by omega)).2⟩
        rw [← (hc j (by omega)).1]
        simp [va_up, hji])
    refine ⟨I', A', V', ?_, x2, fun j hj => ?_, fun q hq => by rw [x4 q hq, up1_n hq], fun q q1 q2 => by rw [x5 q q1 q2, up1_n q2, up1_n q1], fun q hq => by rw [x6 q hq, up1_n hq]⟩
    · rw [k32_r142_r112_7, hs]
      simp (disch := omega) only [rt_c, b_some, List.cons_append, List.nil_append, Bool.cond_not, cond_true, cond_false, Bool.cond_decide, nI_add, nI_clamp, xin_n, dle_e, dlt_e, deq_e, xb_0, xb_1, decide_true, decide_false, Bool.not_true, Bool.not_false, Bool.and_true, Bool.true_and, Bool.and_false, Bool.false_and, Bool.true_or, Bool.false_or, Bool.or_true, Bool.or_false, if_true, if_false, up1_s, n_31, Int32.lt_irrefl, h1, a2, x_rf, k32_r142_r112_22_1, h31, k32_r142_r112_37, x1]
    · have := x3 j hj
      simp (disch := omega) only [up1_n] at this
      exact this
theorem q32_129_108 (hX : Nat.ble X.length 1 = true) {n : Nat} (hn : n ≤ 40) : ∀ (q i : Nat) (I A : Nat → Nat → Int32) (V : Nat → Nat → Option Nat), i + q = n → I 108 3 = nI n → I 129 3 = nI i → (∀ j, j < n → ∃ a, a ≤ 20 ∧ V 109 j = some (1000000 + a)) → (∀ j, j < i → V 130 j = V 109 j ∧ A 131 j = A 110 j ∧ A 132 j = A 111 j) → ∃ I' A' V', rt 32 (R (d + 1) 32 (7, [some (.ref 129), some (.ref 108), some (.int (nI i))], [], sl, CH I A N V lt tw sp sr X)) = some ([], sl, CH I' A' N V' lt tw sp sr X) ∧ I' 129 3 = nI n ∧ (∀ j, j < n → V' 130 j = V 109 j ∧ A' 131 j = A 110 j ∧ A' 132 j = A 111 j) ∧ (∀ q, q ≠ 129 → I' q = I q) ∧ (∀ q, q ≠ 131 → q ≠ 132 → A' q = A q) ∧ (∀ q, q ≠ 130 → V' q = V q) := by
  intro q
  induction q with
  | zero =>
    intro i I A V hi hs hd hw hc
    have h1 : n ≤ i := by omega
    refine ⟨I, A, V, ?_, by rw [hd, show i = n by omega], fun j hj => hc j (by omega), fun _ _ => rfl, fun _ _ _ => rfl, fun _ _ => rfl⟩
    rw [k32_r129_r108_7, hs]
    simp (disch := omega) only [rt_c, b_some, List.cons_append, List.nil_append, Bool.cond_not, cond_true, cond_false, Bool.cond_decide, nI_add, nI_clamp, xin_n, dle_e, dlt_e, deq_e, xb_0, xb_1, decide_true, decide_false, Bool.not_true, Bool.not_false, Bool.and_true, Bool.true_and, Bool.and_false, Bool.false_and, Bool.true_or, Bool.false_or, Bool.or_true, Bool.or_false, if_true, if_false, up1_s, n_31, Int32.lt_irrefl, h1, t32_43]
  | succ q ih =>
    intro i I A V hi hs hd hw hc
    have h1 : ¬ n ≤ i := by omega
    have h40 : ¬ 40 ≤ i := by omega
    obtain ⟨a, a1, a2⟩ := hw i (by omega)
    have hsw := isw_n a1
    have h31 : C d 31 [.ref 129, .ref (1000000 + a), .int (A 110 i), .int (A 111 i)] sl (CH I A N V lt tw sp sr X) = some ([], sl, CH (up1 I 129 (up1 (I 129) 3 (nI (i + 1)))) (up1 (up1 A 131 (upd (A 131) i (A 110 i))) 132 (upd (A 132) i (A 111 i))) N (up1 V 130 (va_up (V 130) i (some (1000000 + a)))) lt tw sp sr X) := by
      rw [e31, k31_r129_0, hd]
      simp (disch := omega) only [rt_c, b_some, List.cons_append, List.nil_append, Bool.cond_not, cond_true, cond_false, Bool.cond_decide, nI_add, nI_clamp, xin_n, dle_e, dlt_e, deq_e, xb_0, xb_1, decide_true, decide_false, Bool.not_true, Bool.not_false, Bool.and_true, Bool.true_and, Bool.and_false, Bool.false_and, Bool.true_or, Bool.false_or, Bool.or_true, Bool.or_false, if_true, if_false, up1_s, n_31, Int32.lt_irrefl, h40, k31_r129_18 _ _ _ _ _ _ _ _ _ _ _ _ _ _ _ _ hX hsw, k31_r129_19, hd, t31_49]
    obtain ⟨I', A', V', x1, x2, x3, x4, x5, x6⟩ := ih (i + 1) (up1 I 129 (up1 (I 129) 3 (nI (i + 1)))) (up1 (up1 A 131 (upd (A 131) i (A 110 i))) 132 (upd (A 132) i (A 111 i))) (up1 V 130 (va_up (V 130) i (some (1000000 + a)))) (by omega) (by rw [up1_n (by decide)]; exact hs) (by rw [up1_s, up1_s]) (fun j hj => by rw [up1_n (by decide)]; exact hw j hj) (fun j hj => by
      simp (disch := omega) only [up1_s, up1_n]
      by_cases hji : j = i
      · subst hji
        refine ⟨?_, upd_s, upd_s⟩
        rw [a2]
        simp [va_up]
      · rw [upd_n hji, upd_n hji]
        refine ⟨?_, (hc j (by omega)).2⟩
        rw [← (hc j (by omega)).1]
        simp [va_up, hji])
    refine ⟨I', A', V', ?_, x2, fun j hj => ?_, fun q hq => by rw [x4 q hq, up1_n hq], fun q q1 q2 => by rw [x5 q q1 q2, up1_n q2, up1_n q1], fun q hq => by rw [x6 q hq, up1_n hq]⟩
    · rw [k32_r129_r108_7, hs]
      simp (disch := omega) only [rt_c, b_some, List.cons_append, List.nil_append, Bool.cond_not, cond_true, cond_false, Bool.cond_decide, nI_add, nI_clamp, xin_n, dle_e, dlt_e, deq_e, xb_0, xb_1, decide_true, decide_false, Bool.not_true, Bool.not_false, Bool.and_true, Bool.true_and, Bool.and_false, Bool.false_and, Bool.true_or, Bool.false_or, Bool.or_true, Bool.or_false, if_true, if_false, up1_s, n_31, Int32.lt_irrefl, h1, a2, x_rf, k32_r129_r108_22_1, h31, k32_r129_r108_37, x1]
    · have := x3 j hj
      simp (disch := omega) only [up1_n] at this
      exact this
theorem q32_129_112 (hX : Nat.ble X.length 1 = true) {n : Nat} (hn : n ≤ 40) : ∀ (q i : Nat) (I A : Nat → Nat → Int32) (V : Nat → Nat → Option Nat), i + q = n → I 112 3 = nI n → I 129 3 = nI i → (∀ j, j < n → ∃ a, a ≤ 20 ∧ V 113 j = some (1000000 + a)) → (∀ j, j < i → V 130 j = V 113 j ∧ A 131 j = A 114 j ∧ A 132 j = A 115 j) → ∃ I' A' V', rt 32 (R (d + 1) 32 (7, [some (.ref 129), some (.ref 112), some (.int (nI i))], [], sl, CH I A N V lt tw sp sr X)) = some ([], sl, CH I' A' N V' lt tw sp sr X) ∧ I' 129 3 = nI n ∧ (∀ j, j < n → V' 130 j = V 113 j ∧ A' 131 j = A 114 j ∧ A' 132 j = A 115 j) ∧ (∀ q, q ≠ 129 → I' q = I q) ∧ (∀ q, q ≠ 131 → q ≠ 132 → A' q = A q) ∧ (∀ q, q ≠ 130 → V' q = V q) := by
  intro q
  induction q with
  | zero =>
    intro i I A V hi hs hd hw hc
    have h1 : n ≤ i := by omega
    refine ⟨I, A, V, ?_, by rw [hd, show i = n by omega], fun j hj => hc j (by omega), fun _ _ => rfl, fun _ _ _ => rfl, fun _ _ => rfl⟩
    rw [k32_r129_r112_7, hs]
    simp (disch := omega) only [rt_c, b_some, List.cons_append, List.nil_append, Bool.cond_not, cond_true, cond_false, Bool.cond_decide, nI_add, nI_clamp, xin_n, dle_e, dlt_e, deq_e, xb_0, xb_1, decide_true, decide_false, Bool.not_true, Bool.not_false, Bool.and_true, Bool.true_and, Bool.and_false, Bool.false_and, Bool.true_or, Bool.false_or, Bool.or_true, Bool.or_false, if_true, if_false, up1_s, n_31, Int32.lt_irrefl, h1, t32_43]
  | succ q ih =>
    intro i I A V hi hs hd hw hc
    have h1 : ¬ n ≤ i := by omega
    have h40 : ¬ 40 ≤ i := by omega
    obtain ⟨a, a1, a2⟩ := hw i (by omega)
    have hsw := isw_n a1
    have h31 : C d 31 [.ref 129, .ref (1000000 + a), .int (A 114 i), .int (A 115 i)] sl (CH I A N V lt tw sp sr X) = some ([], sl, CH (up1 I 129 (up1 (I 129) 3 (nI (i + 1)))) (up1 (up1 A 131 (upd (A 131) i (A 114 i))) 132 (upd (A 132) i (A 115 i))) N (up1 V 130 (va_up (V 130) i (some (1000000 + a)))) lt tw sp sr X) := by
      rw [e31, k31_r129_0, hd]
      simp (disch := omega) only [rt_c, b_some, List.cons_append, List.nil_append, Bool.cond_not, cond_true, cond_false, Bool.cond_decide, nI_add, nI_clamp, xin_n, dle_e, dlt_e, deq_e, xb_0, xb_1, decide_true, decide_false, Bool.not_true, Bool.not_false, Bool.and_true, Bool.true_and, Bool.and_false, Bool.false_and, Bool.true_or, Bool.false_or, Bool.or_true, Bool.or_false, if_true, if_false, up1_s, n_31, Int32.lt_irrefl, h40, k31_r129_18 _ _ _ _ _ _ _ _ _ _ _ _ _ _ _ _ hX hsw, k31_r129_19, hd, t31_49]
    obtain ⟨I', A', V', x1, x2, x3, x4, x5, x6⟩ := ih (i + 1) (up1 I 129 (up1 (I 129) 3 (nI (i + 1)))) (up1 (up1 A 131 (upd (A 131) i (A 114 i))) 132 (upd (A 132) i (A 115 i))) (up1 V 130 (va_up (V 130) i (some (1000000 + a)))) (by omega) (by rw [up1_n (by decide)]; exact hs) (by rw [up1_s, up1_s]) (fun j hj => by rw [up1_n (by decide)]; exact hw j hj) (fun j hj => by
      simp (disch := omega) only [up1_s, up1_n]
      by_cases hji : j = i
      · subst hji
        refine ⟨?_, upd_s, upd_s⟩
        rw [a2]
        simp [va_up]
      · rw [upd_n hji, upd_n hji]
        refine ⟨?_, (hc j (by omega)).2⟩
        rw [← (hc j (by omega)).1]
        simp [va_up, hji])
    refine ⟨I', A', V', ?_, x2, fun j hj => ?_, fun q hq => by rw [x4 q hq, up1_n hq], fun q q1 q2 => by rw [x5 q q1 q2, up1_n q2, up1_n q1], fun q hq => by rw [x6 q hq, up1_n hq]⟩
    · rw [k32_r129_r112_7, hs]
      simp (disch := omega) only [rt_c, b_some, List.cons_append, List.nil_append, Bool.cond_not, cond_true, cond_false, Bool.cond_decide, nI_add, nI_clamp, xin_n, dle_e, dlt_e, deq_e, xb_0, xb_1, decide_true, decide_false, Bool.not_true, Bool.not_false, Bool.and_true, Bool.true_and, Bool.and_false, Bool.false_and, Bool.true_or, Bool.false_or, Bool.or_true, Bool.or_false, if_true, if_false, up1_s, n_31, Int32.lt_irrefl, h1, a2, x_rf, k32_r129_r112_22_1, h31, k32_r129_r112_37, x1]
    · have := x3 j hj
      simp (disch := omega) only [up1_n] at this
      exact this
theorem q32_112_142 (hX : Nat.ble X.length 1 = true) {n : Nat} (hn : n ≤ 40) : ∀ (q i : Nat) (I A : Nat → Nat → Int32) (V : Nat → Nat → Option Nat), i + q = n → I 142 3 = nI n → I 112 3 = nI i → (∀ j, j < n → ∃ a, a ≤ 20 ∧ V 143 j = some (1000000 + a)) → (∀ j, j < i → V 113 j = V 143 j ∧ A 114 j = A 144 j ∧ A 115 j = A 145 j) → ∃ I' A' V', rt 32 (R (d + 1) 32 (7, [some (.ref 112), some (.ref 142), some (.int (nI i))], [], sl, CH I A N V lt tw sp sr X)) = some ([], sl, CH I' A' N V' lt tw sp sr X) ∧ I' 112 3 = nI n ∧ (∀ j, j < n → V' 113 j = V 143 j ∧ A' 114 j = A 144 j ∧ A' 115 j = A 145 j) ∧ (∀ q, q ≠ 112 → I' q = I q) ∧ (∀ q, q ≠ 114 → q ≠ 115 → A' q = A q) ∧ (∀ q, q ≠ 113 → V' q = V q) := by
  intro q
  induction q with
  | zero =>
    intro i I A V hi hs hd hw hc
    have h1 : n ≤ i := by omega
    refine ⟨I, A, V, ?_, by rw [hd, show i = n by omega], fun j hj => hc j (by omega), fun _ _ => rfl, fun _ _ _ => rfl, fun _ _ => rfl⟩
    rw [k32_r112_r142_7, hs]
    simp (disch := omega) only [rt_c, b_some, List.cons_append, List.nil_append, Bool.cond_not, cond_true, cond_false, Bool.cond_decide, nI_add, nI_clamp, xin_n, dle_e, dlt_e, deq_e, xb_0, xb_1, decide_true, decide_false, Bool.not_true, Bool.not_false, Bool.and_true, Bool.true_and, Bool.and_false, Bool.false_and, Bool.true_or, Bool.false_or, Bool.or_true, Bool.or_false, if_true, if_false, up1_s, n_31, Int32.lt_irrefl, h1, t32_43]
  | succ q ih =>
    intro i I A V hi hs hd hw hc
    have h1 : ¬ n ≤ i := by omega
    have h40 : ¬ 40 ≤ i := by omega
    obtain ⟨a, a1, a2⟩ := hw i (by omega)
    have hsw := isw_n a1
    have h31 : C d 31 [.ref 112, .ref (1000000 + a), .int (A 144 i), .int (A 145 i)] sl (CH I A N V lt tw sp sr X) = some ([], sl, CH (up1 I 112 (up1 (I 112) 3 (nI (i + 1)))) (up1 (up1 A 114 (upd (A 114) i (A 144 i))) 115 (upd (A 115) i (A 145 i))) N (up1 V 113 (va_up (V 113) i (some (1000000 + a)))) lt tw sp sr X) := by
      rw [e31, k31_r112_0, hd]
      simp (disch := omega) only [rt_c, b_some, List.cons_append, List.nil_append, Bool.cond_not, cond_true, cond_false, Bool.cond_decide, nI_add, nI_clamp, xin_n, dle_e, dlt_e, deq_e, xb_0, xb_1, decide_true, decide_false, Bool.not_true, Bool.not_false, Bool.and_true, Bool.true_and, Bool.and_false, Bool.false_and, Bool.true_or, Bool.false_or, Bool.or_true, Bool.or_false, if_true, if_false, up1_s, n_31, Int32.lt_irrefl, h40, k31_r112_18 _ _ _ _ _ _ _ _ _ _ _ _ _ _ _ _ hX hsw, k31_r112_19, hd, t31_49]
    obtain ⟨I', A', V', x1, x2, x3, x4, x5, x6⟩ := ih (i + 1) (up1 I 112 (up1 (I 112) 3 (nI (i + 1)))) (up1 (up1 A 114 (upd (A 114) i (A 144 i))) 115 (upd (A 115) i (A 145 i))) (up1 V 113 (va_up (V 113) i (some (1000000 + a)))) (by omega) (by rw [up1_n (by decide)]; exact hs) (by rw [up1_s, up1_s]) (fun j hj => by rw [up1_n (by decide)]; exact hw j hj) (fun j hj => by
      simp (disch := omega) only [up1_s, up1_n]
      by_cases hji : j = i
      · subst hji
        refine ⟨?_, upd_s, upd_s⟩
        rw [a2]
        simp [va_up]
      · rw [upd_n hji, upd_n hji]
        refine ⟨?_, (hc j (by omega)).2⟩
        rw [← (hc j (by omega)).1]
        simp [va_up, hji])
    refine ⟨I', A', V', ?_, x2, fun j hj => ?_, fun q hq => by rw [x4 q hq, up1_n hq], fun q q1 q2 => by rw [x5 q q1 q2, up1_n q2, up1_n q1], fun q hq => by rw [x6 q hq, up1_n hq]⟩
    · rw [k32_r112_r142_7, hs]
      simp (disch := omega) only [rt_c, b_some, List.cons_append, List.nil_append, Bool.cond_not, cond_true, cond_false, Bool.cond_decide, nI_add, nI_clamp, xin_n, dle_e, dlt_e, deq_e, xb_0, xb_1, decide_true, decide_false, Bool.not_true, Bool.not_false, Bool.and_true, Bool.true_and, Bool.and_false, Bool.false_and, Bool.true_or, Bool.false_or, Bool.or_true, Bool.or_false, if_true, if_false, up1_s, n_31, Int32.lt_irrefl, h1, a2, x_rf, k32_r112_r142_22_1, h31, k32_r112_r142_37, x1]
    · have := x3 j hj
      simp (disch := omega) only [up1_n] at this
      exact this
theorem q32_108_142 (hX : Nat.ble X.length 1 = true) {n : Nat} (hn : n ≤ 40) : ∀ (q i : Nat) (I A : Nat → Nat → Int32) (V : Nat → Nat → Option Nat), i + q = n → I 142 3 = nI n → I 108 3 = nI i → (∀ j, j < n → ∃ a, a ≤ 20 ∧ V 143 j = some (1000000 + a)) → (∀ j, j < i → V 109 j = V 143 j ∧ A 110 j = A 144 j ∧ A 111 j = A 145 j) → ∃ I' A' V', rt 32 (R (d + 1) 32 (7, [some (.ref 108), some (.ref 142), some (.int (nI i))], [], sl, CH I A N V lt tw sp sr X)) = some ([], sl, CH I' A' N V' lt tw sp sr X) ∧ I' 108 3 = nI n ∧ (∀ j, j < n → V' 109 j = V 143 j ∧ A' 110 j = A 144 j ∧ A' 111 j = A 145 j) ∧ (∀ q, q ≠ 108 → I' q = I q) ∧ (∀ q, q ≠ 110 → q ≠ 111 → A' q = A q) ∧ (∀ q, q ≠ 109 → V' q = V q) := by
  intro q
  induction q with
  | zero =>
    intro i I A V hi hs hd hw hc
    have h1 : n ≤ i := by omega
    refine ⟨I, A, V, ?_, by rw [hd, show i = n by omega], fun j hj => hc j (by omega), fun _ _ => rfl, fun _ _ _ => rfl, fun _ _ => rfl⟩
    rw [k32_r108_r142_7, hs]
    simp (disch := omega) only [rt_c, b_some, List.cons_append, List.nil_append, Bool.cond_not, cond_true, cond_false, Bool.cond_decide, nI_add, nI_clamp, xin_n, dle_e, dlt_e, deq_e, xb_0, xb_1, decide_true, decide_false, Bool.not_true, Bool.not_false, Bool.and_true, Bool.true_and, Bool.and_false, Bool.false_and, Bool.true_or, Bool.false_or, Bool.or_true, Bool.or_false, if_true, if_false, up1_s, n_31, Int32.lt_irrefl, h1, t32_43]
  | succ q ih =>
    intro i I A V hi hs hd hw hc
    have h1 : ¬ n ≤ i := by omega
    have h40 : ¬ 40 ≤ i := by omega
    obtain ⟨a, a1, a2⟩ := hw i (by omega)
    have hsw := isw_n a1
    have h31 : C d 31 [.ref 108, .ref (1000000 + a), .int (A 144 i), .int (A 145 i)] sl (CH I A N V lt tw sp sr X) = some ([], sl, CH (up1 I 108 (up1 (I 108) 3 (nI (i + 1)))) (up1 (up1 A 110 (upd (A 110) i (A 144 i))) 111 (upd (A 111) i (A 145 i))) N (up1 V 109 (va_up (V 109) i (some (1000000 + a)))) lt tw sp sr X) := by
      rw [e31, k31_r108_0, hd]
      simp (disch := omega) only [rt_c, b_some, List.cons_append, List.nil_append, Bool.cond_not, cond_true, cond_false, Bool.cond_decide, nI_add, nI_clamp, xin_n, dle_e, dlt_e, deq_e, xb_0, xb_1, decide_true, decide_false, Bool.not_true, Bool.not_false, Bool.and_true, Bool.true_and, Bool.and_false, Bool.false_and, Bool.true_or, Bool.false_or, Bool.or_true, Bool.or_false, if_true, if_false, up1_s, n_31, Int32.lt_irrefl, h40, k31_r108_18 _ _ _ _ _ _ _ _ _ _ _ _ _ _ _ _ hX hsw, k31_r108_19, hd, t31_49]
    obtain ⟨I', A', V', x1, x2, x3, x4, x5, x6⟩ := ih (i + 1) (up1 I 108 (up1 (I 108) 3 (nI (i + 1)))) (up1 (up1 A 110 (upd (A 110) i (A 144 i))) 111 (upd (A 111) i (A 145 i))) (up1 V 109 (va_up (V 109) i (some (1000000 + a)))) (by omega) (by rw [up1_n (by decide)]; exact hs) (by rw [up1_s, up1_s]) (fun j hj => by rw [up1_n (by decide)]; exact hw j hj) (fun j hj => by
      simp (disch := omega) only [up1_s, up1_n]
      by_cases hji : j = i
      · subst hji
        refine ⟨?_, upd_s, upd_s⟩
        rw [a2]
        simp [va_up]
      · rw [upd_n hji, upd_n hji]
        refine ⟨?_, (hc j (by omega)).2⟩
        rw [← (hc j (by omega)).1]
        simp [va_up, hji])
    refine ⟨I', A', V', ?_, x2, fun j hj => ?_, fun q hq => by rw [x4 q hq, up1_n hq], fun q q1 q2 => by rw [x5 q q1 q2, up1_n q2, up1_n q1], fun q hq => by rw [x6 q hq, up1_n hq]⟩
    · rw [k32_r108_r142_7, hs]
      simp (disch := omega) only [rt_c, b_some, List.cons_append, List.nil_append, Bool.cond_not, cond_true, cond_false, Bool.cond_decide, nI_add, nI_clamp, xin_n, dle_e, dlt_e, deq_e, xb_0, xb_1, decide_true, decide_false, Bool.not_true, Bool.not_false, Bool.and_true, Bool.true_and, Bool.and_false, Bool.false_and, Bool.true_or, Bool.false_or, Bool.or_true, Bool.or_false, if_true, if_false, up1_s, n_31, Int32.lt_irrefl, h1, a2, x_rf, k32_r108_r142_22_1, h31, k32_r108_r142_37, x1]
    · have := x3 j hj
      simp (disch := omega) only [up1_n] at this
      exact this
theorem q32_112_129 (hX : Nat.ble X.length 1 = true) {n : Nat} (hn : n ≤ 40) : ∀ (q i : Nat) (I A : Nat → Nat → Int32) (V : Nat → Nat → Option Nat), i + q = n → I 129 3 = nI n → I 112 3 = nI i → (∀ j, j < n → ∃ a, a ≤ 20 ∧ V 130 j = some (1000000 + a)) → (∀ j, j < i → V 113 j = V 130 j ∧ A 114 j = A 131 j ∧ A 115 j = A 132 j) → ∃ I' A' V', rt 32 (R (d + 1) 32 (7, [some (.ref 112), some (.ref 129), some (.int (nI i))], [], sl, CH I A N V lt tw sp sr X)) = some ([], sl, CH I' A' N V' lt tw sp sr X) ∧ I' 112 3 = nI n ∧ (∀ j, j < n → V' 113 j = V 130 j ∧ A' 114 j = A 131 j ∧ A' 115 j = A 132 j) ∧ (∀ q, q ≠ 112 → I' q = I q) ∧ (∀ q, q ≠ 114 → q ≠ 115 → A' q = A q) ∧ (∀ q, q ≠ 113 → V' q = V q) := by
  intro q
  induction q with
  | zero =>
    intro i I A V hi hs hd hw hc
    have h1 : n ≤ i := by omega
    refine ⟨I, A, V, ?_, by rw [hd, show i = n by omega], fun j hj => hc j (by omega), fun _ _ => rfl, fun _ _ _ => rfl, fun _ _ => rfl⟩
    rw [k32_r112_r129_7, hs]
    simp (disch := omega) only [rt_c, b_some, List.cons_append, List.nil_append, Bool.cond_not, cond_true, cond_false, Bool.cond_decide, nI_add, nI_clamp, xin_n, dle_e, dlt_e, deq_e, xb_0, xb_1, decide_true, decide_false, Bool.not_true, Bool.not_false, Bool.and_true, Bool.true_and, Bool.and_false, Bool.false_and, Bool.true_or, Bool.false_or, Bool.or_true, Bool.or_false, if_true, if_false, up1_s, n_31, Int32.lt_irrefl, h1, t32_43]
  | succ q ih =>
    intro i I A V hi hs hd hw hc
    have h1 : ¬ n ≤ i := by omega
    have h40 : ¬ 40 ≤ i := by omega
    obtain ⟨a, a1, a2⟩ := hw i (by omega)
    have hsw := isw_n a1
    have h31 : C d 31 [.ref 112, .ref (1000000 + a), .int (A 131 i), .int (A 132 i)] sl (CH I A N V lt tw sp sr X) = some ([], sl, CH (up1 I 112 (up1 (I 112) 3 (nI (i + 1)))) (up1 (up1 A 114 (upd (A 114) i (A 131 i))) 115 (upd (A 115) i (A 132 i))) N (up1 V 113 (va_up (V 113) i (some (1000000 + a)))) lt tw sp sr X) := by
      rw [e31, k31_r112_0, hd]
      simp (disch := omega) only [rt_c, b_some, List.cons_append, List.nil_append, Bool.cond_not, cond_true, cond_false, Bool.cond_decide, nI_add, nI_clamp, xin_n, dle_e, dlt_e, deq_e, xb_0, xb_1, decide_true, decide_false, Bool.not_true, Bool.not_false, Bool.and_true, Bool.true_and, Bool.and_false, Bool.false_and, Bool.true_or, Bool.false_or, Bool.or_true, Bool.or_false, if_true, if_false, up1_s, n_31, Int32.lt_irrefl, h40, k31_r112_18 _ _ _ _ _ _ _ _ _ _ _ _ _ _ _ _ hX hsw, k31_r112_19, hd, t31_49]
    obtain ⟨I', A', V', x1, x2, x3, x4, x5, x6⟩ := ih (i + 1) (up1 I 112 (up1 (I 112) 3 (nI (i + 1)))) (up1 (up1 A 114 (upd (A 114) i (A 131 i))) 115 (upd (A 115) i (A 132 i))) (up1 V 113 (va_up (V 113) i (some (1000000 + a)))) (by omega) (by rw [up1_n (by decide)]; exact hs) (by rw [up1_s, up1_s]) (fun j hj => by rw [up1_n (by decide)]; exact hw j hj) (fun j hj => by
      simp (disch := omega) only [up1_s, up1_n]
      by_cases hji : j = i
      · subst hji
        refine ⟨?_, upd_s, upd_s⟩
        rw [a2]
        simp [va_up]
      · rw [upd_n hji, upd_n hji]
        refine ⟨?_, (hc j (by omega)).2⟩
        rw [← (hc j (by omega)).1]
        simp [va_up, hji])
    refine ⟨I', A', V', ?_, x2, fun j hj => ?_, fun q hq => by rw [x4 q hq, up1_n hq], fun q q1 q2 => by rw [x5 q q1 q2, up1_n q2, up1_n q1], fun q hq => by rw [x6 q hq, up1_n hq]⟩
    · rw [k32_r112_r129_7, hs]
      simp (disch := omega) only [rt_c, b_some, List.cons_append, List.nil_append, Bool.cond_not, cond_true, cond_false, Bool.cond_decide, nI_add, nI_clamp, xin_n, dle_e, dlt_e, deq_e, xb_0, xb_1, decide_true, decide_false, Bool.not_true, Bool.not_false, Bool.and_true, Bool.true_and, Bool.and_false, Bool.false_and, Bool.true_or, Bool.false_or, Bool.or_true, Bool.or_false, if_true, if_false, up1_s, n_31, Int32.lt_irrefl, h1, a2, x_rf, k32_r112_r129_22_1, h31, k32_r112_r129_37, x1]
    · have := x3 j hj
      simp (disch := omega) only [up1_n] at this
      exact this
theorem q32_108_129 (hX : Nat.ble X.length 1 = true) {n : Nat} (hn : n ≤ 40) : ∀ (q i : Nat) (I A : Nat → Nat → Int32) (V : Nat → Nat → Option Nat), i + q = n → I 129 3 = nI n → I 108 3 = nI i → (∀ j, j < n → ∃ a, a ≤ 20 ∧ V 130 j = some (1000000 + a)) → (∀ j, j < i → V 109 j = V 130 j ∧ A 110 j = A 131 j ∧ A 111 j = A 132 j) → ∃ I' A' V', rt 32 (R (d + 1) 32 (7, [some (.ref 108), some (.ref 129), some (.int (nI i))], [], sl, CH I A N V lt tw sp sr X)) = some ([], sl, CH I' A' N V' lt tw sp sr X) ∧ I' 108 3 = nI n ∧ (∀ j, j < n → V' 109 j = V 130 j ∧ A' 110 j = A 131 j ∧ A' 111 j = A 132 j) ∧ (∀ q, q ≠ 108 → I' q = I q) ∧ (∀ q, q ≠ 110 → q ≠ 111 → A' q = A q) ∧ (∀ q, q ≠ 109 → V' q = V q) := by
  intro q
  induction q with
  | zero =>
    intro i I A V hi hs hd hw hc
    have h1 : n ≤ i := by omega
    refine ⟨I, A, V, ?_, by rw [hd, show i = n by omega], fun j hj => hc j (by omega), fun _ _ => rfl, fun _ _ _ => rfl, fun _ _ => rfl⟩
    rw [k32_r108_r129_7, hs]
    simp (disch := omega) only [rt_c, b_some, List.cons_append, List.nil_append, Bool.cond_not, cond_true, cond_false, Bool.cond_decide, nI_add, nI_clamp, xin_n, dle_e, dlt_e, deq_e, xb_0, xb_1, decide_true, decide_false, Bool.not_true, Bool.not_false, Bool.and_true, Bool.true_and, Bool.and_false, Bool.false_and, Bool.true_or, Bool.false_or, Bool.or_true, Bool.or_false, if_true, if_false, up1_s, n_31, Int32.lt_irrefl, h1, t32_43]
  | succ q ih =>
    intro i I A V hi hs hd hw hc
    have h1 : ¬ n ≤ i := by omega
    have h40 : ¬ 40 ≤ i := by omega
    obtain ⟨a, a1, a2⟩ := hw i (by omega)
    have hsw := isw_n a1
    have h31 : C d 31 [.ref 108, .ref (1000000 + a), .int (A 131 i), .int (A 132 i)] sl (CH I A N V lt tw sp sr X) = some ([], sl, CH (up1 I 108 (up1 (I 108) 3 (nI (i + 1)))) (up1 (up1 A 110 (upd (A 110) i (A 131 i))) 111 (upd (A 111) i (A 132 i))) N (up1 V 109 (va_up (V 109) i (some (1000000 + a)))) lt tw sp sr X) := by
      rw [e31, k31_r108_0, hd]
      simp (disch := omega) only [rt_c, b_some, List.cons_append, List.nil_append, Bool.cond_not, cond_true, cond_false, Bool.cond_decide, nI_add, nI_clamp, xin_n, dle_e, dlt_e, deq_e, xb_0, xb_1, decide_true, decide_false, Bool.not_true, Bool.not_false, Bool.and_true, Bool.true_and, Bool.and_false, Bool.false_and, Bool.true_or, Bool.false_or, Bool.or_true, Bool.or_false, if_true, if_false, up1_s, n_31, Int32.lt_irrefl, h40, k31_r108_18 _ _ _ _ _ _ _ _ _ _ _ _ _ _ _ _ hX hsw, k31_r108_19, hd, t31_49]
    obtain ⟨I', A', V', x1, x2, x3, x4, x5, x6⟩ := ih (i + 1) (up1 I 108 (up1 (I 108) 3 (nI (i + 1)))) (up1 (up1 A 110 (upd (A 110) i (A 131 i))) 111 (upd (A 111) i (A 132 i))) (up1 V 109 (va_up (V 109) i (some (1000000 + a)))) (by omega) (by rw [up1_n (by decide)]; exact hs) (by rw [up1_s, up1_s]) (fun j hj => by rw [up1_n (by decide)]; exact hw j hj) (fun j hj => by
      simp (disch := omega) only [up1_s, up1_n]
      by_cases hji : j = i
      · subst hji
        refine ⟨?_, upd_s, upd_s⟩
        rw [a2]
        simp [va_up]
      · rw [upd_n hji, upd_n hji]
        refine ⟨?_, (hc j (by omega)).2⟩
        rw [← (hc j (by omega)).1]
        simp [va_up, hji])
    refine ⟨I', A', V', ?_, x2, fun j hj => ?_, fun q hq => by rw [x4 q hq, up1_n hq], fun q q1 q2 => by rw [x5 q q1 q2, up1_n q2, up1_n q1], fun q hq => by rw [x6 q hq, up1_n hq]⟩
    · rw [k32_r108_r129_7, hs]
      simp (disch := omega) only [rt_c, b_some, List.cons_append, List.nil_append, Bool.cond_not, cond_true, cond_false, Bool.cond_decide, nI_add, nI_clamp, xin_n, dle_e, dlt_e, deq_e, xb_0, xb_1, decide_true, decide_false, Bool.not_true, Bool.not_false, Bool.and_true, Bool.true_and, Bool.and_false, Bool.false_and, Bool.true_or, Bool.false_or, Bool.or_true, Bool.or_false, if_true, if_false, up1_s, n_31, Int32.lt_irrefl, h1, a2, x_rf, k32_r108_r129_22_1, h31, k32_r108_r129_37, x1]
    · have := x3 j hj
      simp (disch := omega) only [up1_n] at this
      exact this
end SNC
