/-! IMAGES: what is kept -/
theorem Cm_e {W W' : Nat → Option Nat} {S S' T T' n n' : Nat → Int32} (hn : ∀ j, 127 ≤ j → j < 369 → n' j = n j) : ∀ (f i k : Nat), k < 40 → (∀ j, i ≤ j → j ≤ k → W' j = W j ∧ S' j = S j ∧ T' j = T j) → Cm W S T n f i k → Cm W' S' T' n' f i k := by
  intro f
  induction f with
  | zero => intro i k _ _ h; exact h
  | succ f ih =>
    intro i k hk hw hc
    rcases hc with ⟨a, h1, h2, h3, h4, h5, h6, h7⟩ | ⟨x, h1, h2, h3, h4, h5⟩ | ⟨x, y, h1, h2, h3, h4, h5, h6, h7⟩ | ⟨x, y, h1, h2, h3, h4, h5, h6, h7⟩
    · obtain ⟨w1, w2, w3⟩ := hw k (by omega) (by omega)
      refine Or.inl ⟨a, h1, h2, h3, by rw [hn _ (by omega) (by omega)]; exact h4, by rw [w1]; exact h5, fun e => ?_, fun e => ?_⟩
      · rw [hn _ (by omega) (by omega), w3]; exact h6 e
      · rw [hn _ (by omega) (by omega), hn _ (by omega) (by omega), w2, w3]; exact h7 e
    · have hl := (Cm_w _ _ _ h5).1
      obtain ⟨w1, w2, w3⟩ := hw k (by omega) (by omega)
      exact Or.inr (Or.inl ⟨x, h1, by rw [hn _ (by omega) (by omega)]; exact h2, by rw [hn _ (by omega) (by omega)]; exact h3, by rw [w1]; exact h4, ih _ _ (by omega) (fun j j1 j2 => hw j (by omega) (by omega)) h5⟩)
    · have hl := (Cm_w _ _ _ h6).1
      have hl2 := (Cm_w _ _ _ h7).1
      obtain ⟨w1, w2, w3⟩ := hw k (by omega) (by omega)
      exact Or.inr (Or.inr (Or.inl ⟨x, y, h1, by rw [hn _ (by omega) (by omega)]; exact h2, by rw [hn _ (by omega) (by omega)]; exact h3, by rw [hn _ (by omega) (by omega)]; exact h4, by rw [w1]; exact h5, ih _ _ (by omega) (fun j j1 j2 => hw j (by omega) (by omega)) h6, ih _ _ (by omega) (fun j j1 j2 => hw j (by omega) (by omega)) h7⟩))
    · have hl := (Cm_w _ _ _ h6).1
      have hl2 := (Cm_w _ _ _ h7).1
      obtain ⟨w1, w2, w3⟩ := hw k (by omega) (by omega)
      exact Or.inr (Or.inr (Or.inr ⟨x, y, h1, by rw [hn _ (by omega) (by omega)]; exact h2, by rw [hn _ (by omega) (by omega)]; exact h3, by rw [hn _ (by omega) (by omega)]; exact h4, by rw [w1]; exact h5, ih _ _ (by omega) (fun j j1 j2 => hw j (by omega) (by omega)) h6, ih _ _ (by omega) (fun j j1 j2 => hw j (by omega) (by omega)) h7⟩))
/-- how many steps, and that each has a word -/
theorem Sn_n {I A : Nat → Nat → Int32} {V : Nat → Nat → Option Nat} {s : Nat} {n : Nat → Int32} (h : Sn I A V s n) : ∃ q, q ≤ 40 ∧ I s 3 = nI q ∧ ∀ j, j < q → ∃ a, a ≤ 20 ∧ V (s + 1) j = some (1000000 + a) := by
  rcases h with ⟨h1, h2⟩ | ⟨h1, L, f, h2, h3, h4, h5⟩
  · exact ⟨0, by decide, h2, fun j hj => by omega⟩
  · exact ⟨L + 1, by omega, h3, fun j hj => (Cm_w _ _ _ h5).2 j (by omega) (by omega)⟩
theorem Sn_e {I A I' A' : Nat → Nat → Int32} {V V' : Nat → Nat → Option Nat} {s s' q : Nat} {n n' : Nat → Int32} (h : Sn I A V s n) (hq : q ≤ 40) (h3 : I s 3 = nI q) (hn : ∀ j, 127 ≤ j → j < 369 → n' j = n j) (h3' : I' s' 3 = nI q) (hw : ∀ j, j < q → V' (s' + 1) j = V (s + 1) j ∧ A' (s' + 2) j = A (s + 2) j ∧ A' (s' + 3) j = A (s + 3) j) : Sn I' A' V' s' n' := by
  rcases h with ⟨h1, h2⟩ | ⟨h1, L, f, h2, h4, h5, h6⟩
  · refine Or.inl ⟨by rw [hn 127 (by decide) (by decide)]; exact h1, ?_⟩
    rw [h3', ← h3, h2]
  · have hqL : q = L + 1 := by
      have := congrArg Int32.toNatClampNeg (h3.symm.trans h4)
      rw [nI_clamp (by omega), nI_clamp (by omega)] at this
      exact this
    refine Or.inr ⟨by rw [hn 127 (by decide) (by decide)]; exact h1, L, f, h2, by rw [h3', hqL], by rw [hn 128 (by decide) (by decide)]; exact h5, Cm_e hn f 0 L h2 (fun j j1 j2 => hw j (by omega)) h6⟩
section SND
variable (d sl : Nat) (I : Nat → Nat → Int32) (A : Nat → Nat → Int32) (N : Nat → Nat → Int64) (V : Nat → Nat → Option Nat) (lt : Int64) (tw : Option Nat) (sp sr : Nat) (X : List AC)
theorem q32c_142_108 (hX : Nat.ble X.length 1 = true) {n : Nat → Int32} (h : Sn I A V 108 n) : ∃ I' A' V', C (d + 1) 32 [.ref 142, .ref 108] sl (CH I A N V lt tw sp sr X) = some ([], sl, CH I' A' N V' lt tw sp sr X) ∧ Sn I' A' V' 142 n ∧ (∀ q, q ≠ 142 → I' q = I q) ∧ (∀ q, q ≠ 144 → q ≠ 145 → A' q = A q) ∧ (∀ q, q ≠ 143 → V' q = V q) := by
  obtain ⟨q, q1, q2, q3⟩ := Sn_n h
  obtain ⟨I', A', V', x1, x2, x3, x4, x5, x6⟩ := q32_142_108 d sl N lt tw sp sr X hX q1 q 0 (up1 I 142 (up1 (I 142) 3 (nI 0))) A V (by omega) (by rw [up1_n (by decide)]; exact q2) (by rw [up1_s, up1_s]) q3 (fun j hj => by omega)
  refine ⟨I', A', V', ?_, Sn_e h q1 q2 (fun _ _ _ => rfl) x2 x3, fun q hq => by rw [x4 q hq, up1_n hq], x5, x6⟩
  rw [e32, k32_r142_r108_0]
  exact x1
theorem q32c_142_112 (hX : Nat.ble X.length 1 = true) {n : Nat → Int32} (h : Sn I A V 112 n) : ∃ I' A' V', C (d + 1) 32 [.ref 142, .ref 112] sl (CH I A N V lt tw sp sr X) = some ([], sl, CH I' A' N V' lt tw sp sr X) ∧ Sn I' A' V' 142 n ∧ (∀ q, q ≠ 142 → I' q = I q) ∧ (∀ q, q ≠ 144 → q ≠ 145 → A' q = A q) ∧ (∀ q, q ≠ 143 → V' q = V q) := by
  obtain ⟨q, q1, q2, q3⟩ := Sn_n h
  obtain ⟨I', A', V', x1, x2, x3, x4, x5, x6⟩ := q32_142_112 d sl N lt tw sp sr X hX q1 q 0 (up1 I 142 (up1 (I 142) 3 (nI 0))) A V (by omega) (by rw [up1_n (by decide)]; exact q2) (by rw [up1_s, up1_s]) q3 (fun j hj => by omega)
  refine ⟨I', A', V', ?_, Sn_e h q1 q2 (fun _ _ _ => rfl) x2 x3, fun q hq => by rw [x4 q hq, up1_n hq], x5, x6⟩
  rw [e32, k32_r142_r112_0]
  exact x1
theorem q32c_129_108 (hX : Nat.ble X.length 1 = true) {n : Nat → Int32} (h : Sn I A V 108 n) : ∃ I' A' V', C (d + 1) 32 [.ref 129, .ref 108] sl (CH I A N V lt tw sp sr X) = some ([], sl, CH I' A' N V' lt tw sp sr X) ∧ Sn I' A' V' 129 n ∧ (∀ q, q ≠ 129 → I' q = I q) ∧ (∀ q, q ≠ 131 → q ≠ 132 → A' q = A q) ∧ (∀ q, q ≠ 130 → V' q = V q) := by
  obtain ⟨q, q1, q2, q3⟩ := Sn_n h
  obtain ⟨I', A', V', x1, x2, x3, x4, x5, x6⟩ := q32_129_108 d sl N lt tw sp sr X hX q1 q 0 (up1 I 129 (up1 (I 129) 3 (nI 0))) A V (by omega) (by rw [up1_n (by decide)]; exact q2) (by rw [up1_s, up1_s]) q3 (fun j hj => by omega)
  refine ⟨I', A', V', ?_, Sn_e h q1 q2 (fun _ _ _ => rfl) x2 x3, fun q hq => by rw [x4 q hq, up1_n hq], x5, x6⟩
  rw [e32, k32_r129_r108_0]
  exact x1
theorem q32c_129_112 (hX : Nat.ble X.length 1 = true) {n : Nat → Int32} (h : Sn I A V 112 n) : ∃ I' A' V', C (d + 1) 32 [.ref 129, .ref 112] sl (CH I A N V lt tw sp sr X) = some ([], sl, CH I' A' N V' lt tw sp sr X) ∧ Sn I' A' V' 129 n ∧ (∀ q, q ≠ 129 → I' q = I q) ∧ (∀ q, q ≠ 131 → q ≠ 132 → A' q = A q) ∧ (∀ q, q ≠ 130 → V' q = V q) := by
  obtain ⟨q, q1, q2, q3⟩ := Sn_n h
  obtain ⟨I', A', V', x1, x2, x3, x4, x5, x6⟩ := q32_129_112 d sl N lt tw sp sr X hX q1 q 0 (up1 I 129 (up1 (I 129) 3 (nI 0))) A V (by omega) (by rw [up1_n (by decide)]; exact q2) (by rw [up1_s, up1_s]) q3 (fun j hj => by omega)
  refine ⟨I', A', V', ?_, Sn_e h q1 q2 (fun _ _ _ => rfl) x2 x3, fun q hq => by rw [x4 q hq, up1_n hq], x5, x6⟩
  rw [e32, k32_r129_r112_0]
  exact x1
theorem q32c_112_142 (hX : Nat.ble X.length 1 = true) {n : Nat → Int32} (h : Sn I A V 142 n) : ∃ I' A' V', C (d + 1) 32 [.ref 112, .ref 142] sl (CH I A N V lt tw sp sr X) = some ([], sl, CH I' A' N V' lt tw sp sr X) ∧ Sn I' A' V' 112 n ∧ (∀ q, q ≠ 112 → I' q = I q) ∧ (∀ q, q ≠ 114 → q ≠ 115 → A' q = A q) ∧ (∀ q, q ≠ 113 → V' q = V q) := by
  obtain ⟨q, q1, q2, q3⟩ := Sn_n h
  obtain ⟨I', A', V', x1, x2, x3, x4, x5, x6⟩ := q32_112_142 d sl N lt tw sp sr X hX q1 q 0 (up1 I 112 (up1 (I 112) 3 (nI 0))) A V (by omega) (by rw [up1_n (by decide)]; exact q2) (by rw [up1_s, up1_s]) q3 (fun j hj => by omega)
  refine ⟨I', A', V', ?_, Sn_e h q1 q2 (fun _ _ _ => rfl) x2 x3, fun q hq => by rw [x4 q hq, up1_n hq], x5, x6⟩
  rw [e32, k32_r112_r142_0]
  exact x1
theorem q32c_108_142 (hX : Nat.ble X.length 1 = true) {n : Nat → Int32} (h : Sn I A V 142 n) : ∃ I' A' V', C (d + 1) 32 [.ref 108, .ref 142] sl (CH I A N V lt tw sp sr X) = some ([], sl, CH I' A' N V' lt tw sp sr X) ∧ Sn I' A' V' 108 n ∧ (∀ q, q ≠ 108 → I' q = I q) ∧ (∀ q, q ≠ 110 → q ≠ 111 → A' q = A q) ∧ (∀ q, q ≠ 109 → V' q = V q) := by
  obtain ⟨q, q1, q2, q3⟩ := Sn_n h
  obtain ⟨I', A', V', x1, x2, x3, x4, x5, x6⟩ := q32_108_142 d sl N lt tw sp sr X hX q1 q 0 (up1 I 108 (up1 (I 108) 3 (nI 0))) A V (by omega) (by rw [up1_n (by decide)]; exact q2) (by rw [up1_s, up1_s]) q3 (fun j hj => by omega)
  refine ⟨I', A', V', ?_, Sn_e h q1 q2 (fun _ _ _ => rfl) x2 x3, fun q hq => by rw [x4 q hq, up1_n hq], x5, x6⟩
  rw [e32, k32_r108_r142_0]
  exact x1
theorem q32c_112_129 (hX : Nat.ble X.length 1 = true) {n : Nat → Int32} (h : Sn I A V 129 n) : ∃ I' A' V', C (d + 1) 32 [.ref 112, .ref 129] sl (CH I A N V lt tw sp sr X) = some ([], sl, CH I' A' N V' lt tw sp sr X) ∧ Sn I' A' V' 112 n ∧ (∀ q, q ≠ 112 → I' q = I q) ∧ (∀ q, q ≠ 114 → q ≠ 115 → A' q = A q) ∧ (∀ q, q ≠ 113 → V' q = V q) := by
  obtain ⟨q, q1, q2, q3⟩ := Sn_n h
  obtain ⟨I', A', V', x1, x2, x3, x4, x5, x6⟩ := q32_112_129 d sl N lt tw sp sr X hX q1 q 0 (up1 I 112 (up1 (I 112) 3 (nI 0))) A V (by omega) (by rw [up1_n (by decide)]; exact q2) (by rw [up1_s, up1_s]) q3 (fun j hj => by omega)
  refine ⟨I', A', V', ?_, Sn_e h q1 q2 (fun _ _ _ => rfl) x2 x3, fun q hq => by rw [x4 q hq, up1_n hq], x5, x6⟩
  rw [e32, k32_r112_r129_0]
  exact x1
theorem q32c_108_129 (hX : Nat.ble X.length 1 = true) {n : Nat → Int32} (h : Sn I A V 129 n) : ∃ I' A' V', C (d + 1) 32 [.ref 108, .ref 129] sl (CH I A N V lt tw sp sr X) = some ([], sl, CH I' A' N V' lt tw sp sr X) ∧ Sn I' A' V' 108 n ∧ (∀ q, q ≠ 108 → I' q = I q) ∧ (∀ q, q ≠ 110 → q ≠ 111 → A' q = A q) ∧ (∀ q, q ≠ 109 → V' q = V q) := by
  obtain ⟨q, q1, q2, q3⟩ := Sn_n h
  obtain ⟨I', A', V', x1, x2, x3, x4, x5, x6⟩ := q32_108_129 d sl N lt tw sp sr X hX q1 q 0 (up1 I 108 (up1 (I 108) 3 (nI 0))) A V (by omega) (by rw [up1_n (by decide)]; exact q2) (by rw [up1_s, up1_s]) q3 (fun j hj => by omega)
  refine ⟨I', A', V', ?_, Sn_e h q1 q2 (fun _ _ _ => rfl) x2 x3, fun q hq => by rw [x4 q hq, up1_n hq], x5, x6⟩
  rw [e32, k32_r108_r129_0]
  exact x1
end SND
theorem mul369 {k : Nat} (hk : k < 2) : nI 369 * nI k = nI (369 * k) := by
  rcases (show k = 0 ∨ k = 1 by omega) with rfl | rfl <;> decide
theorem mul6 {k : Nat} (hk : k < 2) : nI 6 * nI k = nI (6 * k) := by
  rcases (show k = 0 ∨ k = 1 by omega) with rfl | rfl <;> decide
theorem nar1 : vp_nar .boolean (nI 1) = nI 1 := by decide
section RFI
variable (d sl : Nat) (I : Nat → Int32) (w : Int64) (A : Nat → Nat → Int32) (N : Nat → Nat → Int64) {k : Nat}
theorem c279_n (hk : k < 2) : ∀ (q i : Nat) (g : Nat → Int64), i + q = 6 → (∀ j, j < i → g (6 * k + j) = N 7 j) → (∀ j, (j < 6 * k ∨ 6 * k + 6 ≤ j) → g j = N 9 j) → ∃ g', rt 279 (R (d + 1) 279 (51, [some (.ref 0), some (.int (nI k)), some (.int (nI i))], [], sl, RH I w A (up1 N 9 g))) = some ([.int (x_b true)], sl, RH I w (up1 A 10 (upd (A 10) k (nI 1))) (up1 N 9 g')) ∧ (∀ j, j < 6 → g' (6 * k + j) = N 7 j) ∧ (∀ j, (j < 6 * k ∨ 6 * k + 6 ≤ j) → g' j = N 9 j) := by
  intro q
  induction q with
  | zero =>
    intro i g hi h1 h2
    have hi2 : 6 ≤ i := by omega
    refine ⟨g, ?_, fun j hj => h1 j (by omega), h2⟩
    rw [m279_51]
    simp (disch := omega) only [rt_c, b_some, List.cons_append, List.nil_append, Bool.cond_not, cond_true, cond_false, Bool.cond_decide, nI_add, nI_clamp, xin_n, dle_e, dlt_e, deq_e, xb_0, xb_1, decide_true, decide_false, Bool.not_true, Bool.not_false, Bool.and_true, Bool.true_and, Bool.and_false, Bool.false_and, Bool.true_or, Bool.false_or, Bool.or_true, Bool.or_false, if_true, if_false, up1_s, n_31, Int32.lt_irrefl, hi2, nar1, t279_15, t279_15_0, t279_15_1, t279_88, t279_88_0, t279_88_1]
  | succ q ih =>
    intro i g hi h1 h2
    have hi2 : ¬ 6 ≤ i := by omega
    have hm := mul6 hk
    obtain ⟨g', x1, x2⟩ := ih (i + 1) (vp_updL g (6 * k + i) (N 7 i)) (by omega) (fun j hj => by
      by_cases hji : j = i
      · rw [hji, updL_s]
      · rw [updL_n (by omega)]; exact h1 j (by omega)) (fun j hj => by rw [updL_n (by omega)]; exact h2 j hj)
    refine ⟨g', ?_, x2⟩
    rw [m279_51]
    simp (disch := omega) only [rt_c, b_some, List.cons_append, List.nil_append, Bool.cond_not, cond_true, cond_false, Bool.cond_decide, nI_add, nI_clamp, xin_n, dle_e, dlt_e, deq_e, xb_0, xb_1, decide_true, decide_false, Bool.not_true, Bool.not_false, Bool.and_true, Bool.true_and, Bool.and_false, Bool.false_and, Bool.true_or, Bool.false_or, Bool.or_true, Bool.or_false, if_true, if_false, up1_s, n_31, Int32.lt_irrefl, hi2, hm, up1_up, up1_n, x1]
theorem c279_i (hk : k < 2) : ∀ (q i : Nat) (f : Nat → Int32), i + q = 369 → (∀ j, j < i → f (369 * k + j) = A 2 j) → (∀ j, (j < 369 * k ∨ 369 * k + 369 ≤ j) → f j = A 4 j) → ∃ f' g', rt 279 (R (d + 1) 279 (18, [some (.ref 0), some (.int (nI k)), some (.int (nI i))], [], sl, RH I w (up1 A 4 f) N)) = some ([.int (x_b true)], sl, RH I w (up1 (up1 A 4 f') 10 (upd (A 10) k (nI 1))) (up1 N 9 g')) ∧ (∀ j, j < 369 → f' (369 * k + j) = A 2 j) ∧ (∀ j, (j < 369 * k ∨ 369 * k + 369 ≤ j) → f' j = A 4 j) ∧ (∀ j, j < 6 → g' (6 * k + j) = N 7 j) ∧ (∀ j, (j < 6 * k ∨ 6 * k + 6 ≤ j) → g' j = N 9 j) := by
  intro q
  induction q with
  | zero =>
    intro i f hi h1 h2
    have hi2 : 369 ≤ i := by omega
    obtain ⟨g', x1, x2, x3⟩ := c279_n d sl I w (up1 A 4 f) N hk 6 0 (N 9) (by omega) (fun j hj => by omega) (fun _ _ => rfl)
    rw [up1_id, up1_n (show (10 : Nat) ≠ 4 by decide)] at x1
    refine ⟨f, g', ?_, fun j hj => h1 j (by omega), h2, x2, x3⟩
    rw [m279_18]
    simp (disch := omega) only [rt_c, b_some, List.cons_append, List.nil_append, Bool.cond_not, cond_true, cond_false, Bool.cond_decide, nI_add, nI_clamp, xin_n, dle_e, dlt_e, deq_e, xb_0, xb_1, decide_true, decide_false, Bool.not_true, Bool.not_false, Bool.and_true, Bool.true_and, Bool.and_false, Bool.false_and, Bool.true_or, Bool.false_or, Bool.or_true, Bool.or_false, if_true, if_false, up1_s, n_31, Int32.lt_irrefl, hi2, x1]
  | succ q ih =>
    intro i f hi h1 h2
    have hi2 : ¬ 369 ≤ i := by omega
    have hm := mul369 hk
    obtain ⟨f', g', x1, x2⟩ := ih (i + 1) (upd f (369 * k + i) (A 2 i)) (by omega) (fun j hj => by
      by_cases hji : j = i
      · rw [hji, upd_s]
      · rw [upd_n (by omega)]; exact h1 j (by omega)) (fun j hj => by rw [upd_n (by omega)]; exact h2 j hj)
    refine ⟨f', g', ?_, x2⟩
    rw [m279_18]
    simp (disch := omega) only [rt_c, b_some, List.cons_append, List.nil_append, Bool.cond_not, cond_true, cond_false, Bool.cond_decide, nI_add, nI_clamp, xin_n, dle_e, dlt_e, deq_e, xb_0, xb_1, decide_true, decide_false, Bool.not_true, Bool.not_false, Bool.and_true, Bool.true_and, Bool.and_false, Bool.false_and, Bool.true_or, Bool.false_or, Bool.or_true, Bool.or_false, if_true, if_false, up1_s, n_31, Int32.lt_irrefl, hi2, hm, up1_up, up1_n, x1]
theorem c279 (hk : k < 2) : ∃ f' g', C (d + 1) 279 [.ref 0, .int (nI k)] sl (RH I w A N) = some ([.int (x_b true)], sl, RH (up1 I 0 (nI 0)) w (up1 (up1 A 4 f') 10 (upd (A 10) k (nI 1))) (up1 N 9 g')) ∧ (∀ j, j < 369 → f' (369 * k + j) = A 2 j) ∧ (∀ j, (j < 369 * k ∨ 369 * k + 369 ≤ j) → f' j = A 4 j) ∧ (∀ j, j < 6 → g' (6 * k + j) = N 7 j) ∧ (∀ j, (j < 6 * k ∨ 6 * k + 6 ≤ j) → g' j = N 9 j) := by
  obtain ⟨f', g', x1, x2⟩ := c279_i d sl (up1 I 0 (nI 0)) w A N hk 369 0 (A 4) (by omega) (fun j hj => by omega) (fun _ _ => rfl)
  rw [up1_id] at x1
  refine ⟨f', g', ?_, x2⟩
  have hin : (decide (nI 0 ≤ nI k) && decide (nI k ≤ nI 1)) = true := by rcases (show k = 0 ∨ k = 1 by omega) with rfl | rfl <;> decide
  rw [e279, m279_0, c166, hin, xb_t]
  simp (disch := omega) only [rt_c, b_some, List.cons_append, List.nil_append, Bool.cond_not, cond_true, cond_false, Bool.cond_decide, nI_add, nI_clamp, xin_n, dle_e, dlt_e, deq_e, xb_0, xb_1, decide_true, decide_false, Bool.not_true, Bool.not_false, Bool.and_true, Bool.true_and, Bool.and_false, Bool.false_and, Bool.true_or, Bool.false_or, Bool.or_true, Bool.or_false, if_true, if_false, up1_s, n_31, Int32.lt_irrefl, m279_11, Nat.one_ne_zero]
  rw [xb_t] at x1
  exact x1
end RFI
