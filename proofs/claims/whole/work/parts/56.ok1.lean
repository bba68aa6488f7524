/-! CALLS SIDE BY SIDE: acts, years, undo -/
/-- the same call on both sides: the same answer, and the states go on side by side -/
def Ok (d jc jr : Nat) (as : List Value) : Prop := ∀ (sl sl2 : Nat) (I A : Nat → Nat → Int32) (N : Nat → Nat → Int64) (V : Nat → Nat → Option Nat) (lt : Int64) (tw : Option Nat) (sp sr : Nat) (J : Nat → Int32) (w : Int64) (B : Nat → Nat → Int32) (M : Nat → Nat → Int64), Rl I A N V sp sr J B M →
  ∃ v I' A' N' V' lt' tw' sp' sr' X' sl' J' w' B' M', C d jc as sl (CH I A N V lt tw sp sr []) = some ([.int v], sl', CH I' A' N' V' lt' tw' sp' sr' X') ∧ C d jr as sl2 (RH J w B M) = some ([.int v], sl2, RH J' w' B' M') ∧ Rl I' A' N' V' sp' sr' J' B' M' ∧ sl ≤ sl' ∧ sl' ≤ sl + 8 ∧ X'.length ≤ 1
theorem xb_t : x_b true = nI 1 := rfl
theorem xb_f : x_b false = nI 0 := rfl
section RF10
variable (d sl : Nat) (I : Nat → Int32) (w : Int64) (A : Nat → Nat → Int32) (N : Nat → Nat → Int64)
theorem c223_f {m : Nat} (hm : m ≤ 12) (hD : A 2 72 = nI m) (k y : Int32) (hb : (isN m k && (decide (nI 1 ≤ y) && decide (y ≤ nI 999))) = false) : C (d + 4) 223 [.ref 0, .int k, .int y] sl (RH I w A N) = some ([.int (-1)], sl, RH (up1 I 0 (nI 0)) w A N) := by
  rw [e223, m223_0, c197' _ _ _ _ _ _ hm hD]
  simp (disch := omega) only [rt_c, b_some, List.cons_append, List.nil_append, Bool.cond_not, cond_true, cond_false, Bool.cond_decide, nI_add, nI_clamp, xin_n, dle_e, dlt_e, deq_e, xb_0, xb_1, decide_true, decide_false, Bool.not_true, Bool.not_false, Bool.and_true, Bool.true_and, Bool.and_false, Bool.false_and, Bool.true_or, Bool.false_or, Bool.or_true, Bool.or_false, if_true, if_false, up1_s, n_31, Int32.lt_irrefl, m223_15]
  cases hi : isN m k with
  | false => simp (disch := omega) only [rt_c, b_some, List.cons_append, List.nil_append, Bool.cond_not, cond_true, cond_false, Bool.cond_decide, nI_add, nI_clamp, xin_n, dle_e, dlt_e, deq_e, xb_0, xb_1, decide_true, decide_false, Bool.not_true, Bool.not_false, Bool.and_true, Bool.true_and, Bool.and_false, Bool.false_and, Bool.true_or, Bool.false_or, Bool.or_true, Bool.or_false, if_true, if_false, up1_s, n_31, Int32.lt_irrefl, c222_n, m223_37, t223_37]
  | true =>
    rw [hi, Bool.true_and] at hb
    simp (disch := omega) only [rt_c, b_some, List.cons_append, List.nil_append, Bool.cond_not, cond_true, cond_false, Bool.cond_decide, nI_add, nI_clamp, xin_n, dle_e, dlt_e, deq_e, xb_0, xb_1, decide_true, decide_false, Bool.not_true, Bool.not_false, Bool.and_true, Bool.true_and, Bool.and_false, Bool.false_and, Bool.true_or, Bool.false_or, Bool.or_true, Bool.or_false, if_true, if_false, up1_s, n_31, Int32.lt_irrefl, c166, hb, m223_26, c222_n, m223_37, t223_37]
theorem c223_t {m : Nat} (hm : m ≤ 12) (hD : A 2 72 = nI m) (k y : Int32) (h1 : isN m k = true) (h2 : (decide (nI 1 ≤ y) && decide (y ≤ nI 999)) = true) {v : Int32} {J : Nat → Int32} {w' : Int64} {A' : Nat → Nat → Int32} {N' : Nat → Nat → Int64} (hc : C (d + 3) 222 [.ref 0, .int (nI 0), .int k, .int y, .int (nI 0), .int (nI 1)] sl (RH (up1 I 0 (nI 0)) w A N) = some ([.int v], sl, RH J w' A' N')) : C (d + 4) 223 [.ref 0, .int k, .int y] sl (RH I w A N) = some ([.int v], sl, RH J w' A' N') := by
  rw [e223, m223_0, c197' _ _ _ _ _ _ hm hD]
  simp (disch := omega) only [rt_c, b_some, List.cons_append, List.nil_append, Bool.cond_not, cond_true, cond_false, Bool.cond_decide, nI_add, nI_clamp, xin_n, dle_e, dlt_e, deq_e, xb_0, xb_1, decide_true, decide_false, Bool.not_true, Bool.not_false, Bool.and_true, Bool.true_and, Bool.and_false, Bool.false_and, Bool.true_or, Bool.false_or, Bool.or_true, Bool.or_false, if_true, if_false, up1_s, n_31, Int32.lt_irrefl, m223_15, h1, c166, h2, m223_26, hc, m223_37, t223_37]
theorem c224_f {H : Nat} (hH6 : H ≤ 6) (hH : A 2 0 = nI H) (h g y : Int32) (hb : (isN H h && (isN H g && (!decide (h = g) && (decide (nI 1 ≤ y) && decide (y ≤ nI 200))))) = false) : C (d + 4) 224 [.ref 0, .int h, .int g, .int y] sl (RH I w A N) = some ([.int (-1)], sl, RH (up1 I 0 (nI 0)) w A N) := by
  rw [e224, m224_0, c196' _ _ _ _ _ _ hH6 hH]
  simp (disch := omega) only [rt_c, b_some, List.cons_append, List.nil_append, Bool.cond_not, cond_true, cond_false, Bool.cond_decide, nI_add, nI_clamp, xin_n, dle_e, dlt_e, deq_e, xb_0, xb_1, decide_true, decide_false, Bool.not_true, Bool.not_false, Bool.and_true, Bool.true_and, Bool.and_false, Bool.false_and, Bool.true_or, Bool.false_or, Bool.or_true, Bool.or_false, if_true, if_false, up1_s, n_31, Int32.lt_irrefl, m224_15]
  cases hi : isN H h with
  | false => simp (disch := omega) only [rt_c, b_some, List.cons_append, List.nil_append, Bool.cond_not, cond_true, cond_false, Bool.cond_decide, nI_add, nI_clamp, xin_n, dle_e, dlt_e, deq_e, xb_0, xb_1, decide_true, decide_false, Bool.not_true, Bool.not_false, Bool.and_true, Bool.true_and, Bool.and_false, Bool.false_and, Bool.true_or, Bool.false_or, Bool.or_true, Bool.or_false, if_true, if_false, up1_s, n_31, Int32.lt_irrefl, c222_n, m224_50, t224_50]
  | true =>
    have h196 := fun J => c196' (d + 2) sl J w A N hH6 hH g
    simp (disch := omega) only [rt_c, b_some, List.cons_append, List.nil_append, Bool.cond_not, cond_true, cond_false, Bool.cond_decide, nI_add, nI_clamp, xin_n, dle_e, dlt_e, deq_e, xb_0, xb_1, decide_true, decide_false, Bool.not_true, Bool.not_false, Bool.and_true, Bool.true_and, Bool.and_false, Bool.false_and, Bool.true_or, Bool.false_or, Bool.or_true, Bool.or_false, if_true, if_false, up1_s, n_31, Int32.lt_irrefl, h196, m224_23]
    cases hj : isN H g with
    | false => simp (disch := omega) only [rt_c, b_some, List.cons_append, List.nil_append, Bool.cond_not, cond_true, cond_false, Bool.cond_decide, nI_add, nI_clamp, xin_n, dle_e, dlt_e, deq_e, xb_0, xb_1, decide_true, decide_false, Bool.not_true, Bool.not_false, Bool.and_true, Bool.true_and, Bool.and_false, Bool.false_and, Bool.true_or, Bool.false_or, Bool.or_true, Bool.or_false, if_true, if_false, up1_s, n_31, Int32.lt_irrefl, c222_n, m224_50, t224_50]
    | true =>
      rw [hi, hj, Bool.true_and, Bool.true_and] at hb
      by_cases h0 : h = g
      · simp (disch := omega) only [rt_c, b_some, List.cons_append, List.nil_append, Bool.cond_not, cond_true, cond_false, Bool.cond_decide, nI_add, nI_clamp, xin_n, dle_e, dlt_e, deq_e, xb_0, xb_1, decide_true, decide_false, Bool.not_true, Bool.not_false, Bool.and_true, Bool.true_and, Bool.and_false, Bool.false_and, Bool.true_or, Bool.false_or, Bool.or_true, Bool.or_false, if_true, if_false, up1_s, n_31, Int32.lt_irrefl, h0, c222_n, m224_50, t224_50]
      · rw [decide_eq_false h0, Bool.not_false, Bool.true_and] at hb
        simp (disch := omega) only [rt_c, b_some, List.cons_append, List.nil_append, Bool.cond_not, cond_true, cond_false, Bool.cond_decide, nI_add, nI_clamp, xin_n, dle_e, dlt_e, deq_e, xb_0, xb_1, decide_true, decide_false, Bool.not_true, Bool.not_false, Bool.and_true, Bool.true_and, Bool.and_false, Bool.false_and, Bool.true_or, Bool.false_or, Bool.or_true, Bool.or_false, if_true, if_false, up1_s, n_31, Int32.lt_irrefl, h0, c166, hb, m224_39, c222_n, m224_50, t224_50]
theorem c224_t {H : Nat} (hH6 : H ≤ 6) (hH : A 2 0 = nI H) (h g y : Int32) (h1 : isN H h = true) (h2 : isN H g = true) (h0 : ¬ h = g) (h3 : (decide (nI 1 ≤ y) && decide (y ≤ nI 200)) = true) {v : Int32} {J : Nat → Int32} {w' : Int64} {A' : Nat → Nat → Int32} {N' : Nat → Nat → Int64} (hc : C (d + 3) 222 [.ref 0, .int (nI 1), .int h, .int g, .int y, .int (nI 1)] sl (RH (up1 I 0 (nI 0)) w A N) = some ([.int v], sl, RH J w' A' N')) : C (d + 4) 224 [.ref 0, .int h, .int g, .int y] sl (RH I w A N) = some ([.int v], sl, RH J w' A' N') := by
  have h196 := fun J => c196' (d + 2) sl J w A N hH6 hH g
  rw [e224, m224_0, c196' _ _ _ _ _ _ hH6 hH]
  simp (disch := omega) only [rt_c, b_some, List.cons_append, List.nil_append, Bool.cond_not, cond_true, cond_false, Bool.cond_decide, nI_add, nI_clamp, xin_n, dle_e, dlt_e, deq_e, xb_0, xb_1, decide_true, decide_false, Bool.not_true, Bool.not_false, Bool.and_true, Bool.true_and, Bool.and_false, Bool.false_and, Bool.true_or, Bool.false_or, Bool.or_true, Bool.or_false, if_true, if_false, up1_s, n_31, Int32.lt_irrefl, m224_15, h1, h196, m224_23, h2, h0, c166, h3, m224_39, hc, m224_50, t224_50]
theorem c225_f {H m : Nat} (hH6 : H ≤ 6) (hH : A 2 0 = nI H) (hm : m ≤ 12) (hD : A 2 72 = nI m) (k h : Int32) (hb : (isN m k && isN H h) = false) : C (d + 4) 225 [.ref 0, .int k, .int h] sl (RH I w A N) = some ([.int (-1)], sl, RH (up1 I 0 (nI 0)) w A N) := by
  have h196 := fun J => c196' (d + 2) sl J w A N hH6 hH h
  rw [e225, m225_0, c197' _ _ _ _ _ _ hm hD]
  simp (disch := omega) only [rt_c, b_some, List.cons_append, List.nil_append, Bool.cond_not, cond_true, cond_false, Bool.cond_decide, nI_add, nI_clamp, xin_n, dle_e, dlt_e, deq_e, xb_0, xb_1, decide_true, decide_false, Bool.not_true, Bool.not_false, Bool.and_true, Bool.true_and, Bool.and_false, Bool.false_and, Bool.true_or, Bool.false_or, Bool.or_true, Bool.or_false, if_true, if_false, up1_s, n_31, Int32.lt_irrefl, m225_15]
  cases hi : isN m k with
  | false => simp (disch := omega) only [rt_c, b_some, List.cons_append, List.nil_append, Bool.cond_not, cond_true, cond_false, Bool.cond_decide, nI_add, nI_clamp, xin_n, dle_e, dlt_e, deq_e, xb_0, xb_1, decide_true, decide_false, Bool.not_true, Bool.not_false, Bool.and_true, Bool.true_and, Bool.and_false, Bool.false_and, Bool.true_or, Bool.false_or, Bool.or_true, Bool.or_false, if_true, if_false, up1_s, n_31, Int32.lt_irrefl, c222_n, m225_34, t225_34]
  | true =>
    rw [hi, Bool.true_and] at hb
    simp (disch := omega) only [rt_c, b_some, List.cons_append, List.nil_append, Bool.cond_not, cond_true, cond_false, Bool.cond_decide, nI_add, nI_clamp, xin_n, dle_e, dlt_e, deq_e, xb_0, xb_1, decide_true, decide_false, Bool.not_true, Bool.not_false, Bool.and_true, Bool.true_and, Bool.and_false, Bool.false_and, Bool.true_or, Bool.false_or, Bool.or_true, Bool.or_false, if_true, if_false, up1_s, n_31, Int32.lt_irrefl, h196, hb, m225_23, c222_n, m225_34, t225_34]
theorem c225_t {H m : Nat} (hH6 : H ≤ 6) (hH : A 2 0 = nI H) (hm : m ≤ 12) (hD : A 2 72 = nI m) (k h : Int32) (h1 : isN m k = true) (h2 : isN H h = true) {v : Int32} {J : Nat → Int32} {w' : Int64} {A' : Nat → Nat → Int32} {N' : Nat → Nat → Int64} (hc : C (d + 3) 222 [.ref 0, .int (nI 2), .int k, .int h, .int (nI 0), .int (nI 1)] sl (RH (up1 I 0 (nI 0)) w A N) = some ([.int v], sl, RH J w' A' N')) : C (d + 4) 225 [.ref 0, .int k, .int h] sl (RH I w A N) = some ([.int v], sl, RH J w' A' N') := by
  have h196 := fun J => c196' (d + 2) sl J w A N hH6 hH h
  rw [e225, m225_0, c197' _ _ _ _ _ _ hm hD]
  simp (disch := omega) only [rt_c, b_some, List.cons_append, List.nil_append, Bool.cond_not, cond_true, cond_false, Bool.cond_decide, nI_add, nI_clamp, xin_n, dle_e, dlt_e, deq_e, xb_0, xb_1, decide_true, decide_false, Bool.not_true, Bool.not_false, Bool.and_true, Bool.true_and, Bool.and_false, Bool.false_and, Bool.true_or, Bool.false_or, Bool.or_true, Bool.or_false, if_true, if_false, up1_s, n_31, Int32.lt_irrefl, m225_15, h1, h196, h2, m225_23, hc, m225_34, t225_34]
theorem c226_f {m : Nat} (hm : m ≤ 12) (hD : A 2 72 = nI m) (k : Int32) (hb : isN m k = false) : C (d + 4) 226 [.ref 0, .int k] sl (RH I w A N) = some ([.int (-1)], sl, RH (up1 I 0 (nI 0)) w A N) := by
  rw [e226, m226_0, c197' _ _ _ _ _ _ hm hD, hb]
  simp (disch := omega) only [rt_c, b_some, List.cons_append, List.nil_append, Bool.cond_not, cond_true, cond_false, Bool.cond_decide, nI_add, nI_clamp, xin_n, dle_e, dlt_e, deq_e, xb_0, xb_1, decide_true, decide_false, Bool.not_true, Bool.not_false, Bool.and_true, Bool.true_and, Bool.and_false, Bool.false_and, Bool.true_or, Bool.false_or, Bool.or_true, Bool.or_false, if_true, if_false, up1_s, n_31, Int32.lt_irrefl, m226_15, xb_f, c222_n, m226_18, t226_18]
theorem c226_t {m : Nat} (hm : m ≤ 12) (hD : A 2 72 = nI m) (k : Int32) (h1 : isN m k = true) {v : Int32} {J : Nat → Int32} {w' : Int64} {A' : Nat → Nat → Int32} {N' : Nat → Nat → Int64} (hc : C (d + 3) 222 [.ref 0, .int (nI 3), .int k, .int (nI 0), .int (nI 0), .int (nI 1)] sl (RH (up1 I 0 (nI 0)) w A N) = some ([.int v], sl, RH J w' A' N')) : C (d + 4) 226 [.ref 0, .int k] sl (RH I w A N) = some ([.int v], sl, RH J w' A' N') := by
  rw [e226, m226_0, c197' _ _ _ _ _ _ hm hD, h1]
  simp (disch := omega) only [rt_c, b_some, List.cons_append, List.nil_append, Bool.cond_not, cond_true, cond_false, Bool.cond_decide, nI_add, nI_clamp, xin_n, dle_e, dlt_e, deq_e, xb_0, xb_1, decide_true, decide_false, Bool.not_true, Bool.not_false, Bool.and_true, Bool.true_and, Bool.and_false, Bool.false_and, Bool.true_or, Bool.false_or, Bool.or_true, Bool.or_false, if_true, if_false, up1_s, n_31, Int32.lt_irrefl, m226_15, xb_t, hc, m226_18, t226_18]
theorem c227_f {m : Nat} (hm : m ≤ 12) (hD : A 2 72 = nI m) (j k : Int32) (hb : (isN m j && isN m k) = false) : C (d + 4) 227 [.ref 0, .int j, .int k] sl (RH I w A N) = some ([.int (-1)], sl, RH (up1 I 0 (nI 0)) w A N) := by
  have h197 := fun J => c197' (d + 2) sl J w A N hm hD k
  rw [e227, m227_0, c197' _ _ _ _ _ _ hm hD]
  simp (disch := omega) only [rt_c, b_some, List.cons_append, List.nil_append, Bool.cond_not, cond_true, cond_false, Bool.cond_decide, nI_add, nI_clamp, xin_n, dle_e, dlt_e, deq_e, xb_0, xb_1, decide_true, decide_false, Bool.not_true, Bool.not_false, Bool.and_true, Bool.true_and, Bool.and_false, Bool.false_and, Bool.true_or, Bool.false_or, Bool.or_true, Bool.or_false, if_true, if_false, up1_s, n_31, Int32.lt_irrefl, m227_15]
  cases hi : isN m j with
  | false => simp (disch := omega) only [rt_c, b_some, List.cons_append, List.nil_append, Bool.cond_not, cond_true, cond_false, Bool.cond_decide, nI_add, nI_clamp, xin_n, dle_e, dlt_e, deq_e, xb_0, xb_1, decide_true, decide_false, Bool.not_true, Bool.not_false, Bool.and_true, Bool.true_and, Bool.and_false, Bool.false_and, Bool.true_or, Bool.false_or, Bool.or_true, Bool.or_false, if_true, if_false, up1_s, n_31, Int32.lt_irrefl, c222_n, m227_34, t227_34]
  | true =>
    rw [hi, Bool.true_and] at hb
    simp (disch := omega) only [rt_c, b_some, List.cons_append, List.nil_append, Bool.cond_not, cond_true, cond_false, Bool.cond_decide, nI_add, nI_clamp, xin_n, dle_e, dlt_e, deq_e, xb_0, xb_1, decide_true, decide_false, Bool.not_true, Bool.not_false, Bool.and_true, Bool.true_and, Bool.and_false, Bool.false_and, Bool.true_or, Bool.false_or, Bool.or_true, Bool.or_false, if_true, if_false, up1_s, n_31, Int32.lt_irrefl, h197, hb, m227_23, c222_n, m227_34, t227_34]
theorem c227_t {m : Nat} (hm : m ≤ 12) (hD : A 2 72 = nI m) (j k : Int32) (h1 : isN m j = true) (h2 : isN m k = true) {v : Int32} {J : Nat → Int32} {w' : Int64} {A' : Nat → Nat → Int32} {N' : Nat → Nat → Int64} (hc : C (d + 3) 222 [.ref 0, .int (nI 4), .int j, .int k, .int (nI 0), .int (nI 1)] sl (RH (up1 I 0 (nI 0)) w A N) = some ([.int v], sl, RH J w' A' N')) : C (d + 4) 227 [.ref 0, .int j, .int k] sl (RH I w A N) = some ([.int v], sl, RH J w' A' N') := by
  have h197 := fun J => c197' (d + 2) sl J w A N hm hD k
  rw [e227, m227_0, c197' _ _ _ _ _ _ hm hD]
  simp (disch := omega) only [rt_c, b_some, List.cons_append, List.nil_append, Bool.cond_not, cond_true, cond_false, Bool.cond_decide, nI_add, nI_clamp, xin_n, dle_e, dlt_e, deq_e, xb_0, xb_1, decide_true, decide_false, Bool.not_true, Bool.not_false, Bool.and_true, Bool.true_and, Bool.and_false, Bool.false_and, Bool.true_or, Bool.false_or, Bool.or_true, Bool.or_false, if_true, if_false, up1_s, n_31, Int32.lt_irrefl, m227_15, h1, h197, h2, m227_23, hc, m227_34, t227_34]
end RF10
theorem payN_o {n : Nat → Int32} {k : Nat} {y : Int32} (hk : k < 12) (h1 : wh n k < 6) (h2 : wm n k < 6) {j : Nat} (hj : j < 71 ∨ 127 ≤ j) : payN n k y j = n j := by
  unfold payN
  rw [upd_n (by omega), upd_n (by omega), mv_o (by omega) (by omega)]
theorem borN_o {n : Nat → Int32} {m h g : Nat} {y : Int32} (hm : m < 12) (h1 : h < 6) (h2 : g < 6) {j : Nat} (hj : j < 71 ∨ 127 ≤ j) : borN n m h g y j = n j := by
  unfold borN
  rw [upd_n (by omega), upd_n (by omega), upd_n (by omega), upd_n (by omega), upd_n (by omega), mv_o (by omega) (by omega)]
theorem selN_o {n : Nat → Int32} {k h : Nat} (hk : k < 12) (h1 : h < 6) (h2 : wm n k < 6) {j : Nat} (hj : j < 71 ∨ 127 ≤ j) : selN n k h j = n j := by
  unfold selN
  rw [upd_n (by omega), mv_o (by omega) (by omega)]
theorem forN_o {n : Nat → Int32} {k : Nat} (hk : k < 12) {j : Nat} (hj : j < 71 ∨ 127 ≤ j) : forN n k j = n j := by
  unfold forN
  rw [upd_n (by omega)]
theorem clrN_o {n : Nat → Int32} {i k : Nat} (hi : i < 12) (hk : k < 12) {j : Nat} (hj : j < 71 ∨ 127 ≤ j) : clrN n i k j = n j := by
  unfold clrN
  rw [upd_n (by omega), upd_n (by omega)]
theorem J8_0 (J : Nat → Int32) (x : Int32) : J8 J (up1 J 0 x) := ⟨up1_n (by decide), up1_n (by decide), up1_n (by decide), up1_n (by decide), up1_n (by decide), up1_n (by decide), up1_n (by decide)⟩
theorem J8_24 (J : Nat → Int32) (x y : Int32) : J8 J (up1 (up1 J 0 x) 24 y) := by
  refine ⟨?_, ?_, ?_, ?_, ?_, ?_, ?_⟩ <;> rw [up1_n (by decide), up1_n (by decide)]
/-- how an act ends on both sides -/
theorem act_end {I A I' A' : Nat → Nat → Int32} {N N' : Nat → Nat → Int64} {V : Nat → Nat → Option Nat} {sp sr : Nat} {J : Nat → Int32} {B : Nat → Nat → Int32} {M : Nat → Nat → Int64} {H m p z m' : Nat} {n' : Nat → Int32} {v : Int32} (h1 : RS I A N B M H m) (h2 : RPx p z I A N J B M H) (h3 : RZ I A N V sp sr J B M)
    (hS : Sh I' A' 3 (if v = nI 0 then n' else B 2) H (if v = nI 0 then m' else m)) (hP : v = nI 0 → Pu p z (B 2) m H I A N I' A' N') (hU : ¬ v = nI 0 → Un I A N I' A' N') (hV : v = nI 0 → Vd n' H m') (hn : v = nI 0 → ∀ k, (k < 71 ∨ 127 ≤ k) → n' k = B 2 k)
    (d sl : Nat) (w : Int64) (a x y q : Int32) (hw : C d 219 [.ref 0, .int a, .int x, .int y, .int q] sl (RH (up1 J 0 (nI 0)) w B M) = some ([.int v], sl, RH (up1 J 0 (nI 0)) w B M)) (hl : v = nI 0 → ∀ J A', A' 2 = B 2 → C d 221 [.ref 0, .int a, .int x, .int y, .int q] sl (RH J w A' M) = some ([], sl, RH J w (up1 A' 2 n') M)) :
    ∃ J' B', C (d + 1) 222 [.ref 0, .int a, .int x, .int y, .int q, .int (nI 1)] sl (RH (up1 J 0 (nI 0)) w B M) = some ([.int v], sl, RH J' w B' M) ∧ Rl I' A' N' V sp sr J' B' M := by
  by_cases hv : v = nI 0
  · subst hv
    rw [if_pos rfl, if_pos rfl] at hS
    have hz := h2.1.2.1
    have h24 : up1 J 0 (nI 0) 24 = nI z := by rw [up1_n (by decide)]; exact h2.1.2.2.2.2
    obtain ⟨B5, e1, e2, e3⟩ := c222_0 d sl (up1 J 0 (nI 0)) w B M a x y q hz h24 hw (hl rfl)
    refine ⟨_, _, e1, Rl_push h1 h2 h3 hS (hV rfl) (Yr_c h1.2.2.1 (hn rfl 70 (by omega))) (hP rfl) (J8_24 J _ _) up1_s e2 e3 (fun k hk => hn rfl k (by omega))⟩
  · rw [if_neg hv, if_neg hv] at hS
    exact ⟨_, _, c222_w d sl _ w B M a x y q v hw hv, Rl_un h1 ⟨p, z, h2⟩ h3 hS (hU hv) (J8_0 J _) (up1_n (by decide))⟩
theorem pos_n {y : Int32} {q : Nat} (h1 : nI 1 ≤ y) (h2 : y ≤ nI q) (hq : q < 2 ^ 31) : ∃ v, 1 ≤ v ∧ v ≤ q ∧ y = nI v := by
  have h0 : ¬ y < nI 0 := by
    intro h
    have e1 := Int32.lt_iff_toInt_lt.mp h
    have e2 := Int32.le_iff_toInt_le.mp h1
    rw [nI_toInt (by decide)] at e1 e2
    omega
  obtain ⟨v, hv, rfl⟩ := nI_of (x := y) h0
  rw [nI_leI (by decide) hv] at h1
  rw [nI_leI hv hq] at h2
  exact ⟨v, h1, h2, rfl⟩
section OKA
variable (d : Nat)
theorem ok_pay (k y : Int32) : Ok (d + 4) 126 223 [.ref 0, .int k, .int y] := by
  intro sl sl2 I A N V lt tw sp sr J w B M hR
  obtain ⟨H, m, h1, ⟨p, z, h2⟩, h3⟩ := hR
  have hS := h1.1
  have hV := h1.2.1
  obtain ⟨hH, hD, hH6, hm⟩ := hV.1
  obtain ⟨hp, hz, hP, hZ, hz2⟩ := h2.1
  have h22 := h3.2.2.2.1.1
  cases hb : (isN m k && (decide (nI 1 ≤ y) && decide (y ≤ nI 999))) with
  | false => exact ⟨_, _, _, _, _, _, _, _, _, _, _, _, _, _, _, q126_out d sl I A N V lt tw sp sr [] hS k y hb, c223_f d sl2 J w B M hm hD k y hb, Rl_0 ⟨H, m, h1, ⟨p, z, h2⟩, h3⟩ _, Nat.le_refl _, by omega, by simp⟩
  | true =>
    rw [Bool.and_eq_true] at hb
    obtain ⟨hi, hj⟩ := hb
    have hj' := hj
    rw [Bool.and_eq_true, decide_eq_true_eq, decide_eq_true_eq] at hj'
    obtain ⟨j, hjm, rfl⟩ := isN_t (by omega) hi
    have hw := Vd_wh hV hjm
    have hu := Vd_wm hV hjm
    obtain ⟨I', A', N', e1, e2, e3, e4⟩ := q126_in d sl I A N V lt tw sp sr [] h22 hp hz hP hZ hS hV hjm y hj'.1 hj'.2
    have h0 : nI 0 ≤ y := Int32.le_trans (by decide) hj'.1
    obtain ⟨J', B', f1, f2⟩ := act_end (m' := m) (n' := payN (B 2) j y) h1 h2 h3 (by rw [ite_self]; exact e2) e3 e4 (fun hv => Vd_pay hV hjm h0 hv) (fun _ k hk => payN_o (by omega) (by omega) (by omega) hk) (d + 2) sl2 w (nI 0) (nI j) y (nI 0) (c219_0 d sl2 _ w B M hV hjm y _) (fun _ J A' hA => by
      have := c221_0 (d + 1) sl2 J w A' M (H := H) (m := m) (by rw [hA]; exact hV) hjm y (nI 0)
      rw [hA] at this
      exact this)
    exact ⟨_, _, _, _, _, _, _, _, _, _, _, _, _, _, _, e1, c223_t d sl2 J w B M hm hD _ y hi hj f1, f2, Nat.le_refl _, by omega, by simp⟩
theorem ok_borrow (h g y : Int32) : Ok (d + 4) 127 224 [.ref 0, .int h, .int g, .int y] := by
  intro sl sl2 I A N V lt tw sp sr J w B M hR
  obtain ⟨H, m, h1, ⟨p, z, h2⟩, h3⟩ := hR
  have hS := h1.1
  have hV := h1.2.1
  obtain ⟨hH, hD, hH6, hm⟩ := hV.1
  obtain ⟨hp, hz, hP, hZ, hz2⟩ := h2.1
  have h22 := h3.2.2.2.1.1
  cases hb : (isN H h && (isN H g && (!decide (h = g) && (decide (nI 1 ≤ y) && decide (y ≤ nI 200))))) with
  | false => exact ⟨_, _, _, _, _, _, _, _, _, _, _, _, _, _, _, q127_out d sl I A N V lt tw sp sr [] hS h g y hb, c224_f d sl2 J w B M hH6 hH h g y hb, Rl_0 ⟨H, m, h1, ⟨p, z, h2⟩, h3⟩ _, Nat.le_refl _, by omega, by simp⟩
  | true =>
    rw [Bool.and_eq_true, Bool.and_eq_true, Bool.and_eq_true] at hb
    obtain ⟨hi, hg, hne, hj⟩ := hb
    have hne' : ¬ h = g := by
      intro e
      rw [decide_eq_true e] at hne
      cases hne
    have hj' := hj
    rw [Bool.and_eq_true, decide_eq_true_eq, decide_eq_true_eq] at hj'
    obtain ⟨a, ha, rfl⟩ := isN_t (by omega) hi
    obtain ⟨b, hb, rfl⟩ := isN_t (by omega) hg
    have hab : a ≠ b := fun e => hne' (by rw [e])
    obtain ⟨v, hv1, hv2, rfl⟩ := pos_n hj'.1 hj'.2 (by decide)
    obtain ⟨I', A', N', e1, e2, e3, e4⟩ := q127_in d sl I A N V lt tw sp sr [] h22 hp hz hP hZ hS ha hb hab (nI v) hj'.1 hj'.2
    have hm12 : borW (B 2) m b (nI v) = nI 0 → m < 12 := fun hw => by
      have := (borW_0 hw).1
      omega
    obtain ⟨J', B', f1, f2⟩ := act_end (m' := m + 1) (n' := borN (B 2) m a b (nI v)) h1 h2 h3 e2 e3 e4 (fun hw => Vd_bor hV ha hb hab (by omega) hw) (fun hw k hk => borN_o (hm12 hw) (by omega) (by omega) hk) (d + 2) sl2 w (nI 1) (nI a) (nI b) (nI v) (c219_1 d sl2 _ w B M hm hD (by omega) _ _) (fun hw J A' hA => by
      have := c221_1 (d + 1) sl2 J w A' M (hm12 hw) (by rw [hA]; exact hD) (show a < 6 by omega) (show b < 6 by omega) (nI v)
      rw [hA] at this
      exact this)
    exact ⟨_, _, _, _, _, _, _, _, _, _, _, _, _, _, _, e1, c224_t d sl2 J w B M hH6 hH _ _ _ hi hg hne' hj f1, f2, Nat.le_refl _, by omega, by simp⟩
theorem ok_sell (k h : Int32) : Ok (d + 4) 128 225 [.ref 0, .int k, .int h] := by
  intro sl sl2 I A N V lt tw sp sr J w B M hR
  obtain ⟨H, m, h1, ⟨p, z, h2⟩, h3⟩ := hR
  have hS := h1.1
  have hV := h1.2.1
  obtain ⟨hH, hD, hH6, hm⟩ := hV.1
  obtain ⟨hp, hz, hP, hZ, hz2⟩ := h2.1
  have h22 := h3.2.2.2.1.1
  cases hb : (isN m k && isN H h) with
  | false => exact ⟨_, _, _, _, _, _, _, _, _, _, _, _, _, _, _, q128_out d sl I A N V lt tw sp sr [] hS k h hb, c225_f d sl2 J w B M hH6 hH hm hD k h hb, Rl_0 ⟨H, m, h1, ⟨p, z, h2⟩, h3⟩ _, Nat.le_refl _, by omega, by simp⟩
  | true =>
    rw [Bool.and_eq_true] at hb
    obtain ⟨hi, hj⟩ := hb
    obtain ⟨j, hjm, rfl⟩ := isN_t (by omega) hi
    obtain ⟨a, ha, rfl⟩ := isN_t (by omega) hj
    have hu := Vd_wm hV hjm
    obtain ⟨I', A', N', e1, e2, e3, e4⟩ := q128_in d sl I A N V lt tw sp sr [] h22 hp hz hP hZ hS hV hjm ha
    obtain ⟨J', B', f1, f2⟩ := act_end (m' := m) (n' := selN (B 2) j a) h1 h2 h3 (by rw [ite_self]; exact e2) e3 e4 (fun hv => Vd_sel hV hjm ha hv) (fun _ k hk => selN_o (by omega) (by omega) (by omega) hk) (d + 2) sl2 w (nI 2) (nI j) (nI a) (nI 0) (c219_2 d sl2 _ w B M (by omega) (by omega) _) (fun _ J A' hA => by
      have := c221_2 (d + 1) sl2 J w A' M (H := H) (m := m) (by rw [hA]; exact hV) hjm (show a < 6 by omega) (nI 0)
      rw [hA] at this
      exact this)
    exact ⟨_, _, _, _, _, _, _, _, _, _, _, _, _, _, _, e1, c225_t d sl2 J w B M hH6 hH hm hD _ _ hi hj f1, f2, Nat.le_refl _, by omega, by simp⟩
theorem ok_forgive (k : Int32) : Ok (d + 4) 129 226 [.ref 0, .int k] := by
  intro sl sl2 I A N V lt tw sp sr J w B M hR
  obtain ⟨H, m, h1, ⟨p, z, h2⟩, h3⟩ := hR
  have hS := h1.1
  have hV := h1.2.1
  obtain ⟨hH, hD, hH6, hm⟩ := hV.1
  obtain ⟨hp, hz, hP, hZ, hz2⟩ := h2.1
  have h22 := h3.2.2.2.1.1
  cases hi : isN m k with
  | false => exact ⟨_, _, _, _, _, _, _, _, _, _, _, _, _, _, _, q129_out d sl I A N V lt tw sp sr [] hS k hi, c226_f d sl2 J w B M hm hD k hi, Rl_0 ⟨H, m, h1, ⟨p, z, h2⟩, h3⟩ _, Nat.le_refl _, by omega, by simp⟩
  | true =>
    obtain ⟨j, hjm, rfl⟩ := isN_t (by omega) hi
    obtain ⟨I', A', N', e1, e2, e3, e4⟩ := q129_in d sl I A N V lt tw sp sr [] h22 hp hz hP hZ hS hjm
    obtain ⟨J', B', f1, f2⟩ := act_end (m' := m) (n' := forN (B 2) j) h1 h2 h3 (by rw [ite_self]; exact e2) e3 e4 (fun hv => Vd_for hV hjm) (fun _ k hk => forN_o (by omega) hk) (d + 2) sl2 w (nI 3) (nI j) (nI 0) (nI 0) (c219_3 d sl2 _ w B M (by omega) _ _) (fun _ J A' hA => by
      have := c221_3 (d + 1) sl2 J w A' M (show j < 12 by omega) (nI 0) (nI 0)
      rw [hA] at this
      exact this)
    exact ⟨_, _, _, _, _, _, _, _, _, _, _, _, _, _, _, e1, c226_t d sl2 J w B M hm hD _ hi f1, f2, Nat.le_refl _, by omega, by simp⟩
theorem ok_clear (j k : Int32) : Ok (d + 4) 130 227 [.ref 0, .int j, .int k] := by
  intro sl sl2 I A N V lt tw sp sr J w B M hR
  obtain ⟨H, m, h1, ⟨p, z, h2⟩, h3⟩ := hR
  have hS := h1.1
  have hV := h1.2.1
  obtain ⟨hH, hD, hH6, hm⟩ := hV.1
  obtain ⟨hp, hz, hP, hZ, hz2⟩ := h2.1
  have h22 := h3.2.2.2.1.1
  cases hb : (isN m j && isN m k) with
  | false => exact ⟨_, _, _, _, _, _, _, _, _, _, _, _, _, _, _, q130_out d sl I A N V lt tw sp sr [] hS j k hb, c227_f d sl2 J w B M hm hD j k hb, Rl_0 ⟨H, m, h1, ⟨p, z, h2⟩, h3⟩ _, Nat.le_refl _, by omega, by simp⟩
  | true =>
    rw [Bool.and_eq_true] at hb
    obtain ⟨hi, hj⟩ := hb
    obtain ⟨a, ha, rfl⟩ := isN_t (by omega) hi
    obtain ⟨b, hb, rfl⟩ := isN_t (by omega) hj
    obtain ⟨I', A', N', e1, e2, e3, e4⟩ := q130_in d sl I A N V lt tw sp sr [] h22 hp hz hP hZ hS ha hb
    obtain ⟨J', B', f1, f2⟩ := act_end (m' := m) (n' := clrN (B 2) a b) h1 h2 h3 (by rw [ite_self]; exact e2) e3 e4 (fun hv => Vd_clr hV ha hb hv) (fun _ k hk => clrN_o (by omega) (by omega) hk) (d + 2) sl2 w (nI 4) (nI a) (nI b) (nI 0) (c219_4 d sl2 _ w B M (by omega) (by omega) _) (fun _ J A' hA => by
      have := c221_4 (d + 1) sl2 J w A' M (show a < 12 by omega) (show b < 12 by omega) (nI 0)
      rw [hA] at this
      exact this)
    exact ⟨_, _, _, _, _, _, _, _, _, _, _, _, _, _, _, e1, c227_t d sl2 J w B M hm hD _ _ hi hj f1, f2, Nat.le_refl _, by omega, by simp⟩
theorem ok_undo : Ok (d + 2) 133 228 [.ref 0] := by
  intro sl sl2 I A N V lt tw sp sr J w B M hR
  obtain ⟨H, m, h1, ⟨p, z, h2⟩, h3⟩ := hR
  obtain ⟨hp, hz, hP, hZ, hz2⟩ := h2.1
  have h22 := h3.2.2.2.1.1
  have hH6 := h1.2.1.1.2.2.1
  cases z with
  | zero => exact ⟨_, _, _, _, _, _, _, _, _, _, _, _, _, _, _, q133_0 d sl I A N V lt tw sp sr [] hZ, c228_0 (d + 2) sl2 J w B M hz2, Rl_0 ⟨H, m, h1, ⟨p, 0, h2⟩, h3⟩ _, Nat.le_refl _, by omega, by simp⟩
  | succ z =>
    obtain ⟨I', A', N', e0, e1, e2, e3, e4, e5, e6, e7⟩ := q133 d sl I A N V lt tw sp sr [] h22 hp (by omega) hP hZ
    have f0 := c228 (d + 2) sl2 J w B M (show z < 8 by omega) hz2
    refine ⟨_, _, _, _, _, _, _, _, _, _, _, _, _, _, _, e0, f0, ?_, Nat.le_refl _, by omega, by simp⟩
    obtain ⟨m', g1, g2, g3, g4⟩ := h2.2 z (by omega)
    have hs : (p + 8 - (z + 1) + z) % 8 = (p + 7) % 8 := by omega
    rw [hs] at g1 g4
    refine ⟨H, m', ⟨?_, ?_, ?_, ?_⟩, ⟨_, _, RPx_pop h2 e1 e2 up1_s (fun q _ _ => e5 q (by omega) (by omega)) (fun q _ _ => e6 q (by omega)) (fun q _ _ => e7 q (by omega)) rfl (up1_n (by decide)) up1_s⟩, RZ_f h3 (fun q _ => e5 q (by omega) (by omega)) (fun q _ => e6 q (by omega)) (fun q _ => e7 q (by omega)) (J8_24 J _ _) ⟨up1_n (by decide), up1_n (by decide), up1_n (by decide), up1_n (by decide), up1_n (by decide), up1_n (by decide)⟩ rfl ?_⟩
    · rw [up1_s]; exact e3 _ _ _ g1
    · rw [up1_s]; exact g2
    · rw [up1_s]; exact g3
    · exact Nm_c g4 hH6 e4
    · intro k hk
      rw [up1_s, lay_o (by omega)]
end OKA
