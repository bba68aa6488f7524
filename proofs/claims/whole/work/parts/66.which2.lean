/-! WHICH, THE REFERENCE; BOTH -/
theorem and_it (f : Nat → Bool) : ∀ (q i : Nat) (s : Bool), x_it (fun j s => s && f j) i q s = (s && x_it (fun j s => s && f j) i q true)
  | 0, _, s => by simp [x_it]
  | q + 1, i, s => by
    simp only [x_it]
    rw [and_it f q (i + 1) (s && f i), and_it f q (i + 1) (true && f i), Bool.true_and, Bool.and_assoc]
section RFW2
variable (d sl : Nat) (I : Nat → Int32) (w : Int64) (A : Nat → Nat → Int32) (N : Nat → Nat → Int64)
theorem c241_32 {t P : Nat} (b : Nat → Nat) (ht : t = 2 * P) (hP : P ≤ 8) (hb : ∀ k, k < t → b k < 256 ∧ A 1 k = nI (b k)) : ∀ (q j : Nat), j + q = P → rt 241 (R (d + 5) 241 (32, [some (.ref 0), some (.int (nI t)), some (.int (nI (2 * j))), none, none, none], [], sl, RH I w A N)) = if ∀ i, i < P → j ≤ i → b (2 * i) ≤ 4 then rt 241 (R (d + 5) 241 (59, [some (.ref 0), some (.int (nI t)), some (.int (nI 0)), some (.int (nI 0)), none, none], [], sl, RH I w A N)) else some ([.int (-1)], sl, RH I w A N) := by
  intro q
  induction q with
  | zero =>
    intro j hj
    have h1 : t ≤ 2 * j := by omega
    rw [if_pos (fun i i1 i2 => by omega), m241_32]
    simp (disch := omega) only [rt_c, b_some, List.cons_append, List.nil_append, Bool.cond_not, cond_true, cond_false, Bool.cond_decide, nI_add, nI_clamp, xin_n, dle_e, dlt_e, deq_e, xb_0, xb_1, decide_true, decide_false, Bool.not_true, Bool.not_false, Bool.and_true, Bool.true_and, Bool.and_false, Bool.false_and, Bool.true_or, Bool.false_or, Bool.or_true, Bool.or_false, if_true, if_false, up1_s, n_31, Int32.lt_irrefl, h1]
  | succ q ih =>
    intro j hj
    have h1 : ¬ t ≤ 2 * j := by omega
    have b1 := hb (2 * j) (by omega)
    have h3 := ih (j + 1) (by omega)
    rw [show 2 * (j + 1) = 2 * j + 2 from rfl] at h3
    rw [m241_32]
    by_cases h5 : b (2 * j) ≤ 4
    · have hiff : (if ∀ i, i < P → j ≤ i → b (2 * i) ≤ 4 then rt 241 (R (d + 5) 241 (59, [some (.ref 0), some (.int (nI t)), some (.int (nI 0)), some (.int (nI 0)), none, none], [], sl, RH I w A N)) else some ([.int (-1)], sl, RH I w A N)) = (if ∀ i, i < P → j + 1 ≤ i → b (2 * i) ≤ 4 then rt 241 (R (d + 5) 241 (59, [some (.ref 0), some (.int (nI t)), some (.int (nI 0)), some (.int (nI 0)), none, none], [], sl, RH I w A N)) else some ([.int (-1)], sl, RH I w A N)) := by
        by_cases hx : ∀ i, i < P → j + 1 ≤ i → b (2 * i) ≤ 4
        · rw [if_pos hx, if_pos]
          intro i i1 i2
          by_cases hij : i = j
          · rw [hij]; exact h5
          · exact hx i i1 (by omega)
        · rw [if_neg hx, if_neg]
          intro hy
          exact hx (fun i i1 i2 => hy i i1 (by omega))
      rw [hiff, ← h3]
      simp (disch := omega) only [rt_c, b_some, List.cons_append, List.nil_append, Bool.cond_not, cond_true, cond_false, Bool.cond_decide, nI_add, nI_clamp, xin_n, dle_e, dlt_e, deq_e, xb_0, xb_1, decide_true, decide_false, Bool.not_true, Bool.not_false, Bool.and_true, Bool.true_and, Bool.and_false, Bool.false_and, Bool.true_or, Bool.false_or, Bool.or_true, Bool.or_false, if_true, if_false, up1_s, n_31, Int32.lt_irrefl, h1, b1.2, h5]
    · rw [if_neg (fun hx => h5 (hx j (by omega) (Nat.le_refl j)))]
      simp (disch := omega) only [rt_c, b_some, List.cons_append, List.nil_append, Bool.cond_not, cond_true, cond_false, Bool.cond_decide, nI_add, nI_clamp, xin_n, dle_e, dlt_e, deq_e, xb_0, xb_1, decide_true, decide_false, Bool.not_true, Bool.not_false, Bool.and_true, Bool.true_and, Bool.and_false, Bool.false_and, Bool.true_or, Bool.false_or, Bool.or_true, Bool.or_false, if_true, if_false, up1_s, n_31, Int32.lt_irrefl, h1, b1.2, h5, t241_29, t241_48, t241_150, t241_193]
theorem c241_80 {H m t P k : Nat} (hV : Vd (A 2) H m) (b : Nat → Nat) (ht : t = 2 * P) (hP : P ≤ 8) (hb : ∀ k, k < t → b k < 256 ∧ A 1 k = nI (b k)) (h4 : ∀ i, i < P → b (2 * i) ≤ 4) (hk : k < m) (S : Nat) : ∀ (q j : Nat) (s : Bool), j + q = P → rt 241 (R (d + 5) 241 (80, [some (.ref 0), some (.int (nI t)), some (.int (nI S)), some (.int (nI k)), some (.int (x_b s)), some (.int (nI (2 * j)))], [], sl, RH I w A N)) = rt 241 (R (d + 5) 241 (59, [some (.ref 0), some (.int (nI t)), some (.int (cond (x_it (fun j s => s && decide (trait_ (A 2) m k (b (2 * j)) = nI (b (2 * j + 1)))) j q s) (nI S ||| (nI 1 <<< nI k)) (nI S))), some (.int (nI (k + 1))), some (.int (x_b (x_it (fun j s => s && decide (trait_ (A 2) m k (b (2 * j)) = nI (b (2 * j + 1)))) j q s))), some (.int (nI t))], [], sl, RH I w A N)) := by
  obtain ⟨hH, hD, hH6, hm⟩ := hV.1
  intro q
  induction q with
  | zero =>
    intro j s hj
    have h1 : t ≤ 2 * j := by omega
    have h2 : 2 * j = t := by omega
    simp only [x_it]
    rw [m241_80, h2]
    cases s <;> simp (disch := omega) only [rt_c, b_some, List.cons_append, List.nil_append, Bool.cond_not, cond_true, cond_false, Bool.cond_decide, nI_add, nI_clamp, xin_n, dle_e, dlt_e, deq_e, xb_0, xb_1, decide_true, decide_false, Bool.not_true, Bool.not_false, Bool.and_true, Bool.true_and, Bool.and_false, Bool.false_and, Bool.true_or, Bool.false_or, Bool.or_true, Bool.or_false, if_true, if_false, up1_s, n_31, Int32.lt_irrefl, Nat.le_refl]
  | succ q ih =>
    intro j s hj
    have h1 : ¬ t ≤ 2 * j := by omega
    have b1 := hb (2 * j) (by omega)
    have b2 := hb (2 * j + 1) (by omega)
    have h239 := c239 (d + 1) sl I w A N hm hD (j := k) (k := b (2 * j)) hk (h4 j (by omega))
    rw [m241_80, show x_it (fun j s => s && decide (trait_ (A 2) m k (b (2 * j)) = nI (b (2 * j + 1)))) j (q + 1) s = x_it (fun j s => s && decide (trait_ (A 2) m k (b (2 * j)) = nI (b (2 * j + 1)))) (j + 1) q (s && decide (trait_ (A 2) m k (b (2 * j)) = nI (b (2 * j + 1)))) from rfl]
    have h3 := fun s => ih (j + 1) s (by omega)
    rw [show 2 * (j + 1) = 2 * j + 2 from rfl] at h3
    cases s with
    | false =>
      have h3' := h3 false
      rw [xb_f] at h3'
      simp (disch := omega) only [rt_c, b_some, List.cons_append, List.nil_append, Bool.cond_not, cond_true, cond_false, Bool.cond_decide, nI_add, nI_clamp, xin_n, dle_e, dlt_e, deq_e, xb_0, xb_1, decide_true, decide_false, Bool.not_true, Bool.not_false, Bool.and_true, Bool.true_and, Bool.and_false, Bool.false_and, Bool.true_or, Bool.false_or, Bool.or_true, Bool.or_false, if_true, if_false, up1_s, n_31, Int32.lt_irrefl, h1]
      exact h3'
    | true =>
      by_cases h5 : trait_ (A 2) m k (b (2 * j)) = nI (b (2 * j + 1))
      · have h3' := h3 true
        rw [xb_t] at h3'
        rw [decide_eq_true h5, Bool.true_and]
        simp (disch := omega) only [rt_c, b_some, List.cons_append, List.nil_append, Bool.cond_not, cond_true, cond_false, Bool.cond_decide, nI_add, nI_clamp, xin_n, dle_e, dlt_e, deq_e, xb_0, xb_1, decide_true, decide_false, Bool.not_true, Bool.not_false, Bool.and_true, Bool.true_and, Bool.and_false, Bool.false_and, Bool.true_or, Bool.false_or, Bool.or_true, Bool.or_false, if_true, if_false, up1_s, n_31, Int32.lt_irrefl, h1, b1.2, h239, m241_103, b2.2, h5]
        exact h3'
      · have h3' := h3 false
        rw [xb_f] at h3'
        rw [decide_eq_false h5, Bool.and_false]
        simp (disch := omega) only [rt_c, b_some, List.cons_append, List.nil_append, Bool.cond_not, cond_true, cond_false, Bool.cond_decide, nI_add, nI_clamp, xin_n, dle_e, dlt_e, deq_e, xb_0, xb_1, decide_true, decide_false, Bool.not_true, Bool.not_false, Bool.and_true, Bool.true_and, Bool.and_false, Bool.false_and, Bool.true_or, Bool.false_or, Bool.or_true, Bool.or_false, if_true, if_false, up1_s, n_31, Int32.lt_irrefl, h1, b1.2, h239, m241_103, b2.2, h5]
        exact h3'
theorem c241_59 {H m t P : Nat} (hV : Vd (A 2) H m) (b : Nat → Nat) (ht : t = 2 * P) (hP : P ≤ 8) (hb : ∀ k, k < t → b k < 256 ∧ A 1 k = nI (b k)) (h4 : ∀ i, i < P → b (2 * i) ≤ 4) : ∀ (q k : Nat) (o4 o5 : Option Value), ((o4 = none ∧ o5 = none) ∨ ((∃ v, o4 = some (.int v)) ∧ ∃ v, o5 = some (.int v))) → k + q = m → ∃ o4' o5', ((o4' = none ∧ o5' = none) ∨ ((∃ v, o4' = some (.int v)) ∧ ∃ v, o5' = some (.int v))) ∧ rt 241 (R (d + 5) 241 (59, [some (.ref 0), some (.int (nI t)), some (.int (nI (mkN (fun k => op_ (A 2) k && okp (A 2) m b P k) k))), some (.int (nI k)), o4, o5], [], sl, RH I w A N)) = if setW (A 2) m b P = 0 then some ([.int (nI 0)], sl, RH I w A N) else rt 241 (R (d + 5) 241 (158, [some (.ref 0), some (.int (nI t)), some (.int (nI (setW (A 2) m b P))), some (.int (nI 1)), o4', o5'], [], sl, RH (up1 I 31 (nI 0)) w A N)) := by
  obtain ⟨hH, hD, hH6, hm⟩ := hV.1
  have hsl : setW (A 2) m b P < 4096 := Nat.lt_of_lt_of_le (mkN_lt _ m) (Nat.pow_le_pow_right (n := 2) (by decide) hm)
  intro q
  induction q with
  | zero =>
    intro k o4 o5 ho hk
    have h1 : m ≤ k := by omega
    have h2 : k = m := by omega
    refine ⟨o4, o5, ho, ?_⟩
    rw [show mkN (fun k => op_ (A 2) k && okp (A 2) m b P k) k = setW (A 2) m b P by rw [h2]; rfl]
    by_cases h0 : setW (A 2) m b P = 0
    · rw [if_pos h0]
      rcases ho with ⟨rfl, rfl⟩ | ⟨⟨v, rfl⟩, u, rfl⟩
      · rw [m241_59]
        simp (disch := omega) only [rt_c, b_some, List.cons_append, List.nil_append, Bool.cond_not, cond_true, cond_false, Bool.cond_decide, nI_add, nI_clamp, xin_n, dle_e, dlt_e, deq_e, xb_0, xb_1, decide_true, decide_false, Bool.not_true, Bool.not_false, Bool.and_true, Bool.true_and, Bool.and_false, Bool.false_and, Bool.true_or, Bool.false_or, Bool.or_true, Bool.or_false, if_true, if_false, up1_s, n_31, Int32.lt_irrefl, hD, h1, h0, t241_29, t241_48, t241_150, t241_193]
      · rw [m241_59_1]
        simp (disch := omega) only [rt_c, b_some, List.cons_append, List.nil_append, Bool.cond_not, cond_true, cond_false, Bool.cond_decide, nI_add, nI_clamp, xin_n, dle_e, dlt_e, deq_e, xb_0, xb_1, decide_true, decide_false, Bool.not_true, Bool.not_false, Bool.and_true, Bool.true_and, Bool.and_false, Bool.false_and, Bool.true_or, Bool.false_or, Bool.or_true, Bool.or_false, if_true, if_false, up1_s, n_31, Int32.lt_irrefl, hD, h1, h0, t241_29, t241_48, t241_150, t241_193]
    · rw [if_neg h0]
      rcases ho with ⟨rfl, rfl⟩ | ⟨⟨v, rfl⟩, u, rfl⟩
      · rw [m241_59]
        simp (disch := omega) only [rt_c, b_some, List.cons_append, List.nil_append, Bool.cond_not, cond_true, cond_false, Bool.cond_decide, nI_add, nI_clamp, xin_n, dle_e, dlt_e, deq_e, xb_0, xb_1, decide_true, decide_false, Bool.not_true, Bool.not_false, Bool.and_true, Bool.true_and, Bool.and_false, Bool.false_and, Bool.true_or, Bool.false_or, Bool.or_true, Bool.or_false, if_true, if_false, up1_s, n_31, Int32.lt_irrefl, hD, h1, h0]
      · rw [m241_59_1]
        simp (disch := omega) only [rt_c, b_some, List.cons_append, List.nil_append, Bool.cond_not, cond_true, cond_false, Bool.cond_decide, nI_add, nI_clamp, xin_n, dle_e, dlt_e, deq_e, xb_0, xb_1, decide_true, decide_false, Bool.not_true, Bool.not_false, Bool.and_true, Bool.true_and, Bool.and_false, Bool.false_and, Bool.true_or, Bool.false_or, Bool.or_true, Bool.or_false, if_true, if_false, up1_s, n_31, Int32.lt_irrefl, hD, h1, h0]
  | succ q ih =>
    intro k o4 o5 ho hk
    have h1 : ¬ m ≤ k := by omega
    have hl := mkN_lt (fun k => op_ (A 2) k && okp (A 2) m b P k) k
    have hl2 : 2 ^ k ≤ 2 ^ 11 := Nat.pow_le_pow_right (by decide) (by omega)
    have h80 := c241_80 d sl I w A N hV b ht hP hb h4 (show k < m by omega) (mkN (fun k => op_ (A 2) k && okp (A 2) m b P k) k) P 0 (op_ (A 2) k) (by omega)
    rw [and_it] at h80
    have hok : x_it (fun j s => s && decide (trait_ (A 2) m k (b (2 * j)) = nI (b (2 * j + 1)))) 0 P true = okp (A 2) m b P k := rfl
    rw [hok] at h80
    have hset : cond (op_ (A 2) k && okp (A 2) m b P k) (nI (mkN (fun k => op_ (A 2) k && okp (A 2) m b P k) k) ||| (nI 1 <<< nI k)) (nI (mkN (fun k => op_ (A 2) k && okp (A 2) m b P k) k)) = nI (mkN (fun k => op_ (A 2) k && okp (A 2) m b P k) (k + 1)) := by
      rw [mkN_succ]
      cases (op_ (A 2) k && okp (A 2) m b P k) with
      | false => rfl
      | true =>
        show nI _ ||| (nI 1 <<< nI k) = nI (_ ||| (1 <<< k))
        rw [nI_shl (by omega), nI_or (by omega) (Nat.lt_of_lt_of_le shl_lt (Nat.pow_le_pow_right (by decide) (by omega)))]
    rw [hset] at h80
    obtain ⟨o4', o5', ho', e1⟩ := ih (k + 1) (some (.int (x_b (op_ (A 2) k && okp (A 2) m b P k)))) (some (.int (nI t))) (Or.inr ⟨⟨_, rfl⟩, _, rfl⟩) (by omega)
    refine ⟨o4', o5', ho', ?_⟩
    rw [← e1, ← h80]
    have h198 := c198 (d + 4) sl I w A N (show k < 12 by omega)
    rcases ho with ⟨rfl, rfl⟩ | ⟨⟨v, rfl⟩, u, rfl⟩
    · rw [m241_59]
      simp (disch := omega) only [rt_c, b_some, List.cons_append, List.nil_append, Bool.cond_not, cond_true, cond_false, Bool.cond_decide, nI_add, nI_clamp, xin_n, dle_e, dlt_e, deq_e, xb_0, xb_1, decide_true, decide_false, Bool.not_true, Bool.not_false, Bool.and_true, Bool.true_and, Bool.and_false, Bool.false_and, Bool.true_or, Bool.false_or, Bool.or_true, Bool.or_false, if_true, if_false, up1_s, n_31, Int32.lt_irrefl, hD, h1, h198, m241_75]
    · rw [m241_59_1]
      simp (disch := omega) only [rt_c, b_some, List.cons_append, List.nil_append, Bool.cond_not, cond_true, cond_false, Bool.cond_decide, nI_add, nI_clamp, xin_n, dle_e, dlt_e, deq_e, xb_0, xb_1, decide_true, decide_false, Bool.not_true, Bool.not_false, Bool.and_true, Bool.true_and, Bool.and_false, Bool.false_and, Bool.true_or, Bool.false_or, Bool.or_true, Bool.or_false, if_true, if_false, up1_s, n_31, Int32.lt_irrefl, hD, h1, h198, m241_75_1]
theorem c241_158 {H m t s : Nat} (hV : Vd (A 2) H m) (hs : s < 4096) (a1 : Int32) : ∀ (q i a : Nat) (o4 o5 : Option Value), ((o4 = none ∧ o5 = none) ∨ ((∃ v, o4 = some (.int v)) ∧ ∃ v, o5 = some (.int v))) → i + q = 5 → a < 5 → rt 241 (R (d + 5) 241 (158, [some (.ref 0), some (.int a1), some (.int (nI s)), some (.int (nI i)), o4, o5], [], sl, RH (up1 I 31 (nI a)) w A N)) = some ([.int (nI s)], sl, RH (up1 I 31 (nI (x_it (fun t a => if grW (A 2) m s t < grW (A 2) m s a then t else a) i q a))) w A N) := by
  have hm := hV.1.2.2.2
  intro q
  induction q with
  | zero =>
    intro i a o4 o5 ho hi ha
    have h1 : 5 ≤ i := by omega
    rcases ho with ⟨rfl, rfl⟩ | ⟨⟨v, rfl⟩, u, rfl⟩
    · rw [m241_158]
      simp (disch := omega) only [rt_c, b_some, List.cons_append, List.nil_append, Bool.cond_not, cond_true, cond_false, Bool.cond_decide, nI_add, nI_clamp, xin_n, dle_e, dlt_e, deq_e, xb_0, xb_1, decide_true, decide_false, Bool.not_true, Bool.not_false, Bool.and_true, Bool.true_and, Bool.and_false, Bool.false_and, Bool.true_or, Bool.false_or, Bool.or_true, Bool.or_false, if_true, if_false, up1_s, n_31, Int32.lt_irrefl, h1, x_it, t241_29, t241_48, t241_150, t241_193]
    · rw [m241_158_1]
      simp (disch := omega) only [rt_c, b_some, List.cons_append, List.nil_append, Bool.cond_not, cond_true, cond_false, Bool.cond_decide, nI_add, nI_clamp, xin_n, dle_e, dlt_e, deq_e, xb_0, xb_1, decide_true, decide_false, Bool.not_true, Bool.not_false, Bool.and_true, Bool.true_and, Bool.and_false, Bool.false_and, Bool.true_or, Bool.false_or, Bool.or_true, Bool.or_false, if_true, if_false, up1_s, n_31, Int32.lt_irrefl, h1, x_it, t241_29, t241_48, t241_150, t241_193]
  | succ q ih =>
    intro i a o4 o5 ho hi ha
    have h1 : ¬ 5 ≤ i := by omega
    have e1 := c240 d sl (up1 I 31 (nI a)) w A N hV hs (show i ≤ 4 by omega)
    have e2 := c240 d sl (up1 I 31 (nI a)) w A N hV hs (show a ≤ 4 by omega)
    have gi := grW_le (A 2) m s i
    have ga := grW_le (A 2) m s a
    rw [show x_it (fun t a => if grW (A 2) m s t < grW (A 2) m s a then t else a) i (q + 1) a = x_it (fun t a => if grW (A 2) m s t < grW (A 2) m s a then t else a) (i + 1) q (if grW (A 2) m s i < grW (A 2) m s a then i else a) from rfl]
    by_cases h2 : grW (A 2) m s i < grW (A 2) m s a
    · have h2' : ¬ grW (A 2) m s a ≤ grW (A 2) m s i := by omega
      rw [if_pos h2]
      have h3 := ih (i + 1) i o4 o5 ho (by omega) (by omega)
      rcases ho with ⟨rfl, rfl⟩ | ⟨⟨v, rfl⟩, u, rfl⟩
      · rw [m241_158]
        simp (disch := omega) only [rt_c, b_some, List.cons_append, List.nil_append, Bool.cond_not, cond_true, cond_false, Bool.cond_decide, nI_add, nI_clamp, xin_n, dle_e, dlt_e, deq_e, xb_0, xb_1, decide_true, decide_false, Bool.not_true, Bool.not_false, Bool.and_true, Bool.true_and, Bool.and_false, Bool.false_and, Bool.true_or, Bool.false_or, Bool.or_true, Bool.or_false, if_true, if_false, up1_s, n_31, Int32.lt_irrefl, h1, e1, m241_169, e2, m241_178, h2', up1_up, h3]
      · rw [m241_158_1]
        simp (disch := omega) only [rt_c, b_some, List.cons_append, List.nil_append, Bool.cond_not, cond_true, cond_false, Bool.cond_decide, nI_add, nI_clamp, xin_n, dle_e, dlt_e, deq_e, xb_0, xb_1, decide_true, decide_false, Bool.not_true, Bool.not_false, Bool.and_true, Bool.true_and, Bool.and_false, Bool.false_and, Bool.true_or, Bool.false_or, Bool.or_true, Bool.or_false, if_true, if_false, up1_s, n_31, Int32.lt_irrefl, h1, e1, m241_169_1, e2, m241_178_1, h2', up1_up, h3]
    · have h2' : grW (A 2) m s a ≤ grW (A 2) m s i := by omega
      rw [if_neg h2]
      have h3 := ih (i + 1) a o4 o5 ho (by omega) ha
      rcases ho with ⟨rfl, rfl⟩ | ⟨⟨v, rfl⟩, u, rfl⟩
      · rw [m241_158]
        simp (disch := omega) only [rt_c, b_some, List.cons_append, List.nil_append, Bool.cond_not, cond_true, cond_false, Bool.cond_decide, nI_add, nI_clamp, xin_n, dle_e, dlt_e, deq_e, xb_0, xb_1, decide_true, decide_false, Bool.not_true, Bool.not_false, Bool.and_true, Bool.true_and, Bool.and_false, Bool.false_and, Bool.true_or, Bool.false_or, Bool.or_true, Bool.or_false, if_true, if_false, up1_s, n_31, Int32.lt_irrefl, h1, e1, m241_169, e2, m241_178, h2', h3]
      · rw [m241_158_1]
        simp (disch := omega) only [rt_c, b_some, List.cons_append, List.nil_append, Bool.cond_not, cond_true, cond_false, Bool.cond_decide, nI_add, nI_clamp, xin_n, dle_e, dlt_e, deq_e, xb_0, xb_1, decide_true, decide_false, Bool.not_true, Bool.not_false, Bool.and_true, Bool.true_and, Bool.and_false, Bool.false_and, Bool.true_or, Bool.false_or, Bool.or_true, Bool.or_false, if_true, if_false, up1_s, n_31, Int32.lt_irrefl, h1, e1, m241_169_1, e2, m241_178_1, h2', h3]
theorem c241 {H m t : Nat} (hV : Vd (A 2) H m) (b : Nat → Nat) (ht : t ≤ 940) (hI : I 2 = nI t) (hb : ∀ k, k < t → b k < 256 ∧ A 1 k = nI (b k)) : (whW (A 2) m t b = -1 ∧ C (d + 5) 241 [.ref 0] sl (RH I w A N) = some ([.int (-1)], sl, RH (up1 (up1 I 0 (nI 0)) 2 (nI 0)) w A N)) ∨ (∃ s, s < 4096 ∧ whW (A 2) m t b = nI s ∧ ((s = 0 ∧ C (d + 5) 241 [.ref 0] sl (RH I w A N) = some ([.int (nI 0)], sl, RH (up1 (up1 I 0 (nI 0)) 2 (nI 0)) w A N)) ∨ (s ≠ 0 ∧ C (d + 5) 241 [.ref 0] sl (RH I w A N) = some ([.int (nI s)], sl, RH (up1 (up1 (up1 I 0 (nI 0)) 2 (nI 0)) 31 (nI (askW (grW (A 2) m s)))) w A N)))) := by
  have hm := hV.1.2.2.2
  have hdiv : nI t / nI 2 = nI (t / 2) := pk_div (by omega) (by omega) (by omega)
  have hrem : nI t - nI (t / 2) * nI 2 = nI (t % 2) := by
    rw [← hdiv]
    exact pk_rem (by omega) (by omega) (by omega)
  have h165 := c165 (d + 4) sl (up1 I 0 (nI 0)) w A N
  rw [up1_n (by decide), hI] at h165
  have hc : ∀ x, x = (decide (1 ≤ t / 2) && decide (t / 2 ≤ 8)) → C (d + 4) 166 [.int (nI (t / 2)), .int (nI 1), .int (nI 8)] sl (RH (up1 (up1 I 0 (nI 0)) 2 (nI 0)) w A N) = some ([.int (x_b x)], sl, RH (up1 (up1 I 0 (nI 0)) 2 (nI 0)) w A N) := by
    intro x hx
    rw [c166, hx, dle_n (by omega) (by omega), dle_n (by omega) (by omega)]
  unfold whW
  by_cases a1 : t % 2 = 0
  · cases a2 : (decide (1 ≤ t / 2) && decide (t / 2 ≤ 8)) with
    | false =>
      left
      have a3 : ¬ (1 ≤ t / 2 ∧ t / 2 ≤ 8) := by
        rintro ⟨h1, h2⟩
        rw [decide_eq_true h1, decide_eq_true h2] at a2
        cases a2
      refine ⟨if_neg (fun h => a3 ⟨h.2.1, h.2.2.1⟩), ?_⟩
      have h166 := hc false a2.symm
      rw [e241, m241_0, h165]
      simp (disch := omega) only [rt_c, b_some, List.cons_append, List.nil_append, Bool.cond_not, cond_true, cond_false, Bool.cond_decide, nI_add, nI_clamp, xin_n, dle_e, dlt_e, deq_e, xb_0, xb_1, decide_true, decide_false, Bool.not_true, Bool.not_false, Bool.and_true, Bool.true_and, Bool.and_false, Bool.false_and, Bool.true_or, Bool.false_or, Bool.or_true, Bool.or_false, if_true, if_false, up1_s, n_31, Int32.lt_irrefl, m241_9, hrem, hdiv, a1, h166, m241_25, t241_29, t241_48, t241_150, t241_193]
    | true =>
      have a3 := a2
      rw [Bool.and_eq_true, decide_eq_true_eq, decide_eq_true_eq] at a3
      have h166 := hc true a2.symm
      have h32 := c241_32 d sl (up1 (up1 I 0 (nI 0)) 2 (nI 0)) w A N (t := t) (P := t / 2) b (by omega) a3.2 hb (t / 2) 0 (by omega)
      have hst : C (d + 5) 241 [.ref 0] sl (RH I w A N) = rt 241 (R (d + 5) 241 (32, [some (.ref 0), some (.int (nI t)), some (.int (nI (2 * 0))), none, none, none], [], sl, RH (up1 (up1 I 0 (nI 0)) 2 (nI 0)) w A N)) := by
        rw [e241, m241_0, h165]
        simp (disch := omega) only [rt_c, b_some, List.cons_append, List.nil_append, Bool.cond_not, cond_true, cond_false, Bool.cond_decide, nI_add, nI_clamp, xin_n, dle_e, dlt_e, deq_e, xb_0, xb_1, decide_true, decide_false, Bool.not_true, Bool.not_false, Bool.and_true, Bool.true_and, Bool.and_false, Bool.false_and, Bool.true_or, Bool.false_or, Bool.or_true, Bool.or_false, if_true, if_false, up1_s, n_31, Int32.lt_irrefl, m241_9, hrem, hdiv, a1, h166, m241_25]
      by_cases a4 : ∀ j, j < t / 2 → b (2 * j) ≤ 4
      · right
        rw [if_pos ⟨a1, a3.1, a3.2, a4⟩]
        rw [if_pos (fun i i1 _ => a4 i i1)] at h32
        obtain ⟨o4, o5, ho, e1⟩ := c241_59 d sl (up1 (up1 I 0 (nI 0)) 2 (nI 0)) w A N hV (t := t) (P := t / 2) b (by omega) a3.2 hb a4 m 0 none none (Or.inl ⟨rfl, rfl⟩) (by omega)
        have hs : setW (A 2) m b (t / 2) < 4096 := Nat.lt_of_lt_of_le (mkN_lt _ m) (Nat.pow_le_pow_right (n := 2) (by decide) hm)
        refine ⟨_, hs, rfl, ?_⟩
        by_cases h0 : setW (A 2) m b (t / 2) = 0
        · left
          refine ⟨h0, ?_⟩
          rw [if_pos h0] at e1
          rw [hst, h32]
          exact e1
        · right
          refine ⟨h0, ?_⟩
          rw [if_neg h0] at e1
          have e2 := c241_158 d sl (up1 (up1 I 0 (nI 0)) 2 (nI 0)) w A N (t := t) hV hs (nI t) 4 1 0 o4 o5 ho (by omega) (by omega)
          rw [hst, h32]
          exact e1.trans e2
      · left
        refine ⟨if_neg (fun h => a4 h.2.2.2), ?_⟩
        rw [if_neg (fun h => a4 (fun j j1 => h j j1 (by omega)))] at h32
        rw [hst, h32]
  · left
    refine ⟨if_neg (fun h => a1 h.1), ?_⟩
    rw [e241, m241_0, h165]
    simp (disch := omega) only [rt_c, b_some, List.cons_append, List.nil_append, Bool.cond_not, cond_true, cond_false, Bool.cond_decide, nI_add, nI_clamp, xin_n, dle_e, dlt_e, deq_e, xb_0, xb_1, decide_true, decide_false, Bool.not_true, Bool.not_false, Bool.and_true, Bool.true_and, Bool.and_false, Bool.false_and, Bool.true_or, Bool.false_or, Bool.or_true, Bool.or_false, if_true, if_false, up1_s, n_31, Int32.lt_irrefl, m241_9, hrem, hdiv, a1, t241_29, t241_48, t241_150, t241_193]
end RFW2
/-- the tape is empty then, what was asked may be otherwise -/
theorem Rl_tape {I A : Nat → Nat → Int32} {N : Nat → Nat → Int64} {V : Nat → Nat → Option Nat} {sp sr : Nat} {J : Nat → Int32} {B : Nat → Nat → Int32} {M : Nat → Nat → Int64} (h : Rl I A N V sp sr J B M) {I' A' : Nat → Nat → Int32} {J' : Nat → Int32} (hI : ∀ q, 2 ≤ q → I' q = I q) (hA : ∀ q, q ≠ 119 → A' q = A q) (h11 : I' 1 1 = nI 0) (hJ2 : J' 2 = nI 0) (hJ : ∀ q, q ≠ 0 → q ≠ 2 → q ≠ 31 → J' q = J q) (h13 : I' 0 13 = I 0 13) (h14 : I' 0 14 = I 0 14) (h15 : I' 0 15 = J' 31) : Rl I' A' N V sp sr J' B M := by
  obtain ⟨H, m, h1, ⟨p, z, h2⟩, h3⟩ := h
  obtain ⟨⟨q1, q2, q3⟩, qr, ql, qt⟩ := h3.2.1
  refine ⟨H, m, ⟨Sh_c h1.1 (fun _ _ => rfl) (hI 3 (by omega)) (fun q _ _ => hA q (by omega)), h1.2⟩, ⟨p, z, RPx_c h2 (fun q _ _ => hI q (by omega)) (fun q _ _ => hA q (by omega)) (fun _ _ _ => rfl) rfl (hJ _ (by decide) (by decide) (by decide)) rfl (fun _ _ => rfl)⟩, RZ_h h3 (fun q _ => hI q (by omega)) (fun q _ => hA q (by omega)) (fun _ _ => rfl) ⟨rfl, rfl⟩ rfl (fun _ _ => rfl) ⟨0, by omega, h11, hJ2, fun k hk => by omega⟩ ⟨⟨?_, ?_, h15⟩, ?_, ?_, ?_⟩⟩
  · rw [h13, hJ 10 (by decide) (by decide) (by decide)]; exact q1
  · rw [h14, hJ 28 (by decide) (by decide) (by decide)]; exact q2
  · rw [hI 95 (by omega), hA 98 (by decide), hJ 27 (by decide) (by decide) (by decide)]; exact qr
  · rw [hI 106 (by omega), hA 107 (by decide), hJ 33 (by decide) (by decide) (by decide)]; exact ql
  · rw [hI 101 (by omega), hJ 38 (by decide) (by decide) (by decide)]; exact qt
theorem ok_which (d : Nat) : Ok (d + 6) 146 241 [.ref 0] := by
  intro sl sl2 I A N V lt tw sp sr J w B M hR
  have hR0 := hR
  obtain ⟨H, m, h1, ⟨p, z, h2⟩, h3⟩ := hR
  have hS := h1.1
  have hV := h1.2.1
  have hm := hV.1.2.2.2
  obtain ⟨t, ht, t1, t2, t3⟩ := h3.1
  have hq3 := h3.2.1.1.2.2
  have hc : ∀ k, ∃ v, k < t → v < 256 ∧ B 1 k = nI v ∧ A 2 k = by8 v := fun k => by
    by_cases hk : k < t
    · obtain ⟨v, hv⟩ := t3 k hk
      exact ⟨v, fun _ => hv⟩
    · exact ⟨0, fun h => absurd h hk⟩
  have hf : ∃ b : Nat → Nat, ∀ k, k < t → b k < 256 ∧ B 1 k = nI (b k) ∧ A 2 k = by8 (b k) := ⟨fun k => Classical.choose (hc k), fun k => Classical.choose_spec (hc k)⟩
  obtain ⟨b, hb⟩ := hf
  have e1 := q148 d sl I A N V lt tw sp sr [] hS b ht t1 (fun k hk => ⟨(hb k hk).1, (hb k hk).2.2⟩)
  have hS' : Sh (up1 I 1 (up1 (I 1) 1 (nI 0))) A 3 (B 2) H m := Sh_c hS (fun _ _ => rfl) (up1_n (by decide)) (fun _ _ _ => rfl)
  rcases c241 (d + 1) sl2 J w B M hV b ht t2 (fun k hk => ⟨(hb k hk).1, (hb k hk).2.1⟩) with ⟨f1, f2⟩ | ⟨s, hs, f1, ⟨rfl, f2⟩ | ⟨hs0, f2⟩⟩
  · rw [f1] at e1
    have hn : (-1 : Int32) ≤ nI 0 := by decide
    refine ⟨-1, up1 I 1 (up1 (I 1) 1 (nI 0)), A, N, V, lt, tw, sp, sr, [], sl, _, w, B, M, ?_, f2, Rl_tape hR0 (fun q hq => up1_n (by omega)) (fun _ _ => rfl) (by rw [up1_s, up1_s]) up1_s (fun q a1 a2 a3 => by rw [up1_n a2, up1_n a1]) (by rw [up1_n (by decide)]) (by rw [up1_n (by decide)]) (by rw [up1_n (by decide), up1_n (by decide), up1_n (by decide)]; exact hq3), Nat.le_refl _, by omega, by simp⟩
    rw [e146, k146_0, e1]
    simp (disch := omega) only [rt_c, b_some, List.cons_append, List.nil_append, Bool.cond_not, cond_true, cond_false, Bool.cond_decide, nI_add, nI_clamp, xin_n, dle_e, dlt_e, deq_e, xb_0, xb_1, decide_true, decide_false, Bool.not_true, Bool.not_false, Bool.and_true, Bool.true_and, Bool.and_false, Bool.false_and, Bool.true_or, Bool.false_or, Bool.or_true, Bool.or_false, if_true, if_false, up1_s, n_31, Int32.lt_irrefl, k146_4, hn, t146_27]
  · rw [f1] at e1
    refine ⟨nI 0, up1 I 1 (up1 (I 1) 1 (nI 0)), A, N, V, lt, tw, sp, sr, [], sl, _, w, B, M, ?_, f2, Rl_tape hR0 (fun q hq => up1_n (by omega)) (fun _ _ => rfl) (by rw [up1_s, up1_s]) up1_s (fun q a1 a2 a3 => by rw [up1_n a2, up1_n a1]) (by rw [up1_n (by decide)]) (by rw [up1_n (by decide)]) (by rw [up1_n (by decide), up1_n (by decide), up1_n (by decide)]; exact hq3), Nat.le_refl _, by omega, by simp⟩
    rw [e146, k146_0, e1]
    simp (disch := omega) only [rt_c, b_some, List.cons_append, List.nil_append, Bool.cond_not, cond_true, cond_false, Bool.cond_decide, nI_add, nI_clamp, xin_n, dle_e, dlt_e, deq_e, xb_0, xb_1, decide_true, decide_false, Bool.not_true, Bool.not_false, Bool.and_true, Bool.true_and, Bool.and_false, Bool.false_and, Bool.true_or, Bool.false_or, Bool.or_true, Bool.or_false, if_true, if_false, up1_s, n_31, Int32.lt_irrefl, k146_4, Nat.le_refl, t146_27]
  · rw [f1] at e1
    have hs0' : ¬ s ≤ 0 := by omega
    obtain ⟨r, e2⟩ := q150 d sl (up1 I 1 (up1 (I 1) 1 (nI 0))) A N V lt tw sp sr [] hS' hs
    refine ⟨nI s, up1 (up1 I 1 (up1 (I 1) 1 (nI 0))) 0 (up1 (up1 I 1 (up1 (I 1) 1 (nI 0)) 0) 15 (nI (askW (grW (B 2) m s)))), up1 A 119 r, N, V, lt, tw, sp, sr, [], sl, _, w, B, M, ?_, f2, Rl_tape hR0 (fun q hq => by rw [up1_n (by omega), up1_n (by omega)]) (fun q hq => up1_n hq) (by rw [up1_n (by decide), up1_s, up1_s]) (by rw [up1_n (by decide), up1_s]) (fun q a1 a2 a3 => by rw [up1_n a3, up1_n a2, up1_n a1]) (by rw [up1_s, up1_n (by decide), up1_n (by decide)]) (by rw [up1_s, up1_n (by decide), up1_n (by decide)]) (by rw [up1_s, up1_s, up1_s]), Nat.le_refl _, by omega, by simp⟩
    rw [e146, k146_0, e1]
    simp (disch := omega) only [rt_c, b_some, List.cons_append, List.nil_append, Bool.cond_not, cond_true, cond_false, Bool.cond_decide, nI_add, nI_clamp, xin_n, dle_e, dlt_e, deq_e, xb_0, xb_1, decide_true, decide_false, Bool.not_true, Bool.not_false, Bool.and_true, Bool.true_and, Bool.and_false, Bool.false_and, Bool.true_or, Bool.false_or, Bool.or_true, Bool.or_false, if_true, if_false, up1_s, n_31, Int32.lt_irrefl, k146_4, hs0', e2, k146_23, t146_27]
