/-! WHICH, SIDE BY SIDE -/
theorem by8_255 {b : Nat} (hb : b < 256) : by8 b &&& nI 255 = nI b := by
  have : ∀ b : Fin 256, by8 b.val &&& nI 255 = nI b.val := by decide +kernel
  exact this ⟨b, hb⟩
theorem mkN_and (P Q : Nat → Bool) (m : Nat) : mkN P m &&& mkN Q m = mkN (fun k => P k && Q k) m := by
  apply Nat.eq_of_testBit_eq
  intro k
  rw [Nat.testBit_and, mkN_bit, mkN_bit, mkN_bit]
  cases decide (k < m) <;> simp
/-- the first i pairs are so of a debt -/
def okp (n : Nat → Int32) (m : Nat) (b : Nat → Nat) (i k : Nat) : Bool := x_it (fun j s => s && decide (trait_ n m k (b (2 * j)) = nI (b (2 * j + 1)))) 0 i true
theorem okp_succ (n : Nat → Int32) (m : Nat) (b : Nat → Nat) (i k : Nat) : okp n m b (i + 1) k = (okp n m b i k && decide (trait_ n m k (b (2 * i)) = nI (b (2 * i + 1)))) := by
  unfold okp
  rw [x_it_succ, Nat.zero_add]
def setW (n : Nat → Int32) (m : Nat) (b : Nat → Nat) (P : Nat) : Nat := mkN (fun k => op_ n k && okp n m b P k) m
/-- how many of a set are alike in a trait, at most -/
def cntW (n : Nat → Int32) (m s t : Nat) (v : Int32) : Nat := x_it (fun e c => cond (s.testBit e) (if trait_ n m e t = v then c + 1 else c) c) 0 m 0
def grW (n : Nat → Int32) (m s t : Nat) : Nat := x_it (fun k g => cond (s.testBit k) (max g (cntW n m s t (trait_ n m k t))) g) 0 m 0
def askW (g : Nat → Nat) : Nat := x_it (fun t a => if g t < g a then t else a) 1 4 0
theorem cntW_le (n : Nat → Int32) (m s t : Nat) (v : Int32) : cntW n m s t v ≤ m := by
  have := x_it_inv (f := fun e c => cond (s.testBit e) (if trait_ n m e t = v then c + 1 else c) c) (fun k c => c ≤ k) m 0 0 (Nat.le_refl _) (fun j c _ _ h => by
    cases s.testBit j with
    | false => show c ≤ j + 1; omega
    | true =>
      show (if trait_ n m j t = v then c + 1 else c) ≤ j + 1
      split <;> omega)
  rw [Nat.zero_add] at this
  exact this
theorem grW_le (n : Nat → Int32) (m s t : Nat) : grW n m s t ≤ m := by
  have := x_it_inv (f := fun k g => cond (s.testBit k) (max g (cntW n m s t (trait_ n m k t))) g) (fun _ g => g ≤ m) m 0 0 (Nat.zero_le _) (fun j c _ _ h => by
    cases s.testBit j with
    | false => exact h
    | true =>
      show max c (cntW n m s t (trait_ n m j t)) ≤ m
      have := cntW_le n m s t (trait_ n m j t)
      omega)
  exact this
theorem xmax_nn {a b : Nat} (ha : a < 2 ^ 31) (hb : b < 2 ^ 31) : x_max (nI a) (nI b) = nI (max a b) := by
  unfold x_max
  by_cases h : a < b
  · rw [if_pos ((nI_ltI ha hb).mpr h), Nat.max_eq_right (by omega)]
  · rw [if_neg (fun h2 => h ((nI_ltI ha hb).mp h2)), Nat.max_eq_left (by omega)]
/-- a row of those in a set, one behind the other -/
def cntS (s : Nat) : Nat → Nat
  | 0 => 0
  | k + 1 => cond (s.testBit k) (cntS s k + 1) (cntS s k)
theorem cntS_le (s : Nat) : ∀ k, cntS s k ≤ k
  | 0 => Nat.le_refl _
  | k + 1 => by
    have := cntS_le s k
    simp only [cntS]
    cases s.testBit k
    · show cntS s k ≤ k + 1; omega
    · show cntS s k + 1 ≤ k + 1; omega
theorem row_fold {σ : Type} (F : Int32 → σ → σ) (T : Nat → Int32) (s : Nat) (r : Nat → Int32) : ∀ (m : Nat) (z : σ), (∀ k, k < m → s.testBit k = true → r (cntS s k) = T k) → x_it (fun j z => F (r j) z) 0 (cntS s m) z = x_it (fun k z => cond (s.testBit k) (F (T k) z) z) 0 m z := by
  intro m
  induction m with
  | zero => intro z _; rfl
  | succ m ih =>
    intro z h
    rw [x_it_succ, Nat.zero_add]
    cases hb : s.testBit m with
    | false =>
      have e : cntS s (m + 1) = cntS s m := by simp only [cntS]; rw [hb]; rfl
      rw [e, ih z (fun k hk hs => h k (by omega) hs)]
      rfl
    | true =>
      have e : cntS s (m + 1) = cntS s m + 1 := by simp only [cntS]; rw [hb]; rfl
      rw [e, x_it_succ, Nat.zero_add, ih z (fun k hk hs => h k (by omega) hs), h m (by omega) hb]
      rfl
section CLW
variable (d sl : Nat) (I : Nat → Nat → Int32) (A : Nat → Nat → Int32) (N : Nat → Nat → Int64) (V : Nat → Nat → Option Nat) (lt : Int64) (tw : Option Nat) (sp sr : Nat) (X : List AC) {n : Nat → Int32} {H m : Nat}
theorem q88 {t k b : Nat} (ht : t ≤ 940) (hk : k < t) (h1 : I 1 1 = nI t) (hb : b < 256) (h2 : A 2 k = by8 b) : C d 88 [.ref 1, .int (nI k)] sl (CH I A N V lt tw sp sr X) = some ([.int (nI b)], sl, CH I A N V lt tw sp sr X) := by
  have a1 : ¬ k < 0 := by omega
  have a2 : ¬ t ≤ k := by omega
  rw [e88, k88_r1_0, h1]
  simp (disch := omega) only [rt_c, b_some, List.cons_append, List.nil_append, Bool.cond_not, cond_true, cond_false, Bool.cond_decide, nI_add, nI_clamp, xin_n, dle_e, dlt_e, deq_e, xb_0, xb_1, decide_true, decide_false, Bool.not_true, Bool.not_false, Bool.and_true, Bool.true_and, Bool.and_false, Bool.false_and, Bool.true_or, Bool.false_or, Bool.or_true, Bool.or_false, if_true, if_false, up1_s, n_31, Int32.lt_irrefl, a1, a2, h2, by8_255 hb, t88_26]
theorem q149 (hS : Sh I A 3 n H m) {t : Nat} (ht : t ≤ 4) (v : Int32) : C (d + 4) 149 [.ref 0, .int (nI t), .int v] sl (CH I A N V lt tw sp sr X) = some ([.int (nI (mkN (fun k => decide (trait_ n m k t = v)) m))], sl, CH I A N V lt tw sp sr X) := by
  have h56 := fun k hk => q56 d sl I A N V lt tw sp sr X hS (j := k) (k := t) hk ht
  obtain ⟨⟨hH, hD, hH6, hm⟩, -⟩ := sh_3 hS
  rw [e149, k149_0]
  refine lpM (fun k s => rt 149 (R (d + 4) 149 (5, [some (.ref 0), some (.int (nI t)), some (.int v), some (.int s), some (.int (nI k))], [], sl, CH I A N V lt tw sp sr X))) (fun k => decide (trait_ n m k t = v)) m (by omega) (fun s => some ([.int s], sl, CH I A N V lt tw sp sr X)) ?_ ?_
  · intro k s hk
    have h1 : ¬ m ≤ k := by omega
    rw [k149_5]
    simp (disch := omega) only [rt_c, b_some, List.cons_append, List.nil_append, Bool.cond_not, cond_true, cond_false, Bool.cond_decide, nI_add, nI_clamp, xin_n, dle_e, dlt_e, deq_e, xb_0, xb_1, decide_true, decide_false, Bool.not_true, Bool.not_false, Bool.and_true, Bool.true_and, Bool.and_false, Bool.false_and, Bool.true_or, Bool.false_or, Bool.or_true, Bool.or_false, if_true, if_false, up1_s, n_31, Int32.lt_irrefl, hD, h1, h56, k149_27]
    by_cases h2 : trait_ n m k t = v <;> simp (disch := omega) only [rt_c, b_some, List.cons_append, List.nil_append, Bool.cond_not, cond_true, cond_false, Bool.cond_decide, nI_add, nI_clamp, xin_n, dle_e, dlt_e, deq_e, xb_0, xb_1, decide_true, decide_false, Bool.not_true, Bool.not_false, Bool.and_true, Bool.true_and, Bool.and_false, Bool.false_and, Bool.true_or, Bool.false_or, Bool.or_true, Bool.or_false, if_true, if_false, up1_s, n_31, Int32.lt_irrefl, h2]
  · intro s
    rw [k149_5]
    simp (disch := omega) only [rt_c, b_some, List.cons_append, List.nil_append, Bool.cond_not, cond_true, cond_false, Bool.cond_decide, nI_add, nI_clamp, xin_n, dle_e, dlt_e, deq_e, xb_0, xb_1, decide_true, decide_false, Bool.not_true, Bool.not_false, Bool.and_true, Bool.true_and, Bool.and_false, Bool.false_and, Bool.true_or, Bool.false_or, Bool.or_true, Bool.or_false, if_true, if_false, up1_s, n_31, Int32.lt_irrefl, hD, Nat.le_refl, t149_45]
/-- is every trait of the tape one of the five -/
theorem q148_45 (hS : Sh I A 3 n H m) {t P : Nat} (b : Nat → Nat) (ht : t ≤ 940) (h1 : I 1 1 = nI t) (hP : 2 * P ≤ t) (hP8 : P ≤ 8) (hb : ∀ k, k < t → b k < 256 ∧ A 2 k = by8 (b k)) : ∀ (q i : Nat) (o : Option Value), (o = none ∨ ∃ v, o = some (.int v)) → i + q = P → rt 148 (R (d + 5) 148 (45, [some (.ref 0), some (.int (nI P)), some (.int (nI (setW n m b i))), some (.int (nI i)), o], [], sl, CH I A N V lt tw sp sr X)) = some ([.int (if ∀ j, j < P → i ≤ j → b (2 * j) ≤ 4 then nI (setW n m b P) else -1)], sl, CH I A N V lt tw sp sr X) := by
  have hm := hS.1.2.2.2
  intro q
  induction q with
  | zero =>
    intro i o ho hi
    have a1 : P ≤ i := by omega
    have a2 : i = P := by omega
    subst a2
    rw [if_pos (fun j j1 j2 => by omega)]
    rcases ho with rfl | ⟨v, rfl⟩
    · rw [k148_45]
      simp (disch := omega) only [rt_c, b_some, List.cons_append, List.nil_append, Bool.cond_not, cond_true, cond_false, Bool.cond_decide, nI_add, nI_clamp, xin_n, dle_e, dlt_e, deq_e, xb_0, xb_1, decide_true, decide_false, Bool.not_true, Bool.not_false, Bool.and_true, Bool.true_and, Bool.and_false, Bool.false_and, Bool.true_or, Bool.false_or, Bool.or_true, Bool.or_false, if_true, if_false, up1_s, n_31, Int32.lt_irrefl, a1, t148_34, t148_69, t148_98]
    · rw [k148_45_1]
      simp (disch := omega) only [rt_c, b_some, List.cons_append, List.nil_append, Bool.cond_not, cond_true, cond_false, Bool.cond_decide, nI_add, nI_clamp, xin_n, dle_e, dlt_e, deq_e, xb_0, xb_1, decide_true, decide_false, Bool.not_true, Bool.not_false, Bool.and_true, Bool.true_and, Bool.and_false, Bool.false_and, Bool.true_or, Bool.false_or, Bool.or_true, Bool.or_false, if_true, if_false, up1_s, n_31, Int32.lt_irrefl, a1, t148_34, t148_69, t148_98]
  | succ q ih =>
    intro i o ho hi
    have a1 : ¬ P ≤ i := by omega
    have hmul : nI 2 * nI i = nI (2 * i) := by
      have : ∀ i : Fin 8, nI 2 * nI i.val = nI (2 * i.val) := by decide +kernel
      exact this ⟨i, by omega⟩
    have b1 := hb (2 * i) (by omega)
    have b2 := hb (2 * i + 1) (by omega)
    have e1 := q88 (d + 4) sl I A N V lt tw sp sr X ht (show 2 * i < t by omega) h1 b1.1 b1.2
    have e2 := q88 (d + 4) sl I A N V lt tw sp sr X ht (show 2 * i + 1 < t by omega) h1 b2.1 b2.2
    by_cases hb5 : b (2 * i) ≤ 4
    · have hb5' : b (2 * i) < 5 := by omega
      have e3 := q149 d sl I A N V lt tw sp sr X hS hb5 (nI (b (2 * i + 1)))
      have l1 := mkN_lt (fun k => op_ n k && okp n m b i k) m
      have l2 := mkN_lt (fun k => decide (trait_ n m k (b (2 * i)) = nI (b (2 * i + 1)))) m
      have l3 : 2 ^ m ≤ 2 ^ 12 := Nat.pow_le_pow_right (by decide) hm
      have hand : nI (setW n m b i) &&& nI (mkN (fun k => decide (trait_ n m k (b (2 * i)) = nI (b (2 * i + 1)))) m) = nI (setW n m b (i + 1)) := by
        unfold setW
        rw [nI_and (by omega) (by omega), mkN_and]
        congr 1
        apply mkN_congr
        intro k hk
        rw [okp_succ, Bool.and_assoc]
      have h3 := ih (i + 1) (some (.int (nI (b (2 * i))))) (Or.inr ⟨_, rfl⟩) (by omega)
      have hiff : (if ∀ j, j < P → i ≤ j → b (2 * j) ≤ 4 then nI (setW n m b P) else -1) = (if ∀ j, j < P → i + 1 ≤ j → b (2 * j) ≤ 4 then nI (setW n m b P) else -1) := by
        by_cases hx : ∀ j, j < P → i + 1 ≤ j → b (2 * j) ≤ 4
        · rw [if_pos hx, if_pos]
          intro j j1 j2
          by_cases hji : j = i
          · rw [hji]; exact hb5
          · exact hx j j1 (by omega)
        · rw [if_neg hx, if_neg]
          intro hy
          exact hx (fun j j1 j2 => hy j j1 (by omega))
      rw [hiff, ← h3]
      rcases ho with rfl | ⟨v, rfl⟩
      · rw [k148_45]
        simp (disch := omega) only [rt_c, b_some, List.cons_append, List.nil_append, Bool.cond_not, cond_true, cond_false, Bool.cond_decide, nI_add, nI_clamp, xin_n, dle_e, dlt_e, deq_e, xb_0, xb_1, decide_true, decide_false, Bool.not_true, Bool.not_false, Bool.and_true, Bool.true_and, Bool.and_false, Bool.false_and, Bool.true_or, Bool.false_or, Bool.or_true, Bool.or_false, if_true, if_false, up1_s, n_31, Int32.lt_irrefl, a1, hmul, e1, k148_60, hb5', e2, k148_86, e3, k148_89, hand]
      · rw [k148_45_1]
        simp (disch := omega) only [rt_c, b_some, List.cons_append, List.nil_append, Bool.cond_not, cond_true, cond_false, Bool.cond_decide, nI_add, nI_clamp, xin_n, dle_e, dlt_e, deq_e, xb_0, xb_1, decide_true, decide_false, Bool.not_true, Bool.not_false, Bool.and_true, Bool.true_and, Bool.and_false, Bool.false_and, Bool.true_or, Bool.false_or, Bool.or_true, Bool.or_false, if_true, if_false, up1_s, n_31, Int32.lt_irrefl, a1, hmul, e1, k148_60_1, hb5', e2, k148_86, e3, k148_89, hand]
    · have hb5' : ¬ b (2 * i) < 5 := by omega
      rw [if_neg (fun hx => hb5 (hx i (by omega) (Nat.le_refl i)))]
      rcases ho with rfl | ⟨v, rfl⟩
      · rw [k148_45]
        simp (disch := omega) only [rt_c, b_some, List.cons_append, List.nil_append, Bool.cond_not, cond_true, cond_false, Bool.cond_decide, nI_add, nI_clamp, xin_n, dle_e, dlt_e, deq_e, xb_0, xb_1, decide_true, decide_false, Bool.not_true, Bool.not_false, Bool.and_true, Bool.true_and, Bool.and_false, Bool.false_and, Bool.true_or, Bool.false_or, Bool.or_true, Bool.or_false, if_true, if_false, up1_s, n_31, Int32.lt_irrefl, a1, hmul, e1, k148_60, hb5', t148_34, t148_69, t148_98]
      · rw [k148_45_1]
        simp (disch := omega) only [rt_c, b_some, List.cons_append, List.nil_append, Bool.cond_not, cond_true, cond_false, Bool.cond_decide, nI_add, nI_clamp, xin_n, dle_e, dlt_e, deq_e, xb_0, xb_1, decide_true, decide_false, Bool.not_true, Bool.not_false, Bool.and_true, Bool.true_and, Bool.and_false, Bool.false_and, Bool.true_or, Bool.false_or, Bool.or_true, Bool.or_false, if_true, if_false, up1_s, n_31, Int32.lt_irrefl, a1, hmul, e1, k148_60_1, hb5', t148_34, t148_69, t148_98]
/-- what which answers -/
def whW (n : Nat → Int32) (m t : Nat) (b : Nat → Nat) : Int32 := if t % 2 = 0 ∧ 1 ≤ t / 2 ∧ t / 2 ≤ 8 ∧ ∀ j, j < t / 2 → b (2 * j) ≤ 4 then nI (setW n m b (t / 2)) else -1
theorem q148 (hS : Sh I A 3 n H m) {t : Nat} (b : Nat → Nat) (ht : t ≤ 940) (h1 : I 1 1 = nI t) (hb : ∀ k, k < t → b k < 256 ∧ A 2 k = by8 (b k)) : C (d + 5) 148 [.ref 0] sl (CH I A N V lt tw sp sr X) = some ([.int (whW n m t b)], sl, CH I A N V lt tw sp sr X) := by
  have hdiv : nI t / nI 2 = nI (t / 2) := pk_div (by omega) (by omega) (by omega)
  have hrem : nI t - nI (t / 2) * nI 2 = nI (t % 2) := by
    rw [← hdiv]
    exact pk_rem (by omega) (by omega) (by omega)
  have h65 := q65_3 (d + 3) sl I A N V lt tw sp sr X hS
  have hs0 : setW n m b 0 = mkN (op_ n) m := by
    unfold setW
    apply mkN_congr
    intro k hk
    show (op_ n k && true) = op_ n k
    rw [Bool.and_true]
  rw [e148, k148_0, h1]
  unfold whW
  by_cases a1 : t % 2 = 0
  · by_cases a2 : t / 2 < 1
    · rw [if_neg (by omega)]
      simp (disch := omega) only [rt_c, b_some, List.cons_append, List.nil_append, Bool.cond_not, cond_true, cond_false, Bool.cond_decide, nI_add, nI_clamp, xin_n, dle_e, dlt_e, deq_e, xb_0, xb_1, decide_true, decide_false, Bool.not_true, Bool.not_false, Bool.and_true, Bool.true_and, Bool.and_false, Bool.false_and, Bool.true_or, Bool.false_or, Bool.or_true, Bool.or_false, if_true, if_false, up1_s, n_31, Int32.lt_irrefl, hrem, hdiv, a1, a2, t148_34, t148_69, t148_98]
    · by_cases a3 : t / 2 ≤ 8
      · have h3 := q148_45 d sl I A N V lt tw sp sr X hS (P := t / 2) b ht h1 (by omega) a3 hb (t / 2) 0 none (Or.inl rfl) (by omega)
        rw [hs0] at h3
        have hiff : (if t % 2 = 0 ∧ 1 ≤ t / 2 ∧ t / 2 ≤ 8 ∧ ∀ j, j < t / 2 → b (2 * j) ≤ 4 then nI (setW n m b (t / 2)) else -1) = (if ∀ j, j < t / 2 → 0 ≤ j → b (2 * j) ≤ 4 then nI (setW n m b (t / 2)) else -1) := by
          by_cases hx : ∀ j, j < t / 2 → b (2 * j) ≤ 4
          · rw [if_pos ⟨a1, by omega, a3, hx⟩, if_pos (fun j j1 _ => hx j j1)]
          · rw [if_neg (fun h => hx h.2.2.2), if_neg (fun h => hx (fun j j1 => h j j1 (by omega)))]
        rw [hiff]
        simp (disch := omega) only [rt_c, b_some, List.cons_append, List.nil_append, Bool.cond_not, cond_true, cond_false, Bool.cond_decide, nI_add, nI_clamp, xin_n, dle_e, dlt_e, deq_e, xb_0, xb_1, decide_true, decide_false, Bool.not_true, Bool.not_false, Bool.and_true, Bool.true_and, Bool.and_false, Bool.false_and, Bool.true_or, Bool.false_or, Bool.or_true, Bool.or_false, if_true, if_false, up1_s, n_31, Int32.lt_irrefl, hrem, hdiv, a1, a2, a3, h65, k148_42, h3]
      · rw [if_neg (fun h => a3 h.2.2.1)]
        simp (disch := omega) only [rt_c, b_some, List.cons_append, List.nil_append, Bool.cond_not, cond_true, cond_false, Bool.cond_decide, nI_add, nI_clamp, xin_n, dle_e, dlt_e, deq_e, xb_0, xb_1, decide_true, decide_false, Bool.not_true, Bool.not_false, Bool.and_true, Bool.true_and, Bool.and_false, Bool.false_and, Bool.true_or, Bool.false_or, Bool.or_true, Bool.or_false, if_true, if_false, up1_s, n_31, Int32.lt_irrefl, hrem, hdiv, a1, a2, a3, t148_34, t148_69, t148_98]
  · rw [if_neg (fun h => a1 h.1)]
    simp (disch := omega) only [rt_c, b_some, List.cons_append, List.nil_append, Bool.cond_not, cond_true, cond_false, Bool.cond_decide, nI_add, nI_clamp, xin_n, dle_e, dlt_e, deq_e, xb_0, xb_1, decide_true, decide_false, Bool.not_true, Bool.not_false, Bool.and_true, Bool.true_and, Bool.and_false, Bool.false_and, Bool.true_or, Bool.false_or, Bool.or_true, Bool.or_false, if_true, if_false, up1_s, n_31, Int32.lt_irrefl, hrem, hdiv, a1, t148_34, t148_69, t148_98]
theorem q151 (hS : Sh I A 3 n H m) {s t : Nat} (hs : s < 4096) (ht : t ≤ 4) : ∃ r, C (d + 4) 151 [.ref 0, .int (nI s), .int (nI t)] sl (CH I A N V lt tw sp sr X) = some ([.int (nI (grW n m s t))], sl, CH I (up1 A 119 r) N V lt tw sp sr X) := by
  obtain ⟨⟨hH, hD, hH6, hm⟩, -⟩ := sh_3 hS
  have hcm := cntS_le s m
  -- the row
  have key1 : ∀ (q i : Nat) (r : Nat → Int32), i + q = m → (∀ k, k < i → s.testBit k = true → r (cntS s k) = trait_ n m k t) → ∃ r', (∀ k, k < m → s.testBit k = true → r' (cntS s k) = trait_ n m k t) ∧ rt 151 (R (d + 4) 151 (5, [some (.ref 0), some (.int (nI s)), some (.int (nI t)), some (.int (nI (cntS s i))), some (.int (nI i)), none, none, none], [], sl, CH I (up1 A 119 r) N V lt tw sp sr X)) = rt 151 (R (d + 4) 151 (58, [some (.ref 0), some (.int (nI s)), some (.int (nI t)), some (.int (nI (cntS s m))), some (.int (nI 0)), some (.int (nI 0)), none, none], [], sl, CH I (up1 A 119 r') N V lt tw sp sr X)) := by
    intro q
    induction q with
    | zero =>
      intro i r hi hr
      have h1 : m ≤ i := by omega
      have h2 : i = m := by omega
      subst h2
      refine ⟨r, hr, ?_⟩
      rw [k151_5]
      simp (disch := omega) only [rt_c, b_some, List.cons_append, List.nil_append, Bool.cond_not, cond_true, cond_false, Bool.cond_decide, nI_add, nI_clamp, xin_n, dle_e, dlt_e, deq_e, xb_0, xb_1, decide_true, decide_false, Bool.not_true, Bool.not_false, Bool.and_true, Bool.true_and, Bool.and_false, Bool.false_and, Bool.true_or, Bool.false_or, Bool.or_true, Bool.or_false, if_true, if_false, up1_s, n_31, Int32.lt_irrefl, hD, h1]
    | succ q ih =>
      intro i r hi hr
      have h1 : ¬ m ≤ i := by omega
      have hbn := bit_n (x := s) (k := i) (by omega) (by omega)
      have hci := cntS_le s i
      have hSr : Sh I (up1 A 119 r) 3 n H m := Sh_c hS (fun _ _ => rfl) rfl (fun q _ _ => up1_n (by omega))
      have h56 := q56 d sl I (up1 A 119 r) N V lt tw sp sr X hSr (j := i) (k := t) (by omega) ht
      cases hb : s.testBit i with
      | false =>
        rw [hb] at hbn
        have e : cntS s (i + 1) = cntS s i := by simp only [cntS]; rw [hb]; rfl
        obtain ⟨r', f1, f2⟩ := ih (i + 1) r (by omega) (fun k hk hks => by
          by_cases hki : k = i
          · rw [hki, hb] at hks; cases hks
          · exact hr k (by omega) hks)
        refine ⟨r', f1, ?_⟩
        rw [← f2, e, k151_5]
        simp (disch := omega) only [rt_c, b_some, List.cons_append, List.nil_append, Bool.cond_not, cond_true, cond_false, Bool.cond_decide, nI_add, nI_clamp, xin_n, dle_e, dlt_e, deq_e, xb_0, xb_1, decide_true, decide_false, Bool.not_true, Bool.not_false, Bool.and_true, Bool.true_and, Bool.and_false, Bool.false_and, Bool.true_or, Bool.false_or, Bool.or_true, Bool.or_false, if_true, if_false, up1_s, n_31, Int32.lt_irrefl, hD, h1, hbn, Nat.zero_ne_one]
      | true =>
        rw [hb] at hbn
        have e : cntS s (i + 1) = cntS s i + 1 := by simp only [cntS]; rw [hb]; rfl
        have hlt : ∀ k, k < i → s.testBit k = true → cntS s k < cntS s i := by
          have mono : ∀ a c, a ≤ c → cntS s a ≤ cntS s c := by
            intro a c hac
            induction hac with
            | refl => exact Nat.le_refl _
            | @step k hk ih2 =>
              refine Nat.le_trans ih2 ?_
              simp only [cntS]
              cases s.testBit k
              · exact Nat.le_refl _
              · exact Nat.le_succ _
          intro k hk hks
          have h3 := mono (k + 1) i (by omega)
          have h4 : cntS s (k + 1) = cntS s k + 1 := by simp only [cntS]; rw [hks]; rfl
          omega
        obtain ⟨r', f1, f2⟩ := ih (i + 1) (upd r (cntS s i) (trait_ n m i t)) (by omega) (fun k hk hks => by
          by_cases hki : k = i
          · rw [hki, upd_s]
          · have := hlt k (by omega) hks
            rw [upd_n (by omega)]
            exact hr k (by omega) hks)
        refine ⟨r', f1, ?_⟩
        rw [← f2, e, k151_5]
        simp (disch := omega) only [rt_c, b_some, List.cons_append, List.nil_append, Bool.cond_not, cond_true, cond_false, Bool.cond_decide, nI_add, nI_clamp, xin_n, dle_e, dlt_e, deq_e, xb_0, xb_1, decide_true, decide_false, Bool.not_true, Bool.not_false, Bool.and_true, Bool.true_and, Bool.and_false, Bool.false_and, Bool.true_or, Bool.false_or, Bool.or_true, Bool.or_false, if_true, if_false, up1_s, n_31, Int32.lt_irrefl, hD, h1, hbn, h56, k151_42, up1_up]
  obtain ⟨r, hr, e1⟩ := key1 m 0 (A 119) (by omega) (fun k hk => by omega)
  rw [up1_id] at e1
  have hc12 : cntS s m ≤ 12 := by omega
  generalize hcc : cntS s m = c at e1 hc12
  -- how many are alike
  have key3 : ∀ (q j i x g : Nat), j + q = c → i < c → x ≤ j → rt 151 (R (d + 4) 151 (70, [some (.ref 0), some (.int (nI s)), some (.int (nI t)), some (.int (nI c)), some (.int (nI g)), some (.int (nI i)), some (.int (nI x)), some (.int (nI j))], [], sl, CH I (up1 A 119 r) N V lt tw sp sr X)) = rt 151 (R (d + 4) 151 (58, [some (.ref 0), some (.int (nI s)), some (.int (nI t)), some (.int (nI c)), some (.int (x_max (nI g) (nI (x_it (fun j x => if r j = r i then x + 1 else x) j q x)))), some (.int (nI (i + 1))), some (.int (nI (x_it (fun j x => if r j = r i then x + 1 else x) j q x))), some (.int (nI c))], [], sl, CH I (up1 A 119 r) N V lt tw sp sr X)) := by
    intro q
    induction q with
    | zero =>
      intro j i x g hj hi hx
      have h1 : c ≤ j := by omega
      have h2 : j = c := by omega
      subst h2
      rw [k151_70]
      simp (disch := omega) only [rt_c, b_some, List.cons_append, List.nil_append, Bool.cond_not, cond_true, cond_false, Bool.cond_decide, nI_add, nI_clamp, xin_n, dle_e, dlt_e, deq_e, xb_0, xb_1, decide_true, decide_false, Bool.not_true, Bool.not_false, Bool.and_true, Bool.true_and, Bool.and_false, Bool.false_and, Bool.true_or, Bool.false_or, Bool.or_true, Bool.or_false, if_true, if_false, up1_s, n_31, Int32.lt_irrefl, h1, x_it]
    | succ q ih =>
      intro j i x g hj hi hx
      have h1 : ¬ c ≤ j := by omega
      rw [k151_70, show x_it (fun j x => if r j = r i then x + 1 else x) j (q + 1) x = x_it (fun j x => if r j = r i then x + 1 else x) (j + 1) q (if r j = r i then x + 1 else x) from rfl]
      by_cases h2 : r j = r i
      · have h3 := ih (j + 1) i (x + 1) g (by omega) hi (by omega)
        simp (disch := omega) only [rt_c, b_some, List.cons_append, List.nil_append, Bool.cond_not, cond_true, cond_false, Bool.cond_decide, nI_add, nI_clamp, xin_n, dle_e, dlt_e, deq_e, xb_0, xb_1, decide_true, decide_false, Bool.not_true, Bool.not_false, Bool.and_true, Bool.true_and, Bool.and_false, Bool.false_and, Bool.true_or, Bool.false_or, Bool.or_true, Bool.or_false, if_true, if_false, up1_s, n_31, Int32.lt_irrefl, h1, h2, h3]
      · have h3 := ih (j + 1) i x g (by omega) hi (by omega)
        simp (disch := omega) only [rt_c, b_some, List.cons_append, List.nil_append, Bool.cond_not, cond_true, cond_false, Bool.cond_decide, nI_add, nI_clamp, xin_n, dle_e, dlt_e, deq_e, xb_0, xb_1, decide_true, decide_false, Bool.not_true, Bool.not_false, Bool.and_true, Bool.true_and, Bool.and_false, Bool.false_and, Bool.true_or, Bool.false_or, Bool.or_true, Bool.or_false, if_true, if_false, up1_s, n_31, Int32.lt_irrefl, h1, h2, h3]
  have hin : ∀ i, x_it (fun j x => if r j = r i then x + 1 else x) 0 c 0 = cntW n m s t (r i) := by
    intro i
    unfold cntW
    rw [← hcc]
    exact row_fold (fun v x => if v = r i then x + 1 else x) (fun e => trait_ n m e t) s r m 0 hr
  have key2 : ∀ (q i g : Nat) (o6 o7 : Option Value), ((o6 = none ∧ o7 = none) ∨ ((∃ v, o6 = some (.int v)) ∧ ∃ v, o7 = some (.int v))) → i + q = c → g ≤ 12 → rt 151 (R (d + 4) 151 (58, [some (.ref 0), some (.int (nI s)), some (.int (nI t)), some (.int (nI c)), some (.int (nI g)), some (.int (nI i)), o6, o7], [], sl, CH I (up1 A 119 r) N V lt tw sp sr X)) = some ([.int (nI (x_it (fun i g => max g (cntW n m s t (r i))) i q g))], sl, CH I (up1 A 119 r) N V lt tw sp sr X) := by
    intro q
    induction q with
    | zero =>
      intro i g o6 o7 ho hi hg
      have h1 : c ≤ i := by omega
      rcases ho with ⟨rfl, rfl⟩ | ⟨⟨v, rfl⟩, u, rfl⟩
      · rw [k151_58]
        simp (disch := omega) only [rt_c, b_some, List.cons_append, List.nil_append, Bool.cond_not, cond_true, cond_false, Bool.cond_decide, nI_add, nI_clamp, xin_n, dle_e, dlt_e, deq_e, xb_0, xb_1, decide_true, decide_false, Bool.not_true, Bool.not_false, Bool.and_true, Bool.true_and, Bool.and_false, Bool.false_and, Bool.true_or, Bool.false_or, Bool.or_true, Bool.or_false, if_true, if_false, up1_s, n_31, Int32.lt_irrefl, h1, x_it, t151_119]
      · rw [k151_58_1]
        simp (disch := omega) only [rt_c, b_some, List.cons_append, List.nil_append, Bool.cond_not, cond_true, cond_false, Bool.cond_decide, nI_add, nI_clamp, xin_n, dle_e, dlt_e, deq_e, xb_0, xb_1, decide_true, decide_false, Bool.not_true, Bool.not_false, Bool.and_true, Bool.true_and, Bool.and_false, Bool.false_and, Bool.true_or, Bool.false_or, Bool.or_true, Bool.or_false, if_true, if_false, up1_s, n_31, Int32.lt_irrefl, h1, x_it, t151_119]
    | succ q ih =>
      intro i g o6 o7 ho hi hg
      have h1 : ¬ c ≤ i := by omega
      have hcl := cntW_le n m s t (r i)
      have h3 := key3 c 0 i 0 g (by omega) (by omega) (by omega)
      rw [hin i, xmax_nn (by omega) (by omega)] at h3
      have h4 := ih (i + 1) (max g (cntW n m s t (r i))) (some (.int (nI (cntW n m s t (r i))))) (some (.int (nI c))) (Or.inr ⟨⟨_, rfl⟩, _, rfl⟩) (by omega) (by omega)
      rw [show x_it (fun i g => max g (cntW n m s t (r i))) i (q + 1) g = x_it (fun i g => max g (cntW n m s t (r i))) (i + 1) q (max g (cntW n m s t (r i))) from rfl, ← h4, ← h3]
      rcases ho with ⟨rfl, rfl⟩ | ⟨⟨v, rfl⟩, u, rfl⟩
      · rw [k151_58]
        simp (disch := omega) only [rt_c, b_some, List.cons_append, List.nil_append, Bool.cond_not, cond_true, cond_false, Bool.cond_decide, nI_add, nI_clamp, xin_n, dle_e, dlt_e, deq_e, xb_0, xb_1, decide_true, decide_false, Bool.not_true, Bool.not_false, Bool.and_true, Bool.true_and, Bool.and_false, Bool.false_and, Bool.true_or, Bool.false_or, Bool.or_true, Bool.or_false, if_true, if_false, up1_s, n_31, Int32.lt_irrefl, h1]
      · rw [k151_58_1]
        simp (disch := omega) only [rt_c, b_some, List.cons_append, List.nil_append, Bool.cond_not, cond_true, cond_false, Bool.cond_decide, nI_add, nI_clamp, xin_n, dle_e, dlt_e, deq_e, xb_0, xb_1, decide_true, decide_false, Bool.not_true, Bool.not_false, Bool.and_true, Bool.true_and, Bool.and_false, Bool.false_and, Bool.true_or, Bool.false_or, Bool.or_true, Bool.or_false, if_true, if_false, up1_s, n_31, Int32.lt_irrefl, h1]
  have h5 := key2 c 0 0 none none (Or.inl ⟨rfl, rfl⟩) (by omega) (by omega)
  have hg : x_it (fun i g => max g (cntW n m s t (r i))) 0 c 0 = grW n m s t := by
    unfold grW
    rw [← hcc]
    exact row_fold (fun v g => max g (cntW n m s t v)) (fun e => trait_ n m e t) s r m 0 hr
  rw [hg] at h5
  refine ⟨r, ?_⟩
  rw [e151, k151_0]
  have e2 := e1.trans h5
  exact e2
theorem q150 (hS : Sh I A 3 n H m) {s : Nat} (hs : s < 4096) : ∃ r, C (d + 5) 150 [.ref 0, .int (nI s)] sl (CH I A N V lt tw sp sr X) = some ([.int (nI (askW (grW n m s)))], sl, CH I (up1 A 119 r) N V lt tw sp sr X) := by
  have hm := hS.1.2.2.2
  have key : ∀ (q i a : Nat) (r : Nat → Int32) (o : Option Value), (o = none ∨ ∃ v, o = some (.int v)) → i + q = 5 → a < 5 → ∃ r', rt 150 (R (d + 5) 150 (8, [some (.ref 0), some (.int (nI s)), some (.int (nI a)), some (.int (nI (grW n m s a))), some (.int (nI i)), o], [], sl, CH I (up1 A 119 r) N V lt tw sp sr X)) = some ([.int (nI (x_it (fun t a => if grW n m s t < grW n m s a then t else a) i q a))], sl, CH I (up1 A 119 r') N V lt tw sp sr X) := by
    intro q
    induction q with
    | zero =>
      intro i a r o ho hi ha
      have h1 : 5 ≤ i := by omega
      refine ⟨r, ?_⟩
      rcases ho with rfl | ⟨v, rfl⟩
      · rw [k150_8]
        simp (disch := omega) only [rt_c, b_some, List.cons_append, List.nil_append, Bool.cond_not, cond_true, cond_false, Bool.cond_decide, nI_add, nI_clamp, xin_n, dle_e, dlt_e, deq_e, xb_0, xb_1, decide_true, decide_false, Bool.not_true, Bool.not_false, Bool.and_true, Bool.true_and, Bool.and_false, Bool.false_and, Bool.true_or, Bool.false_or, Bool.or_true, Bool.or_false, if_true, if_false, up1_s, n_31, Int32.lt_irrefl, h1, x_it, t150_42]
      · rw [k150_8_1]
        simp (disch := omega) only [rt_c, b_some, List.cons_append, List.nil_append, Bool.cond_not, cond_true, cond_false, Bool.cond_decide, nI_add, nI_clamp, xin_n, dle_e, dlt_e, deq_e, xb_0, xb_1, decide_true, decide_false, Bool.not_true, Bool.not_false, Bool.and_true, Bool.true_and, Bool.and_false, Bool.false_and, Bool.true_or, Bool.false_or, Bool.or_true, Bool.or_false, if_true, if_false, up1_s, n_31, Int32.lt_irrefl, h1, x_it, t150_42]
    | succ q ih =>
      intro i a r o ho hi ha
      have h1 : ¬ 5 ≤ i := by omega
      have hSr : Sh I (up1 A 119 r) 3 n H m := Sh_c hS (fun _ _ => rfl) rfl (fun q _ _ => up1_n (by omega))
      obtain ⟨r1, e1⟩ := q151 d sl I (up1 A 119 r) N V lt tw sp sr X hSr hs (show i ≤ 4 by omega)
      rw [up1_up] at e1
      have ga := grW_le n m s a
      have gi := grW_le n m s i
      rw [show x_it (fun t a => if grW n m s t < grW n m s a then t else a) i (q + 1) a = x_it (fun t a => if grW n m s t < grW n m s a then t else a) (i + 1) q (if grW n m s i < grW n m s a then i else a) from rfl]
      by_cases h2 : grW n m s i < grW n m s a
      · have h2' : ¬ grW n m s a ≤ grW n m s i := by omega
        rw [if_pos h2]
        obtain ⟨r2, e2⟩ := ih (i + 1) i r1 (some (.int (nI (grW n m s i)))) (Or.inr ⟨_, rfl⟩) (by omega) (by omega)
        refine ⟨r2, ?_⟩
        rcases ho with rfl | ⟨v, rfl⟩
        · rw [k150_8]
          simp (disch := omega) only [rt_c, b_some, List.cons_append, List.nil_append, Bool.cond_not, cond_true, cond_false, Bool.cond_decide, nI_add, nI_clamp, xin_n, dle_e, dlt_e, deq_e, xb_0, xb_1, decide_true, decide_false, Bool.not_true, Bool.not_false, Bool.and_true, Bool.true_and, Bool.and_false, Bool.false_and, Bool.true_or, Bool.false_or, Bool.or_true, Bool.or_false, if_true, if_false, up1_s, n_31, Int32.lt_irrefl, h1, e1, k150_21, h2', e2]
        · rw [k150_8_1]
          simp (disch := omega) only [rt_c, b_some, List.cons_append, List.nil_append, Bool.cond_not, cond_true, cond_false, Bool.cond_decide, nI_add, nI_clamp, xin_n, dle_e, dlt_e, deq_e, xb_0, xb_1, decide_true, decide_false, Bool.not_true, Bool.not_false, Bool.and_true, Bool.true_and, Bool.and_false, Bool.false_and, Bool.true_or, Bool.false_or, Bool.or_true, Bool.or_false, if_true, if_false, up1_s, n_31, Int32.lt_irrefl, h1, e1, k150_21_1, h2', e2]
      · have h2' : grW n m s a ≤ grW n m s i := by omega
        rw [if_neg h2]
        obtain ⟨r2, e2⟩ := ih (i + 1) a r1 (some (.int (nI (grW n m s i)))) (Or.inr ⟨_, rfl⟩) (by omega) ha
        refine ⟨r2, ?_⟩
        rcases ho with rfl | ⟨v, rfl⟩
        · rw [k150_8]
          simp (disch := omega) only [rt_c, b_some, List.cons_append, List.nil_append, Bool.cond_not, cond_true, cond_false, Bool.cond_decide, nI_add, nI_clamp, xin_n, dle_e, dlt_e, deq_e, xb_0, xb_1, decide_true, decide_false, Bool.not_true, Bool.not_false, Bool.and_true, Bool.true_and, Bool.and_false, Bool.false_and, Bool.true_or, Bool.false_or, Bool.or_true, Bool.or_false, if_true, if_false, up1_s, n_31, Int32.lt_irrefl, h1, e1, k150_21, h2', e2]
        · rw [k150_8_1]
          simp (disch := omega) only [rt_c, b_some, List.cons_append, List.nil_append, Bool.cond_not, cond_true, cond_false, Bool.cond_decide, nI_add, nI_clamp, xin_n, dle_e, dlt_e, deq_e, xb_0, xb_1, decide_true, decide_false, Bool.not_true, Bool.not_false, Bool.and_true, Bool.true_and, Bool.and_false, Bool.false_and, Bool.true_or, Bool.false_or, Bool.or_true, Bool.or_false, if_true, if_false, up1_s, n_31, Int32.lt_irrefl, h1, e1, k150_21_1, h2', e2]
  obtain ⟨r0, e0⟩ := q151 d sl I A N V lt tw sp sr X hS hs (show 0 ≤ 4 by omega)
  have g0 := grW_le n m s 0
  have g0' : ¬ 13 ≤ grW n m s 0 := by omega
  obtain ⟨r1, e1⟩ := key 4 1 0 r0 (some (.int (nI (grW n m s 0)))) (Or.inr ⟨_, rfl⟩) (by omega) (by omega)
  refine ⟨r1, ?_⟩
  have h5 : ¬ 5 ≤ 0 := by omega
  rw [e150, k150_0, k150_8]
  simp (disch := omega) only [rt_c, b_some, List.cons_append, List.nil_append, Bool.cond_not, cond_true, cond_false, Bool.cond_decide, nI_add, nI_clamp, xin_n, dle_e, dlt_e, deq_e, xb_0, xb_1, decide_true, decide_false, Bool.not_true, Bool.not_false, Bool.and_true, Bool.true_and, Bool.and_false, Bool.false_and, Bool.true_or, Bool.false_or, Bool.or_true, Bool.or_false, if_true, if_false, up1_s, n_31, Int32.lt_irrefl, h5, e0, k150_21, g0', e1]
  rfl
end CLW
section RFW
variable (d sl : Nat) (I : Nat → Int32) (w : Int64) (A : Nat → Nat → Int32) (N : Nat → Nat → Int64)
theorem c240 {H m s t : Nat} (hV : Vd (A 2) H m) (hs : s < 4096) (ht : t ≤ 4) : C (d + 4) 240 [.ref 0, .int (nI s), .int (nI t)] sl (RH I w A N) = some ([.int (nI (grW (A 2) m s t))], sl, RH I w A N) := by
  obtain ⟨hH, hD, hH6, hm⟩ := hV.1
  have h239 := fun k hk => c239 d sl I w A N hm hD (j := k) (k := t) hk ht
  have key2 : ∀ (q e x k g : Nat), e + q = m → k < m → x ≤ e → g ≤ 12 → rt 240 (R (d + 4) 240 (35, [some (.ref 0), some (.int (nI s)), some (.int (nI t)), some (.int (nI g)), some (.int (nI k)), some (.int (nI x)), some (.int (nI e))], [], sl, RH I w A N)) = rt 240 (R (d + 4) 240 (5, [some (.ref 0), some (.int (nI s)), some (.int (nI t)), some (.int (nI (max g (x_it (fun e c => cond (s.testBit e) (if trait_ (A 2) m e t = trait_ (A 2) m k t then c + 1 else c) c) e q x)))), some (.int (nI (k + 1))), some (.int (nI (x_it (fun e c => cond (s.testBit e) (if trait_ (A 2) m e t = trait_ (A 2) m k t then c + 1 else c) c) e q x))), some (.int (nI m))], [], sl, RH I w A N)) := by
    intro q
    induction q with
    | zero =>
      intro e x k g he hk hx hg
      have h1 : m ≤ e := by omega
      have h2 : e = m := by omega
      subst h2
      rw [m240_35]
      simp only [x_it]
      by_cases h3 : x ≤ g
      · rw [Nat.max_eq_left h3]
        simp (disch := omega) only [rt_c, b_some, List.cons_append, List.nil_append, Bool.cond_not, cond_true, cond_false, Bool.cond_decide, nI_add, nI_clamp, xin_n, dle_e, dlt_e, deq_e, xb_0, xb_1, decide_true, decide_false, Bool.not_true, Bool.not_false, Bool.and_true, Bool.true_and, Bool.and_false, Bool.false_and, Bool.true_or, Bool.false_or, Bool.or_true, Bool.or_false, if_true, if_false, up1_s, n_31, Int32.lt_irrefl, hD, h1, h3]
      · rw [Nat.max_eq_right (by omega)]
        simp (disch := omega) only [rt_c, b_some, List.cons_append, List.nil_append, Bool.cond_not, cond_true, cond_false, Bool.cond_decide, nI_add, nI_clamp, xin_n, dle_e, dlt_e, deq_e, xb_0, xb_1, decide_true, decide_false, Bool.not_true, Bool.not_false, Bool.and_true, Bool.true_and, Bool.and_false, Bool.false_and, Bool.true_or, Bool.false_or, Bool.or_true, Bool.or_false, if_true, if_false, up1_s, n_31, Int32.lt_irrefl, hD, h1, h3]
    | succ q ih =>
      intro e x k g he hk hx hg
      have h1 : ¬ m ≤ e := by omega
      rw [m240_35, show x_it (fun e c => cond (s.testBit e) (if trait_ (A 2) m e t = trait_ (A 2) m k t then c + 1 else c) c) e (q + 1) x = x_it (fun e c => cond (s.testBit e) (if trait_ (A 2) m e t = trait_ (A 2) m k t then c + 1 else c) c) (e + 1) q (cond (s.testBit e) (if trait_ (A 2) m e t = trait_ (A 2) m k t then x + 1 else x) x) from rfl]
      cases hb : s.testBit e with
      | false =>
        have h3 := ih (e + 1) x k g (by omega) hk (by omega) hg
        simp (disch := omega) only [rt_c, b_some, List.cons_append, List.nil_append, Bool.cond_not, cond_true, cond_false, Bool.cond_decide, nI_add, nI_clamp, xin_n, dle_e, dlt_e, deq_e, xb_0, xb_1, decide_true, decide_false, Bool.not_true, Bool.not_false, Bool.and_true, Bool.true_and, Bool.and_false, Bool.false_and, Bool.true_or, Bool.false_or, Bool.or_true, Bool.or_false, if_true, if_false, up1_s, n_31, Int32.lt_irrefl, hD, h1, c167, has_n, hb, m240_53, h3]
      | true =>
        by_cases h2 : trait_ (A 2) m e t = trait_ (A 2) m k t
        · have h3 := ih (e + 1) (x + 1) k g (by omega) hk (by omega) hg
          simp (disch := omega) only [rt_c, b_some, List.cons_append, List.nil_append, Bool.cond_not, cond_true, cond_false, Bool.cond_decide, nI_add, nI_clamp, xin_n, dle_e, dlt_e, deq_e, xb_0, xb_1, decide_true, decide_false, Bool.not_true, Bool.not_false, Bool.and_true, Bool.true_and, Bool.and_false, Bool.false_and, Bool.true_or, Bool.false_or, Bool.or_true, Bool.or_false, if_true, if_false, up1_s, n_31, Int32.lt_irrefl, hD, h1, c167, has_n, hb, m240_53, h239, m240_63, m240_70, h2, h3]
        · have h3 := ih (e + 1) x k g (by omega) hk (by omega) hg
          simp (disch := omega) only [rt_c, b_some, List.cons_append, List.nil_append, Bool.cond_not, cond_true, cond_false, Bool.cond_decide, nI_add, nI_clamp, xin_n, dle_e, dlt_e, deq_e, xb_0, xb_1, decide_true, decide_false, Bool.not_true, Bool.not_false, Bool.and_true, Bool.true_and, Bool.and_false, Bool.false_and, Bool.true_or, Bool.false_or, Bool.or_true, Bool.or_false, if_true, if_false, up1_s, n_31, Int32.lt_irrefl, hD, h1, c167, has_n, hb, m240_53, h239, m240_63, m240_70, h2, h3]
  have key1 : ∀ (q k g : Nat) (o5 o6 : Option Value), ((o5 = none ∧ o6 = none) ∨ ((∃ v, o5 = some (.int v)) ∧ ∃ v, o6 = some (.int v))) → k + q = m → g ≤ 12 → rt 240 (R (d + 4) 240 (5, [some (.ref 0), some (.int (nI s)), some (.int (nI t)), some (.int (nI g)), some (.int (nI k)), o5, o6], [], sl, RH I w A N)) = some ([.int (nI (x_it (fun k g => cond (s.testBit k) (max g (cntW (A 2) m s t (trait_ (A 2) m k t))) g) k q g))], sl, RH I w A N) := by
    intro q
    induction q with
    | zero =>
      intro k g o5 o6 ho hk hg
      have h1 : m ≤ k := by omega
      rcases ho with ⟨rfl, rfl⟩ | ⟨⟨v, rfl⟩, u, rfl⟩
      · rw [m240_5]
        simp (disch := omega) only [rt_c, b_some, List.cons_append, List.nil_append, Bool.cond_not, cond_true, cond_false, Bool.cond_decide, nI_add, nI_clamp, xin_n, dle_e, dlt_e, deq_e, xb_0, xb_1, decide_true, decide_false, Bool.not_true, Bool.not_false, Bool.and_true, Bool.true_and, Bool.and_false, Bool.false_and, Bool.true_or, Bool.false_or, Bool.or_true, Bool.or_false, if_true, if_false, up1_s, n_31, Int32.lt_irrefl, hD, h1, x_it, t240_98]
      · rw [m240_5_1]
        simp (disch := omega) only [rt_c, b_some, List.cons_append, List.nil_append, Bool.cond_not, cond_true, cond_false, Bool.cond_decide, nI_add, nI_clamp, xin_n, dle_e, dlt_e, deq_e, xb_0, xb_1, decide_true, decide_false, Bool.not_true, Bool.not_false, Bool.and_true, Bool.true_and, Bool.and_false, Bool.false_and, Bool.true_or, Bool.false_or, Bool.or_true, Bool.or_false, if_true, if_false, up1_s, n_31, Int32.lt_irrefl, hD, h1, x_it, t240_98]
    | succ q ih =>
      intro k g o5 o6 ho hk hg
      have h1 : ¬ m ≤ k := by omega
      rw [show x_it (fun k g => cond (s.testBit k) (max g (cntW (A 2) m s t (trait_ (A 2) m k t))) g) k (q + 1) g = x_it (fun k g => cond (s.testBit k) (max g (cntW (A 2) m s t (trait_ (A 2) m k t))) g) (k + 1) q (cond (s.testBit k) (max g (cntW (A 2) m s t (trait_ (A 2) m k t))) g) from rfl]
      cases hb : s.testBit k with
      | false =>
        have h4 := ih (k + 1) g o5 o6 ho (by omega) hg
        rw [cond_false, ← h4]
        rcases ho with ⟨rfl, rfl⟩ | ⟨⟨v, rfl⟩, u, rfl⟩
        · rw [m240_5]
          simp (disch := omega) only [rt_c, b_some, List.cons_append, List.nil_append, Bool.cond_not, cond_true, cond_false, Bool.cond_decide, nI_add, nI_clamp, xin_n, dle_e, dlt_e, deq_e, xb_0, xb_1, decide_true, decide_false, Bool.not_true, Bool.not_false, Bool.and_true, Bool.true_and, Bool.and_false, Bool.false_and, Bool.true_or, Bool.false_or, Bool.or_true, Bool.or_false, if_true, if_false, up1_s, n_31, Int32.lt_irrefl, hD, h1, c167, has_n, hb, m240_23]
        · rw [m240_5_1]
          simp (disch := omega) only [rt_c, b_some, List.cons_append, List.nil_append, Bool.cond_not, cond_true, cond_false, Bool.cond_decide, nI_add, nI_clamp, xin_n, dle_e, dlt_e, deq_e, xb_0, xb_1, decide_true, decide_false, Bool.not_true, Bool.not_false, Bool.and_true, Bool.true_and, Bool.and_false, Bool.false_and, Bool.true_or, Bool.false_or, Bool.or_true, Bool.or_false, if_true, if_false, up1_s, n_31, Int32.lt_irrefl, hD, h1, c167, has_n, hb, m240_23_1]
      | true =>
        have hcl := cntW_le (A 2) m s t (trait_ (A 2) m k t)
        have h3 := key2 m 0 0 k g (by omega) (by omega) (by omega) hg
        have hcw : x_it (fun e c => cond (s.testBit e) (if trait_ (A 2) m e t = trait_ (A 2) m k t then c + 1 else c) c) 0 m 0 = cntW (A 2) m s t (trait_ (A 2) m k t) := rfl
        rw [hcw] at h3
        have h4 := ih (k + 1) (max g (cntW (A 2) m s t (trait_ (A 2) m k t))) (some (.int (nI (cntW (A 2) m s t (trait_ (A 2) m k t))))) (some (.int (nI m))) (Or.inr ⟨⟨_, rfl⟩, _, rfl⟩) (by omega) (by omega)
        rw [cond_true, ← h4, ← h3]
        rcases ho with ⟨rfl, rfl⟩ | ⟨⟨v, rfl⟩, u, rfl⟩
        · rw [m240_5]
          simp (disch := omega) only [rt_c, b_some, List.cons_append, List.nil_append, Bool.cond_not, cond_true, cond_false, Bool.cond_decide, nI_add, nI_clamp, xin_n, dle_e, dlt_e, deq_e, xb_0, xb_1, decide_true, decide_false, Bool.not_true, Bool.not_false, Bool.and_true, Bool.true_and, Bool.and_false, Bool.false_and, Bool.true_or, Bool.false_or, Bool.or_true, Bool.or_false, if_true, if_false, up1_s, n_31, Int32.lt_irrefl, hD, h1, c167, has_n, hb, m240_23]
        · rw [m240_5_1]
          simp (disch := omega) only [rt_c, b_some, List.cons_append, List.nil_append, Bool.cond_not, cond_true, cond_false, Bool.cond_decide, nI_add, nI_clamp, xin_n, dle_e, dlt_e, deq_e, xb_0, xb_1, decide_true, decide_false, Bool.not_true, Bool.not_false, Bool.and_true, Bool.true_and, Bool.and_false, Bool.false_and, Bool.true_or, Bool.false_or, Bool.or_true, Bool.or_false, if_true, if_false, up1_s, n_31, Int32.lt_irrefl, hD, h1, c167, has_n, hb, m240_23_1]
  rw [e240, m240_0, key1 m 0 0 none none (Or.inl ⟨rfl, rfl⟩) (by omega) (by omega)]
  rfl
end RFW
