/-! LINES, THE REFERENCE; BOTH -/
theorem cmp_27 {a : Nat} (ha : a < 2 ^ 40) : lg_cmp (lN a) (lN 27) < nI 0 ↔ a < 27 := by
  unfold lg_cmp
  by_cases h1 : 27 < a
  · have : lN a > lN 27 := (pk_lLT (by omega) (by omega)).mpr h1
    rw [if_pos this]
    constructor
    · intro h; exact absurd h (by decide)
    · intro h; omega
  · have h1' : ¬ lN a > lN 27 := fun h => h1 ((pk_lLT (by omega) (by omega)).mp h)
    rw [if_neg h1']
    by_cases h2 : a = 27
    · have : lN a = lN 27 := by rw [h2]
      rw [if_pos this]
      constructor
      · intro h; exact absurd h (by decide)
      · intro h; omega
    · have : ¬ lN a = lN 27 := fun h => h2 ((pk_lEQ (by omega) (by omega)).mp h)
      rw [if_neg this]
      constructor
      · intro _; omega
      · intro _; decide
section RFL
variable (d sl : Nat) (I : Nat → Int32) (w : Int64) (A : Nat → Nat → Int32) (N : Nat → Nat → Int64)
theorem c245 {t : Nat} (g : Nat → Int32) (ht : t < 64) (x : Int32) : C d 245 [.ref 0, .int x] sl (RH (up1 I 33 (nI t)) w (up1 A 15 g) N) = some ([], sl, RH (up1 I 33 (nI (t + 1))) w (up1 A 15 (upd g t x)) N) := by
  rw [e245, m245_0]
  simp (disch := omega) only [rt_c, b_some, List.cons_append, List.nil_append, Bool.cond_not, cond_true, cond_false, Bool.cond_decide, nI_add, nI_clamp, xin_n, dle_e, dlt_e, deq_e, xb_0, xb_1, decide_true, decide_false, Bool.not_true, Bool.not_false, Bool.and_true, Bool.true_and, Bool.and_false, Bool.false_and, Bool.true_or, Bool.false_or, Bool.or_true, Bool.or_false, if_true, if_false, up1_s, n_31, Int32.lt_irrefl, up1_up, t245_20]
theorem c246_r : ∀ (r : List Nat) (t d : Nat) (g : Nat → Int32), r ≠ [] → Ltr r → r.length ≤ 7 → t + r.length ≤ 64 → ∃ g', C (d + r.length + 1) 246 [.ref 0, .long (lN (v27 r))] sl (RH (up1 I 33 (nI t)) w (up1 A 15 g) N) = some ([], sl, RH (up1 I 33 (nI (t + r.length))) w (up1 A 15 g') N) ∧ App g t r.reverse g' := by
  intro r
  induction r with
  | nil => intro t d g h; exact absurd rfl h
  | cons c r ih =>
    intro t d g _ hL h7 ht
    have hc := hL c List.mem_cons_self
    have hLr : Ltr r := fun x hx => hL x (List.mem_cons_of_mem _ hx)
    rw [List.length_cons] at h7 ht ⊢
    have hv := v27_lt hL
    have hv2 : v27 (c :: r) < 2 ^ 40 := Nat.lt_of_lt_of_le hv (Nat.le_trans (Nat.pow_le_pow_right (n := 27) (by decide) (by rw [List.length_cons]; exact h7)) (by decide))
    have h27 : (nI 27).toInt64 = lN 27 := by decide
    have hcmp := cmp_27 hv2
    have hdiv : lN (v27 (c :: r)) / lN 27 = lN (v27 (c :: r) / 27) := pk_lDiv (by omega) (by omega) (by omega)
    have hrem : lN (v27 (c :: r)) - lN (v27 (c :: r) / 27) * lN 27 = lN (v27 (c :: r) % 27) := by
      rw [← hdiv]
      exact pk_lRem (by omega) (by omega) (by omega)
    have e27 := v27_cons c r
    have hq : v27 (c :: r) / 27 = v27 r := by omega
    have hm : v27 (c :: r) % 27 = c - 96 := by omega
    have hrem2 : lN (v27 (c :: r)) - lN (v27 r) * lN 27 = lN (v27 (c :: r) % 27) := by rw [← hrem, hq]
    have hch : nI 96 + (lN (c - 96)).toInt32 = nI c := by
      rw [lN_i, nI_add]
      congr 1
      omega
    by_cases hr : r = []
    · subst hr
      have hlt : lg_cmp (lN (v27 [c])) (lN 27) < nI 0 := hcmp.mpr (by rw [e27]; show 0 * 27 + (c - 96) < 27; omega)
      have h245 := c245 (d + 1) sl I w A N g (t := t) (by simp at ht; omega) (nI c)
      refine ⟨_, ?_, App_one⟩
      rw [e246]
      show rt 246 (R (d + 1 + 1) 246 _) = _
      rw [m246_0, h27]
      simp (disch := omega) only [rt_c, b_some, List.cons_append, List.nil_append, Bool.cond_not, cond_true, cond_false, Bool.cond_decide, nI_add, nI_clamp, xin_n, dle_e, dlt_e, deq_e, xb_0, xb_1, decide_true, decide_false, Bool.not_true, Bool.not_false, Bool.and_true, Bool.true_and, Bool.and_false, Bool.false_and, Bool.true_or, Bool.false_or, Bool.or_true, Bool.or_false, if_true, if_false, up1_s, n_31, Int32.lt_irrefl, hlt, m246_17, h27, hdiv, hrem, hm, hch, h245, m246_30, t246_30]
      rfl
    · have hge : ¬ lg_cmp (lN (v27 (c :: r))) (lN 27) < nI 0 := by
        intro h
        have h1 := hcmp.mp h
        have h2 : 1 ≤ v27 r := by
          cases r with
          | nil => exact absurd rfl hr
          | cons c' r' =>
            have := hLr c' List.mem_cons_self
            rw [v27_cons]
            omega
        omega
      obtain ⟨g1, e1, a1⟩ := ih t d g hr hLr (by omega) (by omega)
      have h245 := c245 (d + r.length + 1) sl I w A N g1 (t := t + r.length) (by omega) (nI c)
      refine ⟨upd g1 (t + r.length) (nI c), ?_, ?_⟩
      · rw [e246]
        show rt 246 (R (d + r.length + 1 + 1) 246 _) = _
        rw [m246_0, h27]
        simp (disch := omega) only [rt_c, b_some, List.cons_append, List.nil_append, Bool.cond_not, cond_true, cond_false, Bool.cond_decide, nI_add, nI_clamp, xin_n, dle_e, dlt_e, deq_e, xb_0, xb_1, decide_true, decide_false, Bool.not_true, Bool.not_false, Bool.and_true, Bool.true_and, Bool.and_false, Bool.false_and, Bool.true_or, Bool.false_or, Bool.or_true, Bool.or_false, if_true, if_false, up1_s, n_31, Int32.lt_irrefl, hge, hdiv, hq, e1, m246_17, h27, hrem2, hm, hch, h245, m246_30, t246_30]
        rfl
      · rw [List.reverse_cons]
        exact App_tr a1 (by rw [List.length_reverse]) App_one
theorem c246 {s : List Nat} {t : Nat} (g : Nat → Int32) (hs : Lts s) (ht : t + s.length ≤ 64) : ∃ g', C (d + 8) 246 [.ref 0, .long (lN (p27 s))] sl (RH (up1 I 33 (nI t)) w (up1 A 15 g) N) = some ([], sl, RH (up1 I 33 (nI (t + s.length))) w (up1 A 15 g') N) ∧ App g t s g' := by
  obtain ⟨h1, h2, h3⟩ := Lts_r hs
  have hl : s.reverse.length = s.length := List.length_reverse
  obtain ⟨g', e1, e2⟩ := c246_r sl I w A N s.reverse t (d + (7 - s.reverse.length)) g (by intro e; rw [e] at h2; simp at h2) h1 h3 (by rw [hl]; exact ht)
  rw [show d + (7 - s.reverse.length) + s.reverse.length + 1 = d + 8 by omega, hl] at e1
  rw [List.reverse_reverse] at e2
  rw [p27_v]
  exact ⟨g', e1, e2⟩
theorem c247_k : ∀ (k v t d : Nat) (g : Nat → Int32), 1 ≤ k → k ≤ 4 → v < 10 ^ k → t + (dgs k v).length ≤ 64 → ∃ g', C (d + k + 1) 247 [.ref 0, .int (nI v)] sl (RH (up1 I 33 (nI t)) w (up1 A 15 g) N) = some ([], sl, RH (up1 I 33 (nI (t + (dgs k v).length))) w (up1 A 15 g') N) ∧ App g t (dgs k v) g' := by
  intro k
  induction k with
  | zero => intro v t d g h; omega
  | succ k ih =>
    intro v t d g _ hk hv ht
    have hp : 10 ^ (k + 1) ≤ 10 ^ 4 := Nat.pow_le_pow_right (by decide) hk
    have hdiv : nI v / nI 10 = nI (v / 10) := pk_div (by omega) (by omega) (by omega)
    have hrem : nI v - nI (v / 10) * nI 10 = nI (v % 10) := by
      rw [← hdiv]
      exact pk_rem (by omega) (by omega) (by omega)
    simp only [dgs] at ht ⊢
    by_cases h9 : 9 < v
    · have h9' : ¬ v ≤ 9 := by omega
      rw [if_pos h9] at ht ⊢
      rw [List.length_append] at ht ⊢
      have ht1 : [48 + v % 10].length = 1 := rfl
      rw [ht1] at ht ⊢
      have hk0 : 1 ≤ k := by
        cases k with
        | zero => rw [Nat.zero_add, Nat.pow_one] at hv; omega
        | succ k => omega
      have hv' : v / 10 < 10 ^ k := by
        rw [Nat.pow_succ] at hv
        omega
      obtain ⟨g1, e1, a1⟩ := ih (v / 10) t d g hk0 (by omega) hv' (by omega)
      have h245 := c245 (d + k + 1) sl I w A N g1 (t := t + (dgs k (v / 10)).length) (by omega) (nI (48 + v % 10))
      refine ⟨upd g1 (t + (dgs k (v / 10)).length) (nI (48 + v % 10)), ?_, App_tr a1 rfl App_one⟩
      rw [e247]
      show rt 247 (R (d + k + 1 + 1) 247 _) = _
      rw [m247_0]
      simp (disch := omega) only [rt_c, b_some, List.cons_append, List.nil_append, Bool.cond_not, cond_true, cond_false, Bool.cond_decide, nI_add, nI_clamp, xin_n, dle_e, dlt_e, deq_e, xb_0, xb_1, decide_true, decide_false, Bool.not_true, Bool.not_false, Bool.and_true, Bool.true_and, Bool.and_false, Bool.false_and, Bool.true_or, Bool.false_or, Bool.or_true, Bool.or_false, if_true, if_false, up1_s, n_31, Int32.lt_irrefl, h9', hdiv, e1, m247_14, hrem, h245, m247_25, t247_25]
      rfl
    · have h9' : v ≤ 9 := by omega
      rw [if_neg h9] at ht ⊢
      have h245 := c245 (d + k + 1) sl I w A N g (t := t) (by simp at ht; omega) (nI (48 + v % 10))
      refine ⟨_, ?_, App_one⟩
      rw [e247]
      show rt 247 (R (d + k + 1 + 1) 247 _) = _
      rw [m247_0]
      simp (disch := omega) only [rt_c, b_some, List.cons_append, List.nil_append, Bool.cond_not, cond_true, cond_false, Bool.cond_decide, nI_add, nI_clamp, xin_n, dle_e, dlt_e, deq_e, xb_0, xb_1, decide_true, decide_false, Bool.not_true, Bool.not_false, Bool.and_true, Bool.true_and, Bool.and_false, Bool.false_and, Bool.true_or, Bool.false_or, Bool.or_true, Bool.or_false, if_true, if_false, up1_s, n_31, Int32.lt_irrefl, h9', m247_14, hdiv, hrem, h245, m247_25, t247_25]
      rfl
theorem c248 {s : List Nat} {t : Nat} (g : Nat → Int32) (hs : Lts s) (ht : t + (1 + s.length) ≤ 64) : ∃ g', C (d + 9) 248 [.ref 0, .long (lN (p27 s))] sl (RH (up1 I 33 (nI t)) w (up1 A 15 g) N) = some ([], sl, RH (up1 I 33 (nI (t + (1 + s.length)))) w (up1 A 15 g') N) ∧ App g t ([32] ++ s) g' := by
  have h245 := c245 (d + 8) sl I w A N g (t := t) (by omega) (nI 32)
  obtain ⟨g', e1, e2⟩ := c246 d sl I w A N (s := s) (t := t + 1) (upd g t (nI 32)) hs (by omega)
  rw [show t + 1 + s.length = t + (1 + s.length) by omega] at e1
  refine ⟨g', ?_, App_tr App_one rfl e2⟩
  rw [e248, m248_0, h245]
  simp (disch := omega) only [rt_c, b_some, List.cons_append, List.nil_append, Bool.cond_not, cond_true, cond_false, Bool.cond_decide, nI_add, nI_clamp, xin_n, dle_e, dlt_e, deq_e, xb_0, xb_1, decide_true, decide_false, Bool.not_true, Bool.not_false, Bool.and_true, Bool.true_and, Bool.and_false, Bool.false_and, Bool.true_or, Bool.false_or, Bool.or_true, Bool.or_false, if_true, if_false, up1_s, n_31, Int32.lt_irrefl, m248_6, e1, m248_11, t248_11]
theorem c249 {v t : Nat} (g : Nat → Int32) (hv : v ≤ 9999) (ht : t + (1 + (dgs 4 v).length) ≤ 64) : ∃ g', C (d + 6) 249 [.ref 0, .int (nI v)] sl (RH (up1 I 33 (nI t)) w (up1 A 15 g) N) = some ([], sl, RH (up1 I 33 (nI (t + (1 + (dgs 4 v).length)))) w (up1 A 15 g') N) ∧ App g t ([32] ++ dgs 4 v) g' := by
  have h245 := c245 (d + 5) sl I w A N g (t := t) (by omega) (nI 32)
  obtain ⟨g', e1, e2⟩ := c247_k sl I w A N 4 v (t + 1) d (upd g t (nI 32)) (by omega) (by omega) (by omega) (by omega)
  rw [show t + 1 + (dgs 4 v).length = t + (1 + (dgs 4 v).length) by omega] at e1
  refine ⟨g', ?_, App_tr App_one rfl e2⟩
  rw [e249, m249_0, h245]
  simp (disch := omega) only [rt_c, b_some, List.cons_append, List.nil_append, Bool.cond_not, cond_true, cond_false, Bool.cond_decide, nI_add, nI_clamp, xin_n, dle_e, dlt_e, deq_e, xb_0, xb_1, decide_true, decide_false, Bool.not_true, Bool.not_false, Bool.and_true, Bool.true_and, Bool.and_false, Bool.false_and, Bool.true_or, Bool.false_or, Bool.or_true, Bool.or_false, if_true, if_false, up1_s, n_31, Int32.lt_irrefl, m249_6, e1, m249_11, t249_11]
end RFL
/-- a debt's line -/
def linL (s1 s2 : List Nat) (o : Bool) (l a : Nat) : List Nat := s1 ++ (([32] ++ wl 16) ++ (([32] ++ s2) ++ cond o (([32] ++ dgs 4 l) ++ (([32] ++ [111, 102]) ++ ([32] ++ dgs 4 a))) ([32] ++ [112, 97, 105, 100])))
theorem linL_c (s1 s2 : List Nat) (o : Bool) (l a : Nat) : linL s1 s2 o l a = s1 ++ (strN 0 ++ (s2 ++ cond o (strN 1 ++ (dgs 4 l ++ (strN 2 ++ dgs 4 a))) (strN 3))) := by
  unfold linL
  have h1 : strN 0 = [32] ++ wl 16 ++ [32] := rfl
  have h2 : strN 1 = [32] := rfl
  have h3 : strN 2 = [32] ++ [111, 102] ++ [32] := rfl
  have h4 : strN 3 = [32] ++ [112, 97, 105, 100] := rfl
  rw [h1, h2, h3, h4]
  cases o <;> simp only [cond_true, cond_false, List.append_assoc]
theorem Lts_paid : Lts [112, 97, 105, 100] := ⟨by decide, by decide, by decide⟩
theorem Lts_of : Lts [111, 102] := ⟨by decide, by decide, by decide⟩
theorem Nm_s {f g : Nat → Int64} {H h : Nat} (hn : Nm f g H) (hh : h < H) : ∃ s, Lts s ∧ f h = lN (p256 s) ∧ g h = lN (p27 s) := hn h hh
section OKL
variable (d : Nat)
theorem lin_c {s1 s2 : List Nat} {n : Nat → Int32} {H m k l a : Nat} (sl : Nat) (I : Nat → Nat → Int32) (A : Nat → Nat → Int32) (N : Nat → Nat → Int64) (V : Nat → Nat → Option Nat) (lt : Int64) (tw : Option Nat) (sp sr : Nat) (X : List AC) (hS : Sh I A 3 n H m) (hV : Vd n H m) (hk : k < m) (h1 : Lts s1) (h2 : Lts s2) (e1 : N 4 (wh n k) = lN (p256 s1)) (e2 : N 4 (wm n k) = lN (p256 s2)) (hl : n (103 + k) = nI l) (hl2 : l ≤ 9999) (ha : n (115 + k) = nI a) (ha2 : a ≤ 999) : ∃ f', C (d + 3) 20 [.ref 106, .ref 3, .int (nI k)] sl (CH I A N V lt tw sp sr X) = some ([], sl, CH (up1 I 106 (up1 (I 106) 1 (nI (linL s1 s2 (op_ n k) l a).length))) (up1 A 107 f') N V lt tw sp sr X) ∧ App (A 107) 0 (linL s1 s2 (op_ n k) l a) f' ∧ (linL s1 s2 (op_ n k) l a).length ≤ 32 := by
  obtain ⟨⟨hH, hD, hH6, hm⟩, -, hC, hIn, hCh, hW, hT, hL, hG⟩ := sh_3 hS
  have hw := Vd_wh hV hk
  have hu := Vd_wm hV hk
  have d1 := dgs_len 4 l
  have d2 : (dgs 4 a).length ≤ 3 := by
    rw [dgs_4 (by omega), if_neg (by omega)]
    have := dgs_len 3 a
    by_cases q1 : 100 ≤ a <;> by_cases q2 : 10 ≤ a <;> simp [q1, q2]
  have l0 : (strN 0).length = 6 := rfl
  have l1 : (strN 1).length = 1 := rfl
  have l2 : (strN 2).length = 4 := rfl
  have l3 : (strN 3).length = 5 := rfl
  have hs1 := h1.2.1
  have hs2 := h2.2.1
  rw [linL_c]
  have hA0 : CH (up1 I 106 (up1 (I 106) 1 (nI 0))) A N V lt tw sp sr X = CH (up1 I 106 (up1 (I 106) 1 (nI 0))) (up1 A 107 (A 107)) N V lt tw sp sr X := by rw [up1_id]
  obtain ⟨f1, g1, a1⟩ := q24 (d + 1) sl I A N V lt tw sp sr X (t := 0) (A 107) h1 (by omega)
  rw [Nat.zero_add] at g1
  obtain ⟨f2, g2, a2⟩ := q23_0 (d + 1) sl I A N V lt tw sp sr X (t := s1.length) f1 (by omega)
  obtain ⟨f3, g3, a3⟩ := q24 (d + 1) sl I A N V lt tw sp sr X (t := s1.length + (strN 0).length) f2 h2 (by omega)
  have hS3 : ∀ t f, Sh (up1 I 106 (up1 (I 106) 1 (nI t))) (up1 A 107 f) 3 n H m := fun t f => Sh_c hS (fun _ _ => rfl) (up1_n (by decide)) (fun q _ _ => up1_n (by omega))
  have h50 := q50_3 (d + 2) sl _ _ N V lt tw sp sr X (hS3 (s1.length + (strN 0).length + s2.length) f3) hk
  cases ho : op_ n k with
  | false =>
    rw [ho] at h50
    obtain ⟨f4, g4, a4⟩ := q23_3 (d + 1) sl I A N V lt tw sp sr X (t := s1.length + (strN 0).length + s2.length) f3 (by omega)
    refine ⟨f4, ?_, ?_, ?_⟩
    · rw [e20, k20_r106_r3_0, hA0]
      simp only [cond_false, List.length_append]
      rw [show s1.length + ((strN 0).length + (s2.length + (strN 3).length)) = s1.length + (strN 0).length + s2.length + (strN 3).length by omega]
      simp (disch := omega) only [rt_c, b_some, List.cons_append, List.nil_append, Bool.cond_not, cond_true, cond_false, Bool.cond_decide, nI_add, nI_clamp, xin_n, dle_e, dlt_e, deq_e, xb_0, xb_1, decide_true, decide_false, Bool.not_true, Bool.not_false, Bool.and_true, Bool.true_and, Bool.and_false, Bool.false_and, Bool.true_or, Bool.false_or, Bool.or_true, Bool.or_false, if_true, if_false, up1_s, n_31, Int32.lt_irrefl, hW, hw.1, e1, g1, k20_r106_r3_20, g2, k20_r106_r3_26, up1_n, hT, hu.1, e2, g3, k20_r106_r3_41, h50, k20_r106_r3_46, g4, k20_r106_r3_90, t20_90]
    · exact App_tr a1 (Nat.zero_add _).symm (App_tr a2 rfl (App_tr a3 rfl a4))
    · simp only [cond_false, List.length_append]
      omega
  | true =>
    rw [ho] at h50
    obtain ⟨f4, g4, a4⟩ := q23_1 (d + 1) sl I A N V lt tw sp sr X (t := s1.length + (strN 0).length + s2.length) f3 (by omega)
    obtain ⟨f5, g5, a5⟩ := q25 (d + 1) sl I A N V lt tw sp sr X (t := s1.length + (strN 0).length + s2.length + (strN 1).length) f4 hl2 (by omega)
    obtain ⟨f6, g6, a6⟩ := q23_2 (d + 1) sl I A N V lt tw sp sr X (t := s1.length + (strN 0).length + s2.length + (strN 1).length + (dgs 4 l).length) f5 (by omega)
    obtain ⟨f7, g7, a7⟩ := q25 (d + 1) sl I A N V lt tw sp sr X (t := s1.length + (strN 0).length + s2.length + (strN 1).length + (dgs 4 l).length + (strN 2).length) f6 (show a ≤ 9999 by omega) (by omega)
    refine ⟨f7, ?_, ?_, ?_⟩
    · rw [e20, k20_r106_r3_0, hA0]
      simp only [cond_true, List.length_append]
      rw [show s1.length + ((strN 0).length + (s2.length + ((strN 1).length + ((dgs 4 l).length + ((strN 2).length + (dgs 4 a).length))))) = s1.length + (strN 0).length + s2.length + (strN 1).length + (dgs 4 l).length + (strN 2).length + (dgs 4 a).length by omega]
      simp (disch := omega) only [rt_c, b_some, List.cons_append, List.nil_append, Bool.cond_not, cond_true, cond_false, Bool.cond_decide, nI_add, nI_clamp, xin_n, dle_e, dlt_e, deq_e, xb_0, xb_1, decide_true, decide_false, Bool.not_true, Bool.not_false, Bool.and_true, Bool.true_and, Bool.and_false, Bool.false_and, Bool.true_or, Bool.false_or, Bool.or_true, Bool.or_false, if_true, if_false, up1_s, n_31, Int32.lt_irrefl, hW, hw.1, e1, g1, k20_r106_r3_20, g2, k20_r106_r3_26, up1_n, hT, hu.1, e2, g3, k20_r106_r3_41, h50, k20_r106_r3_46, g4, k20_r106_r3_55, hL, hl, g5, k20_r106_r3_65, g6, k20_r106_r3_71, hG, ha, g7, k20_r106_r3_81, k20_r106_r3_90, t20_90]
    · exact App_tr a1 (Nat.zero_add _).symm (App_tr a2 rfl (App_tr a3 rfl (App_tr a4 rfl (App_tr a5 rfl (App_tr a6 rfl a7)))))
    · simp only [cond_true, List.length_append]
      omega
theorem lin_r {s1 s2 : List Nat} {H m k l a : Nat} (sl : Nat) (I : Nat → Int32) (w : Int64) (A : Nat → Nat → Int32) (N : Nat → Nat → Int64) (hV : Vd (A 2) H m) (hk : k < m) (h1 : Lts s1) (h2 : Lts s2) (e1 : N 7 (wh (A 2) k) = lN (p27 s1)) (e2 : N 7 (wm (A 2) k) = lN (p27 s2)) (hl : A 2 (103 + k) = nI l) (hl2 : l ≤ 9999) (ha : A 2 (115 + k) = nI a) (ha2 : a ≤ 999) (h32 : (linL s1 s2 (op_ (A 2) k) l a).length ≤ 32) : ∃ g', C (d + 10) 250 [.ref 0, .int (nI k)] sl (RH I w A N) = some ([.int (nI (linL s1 s2 (op_ (A 2) k) l a).length)], sl, RH (up1 (up1 I 0 (nI 0)) 33 (nI (linL s1 s2 (op_ (A 2) k) l a).length)) w (up1 A 15 g') N) ∧ App (A 15) 0 (linL s1 s2 (op_ (A 2) k) l a) g' := by
  obtain ⟨hH, hD, hH6, hm⟩ := hV.1
  have hw := Vd_wh hV hk
  have hu := Vd_wm hV hk
  have h197 := c197' (d + 8) sl (up1 I 0 (nI 0)) w A N hm hD (nI k)
  rw [isN_n hk (by omega)] at h197
  have hA0 : RH (up1 (up1 I 0 (nI 0)) 33 (nI 0)) w A N = RH (up1 (up1 I 0 (nI 0)) 33 (nI 0)) w (up1 A 15 (A 15)) N := by rw [up1_id]
  have l16 : (wl 16).length = 4 := rfl
  have lp : [112, 97, 105, 100].length = 4 := rfl
  have lo : [111, 102].length = 2 := rfl
  have l32 : [32].length = 1 := rfl
  have hlen := h32
  unfold linL at hlen
  simp only [List.length_append] at hlen
  obtain ⟨f1, g1, a1⟩ := c246 (d + 1) sl (up1 I 0 (nI 0)) w A N (s := s1) (t := 0) (A 15) h1 (by omega)
  rw [Nat.zero_add] at g1
  have h176 := fun I' A' => c176 (d + 8) sl I' w A' N (k := 16) (by decide)
  obtain ⟨f2, g2, a2⟩ := c248 d sl (up1 I 0 (nI 0)) w A N (s := wl 16) (t := s1.length) f1 (wl_L (by decide)) (by omega)
  obtain ⟨f3, g3, a3⟩ := c248 d sl (up1 I 0 (nI 0)) w A N (s := s2) (t := s1.length + (1 + (wl 16).length)) f2 h2 (by omega)
  have hA2 : ∀ f, up1 A 15 f 2 = A 2 := fun f => up1_n (by decide)
  have h198 := c198 (d + 9) sl (up1 (up1 I 0 (nI 0)) 33 (nI (s1.length + (1 + (wl 16).length) + (1 + s2.length)))) w (up1 A 15 f3) N (show k < 12 by omega)
  rw [hA2] at h198
  unfold linL
  cases ho : op_ (A 2) k with
  | false =>
    rw [ho] at h198 hlen
    simp only [cond_false, List.length_append] at hlen
    have h175 := fun I' A' => c175_paid (d + 9) sl I' w A' N
    obtain ⟨f4, g4, a4⟩ := c248 d sl (up1 I 0 (nI 0)) w A N (s := [112, 97, 105, 100]) (t := s1.length + (1 + (wl 16).length) + (1 + s2.length)) f3 Lts_paid (by omega)
    refine ⟨f4, ?_, ?_⟩
    · rw [e250, m250_0, h197]
      simp only [cond_false, List.length_append, l32]
      rw [show s1.length + (1 + (wl 16).length + (1 + s2.length + (1 + [112, 97, 105, 100].length))) = s1.length + (1 + (wl 16).length) + (1 + s2.length) + (1 + [112, 97, 105, 100].length) by omega]
      simp (disch := omega) only [rt_c, b_some, List.cons_append, List.nil_append, Bool.cond_not, cond_true, cond_false, Bool.cond_decide, nI_add, nI_clamp, xin_n, dle_e, dlt_e, deq_e, xb_0, xb_1, decide_true, decide_false, Bool.not_true, Bool.not_false, Bool.and_true, Bool.true_and, Bool.and_false, Bool.false_and, Bool.true_or, Bool.false_or, Bool.or_true, Bool.or_false, if_true, if_false, up1_s, n_31, Int32.lt_irrefl, m250_10, hw.1, e1, hA0, g1, m250_38, h176, m250_44, g2, m250_47, up1_n, hu.1, e2, g3, m250_65, h198, m250_70, h175, m250_88, g4, m250_91, t250_14, t250_95, t250_142]
    · exact App_tr a1 (Nat.zero_add _).symm (App_tr a2 (by rw [List.length_append]; rfl) (App_tr a3 (by rw [List.length_append]; rfl) a4))
  | true =>
    rw [ho] at h198 hlen
    simp only [cond_true, List.length_append] at hlen
    have h175 := fun I' A' => c175_of (d + 9) sl I' w A' N
    obtain ⟨f4, g4, a4⟩ := c249 (d + 3) sl (up1 I 0 (nI 0)) w A N (v := l) (t := s1.length + (1 + (wl 16).length) + (1 + s2.length)) f3 hl2 (by omega)
    obtain ⟨f5, g5, a5⟩ := c248 d sl (up1 I 0 (nI 0)) w A N (s := [111, 102]) (t := s1.length + (1 + (wl 16).length) + (1 + s2.length) + (1 + (dgs 4 l).length)) f4 Lts_of (by omega)
    obtain ⟨f6, g6, a6⟩ := c249 (d + 3) sl (up1 I 0 (nI 0)) w A N (v := a) (t := s1.length + (1 + (wl 16).length) + (1 + s2.length) + (1 + (dgs 4 l).length) + (1 + [111, 102].length)) f5 (by omega) (by omega)
    refine ⟨f6, ?_, ?_⟩
    · rw [e250, m250_0, h197]
      simp only [cond_true, List.length_append, l32]
      rw [show s1.length + (1 + (wl 16).length + (1 + s2.length + (1 + (dgs 4 l).length + (1 + [111, 102].length + (1 + (dgs 4 a).length))))) = s1.length + (1 + (wl 16).length) + (1 + s2.length) + (1 + (dgs 4 l).length) + (1 + [111, 102].length) + (1 + (dgs 4 a).length) by omega]
      simp (disch := omega) only [rt_c, b_some, List.cons_append, List.nil_append, Bool.cond_not, cond_true, cond_false, Bool.cond_decide, nI_add, nI_clamp, xin_n, dle_e, dlt_e, deq_e, xb_0, xb_1, decide_true, decide_false, Bool.not_true, Bool.not_false, Bool.and_true, Bool.true_and, Bool.and_false, Bool.false_and, Bool.true_or, Bool.false_or, Bool.or_true, Bool.or_false, if_true, if_false, up1_s, n_31, Int32.lt_irrefl, m250_10, hw.1, e1, hA0, g1, m250_38, h176, m250_44, g2, m250_47, up1_n, hu.1, e2, g3, m250_65, h198, m250_70, hl, g4, m250_109, h175, m250_122, g5, m250_125, ha, g6, m250_138, t250_14, t250_95, t250_142]
    · exact App_tr a1 (Nat.zero_add _).symm (App_tr a2 (by rw [List.length_append]; rfl) (App_tr a3 (by rw [List.length_append]; rfl) (App_tr a4 (by rw [List.length_append]; rfl) (App_tr a5 (by rw [List.length_append]; rfl) a6))))
theorem ok_line (k : Int32) : Ok (d + 10) 152 250 [.ref 0, .int k] := by
  intro sl sl2 I A N V lt tw sp sr J w B M hR
  have hR0 := hR
  obtain ⟨H, m, h1, ⟨p, z, h2⟩, h3⟩ := hR
  have hS := h1.1
  have hV := h1.2.1
  obtain ⟨hH, hD, hH6, hm⟩ := hV.1
  have h46 := q46_3 (d + 9) sl I A N V lt tw sp sr [] hS k
  cases hi : isN m k with
  | false =>
    rw [hi] at h46
    have h197 := c197' (d + 8) sl2 (up1 J 0 (nI 0)) w B M hm hD k
    rw [hi] at h197
    refine ⟨-1, I, A, N, V, lt, tw, sp, sr, [], sl, up1 J 0 (nI 0), w, B, M, ?_, ?_, Rl_0 hR0 _, Nat.le_refl _, by omega, by simp⟩
    · rw [e152, k152_0, h46]
      simp (disch := omega) only [rt_c, b_some, List.cons_append, List.nil_append, Bool.cond_not, cond_true, cond_false, Bool.cond_decide, nI_add, nI_clamp, xin_n, dle_e, dlt_e, deq_e, xb_0, xb_1, decide_true, decide_false, Bool.not_true, Bool.not_false, Bool.and_true, Bool.true_and, Bool.and_false, Bool.false_and, Bool.true_or, Bool.false_or, Bool.or_true, Bool.or_false, if_true, if_false, up1_s, n_31, Int32.lt_irrefl, k152_8, t152_12, t152_32]
    · rw [e250, m250_0, h197]
      simp (disch := omega) only [rt_c, b_some, List.cons_append, List.nil_append, Bool.cond_not, cond_true, cond_false, Bool.cond_decide, nI_add, nI_clamp, xin_n, dle_e, dlt_e, deq_e, xb_0, xb_1, decide_true, decide_false, Bool.not_true, Bool.not_false, Bool.and_true, Bool.true_and, Bool.and_false, Bool.false_and, Bool.true_or, Bool.false_or, Bool.or_true, Bool.or_false, if_true, if_false, up1_s, n_31, Int32.lt_irrefl, m250_10, t250_14, t250_95, t250_142]
  | true =>
    rw [hi] at h46
    obtain ⟨j, hj, rfl⟩ := isN_t (by omega) hi
    obtain ⟨s1, hs1, n1, w1⟩ := Nm_s h1.2.2.2 (Vd_wh hV hj).2
    obtain ⟨s2, hs2, n2, w2⟩ := Nm_s h1.2.2.2 (Vd_wm hV hj).2
    obtain ⟨l, hl2, hl⟩ := hV.2.2.2.2.2.2.2.1 j hj
    obtain ⟨a, ha2, ha⟩ := hV.2.2.2.2.2.2.2.2.1 j hj
    obtain ⟨f, c1, c2, c3⟩ := lin_c (d + 6) sl I A N V lt tw sp sr [] hS hV hj hs1 hs2 n1 n2 hl hl2 ha ha2
    obtain ⟨g, r1, r2⟩ := lin_r d sl2 J w B M hV hj hs1 hs2 w1 w2 hl hl2 ha ha2 c3
    generalize linL s1 s2 (op_ (B 2) j) l a = L at c1 c2 c3 r1 r2
    refine ⟨nI L.length, up1 I 106 (up1 (I 106) 1 (nI L.length)), up1 A 107 f, N, V, lt, tw, sp, sr, [], sl, _, w, _, M, ?_, r1, ?_, Nat.le_refl _, by omega, by simp⟩
    · rw [e152, k152_0, h46]
      simp (disch := omega) only [rt_c, b_some, List.cons_append, List.nil_append, Bool.cond_not, cond_true, cond_false, Bool.cond_decide, nI_add, nI_clamp, xin_n, dle_e, dlt_e, deq_e, xb_0, xb_1, decide_true, decide_false, Bool.not_true, Bool.not_false, Bool.and_true, Bool.true_and, Bool.and_false, Bool.false_and, Bool.true_or, Bool.false_or, Bool.or_true, Bool.or_false, if_true, if_false, up1_s, n_31, Int32.lt_irrefl, k152_8, c1, k152_25, t152_12, t152_32]
    · have hI : ∀ q, q ≠ 106 → up1 I 106 (up1 (I 106) 1 (nI L.length)) q = I q := fun q hq => up1_n hq
      have hA : ∀ q, q ≠ 107 → up1 A 107 f q = A q := fun q hq => up1_n hq
      have hJ : ∀ q, q ≠ 33 → q ≠ 0 → up1 (up1 J 0 (nI 0)) 33 (nI L.length) q = J q := fun q b1 b2 => by rw [up1_n b1, up1_n b2]
      have hB : ∀ q, q ≠ 15 → up1 B 15 g q = B q := fun q hq => up1_n hq
      obtain ⟨⟨q1, q2, q3⟩, qr, -, qt⟩ := h3.2.1
      refine ⟨H, m, ⟨?_, ?_, ?_, h1.2.2.2⟩, ⟨p, z, RPx_c h2 (fun q _ _ => hI q (by omega)) (fun q _ _ => hA q (by omega)) (fun _ _ _ => rfl) rfl (hJ _ (by decide) (by decide)) (hB _ (by decide)) (fun k _ => by rw [hB _ (by decide)])⟩, RZ_h h3 (fun q _ => hI q (by omega)) (fun q _ => hA q (by omega)) (fun _ _ => rfl) ⟨hB _ (by decide), hB _ (by decide)⟩ rfl (fun k _ => by rw [hB _ (by decide)]) ?_ ⟨⟨?_, ?_, ?_⟩, ?_, ?_, ?_⟩⟩
      · rw [hB _ (by decide)]
        exact Sh_c hS (fun _ _ => rfl) (hI 3 (by omega)) (fun q _ _ => hA q (by omega))
      · rw [hB _ (by decide)]; exact hV
      · rw [hB _ (by decide)]; exact h1.2.2.1
      · have hT := h3.1
        unfold RT at hT ⊢
        rw [hI 1 (by omega), hA 2 (by decide), hJ 2 (by decide) (by decide), hB 1 (by decide)]
        exact hT
      · rw [hI 0 (by omega), hJ 10 (by decide) (by decide)]; exact q1
      · rw [hI 0 (by omega), hJ 28 (by decide) (by decide)]; exact q2
      · rw [hI 0 (by omega), hJ 31 (by decide) (by decide)]; exact q3
      · rw [hI 95 (by omega), hA 98 (by decide), hJ 27 (by decide) (by decide), hB 12 (by decide)]; exact qr
      · refine ⟨L.length, c3, by rw [up1_s, up1_s], up1_s, fun k hk => ?_⟩
        rw [up1_s, up1_s]
        have x1 := c2.2 k hk
        have x2 := r2.2 k hk
        rw [Nat.zero_add] at x1 x2
        rw [x1, x2]
      · rw [hI 101 (by omega), hJ 38 (by decide) (by decide), hB 17 (by decide)]; exact qt
end OKL
