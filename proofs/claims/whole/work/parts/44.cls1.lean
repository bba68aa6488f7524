/-! THE CLASS'S SHIRE: what is so of it, by a row of numbers as the reference lays it -/
def Sh (I : Nat → Nat → Int32) (A : Nat → Nat → Int32) (a : Nat) (n : Nat → Int32) (H m : Nat) : Prop :=
  (I a 8 = nI H ∧ I a 9 = nI m ∧ H ≤ 6 ∧ m ≤ 12) ∧ (I a 10 = n 2 ∧ I a 11 = n 3 ∧ I a 12 = n 70 ∧ I a 13 = n 71) ∧
  (∀ h, h < H → A (a + 2) h = n (73 + h)) ∧ (∀ h, h < H → A (a + 3) h = n (10 + h)) ∧ (∀ h, h < H → A (a + 4) h = n (16 + h)) ∧
  (∀ k, k < m → A (a + 5) k = n (79 + k)) ∧ (∀ k, k < m → A (a + 6) k = n (91 + k)) ∧ (∀ k, k < m → A (a + 7) k = n (103 + k)) ∧ (∀ k, k < m → A (a + 8) k = n (115 + k))
theorem sh_3 {I : Nat → Nat → Int32} {A : Nat → Nat → Int32} {n : Nat → Int32} {H m : Nat} (h : Sh I A 3 n H m) : (I 3 8 = nI H ∧ I 3 9 = nI m ∧ H ≤ 6 ∧ m ≤ 12) ∧ (I 3 10 = n 2 ∧ I 3 11 = n 3 ∧ I 3 12 = n 70 ∧ I 3 13 = n 71) ∧
  (∀ h, h < H → A 5 h = n (73 + h)) ∧ (∀ h, h < H → A 6 h = n (10 + h)) ∧ (∀ h, h < H → A 7 h = n (16 + h)) ∧
  (∀ k, k < m → A 8 k = n (79 + k)) ∧ (∀ k, k < m → A 9 k = n (91 + k)) ∧ (∀ k, k < m → A 10 k = n (103 + k)) ∧ (∀ k, k < m → A 11 k = n (115 + k)) := h
theorem sh_12 {I : Nat → Nat → Int32} {A : Nat → Nat → Int32} {n : Nat → Int32} {H m : Nat} (h : Sh I A 12 n H m) : (I 12 8 = nI H ∧ I 12 9 = nI m ∧ H ≤ 6 ∧ m ≤ 12) ∧ (I 12 10 = n 2 ∧ I 12 11 = n 3 ∧ I 12 12 = n 70 ∧ I 12 13 = n 71) ∧
  (∀ h, h < H → A 14 h = n (73 + h)) ∧ (∀ h, h < H → A 15 h = n (10 + h)) ∧ (∀ h, h < H → A 16 h = n (16 + h)) ∧
  (∀ k, k < m → A 17 k = n (79 + k)) ∧ (∀ k, k < m → A 18 k = n (91 + k)) ∧ (∀ k, k < m → A 19 k = n (103 + k)) ∧ (∀ k, k < m → A 20 k = n (115 + k)) := h
theorem le_nl (a b : Int32) : (a ≤ b) = ¬ (b < a) := propext Int32.not_lt.symm
theorem dec_b (p : Prop) [Decidable p] : (if p then nI 1 else nI 0) = x_b (decide p) := by by_cases h : p <;> simp [h, x_b] <;> rfl
theorem xin_ge {a : Int32} {n : Nat} (h0 : ¬ a < nI 0) (hn : n < 2 ^ 31) (h1 : a < nI n) : ∃ k, k < n ∧ a = nI k := by
  obtain ⟨k, hk, rfl⟩ := nI_of (x := a) h0
  exact ⟨k, (nI_ltI hk hn).mp h1, rfl⟩
/-- is it one of the first n -/
def isN (n : Nat) (a : Int32) : Bool := decide (nI 0 ≤ a) && decide (a < nI n)
theorem isN_t {n : Nat} {a : Int32} (hn : n < 2 ^ 31) (h : isN n a = true) : ∃ k, k < n ∧ a = nI k := by
  unfold isN at h
  simp only [Bool.and_eq_true, decide_eq_true_eq] at h
  exact xin_ge (Int32.not_lt.mpr h.1) hn h.2
theorem isN_n {n k : Nat} (hk : k < n) (hn : n < 2 ^ 31) : isN n (nI k) = true := by
  unfold isN
  rw [dle_n (by omega) (by omega), dlt_n (by omega) (by omega)]
  simp [hk]
theorem isN_le {n : Nat} (hn : n < 2 ^ 31) (a : Int32) : (decide (nI 0 ≤ a) && decide (a ≤ nI n - nI 1)) = isN n a := by
  unfold isN
  by_cases h : a < nI 0
  · have : ¬ nI 0 ≤ a := Int32.not_le.mpr h
    simp [this]
  · obtain ⟨k, hk, rfl⟩ := nI_of (x := a) h
    cases n with
    | zero =>
      have h1 : (nI 0 - nI 1 : Int32) = -1 := by decide
      have h2 : ¬ nI k ≤ (-1 : Int32) := by
        intro h3
        have h4 := Int32.le_iff_toInt_le.mp h3
        rw [nI_toInt hk] at h4
        have h5 : (-1 : Int32).toInt = -1 := by decide
        omega
      rw [h1, dlt_n hk (by omega)]
      simp [h2]
    | succ n =>
      have : nI (n + 1) - nI 1 = nI n := nI_pred n
      rw [this, dle_n hk (by omega), dlt_n hk (by omega)]
      congr 1
      simp
      omega
set_option maxRecDepth 100000 in
theorem bcnt : ∀ x : Fin 4096, ((((((((nI x.val - (((nI x.val).toUInt32 >>> ((nI 1).toUInt32 &&& Int32.toUInt32 31)).toInt32 &&& (nI 1431655765))) &&& (nI 858993459)) + (((nI x.val - (((nI x.val).toUInt32 >>> ((nI 1).toUInt32 &&& Int32.toUInt32 31)).toInt32 &&& (nI 1431655765))).toUInt32 >>> ((nI 2).toUInt32 &&& Int32.toUInt32 31)).toInt32 &&& (nI 858993459))) + ((((nI x.val - (((nI x.val).toUInt32 >>> ((nI 1).toUInt32 &&& Int32.toUInt32 31)).toInt32 &&& (nI 1431655765))) &&& (nI 858993459)) + (((nI x.val - (((nI x.val).toUInt32 >>> ((nI 1).toUInt32 &&& Int32.toUInt32 31)).toInt32 &&& (nI 1431655765))).toUInt32 >>> ((nI 2).toUInt32 &&& Int32.toUInt32 31)).toInt32 &&& (nI 858993459))).toUInt32 >>> ((nI 4).toUInt32 &&& Int32.toUInt32 31)).toInt32) &&& (nI 252645135)) + ((((((nI x.val - (((nI x.val).toUInt32 >>> ((nI 1).toUInt32 &&& Int32.toUInt32 31)).toInt32 &&& (nI 1431655765))) &&& (nI 858993459)) + (((nI x.val - (((nI x.val).toUInt32 >>> ((nI 1).toUInt32 &&& Int32.toUInt32 31)).toInt32 &&& (nI 1431655765))).toUInt32 >>> ((nI 2).toUInt32 &&& Int32.toUInt32 31)).toInt32 &&& (nI 858993459))) + ((((nI x.val - (((nI x.val).toUInt32 >>> ((nI 1).toUInt32 &&& Int32.toUInt32 31)).toInt32 &&& (nI 1431655765))) &&& (nI 858993459)) + (((nI x.val - (((nI x.val).toUInt32 >>> ((nI 1).toUInt32 &&& Int32.toUInt32 31)).toInt32 &&& (nI 1431655765))).toUInt32 >>> ((nI 2).toUInt32 &&& Int32.toUInt32 31)).toInt32 &&& (nI 858993459))).toUInt32 >>> ((nI 4).toUInt32 &&& Int32.toUInt32 31)).toInt32) &&& (nI 252645135)).toUInt32 >>> ((nI 8).toUInt32 &&& Int32.toUInt32 31)).toInt32) + (((((((nI x.val - (((nI x.val).toUInt32 >>> ((nI 1).toUInt32 &&& Int32.toUInt32 31)).toInt32 &&& (nI 1431655765))) &&& (nI 858993459)) + (((nI x.val - (((nI x.val).toUInt32 >>> ((nI 1).toUInt32 &&& Int32.toUInt32 31)).toInt32 &&& (nI 1431655765))).toUInt32 >>> ((nI 2).toUInt32 &&& Int32.toUInt32 31)).toInt32 &&& (nI 858993459))) + ((((nI x.val - (((nI x.val).toUInt32 >>> ((nI 1).toUInt32 &&& Int32.toUInt32 31)).toInt32 &&& (nI 1431655765))) &&& (nI 858993459)) + (((nI x.val - (((nI x.val).toUInt32 >>> ((nI 1).toUInt32 &&& Int32.toUInt32 31)).toInt32 &&& (nI 1431655765))).toUInt32 >>> ((nI 2).toUInt32 &&& Int32.toUInt32 31)).toInt32 &&& (nI 858993459))).toUInt32 >>> ((nI 4).toUInt32 &&& Int32.toUInt32 31)).toInt32) &&& (nI 252645135)) + ((((((nI x.val - (((nI x.val).toUInt32 >>> ((nI 1).toUInt32 &&& Int32.toUInt32 31)).toInt32 &&& (nI 1431655765))) &&& (nI 858993459)) + (((nI x.val - (((nI x.val).toUInt32 >>> ((nI 1).toUInt32 &&& Int32.toUInt32 31)).toInt32 &&& (nI 1431655765))).toUInt32 >>> ((nI 2).toUInt32 &&& Int32.toUInt32 31)).toInt32 &&& (nI 858993459))) + ((((nI x.val - (((nI x.val).toUInt32 >>> ((nI 1).toUInt32 &&& Int32.toUInt32 31)).toInt32 &&& (nI 1431655765))) &&& (nI 858993459)) + (((nI x.val - (((nI x.val).toUInt32 >>> ((nI 1).toUInt32 &&& Int32.toUInt32 31)).toInt32 &&& (nI 1431655765))).toUInt32 >>> ((nI 2).toUInt32 &&& Int32.toUInt32 31)).toInt32 &&& (nI 858993459))).toUInt32 >>> ((nI 4).toUInt32 &&& Int32.toUInt32 31)).toInt32) &&& (nI 252645135)).toUInt32 >>> ((nI 8).toUInt32 &&& Int32.toUInt32 31)).toInt32).toUInt32 >>> ((nI 16).toUInt32 &&& Int32.toUInt32 31)).toInt32) &&& (nI 63)) = nI (popF 12 x.val) := by decide +kernel
section CL1
variable (d sl : Nat) (I : Nat → Nat → Int32) (A : Nat → Nat → Int32) (N : Nat → Nat → Int64) (V : Nat → Nat → Option Nat) (lt : Int64) (tw : Option Nat) (sp sr : Nat) (X : List AC)
theorem q2 {x : Nat} (hx : x < 4096) : C d 2 [.int (nI x)] sl (CH I A N V lt tw sp sr X) = some ([.int (nI (popF 12 x))], sl, CH I A N V lt tw sp sr X) := by
  rw [e2, k2_0, t2_52, bcnt ⟨x, hx⟩]
variable {n : Nat → Int32} {H m : Nat}
theorem q45_3 (hS : Sh I A 3 n H m) (h : Int32) : C d 45 [.ref 3, .int h] sl (CH I A N V lt tw sp sr X) = some ([.int (x_b (isN H h))], sl, CH I A N V lt tw sp sr X) := by
  obtain ⟨⟨hH, hD, hH6, hm⟩, -⟩ := sh_3 hS
  rw [e45, k45_r3_0, hH]
  unfold isN
  simp (disch := omega) only [rt_c, b_some, List.cons_append, List.nil_append, Bool.cond_not, cond_true, cond_false, Bool.cond_decide, nI_add, nI_clamp, xin_n, dle_e, dlt_e, deq_e, xb_0, xb_1, decide_true, decide_false, Bool.not_true, Bool.not_false, Bool.and_true, Bool.true_and, Bool.and_false, Bool.false_and, Bool.true_or, Bool.false_or, Bool.or_true, Bool.or_false, if_true, if_false, up1_s, n_31, Int32.lt_irrefl, le_nl, decide_not]
  (repeat' split) <;> simp (disch := omega) only [rt_c, b_some, List.cons_append, List.nil_append, Bool.cond_not, cond_true, cond_false, Bool.cond_decide, nI_add, nI_clamp, xin_n, dle_e, dlt_e, deq_e, xb_0, xb_1, decide_true, decide_false, Bool.not_true, Bool.not_false, Bool.and_true, Bool.true_and, Bool.and_false, Bool.false_and, Bool.true_or, Bool.false_or, Bool.or_true, Bool.or_false, if_true, if_false, up1_s, n_31, Int32.lt_irrefl, t45_17_0, t45_17_1, *]
theorem q46_3 (hS : Sh I A 3 n H m) (h : Int32) : C d 46 [.ref 3, .int h] sl (CH I A N V lt tw sp sr X) = some ([.int (x_b (isN m h))], sl, CH I A N V lt tw sp sr X) := by
  obtain ⟨⟨hH, hD, hH6, hm⟩, -⟩ := sh_3 hS
  rw [e46, k46_r3_0, hD]
  unfold isN
  simp (disch := omega) only [rt_c, b_some, List.cons_append, List.nil_append, Bool.cond_not, cond_true, cond_false, Bool.cond_decide, nI_add, nI_clamp, xin_n, dle_e, dlt_e, deq_e, xb_0, xb_1, decide_true, decide_false, Bool.not_true, Bool.not_false, Bool.and_true, Bool.true_and, Bool.and_false, Bool.false_and, Bool.true_or, Bool.false_or, Bool.or_true, Bool.or_false, if_true, if_false, up1_s, n_31, Int32.lt_irrefl, le_nl, decide_not]
  (repeat' split) <;> simp (disch := omega) only [rt_c, b_some, List.cons_append, List.nil_append, Bool.cond_not, cond_true, cond_false, Bool.cond_decide, nI_add, nI_clamp, xin_n, dle_e, dlt_e, deq_e, xb_0, xb_1, decide_true, decide_false, Bool.not_true, Bool.not_false, Bool.and_true, Bool.true_and, Bool.and_false, Bool.false_and, Bool.true_or, Bool.false_or, Bool.or_true, Bool.or_false, if_true, if_false, up1_s, n_31, Int32.lt_irrefl, t46_17_0, t46_17_1, *]
theorem q50_3 (hS : Sh I A 3 n H m) {k : Nat} (hk : k < m) : C d 50 [.ref 3, .int (nI k)] sl (CH I A N V lt tw sp sr X) = some ([.int (x_b (op_ n k))], sl, CH I A N V lt tw sp sr X) := by
  obtain ⟨⟨hH, hD, hH6, hm⟩, -, hC, hIn, hCh, hW, hT, hL, hG⟩ := sh_3 hS
  rw [e50, k50_r3_0]
  unfold op_
  simp (disch := omega) only [rt_c, b_some, List.cons_append, List.nil_append, Bool.cond_not, cond_true, cond_false, Bool.cond_decide, nI_add, nI_clamp, xin_n, dle_e, dlt_e, deq_e, xb_0, xb_1, decide_true, decide_false, Bool.not_true, Bool.not_false, Bool.and_true, Bool.true_and, Bool.and_false, Bool.false_and, Bool.true_or, Bool.false_or, Bool.or_true, Bool.or_false, if_true, if_false, up1_s, n_31, Int32.lt_irrefl, hL, le_nl, decide_not]
  (repeat' split) <;> simp (disch := omega) only [rt_c, b_some, List.cons_append, List.nil_append, Bool.cond_not, cond_true, cond_false, Bool.cond_decide, nI_add, nI_clamp, xin_n, dle_e, dlt_e, deq_e, xb_0, xb_1, decide_true, decide_false, Bool.not_true, Bool.not_false, Bool.and_true, Bool.true_and, Bool.and_false, Bool.false_and, Bool.true_or, Bool.false_or, Bool.or_true, Bool.or_false, if_true, if_false, up1_s, n_31, Int32.lt_irrefl, t50_14_0, t50_14_1, *]
theorem q57_3 (hS : Sh I A 3 n H m) (h : Int32) : C d 57 [.ref 3, .int h] sl (CH I A N V lt tw sp sr X) = some ([.int (sum_ n 79 m h)], sl, CH I A N V lt tw sp sr X) := by
  obtain ⟨⟨hH, hD, hH6, hm⟩, -, hC, hIn, hCh, hW, hT, hL, hG⟩ := sh_3 hS
  rw [e57, k57_r3_0]
  refine lp0 (fun k s => rt 57 (R d 57 (4, [some (.ref 3), some (.int h), some (.int s), some (.int (nI k))], [], sl, CH I A N V lt tw sp sr X))) (fun k s => if n (79 + k) = h then s + n (103 + k) else s) m (fun s => some ([.int s], sl, CH I A N V lt tw sp sr X)) ?_ ?_ (nI 0)
  · intro k s hk
    have h1 : ¬ m ≤ k := by omega
    rw [k57_r3_4]
    simp (disch := omega) only [rt_c, b_some, List.cons_append, List.nil_append, Bool.cond_not, cond_true, cond_false, Bool.cond_decide, nI_add, nI_clamp, xin_n, dle_e, dlt_e, deq_e, xb_0, xb_1, decide_true, decide_false, Bool.not_true, Bool.not_false, Bool.and_true, Bool.true_and, Bool.and_false, Bool.false_and, Bool.true_or, Bool.false_or, Bool.or_true, Bool.or_false, if_true, if_false, up1_s, n_31, Int32.lt_irrefl, hD, h1, hW, hL]
    (repeat' split) <;> simp (disch := omega) only [rt_c, b_some, List.cons_append, List.nil_append, Bool.cond_not, cond_true, cond_false, Bool.cond_decide, nI_add, nI_clamp, xin_n, dle_e, dlt_e, deq_e, xb_0, xb_1, decide_true, decide_false, Bool.not_true, Bool.not_false, Bool.and_true, Bool.true_and, Bool.and_false, Bool.false_and, Bool.true_or, Bool.false_or, Bool.or_true, Bool.or_false, if_true, if_false, up1_s, n_31, Int32.lt_irrefl, *]
  · intro s
    rw [k57_r3_4]
    simp (disch := omega) only [rt_c, b_some, List.cons_append, List.nil_append, Bool.cond_not, cond_true, cond_false, Bool.cond_decide, nI_add, nI_clamp, xin_n, dle_e, dlt_e, deq_e, xb_0, xb_1, decide_true, decide_false, Bool.not_true, Bool.not_false, Bool.and_true, Bool.true_and, Bool.and_false, Bool.false_and, Bool.true_or, Bool.false_or, Bool.or_true, Bool.or_false, if_true, if_false, up1_s, n_31, Int32.lt_irrefl, hD, Nat.le_refl, t57_38]
theorem q62_3 (hS : Sh I A 3 n H m) {h : Nat} (hh : h < H) : C (d + 1) 62 [.ref 3, .int (nI h)] sl (CH I A N V lt tw sp sr X) = some ([.int (x_b (broke_ n m h))], sl, CH I A N V lt tw sp sr X) := by
  rw [e62, k62_r3_0, q57_3 d sl I A N V lt tw sp sr X hS]
  obtain ⟨⟨hH, hD, hH6, hm⟩, -, hC, hIn, hCh, hW, hT, hL, hG⟩ := sh_3 hS
  unfold broke_
  simp (disch := omega) only [rt_c, b_some, List.cons_append, List.nil_append, Bool.cond_not, cond_true, cond_false, Bool.cond_decide, nI_add, nI_clamp, xin_n, dle_e, dlt_e, deq_e, xb_0, xb_1, decide_true, decide_false, Bool.not_true, Bool.not_false, Bool.and_true, Bool.true_and, Bool.and_false, Bool.false_and, Bool.true_or, Bool.false_or, Bool.or_true, Bool.or_false, if_true, if_false, up1_s, n_31, Int32.lt_irrefl, k62_r3_5, hC, le_nl, decide_not]
  (repeat' split) <;> simp (disch := omega) only [rt_c, b_some, List.cons_append, List.nil_append, Bool.cond_not, cond_true, cond_false, Bool.cond_decide, nI_add, nI_clamp, xin_n, dle_e, dlt_e, deq_e, xb_0, xb_1, decide_true, decide_false, Bool.not_true, Bool.not_false, Bool.and_true, Bool.true_and, Bool.and_false, Bool.false_and, Bool.true_or, Bool.false_or, Bool.or_true, Bool.or_false, if_true, if_false, up1_s, n_31, Int32.lt_irrefl, t62_19_0, t62_19_1, *]
theorem q66_3 (hS : Sh I A 3 n H m) : C d 66 [.ref 3] sl (CH I A N V lt tw sp sr X) = some ([.int (x_it (fun k s => s + n (103 + k)) 0 m (nI 0))], sl, CH I A N V lt tw sp sr X) := by
  obtain ⟨⟨hH, hD, hH6, hm⟩, -, hC, hIn, hCh, hW, hT, hL, hG⟩ := sh_3 hS
  rw [e66, k66_r3_0]
  refine lp0 (fun k s => rt 66 (R d 66 (4, [some (.ref 3), some (.int s), some (.int (nI k))], [], sl, CH I A N V lt tw sp sr X))) _ m (fun s => some ([.int s], sl, CH I A N V lt tw sp sr X)) ?_ ?_ (nI 0)
  · intro k s hk
    have h1 : ¬ m ≤ k := by omega
    rw [k66_r3_4]
    simp (disch := omega) only [rt_c, b_some, List.cons_append, List.nil_append, Bool.cond_not, cond_true, cond_false, Bool.cond_decide, nI_add, nI_clamp, xin_n, dle_e, dlt_e, deq_e, xb_0, xb_1, decide_true, decide_false, Bool.not_true, Bool.not_false, Bool.and_true, Bool.true_and, Bool.and_false, Bool.false_and, Bool.true_or, Bool.false_or, Bool.or_true, Bool.or_false, if_true, if_false, up1_s, n_31, Int32.lt_irrefl, hD, h1, hL]
  · intro s
    rw [k66_r3_4]
    simp (disch := omega) only [rt_c, b_some, List.cons_append, List.nil_append, Bool.cond_not, cond_true, cond_false, Bool.cond_decide, nI_add, nI_clamp, xin_n, dle_e, dlt_e, deq_e, xb_0, xb_1, decide_true, decide_false, Bool.not_true, Bool.not_false, Bool.and_true, Bool.true_and, Bool.and_false, Bool.false_and, Bool.true_or, Bool.false_or, Bool.or_true, Bool.or_false, if_true, if_false, up1_s, n_31, Int32.lt_irrefl, hD, Nat.le_refl, t66_28]
theorem q46_12 (hS : Sh I A 12 n H m) (h : Int32) : C d 46 [.ref 12, .int h] sl (CH I A N V lt tw sp sr X) = some ([.int (x_b (isN m h))], sl, CH I A N V lt tw sp sr X) := by
  obtain ⟨⟨hH, hD, hH6, hm⟩, -⟩ := sh_12 hS
  rw [e46, k46_r12_0, hD]
  unfold isN
  simp (disch := omega) only [rt_c, b_some, List.cons_append, List.nil_append, Bool.cond_not, cond_true, cond_false, Bool.cond_decide, nI_add, nI_clamp, xin_n, dle_e, dlt_e, deq_e, xb_0, xb_1, decide_true, decide_false, Bool.not_true, Bool.not_false, Bool.and_true, Bool.true_and, Bool.and_false, Bool.false_and, Bool.true_or, Bool.false_or, Bool.or_true, Bool.or_false, if_true, if_false, up1_s, n_31, Int32.lt_irrefl, le_nl, decide_not]
  (repeat' split) <;> simp (disch := omega) only [rt_c, b_some, List.cons_append, List.nil_append, Bool.cond_not, cond_true, cond_false, Bool.cond_decide, nI_add, nI_clamp, xin_n, dle_e, dlt_e, deq_e, xb_0, xb_1, decide_true, decide_false, Bool.not_true, Bool.not_false, Bool.and_true, Bool.true_and, Bool.and_false, Bool.false_and, Bool.true_or, Bool.false_or, Bool.or_true, Bool.or_false, if_true, if_false, up1_s, n_31, Int32.lt_irrefl, t46_17_0, t46_17_1, *]
theorem q50_12 (hS : Sh I A 12 n H m) {k : Nat} (hk : k < m) : C d 50 [.ref 12, .int (nI k)] sl (CH I A N V lt tw sp sr X) = some ([.int (x_b (op_ n k))], sl, CH I A N V lt tw sp sr X) := by
  obtain ⟨⟨hH, hD, hH6, hm⟩, -, hC, hIn, hCh, hW, hT, hL, hG⟩ := sh_12 hS
  rw [e50, k50_r12_0]
  unfold op_
  simp (disch := omega) only [rt_c, b_some, List.cons_append, List.nil_append, Bool.cond_not, cond_true, cond_false, Bool.cond_decide, nI_add, nI_clamp, xin_n, dle_e, dlt_e, deq_e, xb_0, xb_1, decide_true, decide_false, Bool.not_true, Bool.not_false, Bool.and_true, Bool.true_and, Bool.and_false, Bool.false_and, Bool.true_or, Bool.false_or, Bool.or_true, Bool.or_false, if_true, if_false, up1_s, n_31, Int32.lt_irrefl, hL, le_nl, decide_not]
  (repeat' split) <;> simp (disch := omega) only [rt_c, b_some, List.cons_append, List.nil_append, Bool.cond_not, cond_true, cond_false, Bool.cond_decide, nI_add, nI_clamp, xin_n, dle_e, dlt_e, deq_e, xb_0, xb_1, decide_true, decide_false, Bool.not_true, Bool.not_false, Bool.and_true, Bool.true_and, Bool.and_false, Bool.false_and, Bool.true_or, Bool.false_or, Bool.or_true, Bool.or_false, if_true, if_false, up1_s, n_31, Int32.lt_irrefl, t50_14_0, t50_14_1, *]
theorem q57_12 (hS : Sh I A 12 n H m) (h : Int32) : C d 57 [.ref 12, .int h] sl (CH I A N V lt tw sp sr X) = some ([.int (sum_ n 79 m h)], sl, CH I A N V lt tw sp sr X) := by
  obtain ⟨⟨hH, hD, hH6, hm⟩, -, hC, hIn, hCh, hW, hT, hL, hG⟩ := sh_12 hS
  rw [e57, k57_r12_0]
  refine lp0 (fun k s => rt 57 (R d 57 (4, [some (.ref 12), some (.int h), some (.int s), some (.int (nI k))], [], sl, CH I A N V lt tw sp sr X))) (fun k s => if n (79 + k) = h then s + n (103 + k) else s) m (fun s => some ([.int s], sl, CH I A N V lt tw sp sr X)) ?_ ?_ (nI 0)
  · intro k s hk
    have h1 : ¬ m ≤ k := by omega
    rw [k57_r12_4]
    simp (disch := omega) only [rt_c, b_some, List.cons_append, List.nil_append, Bool.cond_not, cond_true, cond_false, Bool.cond_decide, nI_add, nI_clamp, xin_n, dle_e, dlt_e, deq_e, xb_0, xb_1, decide_true, decide_false, Bool.not_true, Bool.not_false, Bool.and_true, Bool.true_and, Bool.and_false, Bool.false_and, Bool.true_or, Bool.false_or, Bool.or_true, Bool.or_false, if_true, if_false, up1_s, n_31, Int32.lt_irrefl, hD, h1, hW, hL]
    (repeat' split) <;> simp (disch := omega) only [rt_c, b_some, List.cons_append, List.nil_append, Bool.cond_not, cond_true, cond_false, Bool.cond_decide, nI_add, nI_clamp, xin_n, dle_e, dlt_e, deq_e, xb_0, xb_1, decide_true, decide_false, Bool.not_true, Bool.not_false, Bool.and_true, Bool.true_and, Bool.and_false, Bool.false_and, Bool.true_or, Bool.false_or, Bool.or_true, Bool.or_false, if_true, if_false, up1_s, n_31, Int32.lt_irrefl, *]
  · intro s
    rw [k57_r12_4]
    simp (disch := omega) only [rt_c, b_some, List.cons_append, List.nil_append, Bool.cond_not, cond_true, cond_false, Bool.cond_decide, nI_add, nI_clamp, xin_n, dle_e, dlt_e, deq_e, xb_0, xb_1, decide_true, decide_false, Bool.not_true, Bool.not_false, Bool.and_true, Bool.true_and, Bool.and_false, Bool.false_and, Bool.true_or, Bool.false_or, Bool.or_true, Bool.or_false, if_true, if_false, up1_s, n_31, Int32.lt_irrefl, hD, Nat.le_refl, t57_38]
theorem q62_12 (hS : Sh I A 12 n H m) {h : Nat} (hh : h < H) : C (d + 1) 62 [.ref 12, .int (nI h)] sl (CH I A N V lt tw sp sr X) = some ([.int (x_b (broke_ n m h))], sl, CH I A N V lt tw sp sr X) := by
  rw [e62, k62_r12_0, q57_12 d sl I A N V lt tw sp sr X hS]
  obtain ⟨⟨hH, hD, hH6, hm⟩, -, hC, hIn, hCh, hW, hT, hL, hG⟩ := sh_12 hS
  unfold broke_
  simp (disch := omega) only [rt_c, b_some, List.cons_append, List.nil_append, Bool.cond_not, cond_true, cond_false, Bool.cond_decide, nI_add, nI_clamp, xin_n, dle_e, dlt_e, deq_e, xb_0, xb_1, decide_true, decide_false, Bool.not_true, Bool.not_false, Bool.and_true, Bool.true_and, Bool.and_false, Bool.false_and, Bool.true_or, Bool.false_or, Bool.or_true, Bool.or_false, if_true, if_false, up1_s, n_31, Int32.lt_irrefl, k62_r12_5, hC, le_nl, decide_not]
  (repeat' split) <;> simp (disch := omega) only [rt_c, b_some, List.cons_append, List.nil_append, Bool.cond_not, cond_true, cond_false, Bool.cond_decide, nI_add, nI_clamp, xin_n, dle_e, dlt_e, deq_e, xb_0, xb_1, decide_true, decide_false, Bool.not_true, Bool.not_false, Bool.and_true, Bool.true_and, Bool.and_false, Bool.false_and, Bool.true_or, Bool.false_or, Bool.or_true, Bool.or_false, if_true, if_false, up1_s, n_31, Int32.lt_irrefl, t62_19_0, t62_19_1, *]
theorem q66_12 (hS : Sh I A 12 n H m) : C d 66 [.ref 12] sl (CH I A N V lt tw sp sr X) = some ([.int (x_it (fun k s => s + n (103 + k)) 0 m (nI 0))], sl, CH I A N V lt tw sp sr X) := by
  obtain ⟨⟨hH, hD, hH6, hm⟩, -, hC, hIn, hCh, hW, hT, hL, hG⟩ := sh_12 hS
  rw [e66, k66_r12_0]
  refine lp0 (fun k s => rt 66 (R d 66 (4, [some (.ref 12), some (.int s), some (.int (nI k))], [], sl, CH I A N V lt tw sp sr X))) _ m (fun s => some ([.int s], sl, CH I A N V lt tw sp sr X)) ?_ ?_ (nI 0)
  · intro k s hk
    have h1 : ¬ m ≤ k := by omega
    rw [k66_r12_4]
    simp (disch := omega) only [rt_c, b_some, List.cons_append, List.nil_append, Bool.cond_not, cond_true, cond_false, Bool.cond_decide, nI_add, nI_clamp, xin_n, dle_e, dlt_e, deq_e, xb_0, xb_1, decide_true, decide_false, Bool.not_true, Bool.not_false, Bool.and_true, Bool.true_and, Bool.and_false, Bool.false_and, Bool.true_or, Bool.false_or, Bool.or_true, Bool.or_false, if_true, if_false, up1_s, n_31, Int32.lt_irrefl, hD, h1, hL]
  · intro s
    rw [k66_r12_4]
    simp (disch := omega) only [rt_c, b_some, List.cons_append, List.nil_append, Bool.cond_not, cond_true, cond_false, Bool.cond_decide, nI_add, nI_clamp, xin_n, dle_e, dlt_e, deq_e, xb_0, xb_1, decide_true, decide_false, Bool.not_true, Bool.not_false, Bool.and_true, Bool.true_and, Bool.and_false, Bool.false_and, Bool.true_or, Bool.false_or, Bool.or_true, Bool.or_false, if_true, if_false, up1_s, n_31, Int32.lt_irrefl, hD, Nat.le_refl, t66_28]
theorem q67_3 (hS : Sh I A 3 n H m) : C d 67 [.ref 3] sl (CH I A N V lt tw sp sr X) = some ([.int (x_it (fun k s => s + n (73 + k)) 0 H (nI 0))], sl, CH I A N V lt tw sp sr X) := by
  obtain ⟨⟨hH, hD, hH6, hm⟩, -, hC, hIn, hCh, hW, hT, hL, hG⟩ := sh_3 hS
  rw [e67, k67_r3_0]
  refine lp0 (fun k s => rt 67 (R d 67 (4, [some (.ref 3), some (.int s), some (.int (nI k))], [], sl, CH I A N V lt tw sp sr X))) _ H (fun s => some ([.int s], sl, CH I A N V lt tw sp sr X)) ?_ ?_ (nI 0)
  · intro k s hk
    have h1 : ¬ H ≤ k := by omega
    rw [k67_r3_4]
    simp (disch := omega) only [rt_c, b_some, List.cons_append, List.nil_append, Bool.cond_not, cond_true, cond_false, Bool.cond_decide, nI_add, nI_clamp, xin_n, dle_e, dlt_e, deq_e, xb_0, xb_1, decide_true, decide_false, Bool.not_true, Bool.not_false, Bool.and_true, Bool.true_and, Bool.and_false, Bool.false_and, Bool.true_or, Bool.false_or, Bool.or_true, Bool.or_false, if_true, if_false, up1_s, n_31, Int32.lt_irrefl, hH, h1, hC]
  · intro s
    rw [k67_r3_4]
    simp (disch := omega) only [rt_c, b_some, List.cons_append, List.nil_append, Bool.cond_not, cond_true, cond_false, Bool.cond_decide, nI_add, nI_clamp, xin_n, dle_e, dlt_e, deq_e, xb_0, xb_1, decide_true, decide_false, Bool.not_true, Bool.not_false, Bool.and_true, Bool.true_and, Bool.and_false, Bool.false_and, Bool.true_or, Bool.false_or, Bool.or_true, Bool.or_false, if_true, if_false, up1_s, n_31, Int32.lt_irrefl, hH, Nat.le_refl, t67_28]
theorem q58_3 (hS : Sh I A 3 n H m) (h : Int32) : C d 58 [.ref 3, .int h] sl (CH I A N V lt tw sp sr X) = some ([.int (sum_ n 91 m h)], sl, CH I A N V lt tw sp sr X) := by
  obtain ⟨⟨hH, hD, hH6, hm⟩, -, hC, hIn, hCh, hW, hT, hL, hG⟩ := sh_3 hS
  rw [e58, k58_r3_0]
  refine lp0 (fun k s => rt 58 (R d 58 (4, [some (.ref 3), some (.int h), some (.int s), some (.int (nI k))], [], sl, CH I A N V lt tw sp sr X))) (fun k s => if n (91 + k) = h then s + n (103 + k) else s) m (fun s => some ([.int s], sl, CH I A N V lt tw sp sr X)) ?_ ?_ (nI 0)
  · intro k s hk
    have h1 : ¬ m ≤ k := by omega
    rw [k58_r3_4]
    simp (disch := omega) only [rt_c, b_some, List.cons_append, List.nil_append, Bool.cond_not, cond_true, cond_false, Bool.cond_decide, nI_add, nI_clamp, xin_n, dle_e, dlt_e, deq_e, xb_0, xb_1, decide_true, decide_false, Bool.not_true, Bool.not_false, Bool.and_true, Bool.true_and, Bool.and_false, Bool.false_and, Bool.true_or, Bool.false_or, Bool.or_true, Bool.or_false, if_true, if_false, up1_s, n_31, Int32.lt_irrefl, hD, h1, hT, hL]
    (repeat' split) <;> simp (disch := omega) only [rt_c, b_some, List.cons_append, List.nil_append, Bool.cond_not, cond_true, cond_false, Bool.cond_decide, nI_add, nI_clamp, xin_n, dle_e, dlt_e, deq_e, xb_0, xb_1, decide_true, decide_false, Bool.not_true, Bool.not_false, Bool.and_true, Bool.true_and, Bool.and_false, Bool.false_and, Bool.true_or, Bool.false_or, Bool.or_true, Bool.or_false, if_true, if_false, up1_s, n_31, Int32.lt_irrefl, *]
  · intro s
    rw [k58_r3_4]
    simp (disch := omega) only [rt_c, b_some, List.cons_append, List.nil_append, Bool.cond_not, cond_true, cond_false, Bool.cond_decide, nI_add, nI_clamp, xin_n, dle_e, dlt_e, deq_e, xb_0, xb_1, decide_true, decide_false, Bool.not_true, Bool.not_false, Bool.and_true, Bool.true_and, Bool.and_false, Bool.false_and, Bool.true_or, Bool.false_or, Bool.or_true, Bool.or_false, if_true, if_false, up1_s, n_31, Int32.lt_irrefl, hD, Nat.le_refl, t58_38]
theorem q51_3 (hS : Sh I A 3 n H m) (h : Int32) {k : Nat} (hk : k < m) : C d 51 [.ref 3, .int h, .int (nI k)] sl (CH I A N V lt tw sp sr X) = some ([.int (x_b (op_ n k && decide (n (79 + k) = h)))], sl, CH I A N V lt tw sp sr X) := by
  obtain ⟨⟨hH, hD, hH6, hm⟩, -, hC, hIn, hCh, hW, hT, hL, hG⟩ := sh_3 hS
  rw [e51, k51_r3_0]
  unfold op_
  simp (disch := omega) only [rt_c, b_some, List.cons_append, List.nil_append, Bool.cond_not, cond_true, cond_false, Bool.cond_decide, nI_add, nI_clamp, xin_n, dle_e, dlt_e, deq_e, xb_0, xb_1, decide_true, decide_false, Bool.not_true, Bool.not_false, Bool.and_true, Bool.true_and, Bool.and_false, Bool.false_and, Bool.true_or, Bool.false_or, Bool.or_true, Bool.or_false, if_true, if_false, up1_s, n_31, Int32.lt_irrefl, hW, hL, le_nl, decide_not]
  (repeat' split) <;> simp (disch := omega) only [rt_c, b_some, List.cons_append, List.nil_append, Bool.cond_not, cond_true, cond_false, Bool.cond_decide, nI_add, nI_clamp, xin_n, dle_e, dlt_e, deq_e, xb_0, xb_1, decide_true, decide_false, Bool.not_true, Bool.not_false, Bool.and_true, Bool.true_and, Bool.and_false, Bool.false_and, Bool.true_or, Bool.false_or, Bool.or_true, Bool.or_false, if_true, if_false, up1_s, n_31, Int32.lt_irrefl, t51_24_0, t51_24_1, *]
theorem q52_3 (hS : Sh I A 3 n H m) {j k : Nat} (hj : j < m) (hk : k < m) : C (d + 1) 52 [.ref 3, .int (nI j), .int (nI k)] sl (CH I A N V lt tw sp sr X) = some ([.int (x_b (op_ n j && (decide (n (79 + j) = n (79 + k)) && ol_ n j k)))], sl, CH I A N V lt tw sp sr X) := by
  have h51 := q51_3 d sl I A N V lt tw sp sr X hS (n (79 + k)) hj
  obtain ⟨⟨hH, hD, hH6, hm⟩, -, hC, hIn, hCh, hW, hT, hL, hG⟩ := sh_3 hS
  rw [e52, k52_r3_0]
  unfold ol_
  simp (disch := omega) only [rt_c, b_some, List.cons_append, List.nil_append, Bool.cond_not, cond_true, cond_false, Bool.cond_decide, nI_add, nI_clamp, xin_n, dle_e, dlt_e, deq_e, xb_0, xb_1, decide_true, decide_false, Bool.not_true, Bool.not_false, Bool.and_true, Bool.true_and, Bool.and_false, Bool.false_and, Bool.true_or, Bool.false_or, Bool.or_true, Bool.or_false, if_true, if_false, up1_s, n_31, Int32.lt_irrefl, hW, h51, k52_r3_11, hG, le_nl, decide_not, Nat.not_le]
  cases op_ n j <;> by_cases h1 : n (79 + j) = n (79 + k) <;> by_cases h2 : n (115 + k) < n (115 + j) <;> by_cases h3 : n (115 + j) = n (115 + k) <;> by_cases h4 : j < k <;> simp (disch := omega) only [rt_c, b_some, List.cons_append, List.nil_append, Bool.cond_not, cond_true, cond_false, Bool.cond_decide, nI_add, nI_clamp, xin_n, dle_e, dlt_e, deq_e, xb_0, xb_1, decide_true, decide_false, Bool.not_true, Bool.not_false, Bool.and_true, Bool.true_and, Bool.and_false, Bool.false_and, Bool.true_or, Bool.false_or, Bool.or_true, Bool.or_false, if_true, if_false, up1_s, n_31, Int32.lt_irrefl, h1, h2, h3, h4, t52_54_0, t52_54_1]
theorem q59_3 (hS : Sh I A 3 n H m) (h : Int32) : C (d + 1) 59 [.ref 3, .int h] sl (CH I A N V lt tw sp sr X) = some ([.int (nI (open_ n m h))], sl, CH I A N V lt tw sp sr X) := by
  have h51 := fun k hk => q51_3 d sl I A N V lt tw sp sr X hS h (k := k) hk
  obtain ⟨⟨hH, hD, hH6, hm⟩, -, hC, hIn, hCh, hW, hT, hL, hG⟩ := sh_3 hS
  rw [e59, k59_r3_0]
  refine lpM (fun k s => rt 59 (R (d + 1) 59 (4, [some (.ref 3), some (.int h), some (.int s), some (.int (nI k))], [], sl, CH I A N V lt tw sp sr X))) (fun k => op_ n k && decide (n (79 + k) = h)) m (by omega) (fun s => some ([.int s], sl, CH I A N V lt tw sp sr X)) ?_ ?_
  · intro k s hk
    have h1 : ¬ m ≤ k := by omega
    rw [k59_r3_4]
    simp (disch := omega) only [rt_c, b_some, List.cons_append, List.nil_append, Bool.cond_not, cond_true, cond_false, Bool.cond_decide, nI_add, nI_clamp, xin_n, dle_e, dlt_e, deq_e, xb_0, xb_1, decide_true, decide_false, Bool.not_true, Bool.not_false, Bool.and_true, Bool.true_and, Bool.and_false, Bool.false_and, Bool.true_or, Bool.false_or, Bool.or_true, Bool.or_false, if_true, if_false, up1_s, n_31, Int32.lt_irrefl, hD, h1, h51, k59_r3_18]
    cases op_ n k <;> by_cases h2 : n (79 + k) = h <;> simp (disch := omega) only [rt_c, b_some, List.cons_append, List.nil_append, Bool.cond_not, cond_true, cond_false, Bool.cond_decide, nI_add, nI_clamp, xin_n, dle_e, dlt_e, deq_e, xb_0, xb_1, decide_true, decide_false, Bool.not_true, Bool.not_false, Bool.and_true, Bool.true_and, Bool.and_false, Bool.false_and, Bool.true_or, Bool.false_or, Bool.or_true, Bool.or_false, if_true, if_false, up1_s, n_31, Int32.lt_irrefl, h2]
  · intro s
    rw [k59_r3_4]
    simp (disch := omega) only [rt_c, b_some, List.cons_append, List.nil_append, Bool.cond_not, cond_true, cond_false, Bool.cond_decide, nI_add, nI_clamp, xin_n, dle_e, dlt_e, deq_e, xb_0, xb_1, decide_true, decide_false, Bool.not_true, Bool.not_false, Bool.and_true, Bool.true_and, Bool.and_false, Bool.false_and, Bool.true_or, Bool.false_or, Bool.or_true, Bool.or_false, if_true, if_false, up1_s, n_31, Int32.lt_irrefl, hD, Nat.le_refl, t59_34]
theorem q60_3 (hS : Sh I A 3 n H m) (h : Int32) : C (d + 2) 60 [.ref 3, .int h] sl (CH I A N V lt tw sp sr X) = some ([.int (nI (popF 12 (open_ n m h)))], sl, CH I A N V lt tw sp sr X) := by
  have h59 := q59_3 d sl I A N V lt tw sp sr X hS h
  rw [e60, k60_r3_0, h59]
  simp (disch := omega) only [rt_c, b_some, List.cons_append, List.nil_append, Bool.cond_not, cond_true, cond_false, Bool.cond_decide, nI_add, nI_clamp, xin_n, dle_e, dlt_e, deq_e, xb_0, xb_1, decide_true, decide_false, Bool.not_true, Bool.not_false, Bool.and_true, Bool.true_and, Bool.and_false, Bool.false_and, Bool.true_or, Bool.false_or, Bool.or_true, Bool.or_false, if_true, if_false, up1_s, n_31, Int32.lt_irrefl, k60_r3_5, q2 (d + 1) sl I A N V lt tw sp sr X (open_lt hS.1.2.2.2 : open_ n m h < 4096), k60_r3_8, t60_8]
theorem q61_3 (hS : Sh I A 3 n H m) (h : Int32) : C (d + 1) 61 [.ref 3, .int h] sl (CH I A N V lt tw sp sr X) = some ([.int (x_it (fun k s => cond (op_ n k && decide (n (79 + k) = h)) (s + n (115 + k)) s) 0 m (nI 0))], sl, CH I A N V lt tw sp sr X) := by
  have h51 := fun k hk => q51_3 d sl I A N V lt tw sp sr X hS h (k := k) hk
  obtain ⟨⟨hH, hD, hH6, hm⟩, -, hC, hIn, hCh, hW, hT, hL, hG⟩ := sh_3 hS
  rw [e61, k61_r3_0]
  refine lp0 (fun k s => rt 61 (R (d + 1) 61 (4, [some (.ref 3), some (.int h), some (.int s), some (.int (nI k))], [], sl, CH I A N V lt tw sp sr X))) _ m (fun s => some ([.int s], sl, CH I A N V lt tw sp sr X)) ?_ ?_ (nI 0)
  · intro k s hk
    have h1 : ¬ m ≤ k := by omega
    rw [k61_r3_4]
    simp (disch := omega) only [rt_c, b_some, List.cons_append, List.nil_append, Bool.cond_not, cond_true, cond_false, Bool.cond_decide, nI_add, nI_clamp, xin_n, dle_e, dlt_e, deq_e, xb_0, xb_1, decide_true, decide_false, Bool.not_true, Bool.not_false, Bool.and_true, Bool.true_and, Bool.and_false, Bool.false_and, Bool.true_or, Bool.false_or, Bool.or_true, Bool.or_false, if_true, if_false, up1_s, n_31, Int32.lt_irrefl, hD, h1, h51, k61_r3_18, hG]
    cases op_ n k <;> by_cases h2 : n (79 + k) = h <;> simp (disch := omega) only [rt_c, b_some, List.cons_append, List.nil_append, Bool.cond_not, cond_true, cond_false, Bool.cond_decide, nI_add, nI_clamp, xin_n, dle_e, dlt_e, deq_e, xb_0, xb_1, decide_true, decide_false, Bool.not_true, Bool.not_false, Bool.and_true, Bool.true_and, Bool.and_false, Bool.false_and, Bool.true_or, Bool.false_or, Bool.or_true, Bool.or_false, if_true, if_false, up1_s, n_31, Int32.lt_irrefl, h2]
  · intro s
    rw [k61_r3_4]
    simp (disch := omega) only [rt_c, b_some, List.cons_append, List.nil_append, Bool.cond_not, cond_true, cond_false, Bool.cond_decide, nI_add, nI_clamp, xin_n, dle_e, dlt_e, deq_e, xb_0, xb_1, decide_true, decide_false, Bool.not_true, Bool.not_false, Bool.and_true, Bool.true_and, Bool.and_false, Bool.false_and, Bool.true_or, Bool.false_or, Bool.or_true, Bool.or_false, if_true, if_false, up1_s, n_31, Int32.lt_irrefl, hD, Nat.le_refl, t61_37]
theorem q65_3 (hS : Sh I A 3 n H m) : C (d + 1) 65 [.ref 3] sl (CH I A N V lt tw sp sr X) = some ([.int (nI (mkN (op_ n) m))], sl, CH I A N V lt tw sp sr X) := by
  have h50 := fun k hk => q50_3 d sl I A N V lt tw sp sr X hS (k := k) hk
  obtain ⟨⟨hH, hD, hH6, hm⟩, -, hC, hIn, hCh, hW, hT, hL, hG⟩ := sh_3 hS
  rw [e65, k65_r3_0]
  refine lpM (fun k s => rt 65 (R (d + 1) 65 (4, [some (.ref 3), some (.int s), some (.int (nI k))], [], sl, CH I A N V lt tw sp sr X))) (op_ n) m (by omega) (fun s => some ([.int s], sl, CH I A N V lt tw sp sr X)) ?_ ?_
  · intro k s hk
    have h1 : ¬ m ≤ k := by omega
    rw [k65_r3_4]
    simp (disch := omega) only [rt_c, b_some, List.cons_append, List.nil_append, Bool.cond_not, cond_true, cond_false, Bool.cond_decide, nI_add, nI_clamp, xin_n, dle_e, dlt_e, deq_e, xb_0, xb_1, decide_true, decide_false, Bool.not_true, Bool.not_false, Bool.and_true, Bool.true_and, Bool.and_false, Bool.false_and, Bool.true_or, Bool.false_or, Bool.or_true, Bool.or_false, if_true, if_false, up1_s, n_31, Int32.lt_irrefl, hD, h1, h50, k65_r3_17]
    cases op_ n k <;> simp (disch := omega) only [rt_c, b_some, List.cons_append, List.nil_append, Bool.cond_not, cond_true, cond_false, Bool.cond_decide, nI_add, nI_clamp, xin_n, dle_e, dlt_e, deq_e, xb_0, xb_1, decide_true, decide_false, Bool.not_true, Bool.not_false, Bool.and_true, Bool.true_and, Bool.and_false, Bool.false_and, Bool.true_or, Bool.false_or, Bool.or_true, Bool.or_false, if_true, if_false, up1_s, n_31, Int32.lt_irrefl]
  · intro s
    rw [k65_r3_4]
    simp (disch := omega) only [rt_c, b_some, List.cons_append, List.nil_append, Bool.cond_not, cond_true, cond_false, Bool.cond_decide, nI_add, nI_clamp, xin_n, dle_e, dlt_e, deq_e, xb_0, xb_1, decide_true, decide_false, Bool.not_true, Bool.not_false, Bool.and_true, Bool.true_and, Bool.and_false, Bool.false_and, Bool.true_or, Bool.false_or, Bool.or_true, Bool.or_false, if_true, if_false, up1_s, n_31, Int32.lt_irrefl, hD, Nat.le_refl, t65_33]
theorem q64_3 (hS : Sh I A 3 n H m) : C (d + 2) 64 [.ref 3] sl (CH I A N V lt tw sp sr X) = some ([.int (nI (mkN (broke_ n m) H))], sl, CH I A N V lt tw sp sr X) := by
  have h62 := fun k hk => q62_3 d sl I A N V lt tw sp sr X hS (h := k) hk
  obtain ⟨⟨hH, hD, hH6, hm⟩, -, hC, hIn, hCh, hW, hT, hL, hG⟩ := sh_3 hS
  rw [e64, k64_r3_0]
  refine lpM (fun k s => rt 64 (R (d + 2) 64 (4, [some (.ref 3), some (.int s), some (.int (nI k))], [], sl, CH I A N V lt tw sp sr X))) (broke_ n m) H (by omega) (fun s => some ([.int s], sl, CH I A N V lt tw sp sr X)) ?_ ?_
  · intro k s hk
    have h1 : ¬ H ≤ k := by omega
    rw [k64_r3_4]
    simp (disch := omega) only [rt_c, b_some, List.cons_append, List.nil_append, Bool.cond_not, cond_true, cond_false, Bool.cond_decide, nI_add, nI_clamp, xin_n, dle_e, dlt_e, deq_e, xb_0, xb_1, decide_true, decide_false, Bool.not_true, Bool.not_false, Bool.and_true, Bool.true_and, Bool.and_false, Bool.false_and, Bool.true_or, Bool.false_or, Bool.or_true, Bool.or_false, if_true, if_false, up1_s, n_31, Int32.lt_irrefl, hH, h1, h62, k64_r3_17]
    cases broke_ n m k <;> simp (disch := omega) only [rt_c, b_some, List.cons_append, List.nil_append, Bool.cond_not, cond_true, cond_false, Bool.cond_decide, nI_add, nI_clamp, xin_n, dle_e, dlt_e, deq_e, xb_0, xb_1, decide_true, decide_false, Bool.not_true, Bool.not_false, Bool.and_true, Bool.true_and, Bool.and_false, Bool.false_and, Bool.true_or, Bool.false_or, Bool.or_true, Bool.or_false, if_true, if_false, up1_s, n_31, Int32.lt_irrefl]
  · intro s
    rw [k64_r3_4]
    simp (disch := omega) only [rt_c, b_some, List.cons_append, List.nil_append, Bool.cond_not, cond_true, cond_false, Bool.cond_decide, nI_add, nI_clamp, xin_n, dle_e, dlt_e, deq_e, xb_0, xb_1, decide_true, decide_false, Bool.not_true, Bool.not_false, Bool.and_true, Bool.true_and, Bool.and_false, Bool.false_and, Bool.true_or, Bool.false_or, Bool.or_true, Bool.or_false, if_true, if_false, up1_s, n_31, Int32.lt_irrefl, hH, Nat.le_refl, t64_33]
theorem q63_3 (hS : Sh I A 3 n H m) (a b : Int32) : C (d + 1) 63 [.ref 3, .int a, .int b] sl (CH I A N V lt tw sp sr X) = some ([.int (x_b (owe_ n m a b))], sl, CH I A N V lt tw sp sr X) := by
  have h51 := fun k hk => q51_3 d sl I A N V lt tw sp sr X hS a (k := k) hk
  obtain ⟨⟨hH, hD, hH6, hm⟩, -, hC, hIn, hCh, hW, hT, hL, hG⟩ := sh_3 hS
  rw [e63, k63_r3_0]
  have key : ∀ k i, i + k = m → rt 63 (R (d + 1) 63 (2, [some (.ref 3), some (.int a), some (.int b), some (.int (nI i))], [], sl, CH I A N V lt tw sp sr X)) = some ([.int (x_b ((x_fd (fun k => cond (op_ n k && (decide (n (79 + k) = a) && decide (n (91 + k) = b))) (some true) none) i k).getD false))], sl, CH I A N V lt tw sp sr X) := by
    intro k
    induction k with
    | zero =>
      intro i hi
      have h1 : m ≤ i := by omega
      rw [k63_r3_2]
      simp (disch := omega) only [rt_c, b_some, List.cons_append, List.nil_append, Bool.cond_not, cond_true, cond_false, Bool.cond_decide, nI_add, nI_clamp, xin_n, dle_e, dlt_e, deq_e, xb_0, xb_1, decide_true, decide_false, Bool.not_true, Bool.not_false, Bool.and_true, Bool.true_and, Bool.and_false, Bool.false_and, Bool.true_or, Bool.false_or, Bool.or_true, Bool.or_false, if_true, if_false, up1_s, n_31, Int32.lt_irrefl, hD, h1, t63_38_0, x_fd, Option.getD_none]
    | succ k ih =>
      intro i hi
      have h1 : ¬ m ≤ i := by omega
      have h3 := ih (i + 1) (by omega)
      rw [k63_r3_2]
      simp (disch := omega) only [rt_c, b_some, List.cons_append, List.nil_append, Bool.cond_not, cond_true, cond_false, Bool.cond_decide, nI_add, nI_clamp, xin_n, dle_e, dlt_e, deq_e, xb_0, xb_1, decide_true, decide_false, Bool.not_true, Bool.not_false, Bool.and_true, Bool.true_and, Bool.and_false, Bool.false_and, Bool.true_or, Bool.false_or, Bool.or_true, Bool.or_false, if_true, if_false, up1_s, n_31, Int32.lt_irrefl, hD, h1, h51, k63_r3_16, hT, x_fd]
      cases op_ n i <;> by_cases h4 : n (79 + i) = a <;> by_cases h5 : n (91 + i) = b <;> simp (disch := omega) only [rt_c, b_some, List.cons_append, List.nil_append, Bool.cond_not, cond_true, cond_false, Bool.cond_decide, nI_add, nI_clamp, xin_n, dle_e, dlt_e, deq_e, xb_0, xb_1, decide_true, decide_false, Bool.not_true, Bool.not_false, Bool.and_true, Bool.true_and, Bool.and_false, Bool.false_and, Bool.true_or, Bool.false_or, Bool.or_true, Bool.or_false, if_true, if_false, up1_s, n_31, Int32.lt_irrefl, h4, h5, h3, t63_30_1, Option.getD_some]
  exact key m 0 (by omega)
/-! how many are ahead -/
set_option maxRecDepth 100000 in
theorem pop_or : ∀ k : Fin 12, ∀ x : Fin (2 ^ k.val), popF 12 (x.val ||| 1 <<< k.val) = popF 12 x.val + 1 := by decide +kernel
theorem pop_mk (P : Nat → Bool) : ∀ (m : Nat), m ≤ 12 → popF 12 (mkN P m) = x_it (fun k s => cond (P k) (s + 1) s) 0 m 0 := by
  intro m
  induction m with
  | zero => intro _; rfl
  | succ m ih =>
    intro hm
    rw [mkN_succ, x_it_succ, Nat.zero_add, ← ih (by omega)]
    have h1 := mkN_lt P m
    have h2 : 2 ^ m ≤ 2 ^ 12 := Nat.pow_le_pow_right (by decide) (by omega)
    cases P m with
    | false => rfl
    | true => exact pop_or ⟨m, by omega⟩ ⟨mkN P m, h1⟩
theorem cnt_n (P : Nat → Bool) : ∀ (k i : Nat) (s : Nat), x_it (fun k s => cond (P k) (s + nI 1) s) i k (nI s) = nI (x_it (fun k s => cond (P k) (s + 1) s) i k s)
  | 0, _, _ => rfl
  | k + 1, i, s => by
    simp only [x_it]
    cases P i with
    | false => exact cnt_n P k (i + 1) s
    | true =>
      simp only [cond_true]
      rw [nI_add]
      exact cnt_n P k (i + 1) (s + 1)
theorem q53_3 (hS : Sh I A 3 n H m) {j : Nat} (hj : j < m) : C (d + 2) 53 [.ref 3, .int (nI j)] sl (CH I A N V lt tw sp sr X) = some ([.int (chair_ n m j)], sl, CH I A N V lt tw sp sr X) := by
  have h50 := q50_3 (d + 1) sl I A N V lt tw sp sr X hS hj
  have h52 := fun k hk => q52_3 d sl I A N V lt tw sp sr X hS (j := k) (k := j) hk hj
  obtain ⟨⟨hH, hD, hH6, hm⟩, -, hC, hIn, hCh, hW, hT, hL, hG⟩ := sh_3 hS
  rw [e53, k53_r3_0, h50]
  unfold chair_
  simp (disch := omega) only [rt_c, b_some, List.cons_append, List.nil_append, Bool.cond_not, cond_true, cond_false, Bool.cond_decide, nI_add, nI_clamp, xin_n, dle_e, dlt_e, deq_e, xb_0, xb_1, decide_true, decide_false, Bool.not_true, Bool.not_false, Bool.and_true, Bool.true_and, Bool.and_false, Bool.false_and, Bool.true_or, Bool.false_or, Bool.or_true, Bool.or_false, if_true, if_false, up1_s, n_31, Int32.lt_irrefl, k53_r3_5]
  cases op_ n j
  · simp (disch := omega) only [rt_c, b_some, List.cons_append, List.nil_append, Bool.cond_not, cond_true, cond_false, Bool.cond_decide, nI_add, nI_clamp, xin_n, dle_e, dlt_e, deq_e, xb_0, xb_1, decide_true, decide_false, Bool.not_true, Bool.not_false, Bool.and_true, Bool.true_and, Bool.and_false, Bool.false_and, Bool.true_or, Bool.false_or, Bool.or_true, Bool.or_false, if_true, if_false, up1_s, n_31, Int32.lt_irrefl, t53_9]
  · simp (disch := omega) only [rt_c, b_some, List.cons_append, List.nil_append, Bool.cond_not, cond_true, cond_false, Bool.cond_decide, nI_add, nI_clamp, xin_n, dle_e, dlt_e, deq_e, xb_0, xb_1, decide_true, decide_false, Bool.not_true, Bool.not_false, Bool.and_true, Bool.true_and, Bool.and_false, Bool.false_and, Bool.true_or, Bool.false_or, Bool.or_true, Bool.or_false, if_true, if_false, up1_s, n_31, Int32.lt_irrefl]
    unfold older_
    rw [pop_mk _ m hm, ← cnt_n]
    refine lp0 (fun k s => rt 53 (R (d + 2) 53 (14, [some (.ref 3), some (.int (nI j)), some (.int s), some (.int (nI k))], [], sl, CH I A N V lt tw sp sr X))) _ m (fun s => some ([.int s], sl, CH I A N V lt tw sp sr X)) ?_ ?_ (nI 0)
    · intro k s hk
      have h1 : ¬ m ≤ k := by omega
      rw [k53_r3_14]
      simp (disch := omega) only [rt_c, b_some, List.cons_append, List.nil_append, Bool.cond_not, cond_true, cond_false, Bool.cond_decide, nI_add, nI_clamp, xin_n, dle_e, dlt_e, deq_e, xb_0, xb_1, decide_true, decide_false, Bool.not_true, Bool.not_false, Bool.and_true, Bool.true_and, Bool.and_false, Bool.false_and, Bool.true_or, Bool.false_or, Bool.or_true, Bool.or_false, if_true, if_false, up1_s, n_31, Int32.lt_irrefl, hD, h1, h52, k53_r3_28]
      cases op_ n k <;> by_cases h2 : n (79 + k) = n (79 + j) <;> cases ol_ n k j <;> simp (disch := omega) only [rt_c, b_some, List.cons_append, List.nil_append, Bool.cond_not, cond_true, cond_false, Bool.cond_decide, nI_add, nI_clamp, xin_n, dle_e, dlt_e, deq_e, xb_0, xb_1, decide_true, decide_false, Bool.not_true, Bool.not_false, Bool.and_true, Bool.true_and, Bool.and_false, Bool.false_and, Bool.true_or, Bool.false_or, Bool.or_true, Bool.or_false, if_true, if_false, up1_s, n_31, Int32.lt_irrefl, h2]
    · intro s
      rw [k53_r3_14]
      simp (disch := omega) only [rt_c, b_some, List.cons_append, List.nil_append, Bool.cond_not, cond_true, cond_false, Bool.cond_decide, nI_add, nI_clamp, xin_n, dle_e, dlt_e, deq_e, xb_0, xb_1, decide_true, decide_false, Bool.not_true, Bool.not_false, Bool.and_true, Bool.true_and, Bool.and_false, Bool.false_and, Bool.true_or, Bool.false_or, Bool.or_true, Bool.or_false, if_true, if_false, up1_s, n_31, Int32.lt_irrefl, hD, Nat.le_refl, t53_41]
/-- what is left of those ahead -/
theorem left_mk (n : Nat → Int32) (P : Nat → Bool) (m : Nat) (hm : m ≤ 12) : left_ n (mkN P m) = x_it (fun k s => cond (P k) (s + n (103 + k)) s) 0 m (nI 0) := by
  unfold left_
  have h1 : ∀ (k i : Nat) (s : Int32), i + k ≤ 12 → m ≤ i → x_it (fun k t => cond ((mkN P m).testBit k) (t + n (103 + k)) t) i k s = s := by
    intro k
    induction k with
    | zero => intro i s _ _; rfl
    | succ k ih =>
      intro i s h1 h2
      simp only [x_it]
      have : decide (i < m) = false := by simp; omega
      rw [mkN_bit, this]
      exact ih (i + 1) s (by omega) (by omega)
  have h2 : ∀ (k i : Nat) (s : Int32), i + k = m → x_it (fun k t => cond ((mkN P m).testBit k) (t + n (103 + k)) t) i (k + (12 - m)) s = x_it (fun k s => cond (P k) (s + n (103 + k)) s) i k s := by
    intro k
    induction k with
    | zero => intro i s h; rw [Nat.zero_add]; exact h1 _ i s (by omega) (by omega)
    | succ k ih =>
      intro i s h
      rw [show k + 1 + (12 - m) = (k + (12 - m)) + 1 by omega]
      simp only [x_it]
      have : decide (i < m) = true := by simp; omega
      rw [mkN_bit, this, Bool.true_and]
      exact ih (i + 1) _ (by omega)
  have := h2 m 0 (nI 0) (by omega)
  rwa [show m + (12 - m) = 12 by omega] at this
theorem q54_3 (hS : Sh I A 3 n H m) {j : Nat} (hj : j < m) : C (d + 2) 54 [.ref 3, .int (nI j)] sl (CH I A N V lt tw sp sr X) = some ([.int (left_ n (older_ n m j))], sl, CH I A N V lt tw sp sr X) := by
  have h52 := fun k hk => q52_3 d sl I A N V lt tw sp sr X hS (j := k) (k := j) hk hj
  obtain ⟨⟨hH, hD, hH6, hm⟩, -, hC, hIn, hCh, hW, hT, hL, hG⟩ := sh_3 hS
  rw [e54, k54_r3_0]
  unfold older_
  rw [left_mk _ _ _ hm]
  refine lp0 (fun k s => rt 54 (R (d + 2) 54 (4, [some (.ref 3), some (.int (nI j)), some (.int s), some (.int (nI k))], [], sl, CH I A N V lt tw sp sr X))) _ m (fun s => some ([.int s], sl, CH I A N V lt tw sp sr X)) ?_ ?_ (nI 0)
  · intro k s hk
    have h1 : ¬ m ≤ k := by omega
    rw [k54_r3_4]
    simp (disch := omega) only [rt_c, b_some, List.cons_append, List.nil_append, Bool.cond_not, cond_true, cond_false, Bool.cond_decide, nI_add, nI_clamp, xin_n, dle_e, dlt_e, deq_e, xb_0, xb_1, decide_true, decide_false, Bool.not_true, Bool.not_false, Bool.and_true, Bool.true_and, Bool.and_false, Bool.false_and, Bool.true_or, Bool.false_or, Bool.or_true, Bool.or_false, if_true, if_false, up1_s, n_31, Int32.lt_irrefl, hD, h1, h52, k54_r3_18, hL]
    cases op_ n k <;> by_cases h2 : n (79 + k) = n (79 + j) <;> cases ol_ n k j <;> simp (disch := omega) only [rt_c, b_some, List.cons_append, List.nil_append, Bool.cond_not, cond_true, cond_false, Bool.cond_decide, nI_add, nI_clamp, xin_n, dle_e, dlt_e, deq_e, xb_0, xb_1, decide_true, decide_false, Bool.not_true, Bool.not_false, Bool.and_true, Bool.true_and, Bool.and_false, Bool.false_and, Bool.true_or, Bool.false_or, Bool.or_true, Bool.or_false, if_true, if_false, up1_s, n_31, Int32.lt_irrefl, h2]
  · intro s
    rw [k54_r3_4]
    simp (disch := omega) only [rt_c, b_some, List.cons_append, List.nil_append, Bool.cond_not, cond_true, cond_false, Bool.cond_decide, nI_add, nI_clamp, xin_n, dle_e, dlt_e, deq_e, xb_0, xb_1, decide_true, decide_false, Bool.not_true, Bool.not_false, Bool.and_true, Bool.true_and, Bool.and_false, Bool.false_and, Bool.true_or, Bool.false_or, Bool.or_true, Bool.or_false, if_true, if_false, up1_s, n_31, Int32.lt_irrefl, hD, Nat.le_refl, t54_37]
end CL1
