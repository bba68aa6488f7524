/-! SAID, on both sides -/
section SAJ
variable (d sl : Nat) (I : Nat → Nat → Int32) (A : Nat → Nat → Int32) (N : Nat → Nat → Int64) (V : Nat → Nat → Option Nat) (lt : Int64) (tw : Option Nat) (sp sr : Nat) (X : List AC)
variable {H m : Nat} (J : Nat → Int32) (w : Int64) (B : Nat → Nat → Int32) (M : Nat → Nat → Int64)
/-- one house -/
theorem sd_one_108 (hX : Nat.ble X.length 1 = true) (hS : Sh I A 3 (B 2) H m) (hV : Vd (B 2) H m) {p : Nat} (hp : p < H) {L f : Nat} (hL : L < 40) (hl : I 108 3 = nI (L + 1)) (rb : Int32) (hrb : (rb >>> nI p) &&& nI 1 = nI (rg_ (B 2) m H p).toNat) (hc : Cm (V 109) (A 110) (A 111) (B 2) f 0 L) (sl' : Nat) (g : Nat → Int32) : ∃ b g', C (d + 44) 33 [.ref 108, .ref 3, .int (nI p), .int rb] sl (CH I A N V lt tw sp sr X) = some ([.int (x_b b)], sl, CH I A N V lt tw sp sr X) ∧ C (d + 44) 277 [.ref 0, .int (nI L), .int (nI p)] sl' (RH J w (up1 B 11 g) M) = some ([.int (x_b b)], sl', RH J w (up1 B 11 g') M) := by
  obtain ⟨b, -, e1, e2⟩ := cm_run_108 (d + 40) sl I A N V lt tw sp sr X J w B M hX hS hV hp (show L + 1 ≤ 40 by omega) hl rb hrb f 0 L hc (by omega)
  obtain ⟨g', e1⟩ := e1 (d + (40 - L)) sl' g
  rw [show d + (40 - L) + L + 4 = d + 44 by omega] at e1
  obtain ⟨v, e2⟩ := e2 0 none (by
    rw [Nat.zero_add, Nat.one_mul]
    exact Nat.pow_le_pow_right (by decide) (by omega)) (Or.inl rfl)
  refine ⟨b, g', ?_, e1⟩
  rw [e33, k33_r108_r3_0, e2, k33_r108_r3_6_1, hl]
  cases b
  · simp (disch := omega) only [rt_c, b_some, List.cons_append, List.nil_append, Bool.cond_not, cond_true, cond_false, Bool.cond_decide, nI_add, nI_clamp, xin_n, dle_e, dlt_e, deq_e, xb_0, xb_1, decide_true, decide_false, Bool.not_true, Bool.not_false, Bool.and_true, Bool.true_and, Bool.and_false, Bool.false_and, Bool.true_or, Bool.false_or, Bool.or_true, Bool.or_false, if_true, if_false, up1_s, n_31, Int32.lt_irrefl, Nat.le_refl, Nat.mul_zero, Nat.zero_add, Bool.toNat_false, t33_164, t33_164_0, t33_164_1, Nat.zero_ne_one]
  · simp (disch := omega) only [rt_c, b_some, List.cons_append, List.nil_append, Bool.cond_not, cond_true, cond_false, Bool.cond_decide, nI_add, nI_clamp, xin_n, dle_e, dlt_e, deq_e, xb_0, xb_1, decide_true, decide_false, Bool.not_true, Bool.not_false, Bool.and_true, Bool.true_and, Bool.and_false, Bool.false_and, Bool.true_or, Bool.false_or, Bool.or_true, Bool.or_false, if_true, if_false, up1_s, n_31, Int32.lt_irrefl, Nat.le_refl, Nat.mul_zero, Nat.zero_add, Bool.toNat_true, t33_164, t33_164_0, t33_164_1]
/-- one house -/
theorem sd_one_112 (hX : Nat.ble X.length 1 = true) (hS : Sh I A 3 (B 2) H m) (hV : Vd (B 2) H m) {p : Nat} (hp : p < H) {L f : Nat} (hL : L < 40) (hl : I 112 3 = nI (L + 1)) (rb : Int32) (hrb : (rb >>> nI p) &&& nI 1 = nI (rg_ (B 2) m H p).toNat) (hc : Cm (V 113) (A 114) (A 115) (B 2) f 0 L) (sl' : Nat) (g : Nat → Int32) : ∃ b g', C (d + 44) 33 [.ref 112, .ref 3, .int (nI p), .int rb] sl (CH I A N V lt tw sp sr X) = some ([.int (x_b b)], sl, CH I A N V lt tw sp sr X) ∧ C (d + 44) 277 [.ref 0, .int (nI L), .int (nI p)] sl' (RH J w (up1 B 11 g) M) = some ([.int (x_b b)], sl', RH J w (up1 B 11 g') M) := by
  obtain ⟨b, -, e1, e2⟩ := cm_run_112 (d + 40) sl I A N V lt tw sp sr X J w B M hX hS hV hp (show L + 1 ≤ 40 by omega) hl rb hrb f 0 L hc (by omega)
  obtain ⟨g', e1⟩ := e1 (d + (40 - L)) sl' g
  rw [show d + (40 - L) + L + 4 = d + 44 by omega] at e1
  obtain ⟨v, e2⟩ := e2 0 none (by
    rw [Nat.zero_add, Nat.one_mul]
    exact Nat.pow_le_pow_right (by decide) (by omega)) (Or.inl rfl)
  refine ⟨b, g', ?_, e1⟩
  rw [e33, k33_r112_r3_0, e2, k33_r112_r3_6_1, hl]
  cases b
  · simp (disch := omega) only [rt_c, b_some, List.cons_append, List.nil_append, Bool.cond_not, cond_true, cond_false, Bool.cond_decide, nI_add, nI_clamp, xin_n, dle_e, dlt_e, deq_e, xb_0, xb_1, decide_true, decide_false, Bool.not_true, Bool.not_false, Bool.and_true, Bool.true_and, Bool.and_false, Bool.false_and, Bool.true_or, Bool.false_or, Bool.or_true, Bool.or_false, if_true, if_false, up1_s, n_31, Int32.lt_irrefl, Nat.le_refl, Nat.mul_zero, Nat.zero_add, Bool.toNat_false, t33_164, t33_164_0, t33_164_1, Nat.zero_ne_one]
  · simp (disch := omega) only [rt_c, b_some, List.cons_append, List.nil_append, Bool.cond_not, cond_true, cond_false, Bool.cond_decide, nI_add, nI_clamp, xin_n, dle_e, dlt_e, deq_e, xb_0, xb_1, decide_true, decide_false, Bool.not_true, Bool.not_false, Bool.and_true, Bool.true_and, Bool.and_false, Bool.false_and, Bool.true_or, Bool.false_or, Bool.or_true, Bool.or_false, if_true, if_false, up1_s, n_31, Int32.lt_irrefl, Nat.le_refl, Nat.mul_zero, Nat.zero_add, Bool.toNat_true, t33_164, t33_164_0, t33_164_1]
end SAJ
section SAK
variable (d : Nat) (I : Nat → Nat → Int32) (A : Nat → Nat → Int32) (N : Nat → Nat → Int64) (V : Nat → Nat → Option Nat) (lt : Int64) (tw : Option Nat) (sp sr : Nat) (X : List AC)
variable {H m : Nat} (J : Nat → Int32) (w : Int64) (B : Nat → Nat → Int32) (M : Nat → Nat → Int64)
theorem sd_loop_108 (sl sl2 : Nat) (hS : Sh I A 3 (B 2) H m) (hV : Vd (B 2) H m) {L f : Nat} (hL : L < 40) (hl : I 108 3 = nI (L + 1)) (hT : B 2 128 = nI L) (rb : Nat) (hrb : ∀ p, p < H → (nI rb >>> nI p) &&& nI 1 = nI (rg_ (B 2) m H p).toNat) (hc : Cm (V 109) (A 110) (A 111) (B 2) f 0 L) (k : Int32) (hk : -1 ≤ k) : ∀ (q p c : Nat) (g : Nat → Int32), p + q = H → c ≤ p → ∃ v g', rt 157 (R (d + 45) 157 (34, [some (.ref 0), some (.int k), some (.int (nI rb)), some (.int (nI c)), some (.int (nI p))], [], sl, CH I A N V lt tw 108 112 [])) = some ([.int v], sl, CH I A N V lt tw 108 112 []) ∧ rt 278 (R (d + 45) 278 (21, [some (.ref 0), some (.int k), some (.int (nI c)), some (.int (nI p))], [], sl2, RH J w (up1 B 11 g) M)) = some ([.int v], sl2, RH J w (up1 B 11 g') M) := by
  have hI8 : I 3 8 = nI H := hS.1.1
  have hH6 : H ≤ 6 := hS.1.2.2.1
  have hB0 : B 2 0 = nI H := hV.1.1
  have h2g : ∀ g, up1 B 11 g 2 = B 2 := fun g => up1_n (by decide)
  intro q
  induction q with
  | zero =>
    intro p c g hp hc'
    have h1 : H ≤ p := by omega
    by_cases h2 : k = -1
    · have h2' : (k = -1) = True := eq_true h2
      refine ⟨nI c, g, ?_, ?_⟩
      · rw [k157_34]
        simp (disch := omega) only [rt_c, b_some, List.cons_append, List.nil_append, Bool.cond_not, cond_true, cond_false, Bool.cond_decide, nI_add, nI_clamp, xin_n, dle_e, dlt_e, deq_e, xb_0, xb_1, decide_true, decide_false, Bool.not_true, Bool.not_false, Bool.and_true, Bool.true_and, Bool.and_false, Bool.false_and, Bool.true_or, Bool.false_or, Bool.or_true, Bool.or_false, if_true, if_false, up1_s, n_31, Int32.lt_irrefl, hI8, h1, h2', t157_16, t157_70, t157_90]
      · rw [m278_21, h2g]
        simp (disch := omega) only [rt_c, b_some, List.cons_append, List.nil_append, Bool.cond_not, cond_true, cond_false, Bool.cond_decide, nI_add, nI_clamp, xin_n, dle_e, dlt_e, deq_e, xb_0, xb_1, decide_true, decide_false, Bool.not_true, Bool.not_false, Bool.and_true, Bool.true_and, Bool.and_false, Bool.false_and, Bool.true_or, Bool.false_or, Bool.or_true, Bool.or_false, if_true, if_false, up1_s, n_31, Int32.lt_irrefl, hB0, h1, h2', t278_16, t278_56, t278_76]
    · refine ⟨-1, g, ?_, ?_⟩
      · rw [k157_34]
        simp (disch := omega) only [rt_c, b_some, List.cons_append, List.nil_append, Bool.cond_not, cond_true, cond_false, Bool.cond_decide, nI_add, nI_clamp, xin_n, dle_e, dlt_e, deq_e, xb_0, xb_1, decide_true, decide_false, Bool.not_true, Bool.not_false, Bool.and_true, Bool.true_and, Bool.and_false, Bool.false_and, Bool.true_or, Bool.false_or, Bool.or_true, Bool.or_false, if_true, if_false, up1_s, n_31, Int32.lt_irrefl, hI8, h1, h2, t157_16, t157_70, t157_90]
      · rw [m278_21, h2g]
        simp (disch := omega) only [rt_c, b_some, List.cons_append, List.nil_append, Bool.cond_not, cond_true, cond_false, Bool.cond_decide, nI_add, nI_clamp, xin_n, dle_e, dlt_e, deq_e, xb_0, xb_1, decide_true, decide_false, Bool.not_true, Bool.not_false, Bool.and_true, Bool.true_and, Bool.and_false, Bool.false_and, Bool.true_or, Bool.false_or, Bool.or_true, Bool.or_false, if_true, if_false, up1_s, n_31, Int32.lt_irrefl, hB0, h1, h2, t278_16, t278_56, t278_76]
  | succ q ih =>
    intro p c g hp hc'
    have h1 : ¬ H ≤ p := by omega
    obtain ⟨b, g1, e1, e2⟩ := sd_one_108 d sl I A N V lt tw 108 112 [] J w B M rfl hS hV (show p < H by omega) hL hl (nI rb) (hrb p (by omega)) hc sl2 g
    cases b with
    | false =>
      obtain ⟨v, g2, f1, f2⟩ := ih (p + 1) c g1 (by omega) (by omega)
      refine ⟨v, g2, ?_, ?_⟩
      · rw [k157_34]
        simp (disch := omega) only [rt_c, b_some, List.cons_append, List.nil_append, Bool.cond_not, cond_true, cond_false, Bool.cond_decide, nI_add, nI_clamp, xin_n, dle_e, dlt_e, deq_e, xb_0, xb_1, decide_true, decide_false, Bool.not_true, Bool.not_false, Bool.and_true, Bool.true_and, Bool.and_false, Bool.false_and, Bool.true_or, Bool.false_or, Bool.or_true, Bool.or_false, if_true, if_false, up1_s, n_31, Int32.lt_irrefl, hI8, h1, e1, k157_60, f1]
      · rw [m278_21, h2g]
        simp (disch := omega) only [rt_c, b_some, List.cons_append, List.nil_append, Bool.cond_not, cond_true, cond_false, Bool.cond_decide, nI_add, nI_clamp, xin_n, dle_e, dlt_e, deq_e, xb_0, xb_1, decide_true, decide_false, Bool.not_true, Bool.not_false, Bool.and_true, Bool.true_and, Bool.and_false, Bool.false_and, Bool.true_or, Bool.false_or, Bool.or_true, Bool.or_false, if_true, if_false, up1_s, n_31, Int32.lt_irrefl, hB0, h1, hT, e2, m278_44, f2]
    | true =>
      by_cases h3 : nI c = k
      · have h3' : (nI c = k) = True := eq_true h3
        refine ⟨nI p, g1, ?_, ?_⟩
        · rw [k157_34]
          simp (disch := omega) only [rt_c, b_some, List.cons_append, List.nil_append, Bool.cond_not, cond_true, cond_false, Bool.cond_decide, nI_add, nI_clamp, xin_n, dle_e, dlt_e, deq_e, xb_0, xb_1, decide_true, decide_false, Bool.not_true, Bool.not_false, Bool.and_true, Bool.true_and, Bool.and_false, Bool.false_and, Bool.true_or, Bool.false_or, Bool.or_true, Bool.or_false, if_true, if_false, up1_s, n_31, Int32.lt_irrefl, hI8, h1, e1, k157_60, xb_t, Nat.one_ne_zero, h3', t157_16, t157_70, t157_90]
        · rw [m278_21, h2g]
          simp (disch := omega) only [rt_c, b_some, List.cons_append, List.nil_append, Bool.cond_not, cond_true, cond_false, Bool.cond_decide, nI_add, nI_clamp, xin_n, dle_e, dlt_e, deq_e, xb_0, xb_1, decide_true, decide_false, Bool.not_true, Bool.not_false, Bool.and_true, Bool.true_and, Bool.and_false, Bool.false_and, Bool.true_or, Bool.false_or, Bool.or_true, Bool.or_false, if_true, if_false, up1_s, n_31, Int32.lt_irrefl, hB0, h1, hT, e2, m278_44, xb_t, Nat.one_ne_zero, h3', t278_16, t278_56, t278_76]
      · obtain ⟨v, g2, f1, f2⟩ := ih (p + 1) (c + 1) g1 (by omega) (by omega)
        refine ⟨v, g2, ?_, ?_⟩
        · rw [k157_34]
          simp (disch := omega) only [rt_c, b_some, List.cons_append, List.nil_append, Bool.cond_not, cond_true, cond_false, Bool.cond_decide, nI_add, nI_clamp, xin_n, dle_e, dlt_e, deq_e, xb_0, xb_1, decide_true, decide_false, Bool.not_true, Bool.not_false, Bool.and_true, Bool.true_and, Bool.and_false, Bool.false_and, Bool.true_or, Bool.false_or, Bool.or_true, Bool.or_false, if_true, if_false, up1_s, n_31, Int32.lt_irrefl, hI8, h1, e1, k157_60, xb_t, Nat.one_ne_zero, h3, f1]
        · rw [m278_21, h2g]
          simp (disch := omega) only [rt_c, b_some, List.cons_append, List.nil_append, Bool.cond_not, cond_true, cond_false, Bool.cond_decide, nI_add, nI_clamp, xin_n, dle_e, dlt_e, deq_e, xb_0, xb_1, decide_true, decide_false, Bool.not_true, Bool.not_false, Bool.and_true, Bool.true_and, Bool.and_false, Bool.false_and, Bool.true_or, Bool.false_or, Bool.or_true, Bool.or_false, if_true, if_false, up1_s, n_31, Int32.lt_irrefl, hB0, h1, hT, e2, m278_44, xb_t, Nat.one_ne_zero, h3, f2]
theorem sd_loop_112 (sl sl2 : Nat) (hS : Sh I A 3 (B 2) H m) (hV : Vd (B 2) H m) {L f : Nat} (hL : L < 40) (hl : I 112 3 = nI (L + 1)) (hT : B 2 128 = nI L) (rb : Nat) (hrb : ∀ p, p < H → (nI rb >>> nI p) &&& nI 1 = nI (rg_ (B 2) m H p).toNat) (hc : Cm (V 113) (A 114) (A 115) (B 2) f 0 L) (k : Int32) (hk : -1 ≤ k) : ∀ (q p c : Nat) (g : Nat → Int32), p + q = H → c ≤ p → ∃ v g', rt 157 (R (d + 45) 157 (34, [some (.ref 0), some (.int k), some (.int (nI rb)), some (.int (nI c)), some (.int (nI p))], [], sl, CH I A N V lt tw 112 108 [])) = some ([.int v], sl, CH I A N V lt tw 112 108 []) ∧ rt 278 (R (d + 45) 278 (21, [some (.ref 0), some (.int k), some (.int (nI c)), some (.int (nI p))], [], sl2, RH J w (up1 B 11 g) M)) = some ([.int v], sl2, RH J w (up1 B 11 g') M) := by
  have hI8 : I 3 8 = nI H := hS.1.1
  have hH6 : H ≤ 6 := hS.1.2.2.1
  have hB0 : B 2 0 = nI H := hV.1.1
  have h2g : ∀ g, up1 B 11 g 2 = B 2 := fun g => up1_n (by decide)
  intro q
  induction q with
  | zero =>
    intro p c g hp hc'
    have h1 : H ≤ p := by omega
    by_cases h2 : k = -1
    · have h2' : (k = -1) = True := eq_true h2
      refine ⟨nI c, g, ?_, ?_⟩
      · rw [k157_34_1]
        simp (disch := omega) only [rt_c, b_some, List.cons_append, List.nil_append, Bool.cond_not, cond_true, cond_false, Bool.cond_decide, nI_add, nI_clamp, xin_n, dle_e, dlt_e, deq_e, xb_0, xb_1, decide_true, decide_false, Bool.not_true, Bool.not_false, Bool.and_true, Bool.true_and, Bool.and_false, Bool.false_and, Bool.true_or, Bool.false_or, Bool.or_true, Bool.or_false, if_true, if_false, up1_s, n_31, Int32.lt_irrefl, hI8, h1, h2', t157_16, t157_70, t157_90]
      · rw [m278_21, h2g]
        simp (disch := omega) only [rt_c, b_some, List.cons_append, List.nil_append, Bool.cond_not, cond_true, cond_false, Bool.cond_decide, nI_add, nI_clamp, xin_n, dle_e, dlt_e, deq_e, xb_0, xb_1, decide_true, decide_false, Bool.not_true, Bool.not_false, Bool.and_true, Bool.true_and, Bool.and_false, Bool.false_and, Bool.true_or, Bool.false_or, Bool.or_true, Bool.or_false, if_true, if_false, up1_s, n_31, Int32.lt_irrefl, hB0, h1, h2', t278_16, t278_56, t278_76]
    · refine ⟨-1, g, ?_, ?_⟩
      · rw [k157_34_1]
        simp (disch := omega) only [rt_c, b_some, List.cons_append, List.nil_append, Bool.cond_not, cond_true, cond_false, Bool.cond_decide, nI_add, nI_clamp, xin_n, dle_e, dlt_e, deq_e, xb_0, xb_1, decide_true, decide_false, Bool.not_true, Bool.not_false, Bool.and_true, Bool.true_and, Bool.and_false, Bool.false_and, Bool.true_or, Bool.false_or, Bool.or_true, Bool.or_false, if_true, if_false, up1_s, n_31, Int32.lt_irrefl, hI8, h1, h2, t157_16, t157_70, t157_90]
      · rw [m278_21, h2g]
        simp (disch := omega) only [rt_c, b_some, List.cons_append, List.nil_append, Bool.cond_not, cond_true, cond_false, Bool.cond_decide, nI_add, nI_clamp, xin_n, dle_e, dlt_e, deq_e, xb_0, xb_1, decide_true, decide_false, Bool.not_true, Bool.not_false, Bool.and_true, Bool.true_and, Bool.and_false, Bool.false_and, Bool.true_or, Bool.false_or, Bool.or_true, Bool.or_false, if_true, if_false, up1_s, n_31, Int32.lt_irrefl, hB0, h1, h2, t278_16, t278_56, t278_76]
  | succ q ih =>
    intro p c g hp hc'
    have h1 : ¬ H ≤ p := by omega
    obtain ⟨b, g1, e1, e2⟩ := sd_one_112 d sl I A N V lt tw 112 108 [] J w B M rfl hS hV (show p < H by omega) hL hl (nI rb) (hrb p (by omega)) hc sl2 g
    cases b with
    | false =>
      obtain ⟨v, g2, f1, f2⟩ := ih (p + 1) c g1 (by omega) (by omega)
      refine ⟨v, g2, ?_, ?_⟩
      · rw [k157_34_1]
        simp (disch := omega) only [rt_c, b_some, List.cons_append, List.nil_append, Bool.cond_not, cond_true, cond_false, Bool.cond_decide, nI_add, nI_clamp, xin_n, dle_e, dlt_e, deq_e, xb_0, xb_1, decide_true, decide_false, Bool.not_true, Bool.not_false, Bool.and_true, Bool.true_and, Bool.and_false, Bool.false_and, Bool.true_or, Bool.false_or, Bool.or_true, Bool.or_false, if_true, if_false, up1_s, n_31, Int32.lt_irrefl, hI8, h1, e1, k157_60_1, f1]
      · rw [m278_21, h2g]
        simp (disch := omega) only [rt_c, b_some, List.cons_append, List.nil_append, Bool.cond_not, cond_true, cond_false, Bool.cond_decide, nI_add, nI_clamp, xin_n, dle_e, dlt_e, deq_e, xb_0, xb_1, decide_true, decide_false, Bool.not_true, Bool.not_false, Bool.and_true, Bool.true_and, Bool.and_false, Bool.false_and, Bool.true_or, Bool.false_or, Bool.or_true, Bool.or_false, if_true, if_false, up1_s, n_31, Int32.lt_irrefl, hB0, h1, hT, e2, m278_44, f2]
    | true =>
      by_cases h3 : nI c = k
      · have h3' : (nI c = k) = True := eq_true h3
        refine ⟨nI p, g1, ?_, ?_⟩
        · rw [k157_34_1]
          simp (disch := omega) only [rt_c, b_some, List.cons_append, List.nil_append, Bool.cond_not, cond_true, cond_false, Bool.cond_decide, nI_add, nI_clamp, xin_n, dle_e, dlt_e, deq_e, xb_0, xb_1, decide_true, decide_false, Bool.not_true, Bool.not_false, Bool.and_true, Bool.true_and, Bool.and_false, Bool.false_and, Bool.true_or, Bool.false_or, Bool.or_true, Bool.or_false, if_true, if_false, up1_s, n_31, Int32.lt_irrefl, hI8, h1, e1, k157_60_1, xb_t, Nat.one_ne_zero, h3', t157_16, t157_70, t157_90]
        · rw [m278_21, h2g]
          simp (disch := omega) only [rt_c, b_some, List.cons_append, List.nil_append, Bool.cond_not, cond_true, cond_false, Bool.cond_decide, nI_add, nI_clamp, xin_n, dle_e, dlt_e, deq_e, xb_0, xb_1, decide_true, decide_false, Bool.not_true, Bool.not_false, Bool.and_true, Bool.true_and, Bool.and_false, Bool.false_and, Bool.true_or, Bool.false_or, Bool.or_true, Bool.or_false, if_true, if_false, up1_s, n_31, Int32.lt_irrefl, hB0, h1, hT, e2, m278_44, xb_t, Nat.one_ne_zero, h3', t278_16, t278_56, t278_76]
      · obtain ⟨v, g2, f1, f2⟩ := ih (p + 1) (c + 1) g1 (by omega) (by omega)
        refine ⟨v, g2, ?_, ?_⟩
        · rw [k157_34_1]
          simp (disch := omega) only [rt_c, b_some, List.cons_append, List.nil_append, Bool.cond_not, cond_true, cond_false, Bool.cond_decide, nI_add, nI_clamp, xin_n, dle_e, dlt_e, deq_e, xb_0, xb_1, decide_true, decide_false, Bool.not_true, Bool.not_false, Bool.and_true, Bool.true_and, Bool.and_false, Bool.false_and, Bool.true_or, Bool.false_or, Bool.or_true, Bool.or_false, if_true, if_false, up1_s, n_31, Int32.lt_irrefl, hI8, h1, e1, k157_60_1, xb_t, Nat.one_ne_zero, h3, f1]
        · rw [m278_21, h2g]
          simp (disch := omega) only [rt_c, b_some, List.cons_append, List.nil_append, Bool.cond_not, cond_true, cond_false, Bool.cond_decide, nI_add, nI_clamp, xin_n, dle_e, dlt_e, deq_e, xb_0, xb_1, decide_true, decide_false, Bool.not_true, Bool.not_false, Bool.and_true, Bool.true_and, Bool.and_false, Bool.false_and, Bool.true_or, Bool.false_or, Bool.or_true, Bool.or_false, if_true, if_false, up1_s, n_31, Int32.lt_irrefl, hB0, h1, hT, e2, m278_44, xb_t, Nat.one_ne_zero, h3, f2]
/-- no number below -1 is met: the reference comes to -1 as well -/
theorem sd_none (sl2 : Nat) (hV : Vd (B 2) H m) (k : Int32) (hk : ¬ (-1 : Int32) ≤ k) (hone : ∀ p g, p < H → ∃ b g', C (d + 44) 277 [.ref 0, .int (B 2 128), .int (nI p)] sl2 (RH J w (up1 B 11 g) M) = some ([.int (x_b b)], sl2, RH J w (up1 B 11 g') M)) : ∀ (q p c : Nat) (g : Nat → Int32), p + q = H → c ≤ p → ∃ g', rt 278 (R (d + 45) 278 (21, [some (.ref 0), some (.int k), some (.int (nI c)), some (.int (nI p))], [], sl2, RH J w (up1 B 11 g) M)) = some ([.int (-1)], sl2, RH J w (up1 B 11 g') M) := by
  have hH6 : H ≤ 6 := hV.1.2.2.1
  have hB0 : B 2 0 = nI H := hV.1.1
  have h2g : ∀ g, up1 B 11 g 2 = B 2 := fun g => up1_n (by decide)
  have hk1 : k ≠ -1 := fun e => hk (by rw [e]; exact Int32.le_refl _)
  intro q
  induction q with
  | zero =>
    intro p c g hp hc'
    have h1 : H ≤ p := by omega
    refine ⟨g, ?_⟩
    rw [m278_21, h2g]
    simp (disch := omega) only [rt_c, b_some, List.cons_append, List.nil_append, Bool.cond_not, cond_true, cond_false, Bool.cond_decide, nI_add, nI_clamp, xin_n, dle_e, dlt_e, deq_e, xb_0, xb_1, decide_true, decide_false, Bool.not_true, Bool.not_false, Bool.and_true, Bool.true_and, Bool.and_false, Bool.false_and, Bool.true_or, Bool.false_or, Bool.or_true, Bool.or_false, if_true, if_false, up1_s, n_31, Int32.lt_irrefl, hB0, h1, hk1, t278_16, t278_56, t278_76]
  | succ q ih =>
    intro p c g hp hc'
    have h1 : ¬ H ≤ p := by omega
    obtain ⟨b, g1, e2⟩ := hone p g (by omega)
    cases b with
    | false =>
      obtain ⟨g2, f2⟩ := ih (p + 1) c g1 (by omega) (by omega)
      refine ⟨g2, ?_⟩
      rw [m278_21, h2g]
      simp (disch := omega) only [rt_c, b_some, List.cons_append, List.nil_append, Bool.cond_not, cond_true, cond_false, Bool.cond_decide, nI_add, nI_clamp, xin_n, dle_e, dlt_e, deq_e, xb_0, xb_1, decide_true, decide_false, Bool.not_true, Bool.not_false, Bool.and_true, Bool.true_and, Bool.and_false, Bool.false_and, Bool.true_or, Bool.false_or, Bool.or_true, Bool.or_false, if_true, if_false, up1_s, n_31, Int32.lt_irrefl, hB0, h1, e2, m278_44, f2]
    | true =>
      have h3 : ¬ nI c = k := by
        intro e
        apply hk
        rw [← e, Int32.le_iff_toInt_le, nI_toInt (by omega)]
        have : (-1 : Int32).toInt = -1 := by decide
        omega
      obtain ⟨g2, f2⟩ := ih (p + 1) (c + 1) g1 (by omega) (by omega)
      refine ⟨g2, ?_⟩
      rw [m278_21, h2g]
      simp (disch := omega) only [rt_c, b_some, List.cons_append, List.nil_append, Bool.cond_not, cond_true, cond_false, Bool.cond_decide, nI_add, nI_clamp, xin_n, dle_e, dlt_e, deq_e, xb_0, xb_1, decide_true, decide_false, Bool.not_true, Bool.not_false, Bool.and_true, Bool.true_and, Bool.and_false, Bool.false_and, Bool.true_or, Bool.false_or, Bool.or_true, Bool.or_false, if_true, if_false, up1_s, n_31, Int32.lt_irrefl, hB0, h1, e2, m278_44, xb_t, Nat.one_ne_zero, h3, f2]
end SAK
theorem Rl_said {I A : Nat → Nat → Int32} {N : Nat → Nat → Int64} {V : Nat → Nat → Option Nat} {sp sr : Nat} {J : Nat → Int32} {B : Nat → Nat → Int32} {M : Nat → Nat → Int64} (h : Rl I A N V sp sr J B M) (g st g' : Nat → Int32) : Rl I (up1 (up1 A 96 g) 97 st) N V sp sr (up1 J 0 (nI 0)) (up1 B 11 g') M := by
  obtain ⟨H, m, h1, ⟨p, z, h2⟩, h3⟩ := h
  have hA : ∀ q, q ≠ 96 → q ≠ 97 → up1 (up1 A 96 g) 97 st q = A q := fun q a1 a2 => by rw [up1_n a2, up1_n a1]
  have hB : ∀ q, q ≠ 11 → up1 B 11 g' q = B q := fun q a1 => up1_n a1
  have hJ : ∀ q, q ≠ 0 → up1 J 0 (nI 0) q = J q := fun q a1 => up1_n a1
  refine ⟨H, m, ⟨?_, ?_, ?_, h1.2.2.2⟩, ⟨p, z, RPx_c h2 (fun _ _ _ => rfl) (fun q _ _ => hA q (by omega) (by omega)) (fun _ _ _ => rfl) rfl (hJ _ (by decide)) (hB _ (by decide)) (fun k _ => by rw [hB _ (by decide)])⟩, RZ_f h3 (fun _ _ => rfl) (fun q _ => hA q (by omega) (by omega)) (fun _ _ => rfl) ⟨hJ _ (by decide), hJ _ (by decide), hJ _ (by decide), hJ _ (by decide), hJ _ (by decide), hJ _ (by decide), hJ _ (by decide)⟩ ⟨hB _ (by decide), hB _ (by decide), hB _ (by decide), hB _ (by decide), hB _ (by decide), hB _ (by decide)⟩ rfl (fun k _ => by rw [hB _ (by decide)])⟩
  · rw [hB _ (by decide)]
    exact Sh_c h1.1 (fun _ _ => rfl) rfl (fun q _ _ => hA q (by omega) (by omega))
  · rw [hB _ (by decide)]; exact h1.2.1
  · rw [hB _ (by decide)]; exact h1.2.2.1
theorem ok_said (d : Nat) (k : Int32) : Ok (d + 45) 157 278 [.ref 0, .int k] := by
  intro sl sl2 I A N V lt tw sp sr J w B M hR
  have hR0 := hR
  obtain ⟨H, m, h1, h2, h3⟩ := hR
  have hV := h1.2.1
  have hS := h1.1
  have hH6 := hV.1.2.2.1
  obtain ⟨hc1, hc2⟩ := h3.2.2.2.2
  rcases hc1 with ⟨rfl, rfl⟩ | ⟨rfl, rfl⟩
  · rcases hc2 with ⟨c1, c2⟩ | ⟨c1, L, f, hL, c2, c3, c4⟩
    · refine ⟨-1, I, A, N, V, lt, tw, 108, 112, [], sl, up1 J 0 (nI 0), w, B, M, ?_, ?_, Rl_0 hR0 _, Nat.le_refl _, by omega, by simp⟩
      · rw [e157, k157_0]
        simp (disch := omega) only [rt_c, b_some, List.cons_append, List.nil_append, Bool.cond_not, cond_true, cond_false, Bool.cond_decide, nI_add, nI_clamp, xin_n, dle_e, dlt_e, deq_e, xb_0, xb_1, decide_true, decide_false, Bool.not_true, Bool.not_false, Bool.and_true, Bool.true_and, Bool.and_false, Bool.false_and, Bool.true_or, Bool.false_or, Bool.or_true, Bool.or_false, if_true, if_false, up1_s, n_31, Int32.lt_irrefl, c2, t157_16, t157_70, t157_90]
      · rw [e278, m278_0]
        simp (disch := omega) only [rt_c, b_some, List.cons_append, List.nil_append, Bool.cond_not, cond_true, cond_false, Bool.cond_decide, nI_add, nI_clamp, xin_n, dle_e, dlt_e, deq_e, xb_0, xb_1, decide_true, decide_false, Bool.not_true, Bool.not_false, Bool.and_true, Bool.true_and, Bool.and_false, Bool.false_and, Bool.true_or, Bool.false_or, Bool.or_true, Bool.or_false, if_true, if_false, up1_s, n_31, Int32.lt_irrefl, c1, t278_16, t278_56, t278_76]
    · have hl1 : ¬ L + 1 = 0 := by omega
      by_cases hk : (-1 : Int32) ≤ k
      · obtain ⟨g, st, e1⟩ := q106 (d + 42) sl I A N V lt tw 108 112 [] hS hV
        have hSg : Sh I (up1 (up1 A 96 g) 97 st) 3 (B 2) H m := Sh_c hS (fun _ _ => rfl) rfl (fun q _ _ => by rw [up1_n (by omega), up1_n (by omega)])
        have hmk := mkN_lt (rg_ (B 2) m H) H
        have hmi : 2 ^ H ≤ 2 ^ 6 := Nat.pow_le_pow_right (by decide) hH6
        obtain ⟨v, g', f1, f2⟩ := sd_loop_108 d I (up1 (up1 A 96 g) 97 st) N V lt tw (up1 J 0 (nI 0)) w B M sl sl2 hSg hV hL c2 c3 (mkN (rg_ (B 2) m H) H) (fun p hp => by rw [has_b (by omega) (by omega), mkN_bit, decide_eq_true hp, Bool.true_and]) (by rw [up1_n (by decide), up1_n (by decide), up1_n (by decide), up1_n (by decide)]; exact c4) k hk H 0 0 (B 11) (by omega) (by omega)
        rw [up1_id] at f2
        refine ⟨v, I, up1 (up1 A 96 g) 97 st, N, V, lt, tw, 108, 112, [], sl, up1 J 0 (nI 0), w, up1 B 11 g', M, ?_, ?_, Rl_said hR0 g st g', Nat.le_refl _, by omega, by simp⟩
        · rw [e157, k157_0]
          simp (disch := omega) only [rt_c, b_some, List.cons_append, List.nil_append, Bool.cond_not, cond_true, cond_false, Bool.cond_decide, nI_add, nI_clamp, xin_n, dle_e, dlt_e, deq_e, xb_0, xb_1, decide_true, decide_false, Bool.not_true, Bool.not_false, Bool.and_true, Bool.true_and, Bool.and_false, Bool.false_and, Bool.true_or, Bool.false_or, Bool.or_true, Bool.or_false, if_true, if_false, up1_s, n_31, Int32.lt_irrefl, c2, hl1, hk, e1, k157_28, f1]
        · rw [e278, m278_0]
          simp (disch := omega) only [rt_c, b_some, List.cons_append, List.nil_append, Bool.cond_not, cond_true, cond_false, Bool.cond_decide, nI_add, nI_clamp, xin_n, dle_e, dlt_e, deq_e, xb_0, xb_1, decide_true, decide_false, Bool.not_true, Bool.not_false, Bool.and_true, Bool.true_and, Bool.and_false, Bool.false_and, Bool.true_or, Bool.false_or, Bool.or_true, Bool.or_false, if_true, if_false, up1_s, n_31, Int32.lt_irrefl, c1, Nat.one_ne_zero, f2]
      · obtain ⟨g', f2⟩ := sd_none d (up1 J 0 (nI 0)) w B M sl2 hV k hk (fun p g hp => by
          obtain ⟨b, g1, -, e2⟩ := sd_one_108 d 0 I A N V lt tw 0 0 [] (up1 J 0 (nI 0)) w B M rfl hS hV hp hL c2 (nI (mkN (rg_ (B 2) m H) H)) (by
            have hmk := mkN_lt (rg_ (B 2) m H) H
            have hmi : 2 ^ H ≤ 2 ^ 6 := Nat.pow_le_pow_right (by decide) hH6
            rw [has_b (by omega) (by omega), mkN_bit, decide_eq_true hp, Bool.true_and]) c4 sl2 g
          rw [c3]
          exact ⟨b, g1, e2⟩) H 0 0 (B 11) (by omega) (by omega)
        rw [up1_id] at f2
        refine ⟨-1, I, A, N, V, lt, tw, 108, 112, [], sl, up1 J 0 (nI 0), w, up1 B 11 g', M, ?_, ?_, ?_, Nat.le_refl _, by omega, by simp⟩
        · rw [e157, k157_0]
          simp (disch := omega) only [rt_c, b_some, List.cons_append, List.nil_append, Bool.cond_not, cond_true, cond_false, Bool.cond_decide, nI_add, nI_clamp, xin_n, dle_e, dlt_e, deq_e, xb_0, xb_1, decide_true, decide_false, Bool.not_true, Bool.not_false, Bool.and_true, Bool.true_and, Bool.and_false, Bool.false_and, Bool.true_or, Bool.false_or, Bool.or_true, Bool.or_false, if_true, if_false, up1_s, n_31, Int32.lt_irrefl, c2, hl1, hk, t157_16, t157_70, t157_90]
        · rw [e278, m278_0]
          simp (disch := omega) only [rt_c, b_some, List.cons_append, List.nil_append, Bool.cond_not, cond_true, cond_false, Bool.cond_decide, nI_add, nI_clamp, xin_n, dle_e, dlt_e, deq_e, xb_0, xb_1, decide_true, decide_false, Bool.not_true, Bool.not_false, Bool.and_true, Bool.true_and, Bool.and_false, Bool.false_and, Bool.true_or, Bool.false_or, Bool.or_true, Bool.or_false, if_true, if_false, up1_s, n_31, Int32.lt_irrefl, c1, Nat.one_ne_zero, f2]
        · have := Rl_said hR0 (A 96) (A 97) g'
          rw [up1_id, up1_id] at this
          exact this
  · rcases hc2 with ⟨c1, c2⟩ | ⟨c1, L, f, hL, c2, c3, c4⟩
    · refine ⟨-1, I, A, N, V, lt, tw, 112, 108, [], sl, up1 J 0 (nI 0), w, B, M, ?_, ?_, Rl_0 hR0 _, Nat.le_refl _, by omega, by simp⟩
      · rw [e157, k157_0_1]
        simp (disch := omega) only [rt_c, b_some, List.cons_append, List.nil_append, Bool.cond_not, cond_true, cond_false, Bool.cond_decide, nI_add, nI_clamp, xin_n, dle_e, dlt_e, deq_e, xb_0, xb_1, decide_true, decide_false, Bool.not_true, Bool.not_false, Bool.and_true, Bool.true_and, Bool.and_false, Bool.false_and, Bool.true_or, Bool.false_or, Bool.or_true, Bool.or_false, if_true, if_false, up1_s, n_31, Int32.lt_irrefl, c2, t157_16, t157_70, t157_90]
      · rw [e278, m278_0]
        simp (disch := omega) only [rt_c, b_some, List.cons_append, List.nil_append, Bool.cond_not, cond_true, cond_false, Bool.cond_decide, nI_add, nI_clamp, xin_n, dle_e, dlt_e, deq_e, xb_0, xb_1, decide_true, decide_false, Bool.not_true, Bool.not_false, Bool.and_true, Bool.true_and, Bool.and_false, Bool.false_and, Bool.true_or, Bool.false_or, Bool.or_true, Bool.or_false, if_true, if_false, up1_s, n_31, Int32.lt_irrefl, c1, t278_16, t278_56, t278_76]
    · have hl1 : ¬ L + 1 = 0 := by omega
      by_cases hk : (-1 : Int32) ≤ k
      · obtain ⟨g, st, e1⟩ := q106 (d + 42) sl I A N V lt tw 112 108 [] hS hV
        have hSg : Sh I (up1 (up1 A 96 g) 97 st) 3 (B 2) H m := Sh_c hS (fun _ _ => rfl) rfl (fun q _ _ => by rw [up1_n (by omega), up1_n (by omega)])
        have hmk := mkN_lt (rg_ (B 2) m H) H
        have hmi : 2 ^ H ≤ 2 ^ 6 := Nat.pow_le_pow_right (by decide) hH6
        obtain ⟨v, g', f1, f2⟩ := sd_loop_112 d I (up1 (up1 A 96 g) 97 st) N V lt tw (up1 J 0 (nI 0)) w B M sl sl2 hSg hV hL c2 c3 (mkN (rg_ (B 2) m H) H) (fun p hp => by rw [has_b (by omega) (by omega), mkN_bit, decide_eq_true hp, Bool.true_and]) (by rw [up1_n (by decide), up1_n (by decide), up1_n (by decide), up1_n (by decide)]; exact c4) k hk H 0 0 (B 11) (by omega) (by omega)
        rw [up1_id] at f2
        refine ⟨v, I, up1 (up1 A 96 g) 97 st, N, V, lt, tw, 112, 108, [], sl, up1 J 0 (nI 0), w, up1 B 11 g', M, ?_, ?_, Rl_said hR0 g st g', Nat.le_refl _, by omega, by simp⟩
        · rw [e157, k157_0_1]
          simp (disch := omega) only [rt_c, b_some, List.cons_append, List.nil_append, Bool.cond_not, cond_true, cond_false, Bool.cond_decide, nI_add, nI_clamp, xin_n, dle_e, dlt_e, deq_e, xb_0, xb_1, decide_true, decide_false, Bool.not_true, Bool.not_false, Bool.and_true, Bool.true_and, Bool.and_false, Bool.false_and, Bool.true_or, Bool.false_or, Bool.or_true, Bool.or_false, if_true, if_false, up1_s, n_31, Int32.lt_irrefl, c2, hl1, hk, e1, k157_28_1, f1]
        · rw [e278, m278_0]
          simp (disch := omega) only [rt_c, b_some, List.cons_append, List.nil_append, Bool.cond_not, cond_true, cond_false, Bool.cond_decide, nI_add, nI_clamp, xin_n, dle_e, dlt_e, deq_e, xb_0, xb_1, decide_true, decide_false, Bool.not_true, Bool.not_false, Bool.and_true, Bool.true_and, Bool.and_false, Bool.false_and, Bool.true_or, Bool.false_or, Bool.or_true, Bool.or_false, if_true, if_false, up1_s, n_31, Int32.lt_irrefl, c1, Nat.one_ne_zero, f2]
      · obtain ⟨g', f2⟩ := sd_none d (up1 J 0 (nI 0)) w B M sl2 hV k hk (fun p g hp => by
          obtain ⟨b, g1, -, e2⟩ := sd_one_112 d 0 I A N V lt tw 0 0 [] (up1 J 0 (nI 0)) w B M rfl hS hV hp hL c2 (nI (mkN (rg_ (B 2) m H) H)) (by
            have hmk := mkN_lt (rg_ (B 2) m H) H
            have hmi : 2 ^ H ≤ 2 ^ 6 := Nat.pow_le_pow_right (by decide) hH6
            rw [has_b (by omega) (by omega), mkN_bit, decide_eq_true hp, Bool.true_and]) c4 sl2 g
          rw [c3]
          exact ⟨b, g1, e2⟩) H 0 0 (B 11) (by omega) (by omega)
        rw [up1_id] at f2
        refine ⟨-1, I, A, N, V, lt, tw, 112, 108, [], sl, up1 J 0 (nI 0), w, up1 B 11 g', M, ?_, ?_, ?_, Nat.le_refl _, by omega, by simp⟩
        · rw [e157, k157_0_1]
          simp (disch := omega) only [rt_c, b_some, List.cons_append, List.nil_append, Bool.cond_not, cond_true, cond_false, Bool.cond_decide, nI_add, nI_clamp, xin_n, dle_e, dlt_e, deq_e, xb_0, xb_1, decide_true, decide_false, Bool.not_true, Bool.not_false, Bool.and_true, Bool.true_and, Bool.and_false, Bool.false_and, Bool.true_or, Bool.false_or, Bool.or_true, Bool.or_false, if_true, if_false, up1_s, n_31, Int32.lt_irrefl, c2, hl1, hk, t157_16, t157_70, t157_90]
        · rw [e278, m278_0]
          simp (disch := omega) only [rt_c, b_some, List.cons_append, List.nil_append, Bool.cond_not, cond_true, cond_false, Bool.cond_decide, nI_add, nI_clamp, xin_n, dle_e, dlt_e, deq_e, xb_0, xb_1, decide_true, decide_false, Bool.not_true, Bool.not_false, Bool.and_true, Bool.true_and, Bool.and_false, Bool.false_and, Bool.true_or, Bool.false_or, Bool.or_true, Bool.or_false, if_true, if_false, up1_s, n_31, Int32.lt_irrefl, c1, Nat.one_ne_zero, f2]
        · have := Rl_said hR0 (A 96) (A 97) g'
          rw [up1_id, up1_id] at this
          exact this
