/-! READERS: the beginning, the lines of a shire one after another -/
theorem Bt_ex {I A : Nat → Nat → Int32} {J : Nat → Int32} {B : Nat → Nat → Int32} (h : RT I A J B) : ∃ t b, Bt t b A B ∧ I 1 1 = nI t ∧ J 2 = nI t := by
  obtain ⟨t, h1, h2, h3, h4⟩ := h
  refine ⟨t, fun k => (B 1 k).toNatClampNeg, ⟨h1, fun k hk => ?_⟩, h2, h3⟩
  obtain ⟨b, b1, b2, b3⟩ := h4 k hk
  have e : (B 1 k).toNatClampNeg = b := by rw [b2]; exact nI_clamp (by omega)
  simp only [e]
  exact ⟨b1, b3, b2⟩
section RDB
variable (d d' sl sl' : Nat) (I : Nat → Nat → Int32) (A : Nat → Nat → Int32) (N : Nat → Nat → Int64) (V : Nat → Nat → Option Nat) (lt : Int64) (tw : Option Nat) (sp sr : Nat) (X : List AC) (J : Nat → Int32) (w : Int64) (B : Nat → Nat → Int32) (M : Nat → Nat → Int64) {t L : Nat} {b : Nat → Nat}
theorem rd_begin (hL : L ≤ 940) (hT : RT I A J B) (hX : Nat.ble X.length 1 = true) : ∃ t b κ v s I' lt' tw' J' w', Bt t b A B ∧ C (d + 2) 89 [.ref 1, .int (nI L)] sl (CH I A N V lt tw sp sr X) = some ([], sl, CH I' A N V lt' tw' sp sr X) ∧ C (d' + 2) 183 [.ref 0, .int (nI L)] sl' (RH J w B M) = some ([], sl', RH J' w' B M) ∧ Tk t L 0 κ v s (I' 1) lt' tw' J' w' ∧ (∀ q, q ≠ 1 → I' q = I q) ∧ I' 1 10 = nI 0 ∧ J' 10 = nI 0 ∧ J' 0 = nI 0 ∧ J' 2 = nI 0 ∧ (∀ k, 10 < k → J' k = J k) := by
  obtain ⟨t, b, hB, i11, j2⟩ := Bt_ex hT
  obtain ⟨κ, v, s, f', lt', tw', J', w', x1, x2, x3, x4, x5⟩ := adv0 d d' sl sl' I A N V sp sr X B M hB hL hX (q := 0) (Nat.zero_le _) (up1 (up1 (up1 (up1 (I 1) 2 (nI L)) 3 (nI 0)) 10 (nI 0)) 11 (nI 0)) lt tw (up1 (up1 (up1 (up1 (up1 (up1 J 0 (nI 0)) 2 (nI 0)) 3 (nI t)) 4 (nI L)) 5 (nI 0)) 10 (nI 0)) w (by simp (disch := omega) only [up1_s, up1_n]; exact i11) (by simp (disch := omega) only [up1_s, up1_n]) (by simp (disch := omega) only [up1_s, up1_n]) (by simp (disch := omega) only [up1_s, up1_n]) (by simp (disch := omega) only [up1_s, up1_n]) (by simp (disch := omega) only [up1_s, up1_n])
  refine ⟨t, b, κ, v, s, up1 I 1 f', lt', tw', J', w', hB, ?_, ?_, by rw [up1_s]; exact x3, fun q hq => up1_n hq, ?_, ?_, ?_, ?_, fun k hk => ?_⟩
  · rw [e89, k89_r1_0, x1]
    simp (disch := omega) only [rt_c, b_some, List.cons_append, List.nil_append, Bool.cond_not, cond_true, cond_false, Bool.cond_decide, nI_add, nI_clamp, xin_n, dle_e, dlt_e, deq_e, xb_0, xb_1, decide_true, decide_false, Bool.not_true, Bool.not_false, Bool.and_true, Bool.true_and, Bool.and_false, Bool.false_and, Bool.true_or, Bool.false_or, Bool.or_true, Bool.or_false, if_true, if_false, up1_s, n_31, Int32.lt_irrefl, k89_r1_24, t89_24]
  · have h165 : C (d' + 1) 165 [.ref 0] sl' (RH (up1 J 0 (nI 0)) w B M) = some ([.int (nI t)], sl', RH (up1 (up1 J 0 (nI 0)) 2 (nI 0)) w B M) := by
      rw [e165, m165_0, up1_n (show (2 : Nat) ≠ 0 by decide), j2]
      simp (disch := omega) only [rt_c, b_some, List.cons_append, List.nil_append, Bool.cond_not, cond_true, cond_false, Bool.cond_decide, nI_add, nI_clamp, xin_n, dle_e, dlt_e, deq_e, xb_0, xb_1, decide_true, decide_false, Bool.not_true, Bool.not_false, Bool.and_true, Bool.true_and, Bool.and_false, Bool.false_and, Bool.true_or, Bool.false_or, Bool.or_true, Bool.or_false, if_true, if_false, up1_s, n_31, Int32.lt_irrefl, t165_11]
    rw [e183, m183_0, h165]
    simp (disch := omega) only [rt_c, b_some, List.cons_append, List.nil_append, Bool.cond_not, cond_true, cond_false, Bool.cond_decide, nI_add, nI_clamp, xin_n, dle_e, dlt_e, deq_e, xb_0, xb_1, decide_true, decide_false, Bool.not_true, Bool.not_false, Bool.and_true, Bool.true_and, Bool.and_false, Bool.false_and, Bool.true_or, Bool.false_or, Bool.or_true, Bool.or_false, if_true, if_false, up1_s, n_31, Int32.lt_irrefl, m183_10, x2, m183_32, t183_32]
  · rw [up1_s, x4 10 (by decide) (by decide) (by decide) (by decide), up1_n (by decide), up1_s]
  · rw [x5 10 (by decide), up1_s]
  · rw [x5 0 (by decide)]; simp (disch := omega) only [up1_s, up1_n]
  · rw [x5 2 (by decide)]; simp (disch := omega) only [up1_s, up1_n]
  · rw [x5 k (by omega), up1_n (by omega), up1_n (by omega), up1_n (by omega), up1_n (by omega), up1_n (by omega), up1_n (by omega)]
end RDB
section SHL
variable (d d' sl sl' : Nat) (V : Nat → Nat → Option Nat) (sp sr : Nat) {t L : Nat} {b : Nat → Nat}
theorem sh_loop (hL : L ≤ 940) : ∀ (q i : Nat) (I A : Nat → Nat → Int32) (N : Nat → Nat → Int64) (lt : Int64) (tw : Option Nat) (go : Bool) (J : Nat → Int32) (w : Int64) (B : Nat → Nat → Int32) (M : Nat → Nat → Int64), i + q = 471 → i ≤ 470 → Bt t b A B → Rs t L (2 * i) I A N lt tw go J w B M →
    (∃ l I' A' N' lt' tw' go' J' w' B' M' H m, l ≤ 470 ∧ rt 81 (R (d + 5) 81 (9, [some (.ref 146), some (.int (nI i))], [], sl, CH I A N V lt tw sp sr [.inr (7, [.ref 1, .ref 12, .int (x_b go)])])) = some ([.int (nI l)], sl, CH I' A' N' V lt' tw' sp sr [.inr (7, [.ref 1, .ref 12, .int (x_b go')])]) ∧ rt 194 (R (d' + 6) 194 (49, [some (.ref 0), some (.int (nI i)), none], [], sl', RH J w B M)) = rt 194 (R (d' + 6) 194 (85, [some (.ref 0), some (.int (nI l)), some (.int (nI 0))], [], sl', RH J' w' B' M')) ∧ RR I' A' N' B' M' H m ∧ I' 1 10 = nI 0 ∧ J' 10 = nI 0 ∧ Fq I A N J B M I' A' N' J' B' M') ∨
    (∃ I' A' N' lt' tw' go' J' w' B' M', rt 81 (R (d + 5) 81 (9, [some (.ref 146), some (.int (nI i))], [], sl, CH I A N V lt tw sp sr [.inr (7, [.ref 1, .ref 12, .int (x_b go)])])) = some ([.int (-1)], sl, CH I' A' N' V lt' tw' sp sr [.inr (7, [.ref 1, .ref 12, .int (x_b go')])]) ∧ rt 194 (R (d' + 6) 194 (49, [some (.ref 0), some (.int (nI i)), none], [], sl', RH J w B M)) = some ([.int (-1 - J' 11)], sl', RH J' w' B' M') ∧ Fl (I' 1) J' ∧ Fq I A N J B M I' A' N' J' B' M') := by
  intro q
  induction q with
  | zero => intro i I A N lt tw go J w B M hq hi; omega
  | succ q ih =>
    intro i I A N lt tw go J w B M hq hi hB hS
    obtain ⟨⟨κ, v, s, h⟩, ⟨H, m, hR⟩, j23, f10, j10⟩ := hS
    have h940 : ¬ 940 ≤ i := by omega
    have e94 := q94 (d + 4) sl I A N V lt tw sp sr [.inr (7, [.ref 1, .ref 12, .int (x_b go)])] h
    obtain ⟨k5, f4, j7, _⟩ := Tk_all h
    have hkr := kR_le k5
    by_cases hk : κ = 0
    · have hk0 : kR κ = 0 := kR_0.mpr hk
      rw [decide_eq_true hk] at e94
      refine Or.inl ⟨i, I, A, N, lt, tw, go, J, w, B, M, H, m, hi, ?_, ?_, hR, f10, j10, fun _ _ _ => rfl, fun _ _ => rfl, fun _ _ => rfl, fun _ _ => rfl, fun _ _ => rfl, fun _ _ => rfl⟩
      · rw [k81_r146_9]
        simp (disch := omega) only [rt_c, b_some, List.cons_append, List.nil_append, Bool.cond_not, cond_true, cond_false, Bool.cond_decide, nI_add, nI_clamp, xin_n, dle_e, dlt_e, deq_e, xb_0, xb_1, decide_true, decide_false, Bool.not_true, Bool.not_false, Bool.and_true, Bool.true_and, Bool.and_false, Bool.false_and, Bool.true_or, Bool.false_or, Bool.or_true, Bool.or_false, if_true, if_false, up1_s, n_31, Int32.lt_irrefl, h940, e94, k81_r146_23, xb_t, Nat.one_ne_zero, t81_27, t81_48, t81_56]
      · rw [m194_49, j7, hk0]
        simp (disch := omega) only [rt_c, b_some, List.cons_append, List.nil_append, Bool.cond_not, cond_true, cond_false, Bool.cond_decide, nI_add, nI_clamp, xin_n, dle_e, dlt_e, deq_e, xb_0, xb_1, decide_true, decide_false, Bool.not_true, Bool.not_false, Bool.and_true, Bool.true_and, Bool.and_false, Bool.false_and, Bool.true_or, Bool.false_or, Bool.or_true, Bool.or_false, if_true, if_false, up1_s, n_31, Int32.lt_irrefl]
    · have hk0 : ¬ kR κ = 0 := fun e => hk (kR_0.mp e)
      rw [decide_eq_false hk] at e94
      rcases sr_line d d' sl sl' I A N V lt tw sp sr go J w B M hB hL h hR j23 f10 j10 with ⟨I1, A1, N1, lt1, tw1, go1, J1, w1, B1, M1, z1, z2, z3, z4⟩ | ⟨I1, A1, N1, lt1, tw1, go1, J1, w1, B1, M1, z1, z2, z3, z4⟩
      · obtain ⟨⟨κ1, v1, s1, t1⟩, ⟨H1, m1, hR1⟩, j23', f10', j10'⟩ := z3
        have hB1 : Bt t b A1 B1 := Bt_c hB (z4.2.1 2 (by omega)) (z4.2.2.2.2.1 1 (by decide))
        rcases gd_end (d + 2) (d' + 3) sl sl' I1 A1 N1 V lt1 tw1 sp sr [.inr (7, [.ref 1, .ref 12, .int (x_b go1)])] J1 w1 B1 M1 hB1 hL rfl t1 with ⟨I2, lt2, tw2, J2, w2, y1, y2, y3, y4⟩ | ⟨I2, J2, y1, y2, y3⟩
        · have hi2 : i + 1 ≤ 470 := by
            subst y4
            obtain ⟨p, q', b1, b2, b3, b4, b5, b6, b7, b8, b9, b10, b11, b12, b13⟩ := t1
            have h9 := hB.1
            have := b12 (by decide)
            omega
          obtain ⟨⟨κ2, v2, s2, t2⟩, f10'', jk⟩ := y3.2
          have hfr : Fq I1 A1 N1 J1 B1 M1 I2 A1 N1 J2 B1 M1 := Gd_Fq y3
          have hR2 : RR I2 A1 N1 B1 M1 H1 m1 := by
            unfold RR at hR1 ⊢
            rw [y3.1 12 (by decide)]
            exact hR1
          have hS2 : Rs t L (2 * (i + 1)) I2 A1 N1 lt2 tw2 go1 J2 w2 B1 M1 := ⟨⟨κ2, v2, s2, Tk_le t2 (by omega)⟩, ⟨H1, m1, hR2⟩, by rw [jk 23 (by decide)]; exact j23', by rw [f10'']; exact f10', by rw [jk 10 (by decide)]; exact j10'⟩
          have s1 : rt 81 (R (d + 5) 81 (9, [some (.ref 146), some (.int (nI i))], [], sl, CH I A N V lt tw sp sr [.inr (7, [.ref 1, .ref 12, .int (x_b go)])])) = rt 81 (R (d + 5) 81 (9, [some (.ref 146), some (.int (nI (i + 1)))], [], sl, CH I2 A1 N1 V lt2 tw2 sp sr [.inr (7, [.ref 1, .ref 12, .int (x_b go1)])])) := by
            rw [k81_r146_9]
            simp (disch := omega) only [rt_c, b_some, List.cons_append, List.nil_append, Bool.cond_not, cond_true, cond_false, Bool.cond_decide, nI_add, nI_clamp, xin_n, dle_e, dlt_e, deq_e, xb_0, xb_1, decide_true, decide_false, Bool.not_true, Bool.not_false, Bool.and_true, Bool.true_and, Bool.and_false, Bool.false_and, Bool.true_or, Bool.false_or, Bool.or_true, Bool.or_false, if_true, if_false, up1_s, n_31, Int32.lt_irrefl, h940, e94, k81_r146_23, xb_f, xb_t, z1, k81_r146_32, Nat.one_ne_zero, y1, k81_r146_44]
          have s2 : rt 194 (R (d' + 6) 194 (49, [some (.ref 0), some (.int (nI i)), none], [], sl', RH J w B M)) = rt 194 (R (d' + 6) 194 (49, [some (.ref 0), some (.int (nI (i + 1))), none], [], sl', RH J2 w2 B1 M1)) := by
            rw [m194_49, j7]
            simp (disch := omega) only [rt_c, b_some, List.cons_append, List.nil_append, Bool.cond_not, cond_true, cond_false, Bool.cond_decide, nI_add, nI_clamp, xin_n, dle_e, dlt_e, deq_e, xb_0, xb_1, decide_true, decide_false, Bool.not_true, Bool.not_false, Bool.and_true, Bool.true_and, Bool.and_false, Bool.false_and, Bool.true_or, Bool.false_or, Bool.or_true, Bool.or_false, if_true, if_false, up1_s, n_31, Int32.lt_irrefl, hk0, z2, m194_60, xb_f, xb_t, Nat.one_ne_zero, y2, m194_67]
          rw [s1, s2]
          rcases ih (i + 1) I2 A1 N1 lt2 tw2 go1 J2 w2 B1 M1 (by omega) hi2 hB1 hS2 with ⟨l, I', A', N', lt', tw', go', J', w', B', M', H', m', a0, a1, a2, a3, a4, a5, a6⟩ | ⟨I', A', N', lt', tw', go', J', w', B', M', a1, a2, a3, a4⟩
          · exact Or.inl ⟨l, I', A', N', lt', tw', go', J', w', B', M', H', m', a0, a1, a2, a3, a4, a5, Fq_t z4 (Fq_t hfr a6)⟩
          · exact Or.inr ⟨I', A', N', lt', tw', go', J', w', B', M', a1, a2, a3, Fq_t z4 (Fq_t hfr a4)⟩
        · refine Or.inr ⟨I2, A1, N1, lt1, tw1, go1, J2, w1, B1, M1, ?_, ?_, y3.2.1, Fq_t z4 (Bd_Fq y3)⟩
          · rw [k81_r146_9]
            simp (disch := omega) only [rt_c, b_some, List.cons_append, List.nil_append, Bool.cond_not, cond_true, cond_false, Bool.cond_decide, nI_add, nI_clamp, xin_n, dle_e, dlt_e, deq_e, xb_0, xb_1, decide_true, decide_false, Bool.not_true, Bool.not_false, Bool.and_true, Bool.true_and, Bool.and_false, Bool.false_and, Bool.true_or, Bool.false_or, Bool.or_true, Bool.or_false, if_true, if_false, up1_s, n_31, Int32.lt_irrefl, h940, e94, k81_r146_23, xb_f, xb_t, z1, k81_r146_32, Nat.one_ne_zero, y1, k81_r146_44, t81_27, t81_48, t81_56]
          · rw [m194_49, j7]
            simp (disch := omega) only [rt_c, b_some, List.cons_append, List.nil_append, Bool.cond_not, cond_true, cond_false, Bool.cond_decide, nI_add, nI_clamp, xin_n, dle_e, dlt_e, deq_e, xb_0, xb_1, decide_true, decide_false, Bool.not_true, Bool.not_false, Bool.and_true, Bool.true_and, Bool.and_false, Bool.false_and, Bool.true_or, Bool.false_or, Bool.or_true, Bool.or_false, if_true, if_false, up1_s, n_31, Int32.lt_irrefl, hk0, z2, m194_60, xb_f, xb_t, Nat.one_ne_zero, y2, m194_67, t194_76, t194_145]
      · refine Or.inr ⟨I1, A1, N1, lt1, tw1, go1, J1, w1, B1, M1, ?_, ?_, z3, z4⟩
        · rw [k81_r146_9]
          simp (disch := omega) only [rt_c, b_some, List.cons_append, List.nil_append, Bool.cond_not, cond_true, cond_false, Bool.cond_decide, nI_add, nI_clamp, xin_n, dle_e, dlt_e, deq_e, xb_0, xb_1, decide_true, decide_false, Bool.not_true, Bool.not_false, Bool.and_true, Bool.true_and, Bool.and_false, Bool.false_and, Bool.true_or, Bool.false_or, Bool.or_true, Bool.or_false, if_true, if_false, up1_s, n_31, Int32.lt_irrefl, h940, e94, k81_r146_23, xb_f, xb_t, z1, k81_r146_32, t81_27, t81_48, t81_56]
        · rw [m194_49, j7]
          simp (disch := omega) only [rt_c, b_some, List.cons_append, List.nil_append, Bool.cond_not, cond_true, cond_false, Bool.cond_decide, nI_add, nI_clamp, xin_n, dle_e, dlt_e, deq_e, xb_0, xb_1, decide_true, decide_false, Bool.not_true, Bool.not_false, Bool.and_true, Bool.true_and, Bool.and_false, Bool.false_and, Bool.true_or, Bool.false_or, Bool.or_true, Bool.or_false, if_true, if_false, up1_s, n_31, Int32.lt_irrefl, hk0, z2, m194_60, xb_f, t194_76, t194_145]
end SHL
