/-! SENTENCES: ANDs and ORs -/
theorem rl_38_112 {t L H : Nat} {b : Nat → Nat} {N M : Nat → Nat → Int64} (hL : L ≤ 940) {e : Nat} (hP : PO 112 108 t L H b N M 39 271 6 8 e) : PO 112 108 t L H b N M 38 270 7 9 e := by
  have key : ∀ (q d d' sl sl' u o k : Nat) (I A : Nat → Nat → Int32) (V : Nat → Nat → Option Nat) (J : Nat → Int32) (B : Nat → Nat → Int32) (i o1 k1 : Nat) (I1 A1 : Nat → Nat → Int32) (V1 : Nat → Nat → Option Nat) (lt1 : Int64) (tw1 : Option Nat) (J1 : Nat → Int32) (w1 : Int64) (B1 : Nat → Nat → Int32), 21 ≤ o1 + q → i < o1 → u + e = 8 → Bt t b A1 B1 → I1 3 8 = nI H → B1 2 0 = nI H → Gx 112 t L u o k I A V J B o1 k1 I1 A1 V1 lt1 tw1 J1 w1 B1 →
      Ex 112 108 t L u o k N M sl sl' I A V J B (rt 38 (R (d + 4 * e + 7) 38 (12, [some (.ref 146), some (.int (nI (u + 1))), some (.int (nI i))], [], sl, CH I1 A1 N V1 lt1 tw1 108 112 [.inr (5, [.ref 1, .ref 3, .ref 112, .int (nI o1)])]))) (rt 270 (R (d' + 4 * e + 9) 270 (14, [some (.ref 0), some (.int (nI (k1 - 1)))], [], sl', RH J1 w1 B1 M))) := by
    intro q
    induction q with
    | zero =>
      intro d d' sl sl' u o k I A V J B i o1 k1 I1 A1 V1 lt1 tw1 J1 w1 B1 hq hi hu hB hH hb0 hG
      have := hG.1.2.1
      omega
    | succ q ih =>
      intro d d' sl sl' u o k I A V J B i o1 k1 I1 A1 V1 lt1 tw1 J1 w1 B1 hq hi hu hB hH hb0 hG
      obtain ⟨⟨⟨κ, v, s, hT⟩, g12, g13, g14, g15, g16, g17⟩, g2, g3, g4, ⟨f, g5⟩, g6, g7, g8⟩ := hG
      have c7 := c177 (d' + 4 * e + 6) sl' J1 w1 B1 M (k := 10) (by decide) hT
      have hi20 : ¬ 20 ≤ i := by omega
      by_cases hw : κ = 2 ∧ v = 10
      · rw [decide_eq_true hw] at c7
        obtain ⟨rfl, rfl⟩ := hw
        obtain ⟨-, ht, -⟩ := Tk_word hT
        subst ht
        obtain ⟨I2, lt2, tw2, J2, w2, x1, x2, ⟨x31, ⟨κ', v', s', x32⟩, x33, x34⟩, x4, x5⟩ := gd_adv (d + 4 * e + 5) (d' + 4 * e + 7) sl sl' I1 A1 N V1 lt1 (some (1000000 + 10)) 108 112 [.inr (5, [.ref 1, .ref 3, .ref 112, .int (nI o1)])] J1 w1 B1 M hB hL rfl hT (by decide)
        have hS2 : Sx 112 t L o1 k1 u I2 lt2 tw2 J2 w2 := ⟨⟨κ', v', s', Tk_c x32 (by omega) (fun _ _ => rfl) (fun _ _ => rfl)⟩, g12, g13, by rw [x31 112 (by decide)]; exact g14, by rw [x5 40 (by decide)]; exact g15, by rw [x5 41 (by decide)]; exact g16, by rw [x5 42 (by decide)]; exact g17⟩
        have hF2 : Fx 112 k1 I1 A1 V1 J1 B1 I2 A1 V1 J2 B1 := Fx_j x31 (fun j hj => x5 j (by omega))
        rcases hP d d' sl sl' I2 A1 V1 lt2 tw2 J2 w2 B1 o1 k1 u hu hB (by rw [x31 3 (by decide)]; exact hH) hb0 hS2 with ⟨o3, k3, I3, A3, V3, lt3, tw3, J3, w3, B3, y1, y2, ⟨⟨z1, z2, z3, z4, z5, z6, z7⟩, y32, y33, y34, ⟨f3, y35⟩, y36, y37, y38⟩, y4⟩ | ⟨o3, I3, A3, V3, lt3, tw3, J3, w3, B3, y1, y2, y3, y4⟩
        · obtain ⟨I4, A4, V4, J4, B4, a1, a2, a3, a4, a5, a6, a7, a8, a9, a10, a11, a12, a13, a14⟩ := add_112 (d + 4 * e + 6) (d' + 4 * e + 8) sl sl' I3 A3 N V3 lt3 tw3 108 112 [.inr (5, [.ref 1, .ref 3, .ref 112, .int (nI o3)])] J3 w3 B3 M rfl (k := k3) (by omega) z4 z5 1000010 (by decide) (nI 0) (nI 0) (nI 2) (nI (k1 - 1)) (nI (k3 - 1)) (nI 0)
          have hF3 : Fx 112 k1 I1 A1 V1 J1 B1 I3 A3 V3 J3 B3 := Fx_t hF2 y38 (Nat.le_refl _)
          have hF4 : Fx 112 k1 I1 A1 V1 J1 B1 I4 A4 V4 J4 B4 := Fx_t hF3 a3 (by omega)
          have hc : rt 38 (R (d + 4 * e + 7) 38 (12, [some (.ref 146), some (.int (nI (u + 1))), some (.int (nI i))], [], sl, CH I1 A1 N V1 lt1 (some (1000000 + 10)) 108 112 [.inr (5, [.ref 1, .ref 3, .ref 112, .int (nI o1)])])) = rt 38 (R (d + 4 * e + 7) 38 (12, [some (.ref 146), some (.int (nI (u + 1))), some (.int (nI (i + 1)))], [], sl, CH I4 A4 N V4 lt3 tw3 108 112 [.inr (5, [.ref 1, .ref 3, .ref 112, .int (nI o3)])])) := by
            rw [k38_r146_v0_12_1]
            simp (disch := omega) only [rt_c, b_some, List.cons_append, List.nil_append, Bool.cond_not, cond_true, cond_false, Bool.cond_decide, nI_add, nI_clamp, xin_n, dle_e, dlt_e, deq_e, xb_0, xb_1, decide_true, decide_false, Bool.not_true, Bool.not_false, Bool.and_true, Bool.true_and, Bool.and_false, Bool.false_and, Bool.true_or, Bool.false_or, Bool.or_true, Bool.or_false, if_true, if_false, up1_s, n_31, Int32.lt_irrefl, hi20]
            rw [k38_r146_v0_28 _ _ _ _ _ _ _ _ _ _ _ _ (isw_n (k := 10) (by decide)), show Nat.beq (1000000 + 10) 1000010 = true from rfl]
            simp (disch := omega) only [rt_c, b_some, List.cons_append, List.nil_append, Bool.cond_not, cond_true, cond_false, Bool.cond_decide, nI_add, nI_clamp, xin_n, dle_e, dlt_e, deq_e, xb_0, xb_1, decide_true, decide_false, Bool.not_true, Bool.not_false, Bool.and_true, Bool.true_and, Bool.and_false, Bool.false_and, Bool.true_or, Bool.false_or, Bool.or_true, Bool.or_false, if_true, if_false, up1_s, n_31, Int32.lt_irrefl, k38_r146_v0_31, x1, k38_r146_v0_38, y1, k38_r146_v0_43, xb_t, Nat.one_ne_zero, a1, k38_r146_v0_60]
          have hr : rt 270 (R (d' + 4 * e + 9) 270 (14, [some (.ref 0), some (.int (nI (k1 - 1)))], [], sl', RH J1 w1 B1 M)) = rt 270 (R (d' + 4 * e + 9) 270 (14, [some (.ref 0), some (.int (nI k3))], [], sl', RH J4 w3 B4 M)) := by
            rw [m270_14]
            simp (disch := omega) only [rt_c, b_some, List.cons_append, List.nil_append, Bool.cond_not, cond_true, cond_false, Bool.cond_decide, nI_add, nI_clamp, xin_n, dle_e, dlt_e, deq_e, xb_0, xb_1, decide_true, decide_false, Bool.not_true, Bool.not_false, Bool.and_true, Bool.true_and, Bool.and_false, Bool.false_and, Bool.true_or, Bool.false_or, Bool.or_true, Bool.or_false, if_true, if_false, up1_s, n_31, Int32.lt_irrefl, c7, m270_20, xb_t, Nat.one_ne_zero, x2, m270_27, y2, m270_31, y4, a2, m270_47]
          rw [hc, hr]
          have := ih d d' sl sl' u o k I A V J B (i + 1) o3 (k3 + 1) I4 A4 V4 lt3 tw3 J4 w3 B4 (by omega) (by omega) hu (Fx_Bt hF4 (by decide) hB) (by rw [hF4.1 3 (by decide) (by decide)]; exact hH) (by rw [hF4.2.2.2.2.2.1 2 (by decide)]; exact hb0) ⟨⟨?_, z2, by omega, a7, a6, by rw [a5 41 (by decide)]; exact z6, by rw [a5 42 (by decide)]; exact z7⟩, by omega, by omega, by omega, ⟨f + f3 + 1, ?_⟩, ?_, ?_, Fx_t g8 hF4 (by omega)⟩
          · exact this
          · obtain ⟨κ3, v3, s3, z1⟩ := z1
            exact ⟨κ3, v3, s3, Tk_c z1 (Nat.le_refl _) (fun j _ => by rw [a4 1 (by decide)]) (fun j hj => a5 j (by omega))⟩
          · refine Or.inr (Or.inr (Or.inl ⟨k1 - 1, k3 - 1, by omega, ?_, ?_, ?_, ?_, ?_, ?_⟩))
            · rw [show k3 + 1 - 1 = k3 by omega]; exact a11
            · rw [show k3 + 1 - 1 = k3 by omega]; exact a12
            · rw [show k3 + 1 - 1 = k3 by omega]; exact a13
            · rw [show k3 + 1 - 1 = k3 by omega]; exact a8
            · refine Cm_f f _ _ _ (by omega) (Cm_x f k (k1 - 1) g5 (fun j j1 j2 => ?_))
              obtain ⟨p1, p2, p3⟩ := hF4.2.2.2.1 j (by omega)
              have p4 := hF4.2.2.2.2.1
              exact ⟨p1, p2, p3, by rw [nd_0, nd_0]; exact p4 _ (by omega), by rw [nd_1, nd_1]; exact p4 _ (by omega), by rw [nd_2, nd_2]; exact p4 _ (by omega), by rw [nd_3, nd_3]; exact p4 _ (by omega)⟩
            · rw [show k1 - 1 + 1 = k1 by omega]
              refine Cm_f f3 _ _ _ (by omega) (Cm_x f3 k1 (k3 - 1) y35 (fun j j1 j2 => ?_))
              obtain ⟨p1, p2, p3⟩ := a3.2.2.2.1 j (by omega)
              have p4 := a3.2.2.2.2.1
              exact ⟨p1, p2, p3, by rw [nd_0, nd_0]; exact p4 _ (by omega), by rw [nd_1, nd_1]; exact p4 _ (by omega), by rw [nd_2, nd_2]; exact p4 _ (by omega), by rw [nd_3, nd_3]; exact p4 _ (by omega)⟩
          · rw [a4 1 (by decide), y36, x33]; exact g6
          · rw [a5 10 (by decide), y37, x5 10 (by decide)]; exact g7
        · refine Or.inr ⟨o3, I3, A3, V3, lt3, tw3, J3, w3, B3, ?_, ?_, y3, Fx_t g8 (Fx_t hF2 y4 (Nat.le_refl _)) (by omega)⟩
          · rw [k38_r146_v0_12_1]
            simp (disch := omega) only [rt_c, b_some, List.cons_append, List.nil_append, Bool.cond_not, cond_true, cond_false, Bool.cond_decide, nI_add, nI_clamp, xin_n, dle_e, dlt_e, deq_e, xb_0, xb_1, decide_true, decide_false, Bool.not_true, Bool.not_false, Bool.and_true, Bool.true_and, Bool.and_false, Bool.false_and, Bool.true_or, Bool.false_or, Bool.or_true, Bool.or_false, if_true, if_false, up1_s, n_31, Int32.lt_irrefl, hi20]
            rw [k38_r146_v0_28 _ _ _ _ _ _ _ _ _ _ _ _ (isw_n (k := 10) (by decide)), show Nat.beq (1000000 + 10) 1000010 = true from rfl]
            simp (disch := omega) only [rt_c, b_some, List.cons_append, List.nil_append, Bool.cond_not, cond_true, cond_false, Bool.cond_decide, nI_add, nI_clamp, xin_n, dle_e, dlt_e, deq_e, xb_0, xb_1, decide_true, decide_false, Bool.not_true, Bool.not_false, Bool.and_true, Bool.true_and, Bool.and_false, Bool.false_and, Bool.true_or, Bool.false_or, Bool.or_true, Bool.or_false, if_true, if_false, up1_s, n_31, Int32.lt_irrefl, k38_r146_v0_31, x1, k38_r146_v0_38, y1, k38_r146_v0_43, xb_f, t38_9, t38_9_0, t38_9_1, t38_47, t38_47_0, t38_47_1, t38_67, t38_67_0, t38_67_1]
          · rw [m270_14]
            simp (disch := omega) only [rt_c, b_some, List.cons_append, List.nil_append, Bool.cond_not, cond_true, cond_false, Bool.cond_decide, nI_add, nI_clamp, xin_n, dle_e, dlt_e, deq_e, xb_0, xb_1, decide_true, decide_false, Bool.not_true, Bool.not_false, Bool.and_true, Bool.true_and, Bool.and_false, Bool.false_and, Bool.true_or, Bool.false_or, Bool.or_true, Bool.or_false, if_true, if_false, up1_s, n_31, Int32.lt_irrefl, c7, m270_20, xb_t, Nat.one_ne_zero, x2, m270_27, y2, m270_31, xb_f, t270_8, t270_8_0, t270_8_1, t270_35, t270_35_0, t270_35_1, t270_57, t270_57_0, t270_57_1]
      · rw [decide_eq_false hw] at c7
        refine Or.inl ⟨o1, k1, I1, A1, V1, lt1, tw1, up1 J1 43 (nI (k1 - 1)), w1, B1, ?_, ?_, ⟨⟨⟨κ, v, s, Tk_c hT (Nat.le_refl _) (fun _ _ => rfl) (fun j hj => up1_n (by omega))⟩, g12, g13, g14, by rw [up1_n (by decide)]; exact g15, by rw [up1_n (by decide)]; exact g16, by rw [up1_n (by decide)]; exact g17⟩, g2, g3, g4, ⟨f, g5⟩, g6, by rw [up1_n (by decide)]; exact g7, Fx_t g8 (Fx_j (k := k) (fun _ _ => rfl) (fun j hj => up1_n (by omega))) (Nat.le_refl _)⟩, up1_s⟩
        · by_cases hk : κ = 2
          · subst hk
            obtain ⟨v20, ht, -⟩ := Tk_word hT
            subst ht
            have hv : v ≠ 10 := fun h => hw ⟨rfl, h⟩
            rw [k38_r146_v0_12_1]
            simp (disch := omega) only [rt_c, b_some, List.cons_append, List.nil_append, Bool.cond_not, cond_true, cond_false, Bool.cond_decide, nI_add, nI_clamp, xin_n, dle_e, dlt_e, deq_e, xb_0, xb_1, decide_true, decide_false, Bool.not_true, Bool.not_false, Bool.and_true, Bool.true_and, Bool.and_false, Bool.false_and, Bool.true_or, Bool.false_or, Bool.or_true, Bool.or_false, if_true, if_false, up1_s, n_31, Int32.lt_irrefl, hi20]
            rw [k38_r146_v0_28 _ _ _ _ _ _ _ _ _ _ _ _ (isw_n v20), show Nat.beq (1000000 + v) 1000010 = false from nbeq (k := 10) hv]
            simp (disch := omega) only [rt_c, b_some, List.cons_append, List.nil_append, Bool.cond_not, cond_true, cond_false, Bool.cond_decide, nI_add, nI_clamp, xin_n, dle_e, dlt_e, deq_e, xb_0, xb_1, decide_true, decide_false, Bool.not_true, Bool.not_false, Bool.and_true, Bool.true_and, Bool.and_false, Bool.false_and, Bool.true_or, Bool.false_or, Bool.or_true, Bool.or_false, if_true, if_false, up1_s, n_31, Int32.lt_irrefl, k38_r146_v0_66, t38_9, t38_9_0, t38_9_1, t38_47, t38_47_0, t38_47_1, t38_67, t38_67_0, t38_67_1]
          · have ht := Tk_nw hT hk
            subst ht
            rw [k38_r146_v0_12]
            simp (disch := omega) only [rt_c, b_some, List.cons_append, List.nil_append, Bool.cond_not, cond_true, cond_false, Bool.cond_decide, nI_add, nI_clamp, xin_n, dle_e, dlt_e, deq_e, xb_0, xb_1, decide_true, decide_false, Bool.not_true, Bool.not_false, Bool.and_true, Bool.true_and, Bool.and_false, Bool.false_and, Bool.true_or, Bool.false_or, Bool.or_true, Bool.or_false, if_true, if_false, up1_s, n_31, Int32.lt_irrefl, hi20, t38_9, t38_9_0, t38_9_1, t38_47, t38_47_0, t38_47_1, t38_67, t38_67_0, t38_67_1]
        · rw [m270_14]
          simp (disch := omega) only [rt_c, b_some, List.cons_append, List.nil_append, Bool.cond_not, cond_true, cond_false, Bool.cond_decide, nI_add, nI_clamp, xin_n, dle_e, dlt_e, deq_e, xb_0, xb_1, decide_true, decide_false, Bool.not_true, Bool.not_false, Bool.and_true, Bool.true_and, Bool.and_false, Bool.false_and, Bool.true_or, Bool.false_or, Bool.or_true, Bool.or_false, if_true, if_false, up1_s, n_31, Int32.lt_irrefl, c7, m270_20, xb_f, t270_8, t270_8_0, t270_8_1, t270_35, t270_35_0, t270_35_1, t270_57, t270_57_0, t270_57_1]
  intro d d' sl sl' I A V lt tw J w B o k u hu hB hH hb0 hS
  rcases hP d d' sl sl' I A V lt tw J w B o k u hu hB hH hb0 hS with ⟨o3, k3, I3, A3, V3, lt3, tw3, J3, w3, B3, y1, y2, y3, y4⟩ | ⟨o3, I3, A3, V3, lt3, tw3, J3, w3, B3, y1, y2, y3⟩
  · have hc : C (d + 4 * e + 7) 38 [.ref 146, .int (nI (u + 1))] sl (CH I A N V lt tw 108 112 [.inr (5, [.ref 1, .ref 3, .ref 112, .int (nI o)])]) = rt 38 (R (d + 4 * e + 7) 38 (12, [some (.ref 146), some (.int (nI (u + 1))), some (.int (nI 0))], [], sl, CH I3 A3 N V3 lt3 tw3 108 112 [.inr (5, [.ref 1, .ref 3, .ref 112, .int (nI o3)])])) := by
      rw [e38, k38_r146_v0_0]
      simp (disch := omega) only [rt_c, b_some, List.cons_append, List.nil_append, Bool.cond_not, cond_true, cond_false, Bool.cond_decide, nI_add, nI_clamp, xin_n, dle_e, dlt_e, deq_e, xb_0, xb_1, decide_true, decide_false, Bool.not_true, Bool.not_false, Bool.and_true, Bool.true_and, Bool.and_false, Bool.false_and, Bool.true_or, Bool.false_or, Bool.or_true, Bool.or_false, if_true, if_false, up1_s, n_31, Int32.lt_irrefl, y1, k38_r146_v0_5, xb_t, Nat.one_ne_zero]
    have hr : C (d' + 4 * e + 9) 270 [.ref 0] sl' (RH J w B M) = rt 270 (R (d' + 4 * e + 9) 270 (14, [some (.ref 0), some (.int (nI (k3 - 1)))], [], sl', RH J3 w3 B3 M)) := by
      rw [e270, m270_0]
      simp (disch := omega) only [rt_c, b_some, List.cons_append, List.nil_append, Bool.cond_not, cond_true, cond_false, Bool.cond_decide, nI_add, nI_clamp, xin_n, dle_e, dlt_e, deq_e, xb_0, xb_1, decide_true, decide_false, Bool.not_true, Bool.not_false, Bool.and_true, Bool.true_and, Bool.and_false, Bool.false_and, Bool.true_or, Bool.false_or, Bool.or_true, Bool.or_false, if_true, if_false, up1_s, n_31, Int32.lt_irrefl, y2, m270_4, xb_t, Nat.one_ne_zero, y4]
    rw [hc, hr]
    have hF := y3.2.2.2.2.2.2.2
    exact key 21 d d' sl sl' u o k I A V J B 0 o3 k3 I3 A3 V3 lt3 tw3 J3 w3 B3 (by omega) (by have := y3.2.1; omega) hu (Fx_Bt hF (by decide) hB) (by rw [hF.1 3 (by decide) (by decide)]; exact hH) (by rw [hF.2.2.2.2.2.1 2 (by decide)]; exact hb0) y3
  · refine Or.inr ⟨o3, I3, A3, V3, lt3, tw3, J3, w3, B3, ?_, ?_, y3⟩
    · rw [e38, k38_r146_v0_0]
      simp (disch := omega) only [rt_c, b_some, List.cons_append, List.nil_append, Bool.cond_not, cond_true, cond_false, Bool.cond_decide, nI_add, nI_clamp, xin_n, dle_e, dlt_e, deq_e, xb_0, xb_1, decide_true, decide_false, Bool.not_true, Bool.not_false, Bool.and_true, Bool.true_and, Bool.and_false, Bool.false_and, Bool.true_or, Bool.false_or, Bool.or_true, Bool.or_false, if_true, if_false, up1_s, n_31, Int32.lt_irrefl, y1, k38_r146_v0_5, xb_f, t38_9, t38_9_0, t38_9_1, t38_47, t38_47_0, t38_47_1, t38_67, t38_67_0, t38_67_1]
    · rw [e270, m270_0]
      simp (disch := omega) only [rt_c, b_some, List.cons_append, List.nil_append, Bool.cond_not, cond_true, cond_false, Bool.cond_decide, nI_add, nI_clamp, xin_n, dle_e, dlt_e, deq_e, xb_0, xb_1, decide_true, decide_false, Bool.not_true, Bool.not_false, Bool.and_true, Bool.true_and, Bool.and_false, Bool.false_and, Bool.true_or, Bool.false_or, Bool.or_true, Bool.or_false, if_true, if_false, up1_s, n_31, Int32.lt_irrefl, y2, m270_4, xb_f, t270_8, t270_8_0, t270_8_1, t270_35, t270_35_0, t270_35_1, t270_57, t270_57_0, t270_57_1]
theorem rl_38_108 {t L H : Nat} {b : Nat → Nat} {N M : Nat → Nat → Int64} (hL : L ≤ 940) {e : Nat} (hP : PO 108 112 t L H b N M 39 271 6 8 e) : PO 108 112 t L H b N M 38 270 7 9 e := by
  have key : ∀ (q d d' sl sl' u o k : Nat) (I A : Nat → Nat → Int32) (V : Nat → Nat → Option Nat) (J : Nat → Int32) (B : Nat → Nat → Int32) (i o1 k1 : Nat) (I1 A1 : Nat → Nat → Int32) (V1 : Nat → Nat → Option Nat) (lt1 : Int64) (tw1 : Option Nat) (J1 : Nat → Int32) (w1 : Int64) (B1 : Nat → Nat → Int32), 21 ≤ o1 + q → i < o1 → u + e = 8 → Bt t b A1 B1 → I1 3 8 = nI H → B1 2 0 = nI H → Gx 108 t L u o k I A V J B o1 k1 I1 A1 V1 lt1 tw1 J1 w1 B1 →
      Ex 108 112 t L u o k N M sl sl' I A V J B (rt 38 (R (d + 4 * e + 7) 38 (12, [some (.ref 146), some (.int (nI (u + 1))), some (.int (nI i))], [], sl, CH I1 A1 N V1 lt1 tw1 112 108 [.inr (5, [.ref 1, .ref 3, .ref 108, .int (nI o1)])]))) (rt 270 (R (d' + 4 * e + 9) 270 (14, [some (.ref 0), some (.int (nI (k1 - 1)))], [], sl', RH J1 w1 B1 M))) := by
    intro q
    induction q with
    | zero =>
      intro d d' sl sl' u o k I A V J B i o1 k1 I1 A1 V1 lt1 tw1 J1 w1 B1 hq hi hu hB hH hb0 hG
      have := hG.1.2.1
      omega
    | succ q ih =>
      intro d d' sl sl' u o k I A V J B i o1 k1 I1 A1 V1 lt1 tw1 J1 w1 B1 hq hi hu hB hH hb0 hG
      obtain ⟨⟨⟨κ, v, s, hT⟩, g12, g13, g14, g15, g16, g17⟩, g2, g3, g4, ⟨f, g5⟩, g6, g7, g8⟩ := hG
      have c7 := c177 (d' + 4 * e + 6) sl' J1 w1 B1 M (k := 10) (by decide) hT
      have hi20 : ¬ 20 ≤ i := by omega
      by_cases hw : κ = 2 ∧ v = 10
      · rw [decide_eq_true hw] at c7
        obtain ⟨rfl, rfl⟩ := hw
        obtain ⟨-, ht, -⟩ := Tk_word hT
        subst ht
        obtain ⟨I2, lt2, tw2, J2, w2, x1, x2, ⟨x31, ⟨κ', v', s', x32⟩, x33, x34⟩, x4, x5⟩ := gd_adv (d + 4 * e + 5) (d' + 4 * e + 7) sl sl' I1 A1 N V1 lt1 (some (1000000 + 10)) 112 108 [.inr (5, [.ref 1, .ref 3, .ref 108, .int (nI o1)])] J1 w1 B1 M hB hL rfl hT (by decide)
        have hS2 : Sx 108 t L o1 k1 u I2 lt2 tw2 J2 w2 := ⟨⟨κ', v', s', Tk_c x32 (by omega) (fun _ _ => rfl) (fun _ _ => rfl)⟩, g12, g13, by rw [x31 108 (by decide)]; exact g14, by rw [x5 40 (by decide)]; exact g15, by rw [x5 41 (by decide)]; exact g16, by rw [x5 42 (by decide)]; exact g17⟩
        have hF2 : Fx 108 k1 I1 A1 V1 J1 B1 I2 A1 V1 J2 B1 := Fx_j x31 (fun j hj => x5 j (by omega))
        rcases hP d d' sl sl' I2 A1 V1 lt2 tw2 J2 w2 B1 o1 k1 u hu hB (by rw [x31 3 (by decide)]; exact hH) hb0 hS2 with ⟨o3, k3, I3, A3, V3, lt3, tw3, J3, w3, B3, y1, y2, ⟨⟨z1, z2, z3, z4, z5, z6, z7⟩, y32, y33, y34, ⟨f3, y35⟩, y36, y37, y38⟩, y4⟩ | ⟨o3, I3, A3, V3, lt3, tw3, J3, w3, B3, y1, y2, y3, y4⟩
        · obtain ⟨I4, A4, V4, J4, B4, a1, a2, a3, a4, a5, a6, a7, a8, a9, a10, a11, a12, a13, a14⟩ := add_108 (d + 4 * e + 6) (d' + 4 * e + 8) sl sl' I3 A3 N V3 lt3 tw3 112 108 [.inr (5, [.ref 1, .ref 3, .ref 108, .int (nI o3)])] J3 w3 B3 M rfl (k := k3) (by omega) z4 z5 1000010 (by decide) (nI 0) (nI 0) (nI 2) (nI (k1 - 1)) (nI (k3 - 1)) (nI 0)
          have hF3 : Fx 108 k1 I1 A1 V1 J1 B1 I3 A3 V3 J3 B3 := Fx_t hF2 y38 (Nat.le_refl _)
          have hF4 : Fx 108 k1 I1 A1 V1 J1 B1 I4 A4 V4 J4 B4 := Fx_t hF3 a3 (by omega)
          have hc : rt 38 (R (d + 4 * e + 7) 38 (12, [some (.ref 146), some (.int (nI (u + 1))), some (.int (nI i))], [], sl, CH I1 A1 N V1 lt1 (some (1000000 + 10)) 112 108 [.inr (5, [.ref 1, .ref 3, .ref 108, .int (nI o1)])])) = rt 38 (R (d + 4 * e + 7) 38 (12, [some (.ref 146), some (.int (nI (u + 1))), some (.int (nI (i + 1)))], [], sl, CH I4 A4 N V4 lt3 tw3 112 108 [.inr (5, [.ref 1, .ref 3, .ref 108, .int (nI o3)])])) := by
            rw [k38_r146_v1_12_1]
            simp (disch := omega) only [rt_c, b_some, List.cons_append, List.nil_append, Bool.cond_not, cond_true, cond_false, Bool.cond_decide, nI_add, nI_clamp, xin_n, dle_e, dlt_e, deq_e, xb_0, xb_1, decide_true, decide_false, Bool.not_true, Bool.not_false, Bool.and_true, Bool.true_and, Bool.and_false, Bool.false_and, Bool.true_or, Bool.false_or, Bool.or_true, Bool.or_false, if_true, if_false, up1_s, n_31, Int32.lt_irrefl, hi20]
            rw [k38_r146_v1_28 _ _ _ _ _ _ _ _ _ _ _ _ (isw_n (k := 10) (by decide)), show Nat.beq (1000000 + 10) 1000010 = true from rfl]
            simp (disch := omega) only [rt_c, b_some, List.cons_append, List.nil_append, Bool.cond_not, cond_true, cond_false, Bool.cond_decide, nI_add, nI_clamp, xin_n, dle_e, dlt_e, deq_e, xb_0, xb_1, decide_true, decide_false, Bool.not_true, Bool.not_false, Bool.and_true, Bool.true_and, Bool.and_false, Bool.false_and, Bool.true_or, Bool.false_or, Bool.or_true, Bool.or_false, if_true, if_false, up1_s, n_31, Int32.lt_irrefl, k38_r146_v1_31, x1, k38_r146_v1_38, y1, k38_r146_v1_43, xb_t, Nat.one_ne_zero, a1, k38_r146_v1_60]
          have hr : rt 270 (R (d' + 4 * e + 9) 270 (14, [some (.ref 0), some (.int (nI (k1 - 1)))], [], sl', RH J1 w1 B1 M)) = rt 270 (R (d' + 4 * e + 9) 270 (14, [some (.ref 0), some (.int (nI k3))], [], sl', RH J4 w3 B4 M)) := by
            rw [m270_14]
            simp (disch := omega) only [rt_c, b_some, List.cons_append, List.nil_append, Bool.cond_not, cond_true, cond_false, Bool.cond_decide, nI_add, nI_clamp, xin_n, dle_e, dlt_e, deq_e, xb_0, xb_1, decide_true, decide_false, Bool.not_true, Bool.not_false, Bool.and_true, Bool.true_and, Bool.and_false, Bool.false_and, Bool.true_or, Bool.false_or, Bool.or_true, Bool.or_false, if_true, if_false, up1_s, n_31, Int32.lt_irrefl, c7, m270_20, xb_t, Nat.one_ne_zero, x2, m270_27, y2, m270_31, y4, a2, m270_47]
          rw [hc, hr]
          have := ih d d' sl sl' u o k I A V J B (i + 1) o3 (k3 + 1) I4 A4 V4 lt3 tw3 J4 w3 B4 (by omega) (by omega) hu (Fx_Bt hF4 (by decide) hB) (by rw [hF4.1 3 (by decide) (by decide)]; exact hH) (by rw [hF4.2.2.2.2.2.1 2 (by decide)]; exact hb0) ⟨⟨?_, z2, by omega, a7, a6, by rw [a5 41 (by decide)]; exact z6, by rw [a5 42 (by decide)]; exact z7⟩, by omega, by omega, by omega, ⟨f + f3 + 1, ?_⟩, ?_, ?_, Fx_t g8 hF4 (by omega)⟩
          · exact this
          · obtain ⟨κ3, v3, s3, z1⟩ := z1
            exact ⟨κ3, v3, s3, Tk_c z1 (Nat.le_refl _) (fun j _ => by rw [a4 1 (by decide)]) (fun j hj => a5 j (by omega))⟩
          · refine Or.inr (Or.inr (Or.inl ⟨k1 - 1, k3 - 1, by omega, ?_, ?_, ?_, ?_, ?_, ?_⟩))
            · rw [show k3 + 1 - 1 = k3 by omega]; exact a11
            · rw [show k3 + 1 - 1 = k3 by omega]; exact a12
            · rw [show k3 + 1 - 1 = k3 by omega]; exact a13
            · rw [show k3 + 1 - 1 = k3 by omega]; exact a8
            · refine Cm_f f _ _ _ (by omega) (Cm_x f k (k1 - 1) g5 (fun j j1 j2 => ?_))
              obtain ⟨p1, p2, p3⟩ := hF4.2.2.2.1 j (by omega)
              have p4 := hF4.2.2.2.2.1
              exact ⟨p1, p2, p3, by rw [nd_0, nd_0]; exact p4 _ (by omega), by rw [nd_1, nd_1]; exact p4 _ (by omega), by rw [nd_2, nd_2]; exact p4 _ (by omega), by rw [nd_3, nd_3]; exact p4 _ (by omega)⟩
            · rw [show k1 - 1 + 1 = k1 by omega]
              refine Cm_f f3 _ _ _ (by omega) (Cm_x f3 k1 (k3 - 1) y35 (fun j j1 j2 => ?_))
              obtain ⟨p1, p2, p3⟩ := a3.2.2.2.1 j (by omega)
              have p4 := a3.2.2.2.2.1
              exact ⟨p1, p2, p3, by rw [nd_0, nd_0]; exact p4 _ (by omega), by rw [nd_1, nd_1]; exact p4 _ (by omega), by rw [nd_2, nd_2]; exact p4 _ (by omega), by rw [nd_3, nd_3]; exact p4 _ (by omega)⟩
          · rw [a4 1 (by decide), y36, x33]; exact g6
          · rw [a5 10 (by decide), y37, x5 10 (by decide)]; exact g7
        · refine Or.inr ⟨o3, I3, A3, V3, lt3, tw3, J3, w3, B3, ?_, ?_, y3, Fx_t g8 (Fx_t hF2 y4 (Nat.le_refl _)) (by omega)⟩
          · rw [k38_r146_v1_12_1]
            simp (disch := omega) only [rt_c, b_some, List.cons_append, List.nil_append, Bool.cond_not, cond_true, cond_false, Bool.cond_decide, nI_add, nI_clamp, xin_n, dle_e, dlt_e, deq_e, xb_0, xb_1, decide_true, decide_false, Bool.not_true, Bool.not_false, Bool.and_true, Bool.true_and, Bool.and_false, Bool.false_and, Bool.true_or, Bool.false_or, Bool.or_true, Bool.or_false, if_true, if_false, up1_s, n_31, Int32.lt_irrefl, hi20]
            rw [k38_r146_v1_28 _ _ _ _ _ _ _ _ _ _ _ _ (isw_n (k := 10) (by decide)), show Nat.beq (1000000 + 10) 1000010 = true from rfl]
            simp (disch := omega) only [rt_c, b_some, List.cons_append, List.nil_append, Bool.cond_not, cond_true, cond_false, Bool.cond_decide, nI_add, nI_clamp, xin_n, dle_e, dlt_e, deq_e, xb_0, xb_1, decide_true, decide_false, Bool.not_true, Bool.not_false, Bool.and_true, Bool.true_and, Bool.and_false, Bool.false_and, Bool.true_or, Bool.false_or, Bool.or_true, Bool.or_false, if_true, if_false, up1_s, n_31, Int32.lt_irrefl, k38_r146_v1_31, x1, k38_r146_v1_38, y1, k38_r146_v1_43, xb_f, t38_9, t38_9_0, t38_9_1, t38_47, t38_47_0, t38_47_1, t38_67, t38_67_0, t38_67_1]
          · rw [m270_14]
            simp (disch := omega) only [rt_c, b_some, List.cons_append, List.nil_append, Bool.cond_not, cond_true, cond_false, Bool.cond_decide, nI_add, nI_clamp, xin_n, dle_e, dlt_e, deq_e, xb_0, xb_1, decide_true, decide_false, Bool.not_true, Bool.not_false, Bool.and_true, Bool.true_and, Bool.and_false, Bool.false_and, Bool.true_or, Bool.false_or, Bool.or_true, Bool.or_false, if_true, if_false, up1_s, n_31, Int32.lt_irrefl, c7, m270_20, xb_t, Nat.one_ne_zero, x2, m270_27, y2, m270_31, xb_f, t270_8, t270_8_0, t270_8_1, t270_35, t270_35_0, t270_35_1, t270_57, t270_57_0, t270_57_1]
      · rw [decide_eq_false hw] at c7
        refine Or.inl ⟨o1, k1, I1, A1, V1, lt1, tw1, up1 J1 43 (nI (k1 - 1)), w1, B1, ?_, ?_, ⟨⟨⟨κ, v, s, Tk_c hT (Nat.le_refl _) (fun _ _ => rfl) (fun j hj => up1_n (by omega))⟩, g12, g13, g14, by rw [up1_n (by decide)]; exact g15, by rw [up1_n (by decide)]; exact g16, by rw [up1_n (by decide)]; exact g17⟩, g2, g3, g4, ⟨f, g5⟩, g6, by rw [up1_n (by decide)]; exact g7, Fx_t g8 (Fx_j (k := k) (fun _ _ => rfl) (fun j hj => up1_n (by omega))) (Nat.le_refl _)⟩, up1_s⟩
        · by_cases hk : κ = 2
          · subst hk
            obtain ⟨v20, ht, -⟩ := Tk_word hT
            subst ht
            have hv : v ≠ 10 := fun h => hw ⟨rfl, h⟩
            rw [k38_r146_v1_12_1]
            simp (disch := omega) only [rt_c, b_some, List.cons_append, List.nil_append, Bool.cond_not, cond_true, cond_false, Bool.cond_decide, nI_add, nI_clamp, xin_n, dle_e, dlt_e, deq_e, xb_0, xb_1, decide_true, decide_false, Bool.not_true, Bool.not_false, Bool.and_true, Bool.true_and, Bool.and_false, Bool.false_and, Bool.true_or, Bool.false_or, Bool.or_true, Bool.or_false, if_true, if_false, up1_s, n_31, Int32.lt_irrefl, hi20]
            rw [k38_r146_v1_28 _ _ _ _ _ _ _ _ _ _ _ _ (isw_n v20), show Nat.beq (1000000 + v) 1000010 = false from nbeq (k := 10) hv]
            simp (disch := omega) only [rt_c, b_some, List.cons_append, List.nil_append, Bool.cond_not, cond_true, cond_false, Bool.cond_decide, nI_add, nI_clamp, xin_n, dle_e, dlt_e, deq_e, xb_0, xb_1, decide_true, decide_false, Bool.not_true, Bool.not_false, Bool.and_true, Bool.true_and, Bool.and_false, Bool.false_and, Bool.true_or, Bool.false_or, Bool.or_true, Bool.or_false, if_true, if_false, up1_s, n_31, Int32.lt_irrefl, k38_r146_v1_66, t38_9, t38_9_0, t38_9_1, t38_47, t38_47_0, t38_47_1, t38_67, t38_67_0, t38_67_1]
          · have ht := Tk_nw hT hk
            subst ht
            rw [k38_r146_v1_12]
            simp (disch := omega) only [rt_c, b_some, List.cons_append, List.nil_append, Bool.cond_not, cond_true, cond_false, Bool.cond_decide, nI_add, nI_clamp, xin_n, dle_e, dlt_e, deq_e, xb_0, xb_1, decide_true, decide_false, Bool.not_true, Bool.not_false, Bool.and_true, Bool.true_and, Bool.and_false, Bool.false_and, Bool.true_or, Bool.false_or, Bool.or_true, Bool.or_false, if_true, if_false, up1_s, n_31, Int32.lt_irrefl, hi20, t38_9, t38_9_0, t38_9_1, t38_47, t38_47_0, t38_47_1, t38_67, t38_67_0, t38_67_1]
        · rw [m270_14]
          simp (disch := omega) only [rt_c, b_some, List.cons_append, List.nil_append, Bool.cond_not, cond_true, cond_false, Bool.cond_decide, nI_add, nI_clamp, xin_n, dle_e, dlt_e, deq_e, xb_0, xb_1, decide_true, decide_false, Bool.not_true, Bool.not_false, Bool.and_true, Bool.true_and, Bool.and_false, Bool.false_and, Bool.true_or, Bool.false_or, Bool.or_true, Bool.or_false, if_true, if_false, up1_s, n_31, Int32.lt_irrefl, c7, m270_20, xb_f, t270_8, t270_8_0, t270_8_1, t270_35, t270_35_0, t270_35_1, t270_57, t270_57_0, t270_57_1]
  intro d d' sl sl' I A V lt tw J w B o k u hu hB hH hb0 hS
  rcases hP d d' sl sl' I A V lt tw J w B o k u hu hB hH hb0 hS with ⟨o3, k3, I3, A3, V3, lt3, tw3, J3, w3, B3, y1, y2, y3, y4⟩ | ⟨o3, I3, A3, V3, lt3, tw3, J3, w3, B3, y1, y2, y3⟩
  · have hc : C (d + 4 * e + 7) 38 [.ref 146, .int (nI (u + 1))] sl (CH I A N V lt tw 112 108 [.inr (5, [.ref 1, .ref 3, .ref 108, .int (nI o)])]) = rt 38 (R (d + 4 * e + 7) 38 (12, [some (.ref 146), some (.int (nI (u + 1))), some (.int (nI 0))], [], sl, CH I3 A3 N V3 lt3 tw3 112 108 [.inr (5, [.ref 1, .ref 3, .ref 108, .int (nI o3)])])) := by
      rw [e38, k38_r146_v1_0]
      simp (disch := omega) only [rt_c, b_some, List.cons_append, List.nil_append, Bool.cond_not, cond_true, cond_false, Bool.cond_decide, nI_add, nI_clamp, xin_n, dle_e, dlt_e, deq_e, xb_0, xb_1, decide_true, decide_false, Bool.not_true, Bool.not_false, Bool.and_true, Bool.true_and, Bool.and_false, Bool.false_and, Bool.true_or, Bool.false_or, Bool.or_true, Bool.or_false, if_true, if_false, up1_s, n_31, Int32.lt_irrefl, y1, k38_r146_v1_5, xb_t, Nat.one_ne_zero]
    have hr : C (d' + 4 * e + 9) 270 [.ref 0] sl' (RH J w B M) = rt 270 (R (d' + 4 * e + 9) 270 (14, [some (.ref 0), some (.int (nI (k3 - 1)))], [], sl', RH J3 w3 B3 M)) := by
      rw [e270, m270_0]
      simp (disch := omega) only [rt_c, b_some, List.cons_append, List.nil_append, Bool.cond_not, cond_true, cond_false, Bool.cond_decide, nI_add, nI_clamp, xin_n, dle_e, dlt_e, deq_e, xb_0, xb_1, decide_true, decide_false, Bool.not_true, Bool.not_false, Bool.and_true, Bool.true_and, Bool.and_false, Bool.false_and, Bool.true_or, Bool.false_or, Bool.or_true, Bool.or_false, if_true, if_false, up1_s, n_31, Int32.lt_irrefl, y2, m270_4, xb_t, Nat.one_ne_zero, y4]
    rw [hc, hr]
    have hF := y3.2.2.2.2.2.2.2
    exact key 21 d d' sl sl' u o k I A V J B 0 o3 k3 I3 A3 V3 lt3 tw3 J3 w3 B3 (by omega) (by have := y3.2.1; omega) hu (Fx_Bt hF (by decide) hB) (by rw [hF.1 3 (by decide) (by decide)]; exact hH) (by rw [hF.2.2.2.2.2.1 2 (by decide)]; exact hb0) y3
  · refine Or.inr ⟨o3, I3, A3, V3, lt3, tw3, J3, w3, B3, ?_, ?_, y3⟩
    · rw [e38, k38_r146_v1_0]
      simp (disch := omega) only [rt_c, b_some, List.cons_append, List.nil_append, Bool.cond_not, cond_true, cond_false, Bool.cond_decide, nI_add, nI_clamp, xin_n, dle_e, dlt_e, deq_e, xb_0, xb_1, decide_true, decide_false, Bool.not_true, Bool.not_false, Bool.and_true, Bool.true_and, Bool.and_false, Bool.false_and, Bool.true_or, Bool.false_or, Bool.or_true, Bool.or_false, if_true, if_false, up1_s, n_31, Int32.lt_irrefl, y1, k38_r146_v1_5, xb_f, t38_9, t38_9_0, t38_9_1, t38_47, t38_47_0, t38_47_1, t38_67, t38_67_0, t38_67_1]
    · rw [e270, m270_0]
      simp (disch := omega) only [rt_c, b_some, List.cons_append, List.nil_append, Bool.cond_not, cond_true, cond_false, Bool.cond_decide, nI_add, nI_clamp, xin_n, dle_e, dlt_e, deq_e, xb_0, xb_1, decide_true, decide_false, Bool.not_true, Bool.not_false, Bool.and_true, Bool.true_and, Bool.and_false, Bool.false_and, Bool.true_or, Bool.false_or, Bool.or_true, Bool.or_false, if_true, if_false, up1_s, n_31, Int32.lt_irrefl, y2, m270_4, xb_f, t270_8, t270_8_0, t270_8_1, t270_35, t270_35_0, t270_35_1, t270_57, t270_57_0, t270_57_1]
theorem rl_37_112 {t L H : Nat} {b : Nat → Nat} {N M : Nat → Nat → Int64} (hL : L ≤ 940) {e : Nat} (hP : PO 112 108 t L H b N M 38 270 7 9 e) : PO 112 108 t L H b N M 37 269 8 10 e := by
  have key : ∀ (q d d' sl sl' u o k : Nat) (I A : Nat → Nat → Int32) (V : Nat → Nat → Option Nat) (J : Nat → Int32) (B : Nat → Nat → Int32) (i o1 k1 : Nat) (I1 A1 : Nat → Nat → Int32) (V1 : Nat → Nat → Option Nat) (lt1 : Int64) (tw1 : Option Nat) (J1 : Nat → Int32) (w1 : Int64) (B1 : Nat → Nat → Int32), 21 ≤ o1 + q → i < o1 → u + e = 8 → Bt t b A1 B1 → I1 3 8 = nI H → B1 2 0 = nI H → Gx 112 t L u o k I A V J B o1 k1 I1 A1 V1 lt1 tw1 J1 w1 B1 →
      Ex 112 108 t L u o k N M sl sl' I A V J B (rt 37 (R (d + 4 * e + 8) 37 (12, [some (.ref 146), some (.int (nI (u + 1))), some (.int (nI i))], [], sl, CH I1 A1 N V1 lt1 tw1 108 112 [.inr (5, [.ref 1, .ref 3, .ref 112, .int (nI o1)])]))) (rt 269 (R (d' + 4 * e + 10) 269 (14, [some (.ref 0), some (.int (nI (k1 - 1)))], [], sl', RH J1 w1 B1 M))) := by
    intro q
    induction q with
    | zero =>
      intro d d' sl sl' u o k I A V J B i o1 k1 I1 A1 V1 lt1 tw1 J1 w1 B1 hq hi hu hB hH hb0 hG
      have := hG.1.2.1
      omega
    | succ q ih =>
      intro d d' sl sl' u o k I A V J B i o1 k1 I1 A1 V1 lt1 tw1 J1 w1 B1 hq hi hu hB hH hb0 hG
      obtain ⟨⟨⟨κ, v, s, hT⟩, g12, g13, g14, g15, g16, g17⟩, g2, g3, g4, ⟨f, g5⟩, g6, g7, g8⟩ := hG
      have c7 := c177 (d' + 4 * e + 7) sl' J1 w1 B1 M (k := 9) (by decide) hT
      have hi20 : ¬ 20 ≤ i := by omega
      by_cases hw : κ = 2 ∧ v = 9
      · rw [decide_eq_true hw] at c7
        obtain ⟨rfl, rfl⟩ := hw
        obtain ⟨-, ht, -⟩ := Tk_word hT
        subst ht
        obtain ⟨I2, lt2, tw2, J2, w2, x1, x2, ⟨x31, ⟨κ', v', s', x32⟩, x33, x34⟩, x4, x5⟩ := gd_adv (d + 4 * e + 6) (d' + 4 * e + 8) sl sl' I1 A1 N V1 lt1 (some (1000000 + 9)) 108 112 [.inr (5, [.ref 1, .ref 3, .ref 112, .int (nI o1)])] J1 w1 B1 M hB hL rfl hT (by decide)
        have hS2 : Sx 112 t L o1 k1 u I2 lt2 tw2 J2 w2 := ⟨⟨κ', v', s', Tk_c x32 (by omega) (fun _ _ => rfl) (fun _ _ => rfl)⟩, g12, g13, by rw [x31 112 (by decide)]; exact g14, by rw [x5 40 (by decide)]; exact g15, by rw [x5 41 (by decide)]; exact g16, by rw [x5 42 (by decide)]; exact g17⟩
        have hF2 : Fx 112 k1 I1 A1 V1 J1 B1 I2 A1 V1 J2 B1 := Fx_j x31 (fun j hj => x5 j (by omega))
        rcases hP d d' sl sl' I2 A1 V1 lt2 tw2 J2 w2 B1 o1 k1 u hu hB (by rw [x31 3 (by decide)]; exact hH) hb0 hS2 with ⟨o3, k3, I3, A3, V3, lt3, tw3, J3, w3, B3, y1, y2, ⟨⟨z1, z2, z3, z4, z5, z6, z7⟩, y32, y33, y34, ⟨f3, y35⟩, y36, y37, y38⟩, y4⟩ | ⟨o3, I3, A3, V3, lt3, tw3, J3, w3, B3, y1, y2, y3, y4⟩
        · obtain ⟨I4, A4, V4, J4, B4, a1, a2, a3, a4, a5, a6, a7, a8, a9, a10, a11, a12, a13, a14⟩ := add_112 (d + 4 * e + 7) (d' + 4 * e + 9) sl sl' I3 A3 N V3 lt3 tw3 108 112 [.inr (5, [.ref 1, .ref 3, .ref 112, .int (nI o3)])] J3 w3 B3 M rfl (k := k3) (by omega) z4 z5 1000009 (by decide) (nI 0) (nI 0) (nI 3) (nI (k1 - 1)) (nI (k3 - 1)) (nI 0)
          have hF3 : Fx 112 k1 I1 A1 V1 J1 B1 I3 A3 V3 J3 B3 := Fx_t hF2 y38 (Nat.le_refl _)
          have hF4 : Fx 112 k1 I1 A1 V1 J1 B1 I4 A4 V4 J4 B4 := Fx_t hF3 a3 (by omega)
          have hc : rt 37 (R (d + 4 * e + 8) 37 (12, [some (.ref 146), some (.int (nI (u + 1))), some (.int (nI i))], [], sl, CH I1 A1 N V1 lt1 (some (1000000 + 9)) 108 112 [.inr (5, [.ref 1, .ref 3, .ref 112, .int (nI o1)])])) = rt 37 (R (d + 4 * e + 8) 37 (12, [some (.ref 146), some (.int (nI (u + 1))), some (.int (nI (i + 1)))], [], sl, CH I4 A4 N V4 lt3 tw3 108 112 [.inr (5, [.ref 1, .ref 3, .ref 112, .int (nI o3)])])) := by
            rw [k37_r146_v0_12_1]
            simp (disch := omega) only [rt_c, b_some, List.cons_append, List.nil_append, Bool.cond_not, cond_true, cond_false, Bool.cond_decide, nI_add, nI_clamp, xin_n, dle_e, dlt_e, deq_e, xb_0, xb_1, decide_true, decide_false, Bool.not_true, Bool.not_false, Bool.and_true, Bool.true_and, Bool.and_false, Bool.false_and, Bool.true_or, Bool.false_or, Bool.or_true, Bool.or_false, if_true, if_false, up1_s, n_31, Int32.lt_irrefl, hi20]
            rw [k37_r146_v0_28 _ _ _ _ _ _ _ _ _ _ _ _ (isw_n (k := 9) (by decide)), show Nat.beq (1000000 + 9) 1000009 = true from rfl]
            simp (disch := omega) only [rt_c, b_some, List.cons_append, List.nil_append, Bool.cond_not, cond_true, cond_false, Bool.cond_decide, nI_add, nI_clamp, xin_n, dle_e, dlt_e, deq_e, xb_0, xb_1, decide_true, decide_false, Bool.not_true, Bool.not_false, Bool.and_true, Bool.true_and, Bool.and_false, Bool.false_and, Bool.true_or, Bool.false_or, Bool.or_true, Bool.or_false, if_true, if_false, up1_s, n_31, Int32.lt_irrefl, k37_r146_v0_31, x1, k37_r146_v0_38, y1, k37_r146_v0_43, xb_t, Nat.one_ne_zero, a1, k37_r146_v0_60]
          have hr : rt 269 (R (d' + 4 * e + 10) 269 (14, [some (.ref 0), some (.int (nI (k1 - 1)))], [], sl', RH J1 w1 B1 M)) = rt 269 (R (d' + 4 * e + 10) 269 (14, [some (.ref 0), some (.int (nI k3))], [], sl', RH J4 w3 B4 M)) := by
            rw [m269_14]
            simp (disch := omega) only [rt_c, b_some, List.cons_append, List.nil_append, Bool.cond_not, cond_true, cond_false, Bool.cond_decide, nI_add, nI_clamp, xin_n, dle_e, dlt_e, deq_e, xb_0, xb_1, decide_true, decide_false, Bool.not_true, Bool.not_false, Bool.and_true, Bool.true_and, Bool.and_false, Bool.false_and, Bool.true_or, Bool.false_or, Bool.or_true, Bool.or_false, if_true, if_false, up1_s, n_31, Int32.lt_irrefl, c7, m269_20, xb_t, Nat.one_ne_zero, x2, m269_27, y2, m269_31, y4, a2, m269_47]
          rw [hc, hr]
          have := ih d d' sl sl' u o k I A V J B (i + 1) o3 (k3 + 1) I4 A4 V4 lt3 tw3 J4 w3 B4 (by omega) (by omega) hu (Fx_Bt hF4 (by decide) hB) (by rw [hF4.1 3 (by decide) (by decide)]; exact hH) (by rw [hF4.2.2.2.2.2.1 2 (by decide)]; exact hb0) ⟨⟨?_, z2, by omega, a7, a6, by rw [a5 41 (by decide)]; exact z6, by rw [a5 42 (by decide)]; exact z7⟩, by omega, by omega, by omega, ⟨f + f3 + 1, ?_⟩, ?_, ?_, Fx_t g8 hF4 (by omega)⟩
          · exact this
          · obtain ⟨κ3, v3, s3, z1⟩ := z1
            exact ⟨κ3, v3, s3, Tk_c z1 (Nat.le_refl _) (fun j _ => by rw [a4 1 (by decide)]) (fun j hj => a5 j (by omega))⟩
          · refine Or.inr (Or.inr (Or.inr ⟨k1 - 1, k3 - 1, by omega, ?_, ?_, ?_, ?_, ?_, ?_⟩))
            · rw [show k3 + 1 - 1 = k3 by omega]; exact a11
            · rw [show k3 + 1 - 1 = k3 by omega]; exact a12
            · rw [show k3 + 1 - 1 = k3 by omega]; exact a13
            · rw [show k3 + 1 - 1 = k3 by omega]; exact a8
            · refine Cm_f f _ _ _ (by omega) (Cm_x f k (k1 - 1) g5 (fun j j1 j2 => ?_))
              obtain ⟨p1, p2, p3⟩ := hF4.2.2.2.1 j (by omega)
              have p4 := hF4.2.2.2.2.1
              exact ⟨p1, p2, p3, by rw [nd_0, nd_0]; exact p4 _ (by omega), by rw [nd_1, nd_1]; exact p4 _ (by omega), by rw [nd_2, nd_2]; exact p4 _ (by omega), by rw [nd_3, nd_3]; exact p4 _ (by omega)⟩
            · rw [show k1 - 1 + 1 = k1 by omega]
              refine Cm_f f3 _ _ _ (by omega) (Cm_x f3 k1 (k3 - 1) y35 (fun j j1 j2 => ?_))
              obtain ⟨p1, p2, p3⟩ := a3.2.2.2.1 j (by omega)
              have p4 := a3.2.2.2.2.1
              exact ⟨p1, p2, p3, by rw [nd_0, nd_0]; exact p4 _ (by omega), by rw [nd_1, nd_1]; exact p4 _ (by omega), by rw [nd_2, nd_2]; exact p4 _ (by omega), by rw [nd_3, nd_3]; exact p4 _ (by omega)⟩
          · rw [a4 1 (by decide), y36, x33]; exact g6
          · rw [a5 10 (by decide), y37, x5 10 (by decide)]; exact g7
        · refine Or.inr ⟨o3, I3, A3, V3, lt3, tw3, J3, w3, B3, ?_, ?_, y3, Fx_t g8 (Fx_t hF2 y4 (Nat.le_refl _)) (by omega)⟩
          · rw [k37_r146_v0_12_1]
            simp (disch := omega) only [rt_c, b_some, List.cons_append, List.nil_append, Bool.cond_not, cond_true, cond_false, Bool.cond_decide, nI_add, nI_clamp, xin_n, dle_e, dlt_e, deq_e, xb_0, xb_1, decide_true, decide_false, Bool.not_true, Bool.not_false, Bool.and_true, Bool.true_and, Bool.and_false, Bool.false_and, Bool.true_or, Bool.false_or, Bool.or_true, Bool.or_false, if_true, if_false, up1_s, n_31, Int32.lt_irrefl, hi20]
            rw [k37_r146_v0_28 _ _ _ _ _ _ _ _ _ _ _ _ (isw_n (k := 9) (by decide)), show Nat.beq (1000000 + 9) 1000009 = true from rfl]
            simp (disch := omega) only [rt_c, b_some, List.cons_append, List.nil_append, Bool.cond_not, cond_true, cond_false, Bool.cond_decide, nI_add, nI_clamp, xin_n, dle_e, dlt_e, deq_e, xb_0, xb_1, decide_true, decide_false, Bool.not_true, Bool.not_false, Bool.and_true, Bool.true_and, Bool.and_false, Bool.false_and, Bool.true_or, Bool.false_or, Bool.or_true, Bool.or_false, if_true, if_false, up1_s, n_31, Int32.lt_irrefl, k37_r146_v0_31, x1, k37_r146_v0_38, y1, k37_r146_v0_43, xb_f, t37_9, t37_9_0, t37_9_1, t37_47, t37_47_0, t37_47_1, t37_67, t37_67_0, t37_67_1]
          · rw [m269_14]
            simp (disch := omega) only [rt_c, b_some, List.cons_append, List.nil_append, Bool.cond_not, cond_true, cond_false, Bool.cond_decide, nI_add, nI_clamp, xin_n, dle_e, dlt_e, deq_e, xb_0, xb_1, decide_true, decide_false, Bool.not_true, Bool.not_false, Bool.and_true, Bool.true_and, Bool.and_false, Bool.false_and, Bool.true_or, Bool.false_or, Bool.or_true, Bool.or_false, if_true, if_false, up1_s, n_31, Int32.lt_irrefl, c7, m269_20, xb_t, Nat.one_ne_zero, x2, m269_27, y2, m269_31, xb_f, t269_8, t269_8_0, t269_8_1, t269_35, t269_35_0, t269_35_1, t269_57, t269_57_0, t269_57_1]
      · rw [decide_eq_false hw] at c7
        refine Or.inl ⟨o1, k1, I1, A1, V1, lt1, tw1, up1 J1 43 (nI (k1 - 1)), w1, B1, ?_, ?_, ⟨⟨⟨κ, v, s, Tk_c hT (Nat.le_refl _) (fun _ _ => rfl) (fun j hj => up1_n (by omega))⟩, g12, g13, g14, by rw [up1_n (by decide)]; exact g15, by rw [up1_n (by decide)]; exact g16, by rw [up1_n (by decide)]; exact g17⟩, g2, g3, g4, ⟨f, g5⟩, g6, by rw [up1_n (by decide)]; exact g7, Fx_t g8 (Fx_j (k := k) (fun _ _ => rfl) (fun j hj => up1_n (by omega))) (Nat.le_refl _)⟩, up1_s⟩
        · by_cases hk : κ = 2
          · subst hk
            obtain ⟨v20, ht, -⟩ := Tk_word hT
            subst ht
            have hv : v ≠ 9 := fun h => hw ⟨rfl, h⟩
            rw [k37_r146_v0_12_1]
            simp (disch := omega) only [rt_c, b_some, List.cons_append, List.nil_append, Bool.cond_not, cond_true, cond_false, Bool.cond_decide, nI_add, nI_clamp, xin_n, dle_e, dlt_e, deq_e, xb_0, xb_1, decide_true, decide_false, Bool.not_true, Bool.not_false, Bool.and_true, Bool.true_and, Bool.and_false, Bool.false_and, Bool.true_or, Bool.false_or, Bool.or_true, Bool.or_false, if_true, if_false, up1_s, n_31, Int32.lt_irrefl, hi20]
            rw [k37_r146_v0_28 _ _ _ _ _ _ _ _ _ _ _ _ (isw_n v20), show Nat.beq (1000000 + v) 1000009 = false from nbeq (k := 9) hv]
            simp (disch := omega) only [rt_c, b_some, List.cons_append, List.nil_append, Bool.cond_not, cond_true, cond_false, Bool.cond_decide, nI_add, nI_clamp, xin_n, dle_e, dlt_e, deq_e, xb_0, xb_1, decide_true, decide_false, Bool.not_true, Bool.not_false, Bool.and_true, Bool.true_and, Bool.and_false, Bool.false_and, Bool.true_or, Bool.false_or, Bool.or_true, Bool.or_false, if_true, if_false, up1_s, n_31, Int32.lt_irrefl, k37_r146_v0_66, t37_9, t37_9_0, t37_9_1, t37_47, t37_47_0, t37_47_1, t37_67, t37_67_0, t37_67_1]
          · have ht := Tk_nw hT hk
            subst ht
            rw [k37_r146_v0_12]
            simp (disch := omega) only [rt_c, b_some, List.cons_append, List.nil_append, Bool.cond_not, cond_true, cond_false, Bool.cond_decide, nI_add, nI_clamp, xin_n, dle_e, dlt_e, deq_e, xb_0, xb_1, decide_true, decide_false, Bool.not_true, Bool.not_false, Bool.and_true, Bool.true_and, Bool.and_false, Bool.false_and, Bool.true_or, Bool.false_or, Bool.or_true, Bool.or_false, if_true, if_false, up1_s, n_31, Int32.lt_irrefl, hi20, t37_9, t37_9_0, t37_9_1, t37_47, t37_47_0, t37_47_1, t37_67, t37_67_0, t37_67_1]
        · rw [m269_14]
          simp (disch := omega) only [rt_c, b_some, List.cons_append, List.nil_append, Bool.cond_not, cond_true, cond_false, Bool.cond_decide, nI_add, nI_clamp, xin_n, dle_e, dlt_e, deq_e, xb_0, xb_1, decide_true, decide_false, Bool.not_true, Bool.not_false, Bool.and_true, Bool.true_and, Bool.and_false, Bool.false_and, Bool.true_or, Bool.false_or, Bool.or_true, Bool.or_false, if_true, if_false, up1_s, n_31, Int32.lt_irrefl, c7, m269_20, xb_f, t269_8, t269_8_0, t269_8_1, t269_35, t269_35_0, t269_35_1, t269_57, t269_57_0, t269_57_1]
  intro d d' sl sl' I A V lt tw J w B o k u hu hB hH hb0 hS
  rcases hP d d' sl sl' I A V lt tw J w B o k u hu hB hH hb0 hS with ⟨o3, k3, I3, A3, V3, lt3, tw3, J3, w3, B3, y1, y2, y3, y4⟩ | ⟨o3, I3, A3, V3, lt3, tw3, J3, w3, B3, y1, y2, y3⟩
  · have hc : C (d + 4 * e + 8) 37 [.ref 146, .int (nI (u + 1))] sl (CH I A N V lt tw 108 112 [.inr (5, [.ref 1, .ref 3, .ref 112, .int (nI o)])]) = rt 37 (R (d + 4 * e + 8) 37 (12, [some (.ref 146), some (.int (nI (u + 1))), some (.int (nI 0))], [], sl, CH I3 A3 N V3 lt3 tw3 108 112 [.inr (5, [.ref 1, .ref 3, .ref 112, .int (nI o3)])])) := by
      rw [e37, k37_r146_v0_0]
      simp (disch := omega) only [rt_c, b_some, List.cons_append, List.nil_append, Bool.cond_not, cond_true, cond_false, Bool.cond_decide, nI_add, nI_clamp, xin_n, dle_e, dlt_e, deq_e, xb_0, xb_1, decide_true, decide_false, Bool.not_true, Bool.not_false, Bool.and_true, Bool.true_and, Bool.and_false, Bool.false_and, Bool.true_or, Bool.false_or, Bool.or_true, Bool.or_false, if_true, if_false, up1_s, n_31, Int32.lt_irrefl, y1, k37_r146_v0_5, xb_t, Nat.one_ne_zero]
    have hr : C (d' + 4 * e + 10) 269 [.ref 0] sl' (RH J w B M) = rt 269 (R (d' + 4 * e + 10) 269 (14, [some (.ref 0), some (.int (nI (k3 - 1)))], [], sl', RH J3 w3 B3 M)) := by
      rw [e269, m269_0]
      simp (disch := omega) only [rt_c, b_some, List.cons_append, List.nil_append, Bool.cond_not, cond_true, cond_false, Bool.cond_decide, nI_add, nI_clamp, xin_n, dle_e, dlt_e, deq_e, xb_0, xb_1, decide_true, decide_false, Bool.not_true, Bool.not_false, Bool.and_true, Bool.true_and, Bool.and_false, Bool.false_and, Bool.true_or, Bool.false_or, Bool.or_true, Bool.or_false, if_true, if_false, up1_s, n_31, Int32.lt_irrefl, y2, m269_4, xb_t, Nat.one_ne_zero, y4]
    rw [hc, hr]
    have hF := y3.2.2.2.2.2.2.2
    exact key 21 d d' sl sl' u o k I A V J B 0 o3 k3 I3 A3 V3 lt3 tw3 J3 w3 B3 (by omega) (by have := y3.2.1; omega) hu (Fx_Bt hF (by decide) hB) (by rw [hF.1 3 (by decide) (by decide)]; exact hH) (by rw [hF.2.2.2.2.2.1 2 (by decide)]; exact hb0) y3
  · refine Or.inr ⟨o3, I3, A3, V3, lt3, tw3, J3, w3, B3, ?_, ?_, y3⟩
    · rw [e37, k37_r146_v0_0]
      simp (disch := omega) only [rt_c, b_some, List.cons_append, List.nil_append, Bool.cond_not, cond_true, cond_false, Bool.cond_decide, nI_add, nI_clamp, xin_n, dle_e, dlt_e, deq_e, xb_0, xb_1, decide_true, decide_false, Bool.not_true, Bool.not_false, Bool.and_true, Bool.true_and, Bool.and_false, Bool.false_and, Bool.true_or, Bool.false_or, Bool.or_true, Bool.or_false, if_true, if_false, up1_s, n_31, Int32.lt_irrefl, y1, k37_r146_v0_5, xb_f, t37_9, t37_9_0, t37_9_1, t37_47, t37_47_0, t37_47_1, t37_67, t37_67_0, t37_67_1]
    · rw [e269, m269_0]
      simp (disch := omega) only [rt_c, b_some, List.cons_append, List.nil_append, Bool.cond_not, cond_true, cond_false, Bool.cond_decide, nI_add, nI_clamp, xin_n, dle_e, dlt_e, deq_e, xb_0, xb_1, decide_true, decide_false, Bool.not_true, Bool.not_false, Bool.and_true, Bool.true_and, Bool.and_false, Bool.false_and, Bool.true_or, Bool.false_or, Bool.or_true, Bool.or_false, if_true, if_false, up1_s, n_31, Int32.lt_irrefl, y2, m269_4, xb_f, t269_8, t269_8_0, t269_8_1, t269_35, t269_35_0, t269_35_1, t269_57, t269_57_0, t269_57_1]
theorem rl_37_108 {t L H : Nat} {b : Nat → Nat} {N M : Nat → Nat → Int64} (hL : L ≤ 940) {e : Nat} (hP : PO 108 112 t L H b N M 38 270 7 9 e) : PO 108 112 t L H b N M 37 269 8 10 e := by
  have key : ∀ (q d d' sl sl' u o k : Nat) (I A : Nat → Nat → Int32) (V : Nat → Nat → Option Nat) (J : Nat → Int32) (B : Nat → Nat → Int32) (i o1 k1 : Nat) (I1 A1 : Nat → Nat → Int32) (V1 : Nat → Nat → Option Nat) (lt1 : Int64) (tw1 : Option Nat) (J1 : Nat → Int32) (w1 : Int64) (B1 : Nat → Nat → Int32), 21 ≤ o1 + q → i < o1 → u + e = 8 → Bt t b A1 B1 → I1 3 8 = nI H → B1 2 0 = nI H → Gx 108 t L u o k I A V J B o1 k1 I1 A1 V1 lt1 tw1 J1 w1 B1 →
      Ex 108 112 t L u o k N M sl sl' I A V J B (rt 37 (R (d + 4 * e + 8) 37 (12, [some (.ref 146), some (.int (nI (u + 1))), some (.int (nI i))], [], sl, CH I1 A1 N V1 lt1 tw1 112 108 [.inr (5, [.ref 1, .ref 3, .ref 108, .int (nI o1)])]))) (rt 269 (R (d' + 4 * e + 10) 269 (14, [some (.ref 0), some (.int (nI (k1 - 1)))], [], sl', RH J1 w1 B1 M))) := by
    intro q
    induction q with
    | zero =>
      intro d d' sl sl' u o k I A V J B i o1 k1 I1 A1 V1 lt1 tw1 J1 w1 B1 hq hi hu hB hH hb0 hG
      have := hG.1.2.1
      omega
    | succ q ih =>
      intro d d' sl sl' u o k I A V J B i o1 k1 I1 A1 V1 lt1 tw1 J1 w1 B1 hq hi hu hB hH hb0 hG
      obtain ⟨⟨⟨κ, v, s, hT⟩, g12, g13, g14, g15, g16, g17⟩, g2, g3, g4, ⟨f, g5⟩, g6, g7, g8⟩ := hG
      have c7 := c177 (d' + 4 * e + 7) sl' J1 w1 B1 M (k := 9) (by decide) hT
      have hi20 : ¬ 20 ≤ i := by omega
      by_cases hw : κ = 2 ∧ v = 9
      · rw [decide_eq_true hw] at c7
        obtain ⟨rfl, rfl⟩ := hw
        obtain ⟨-, ht, -⟩ := Tk_word hT
        subst ht
        obtain ⟨I2, lt2, tw2, J2, w2, x1, x2, ⟨x31, ⟨κ', v', s', x32⟩, x33, x34⟩, x4, x5⟩ := gd_adv (d + 4 * e + 6) (d' + 4 * e + 8) sl sl' I1 A1 N V1 lt1 (some (1000000 + 9)) 112 108 [.inr (5, [.ref 1, .ref 3, .ref 108, .int (nI o1)])] J1 w1 B1 M hB hL rfl hT (by decide)
        have hS2 : Sx 108 t L o1 k1 u I2 lt2 tw2 J2 w2 := ⟨⟨κ', v', s', Tk_c x32 (by omega) (fun _ _ => rfl) (fun _ _ => rfl)⟩, g12, g13, by rw [x31 108 (by decide)]; exact g14, by rw [x5 40 (by decide)]; exact g15, by rw [x5 41 (by decide)]; exact g16, by rw [x5 42 (by decide)]; exact g17⟩
        have hF2 : Fx 108 k1 I1 A1 V1 J1 B1 I2 A1 V1 J2 B1 := Fx_j x31 (fun j hj => x5 j (by omega))
        rcases hP d d' sl sl' I2 A1 V1 lt2 tw2 J2 w2 B1 o1 k1 u hu hB (by rw [x31 3 (by decide)]; exact hH) hb0 hS2 with ⟨o3, k3, I3, A3, V3, lt3, tw3, J3, w3, B3, y1, y2, ⟨⟨z1, z2, z3, z4, z5, z6, z7⟩, y32, y33, y34, ⟨f3, y35⟩, y36, y37, y38⟩, y4⟩ | ⟨o3, I3, A3, V3, lt3, tw3, J3, w3, B3, y1, y2, y3, y4⟩
        · obtain ⟨I4, A4, V4, J4, B4, a1, a2, a3, a4, a5, a6, a7, a8, a9, a10, a11, a12, a13, a14⟩ := add_108 (d + 4 * e + 7) (d' + 4 * e + 9) sl sl' I3 A3 N V3 lt3 tw3 112 108 [.inr (5, [.ref 1, .ref 3, .ref 108, .int (nI o3)])] J3 w3 B3 M rfl (k := k3) (by omega) z4 z5 1000009 (by decide) (nI 0) (nI 0) (nI 3) (nI (k1 - 1)) (nI (k3 - 1)) (nI 0)
          have hF3 : Fx 108 k1 I1 A1 V1 J1 B1 I3 A3 V3 J3 B3 := Fx_t hF2 y38 (Nat.le_refl _)
          have hF4 : Fx 108 k1 I1 A1 V1 J1 B1 I4 A4 V4 J4 B4 := Fx_t hF3 a3 (by omega)
          have hc : rt 37 (R (d + 4 * e + 8) 37 (12, [some (.ref 146), some (.int (nI (u + 1))), some (.int (nI i))], [], sl, CH I1 A1 N V1 lt1 (some (1000000 + 9)) 112 108 [.inr (5, [.ref 1, .ref 3, .ref 108, .int (nI o1)])])) = rt 37 (R (d + 4 * e + 8) 37 (12, [some (.ref 146), some (.int (nI (u + 1))), some (.int (nI (i + 1)))], [], sl, CH I4 A4 N V4 lt3 tw3 112 108 [.inr (5, [.ref 1, .ref 3, .ref 108, .int (nI o3)])])) := by
            rw [k37_r146_v1_12_1]
            simp (disch := omega) only [rt_c, b_some, List.cons_append, List.nil_append, Bool.cond_not, cond_true, cond_false, Bool.cond_decide, nI_add, nI_clamp, xin_n, dle_e, dlt_e, deq_e, xb_0, xb_1, decide_true, decide_false, Bool.not_true, Bool.not_false, Bool.and_true, Bool.true_and, Bool.and_false, Bool.false_and, Bool.true_or, Bool.false_or, Bool.or_true, Bool.or_false, if_true, if_false, up1_s, n_31, Int32.lt_irrefl, hi20]
            rw [k37_r146_v1_28 _ _ _ _ _ _ _ _ _ _ _ _ (isw_n (k := 9) (by decide)), show Nat.beq (1000000 + 9) 1000009 = true from rfl]
            simp (disch := omega) only [rt_c, b_some, List.cons_append, List.nil_append, Bool.cond_not, cond_true, cond_false, Bool.cond_decide, nI_add, nI_clamp, xin_n, dle_e, dlt_e, deq_e, xb_0, xb_1, decide_true, decide_false, Bool.not_true, Bool.not_false, Bool.and_true, Bool.true_and, Bool.and_false, Bool.false_and, Bool.true_or, Bool.false_or, Bool.or_true, Bool.or_false, if_true, if_false, up1_s, n_31, Int32.lt_irrefl, k37_r146_v1_31, x1, k37_r146_v1_38, y1, k37_r146_v1_43, xb_t, Nat.one_ne_zero, a1, k37_r146_v1_60]
          have hr : rt 269 (R (d' + 4 * e + 10) 269 (14, [some (.ref 0), some (.int (nI (k1 - 1)))], [], sl', RH J1 w1 B1 M)) = rt 269 (R (d' + 4 * e + 10) 269 (14, [some (.ref 0), some (.int (nI k3))], [], sl', RH J4 w3 B4 M)) := by
            rw [m269_14]
            simp (disch := omega) only [rt_c, b_some, List.cons_append, List.nil_append, Bool.cond_not, cond_true, cond_false, Bool.cond_decide, nI_add, nI_clamp, xin_n, dle_e, dlt_e, deq_e, xb_0, xb_1, decide_true, decide_false, Bool.not_true, Bool.not_false, Bool.and_true, Bool.true_and, Bool.and_false, Bool.false_and, Bool.true_or, Bool.false_or, Bool.or_true, Bool.or_false, if_true, if_false, up1_s, n_31, Int32.lt_irrefl, c7, m269_20, xb_t, Nat.one_ne_zero, x2, m269_27, y2, m269_31, y4, a2, m269_47]
          rw [hc, hr]
          have := ih d d' sl sl' u o k I A V J B (i + 1) o3 (k3 + 1) I4 A4 V4 lt3 tw3 J4 w3 B4 (by omega) (by omega) hu (Fx_Bt hF4 (by decide) hB) (by rw [hF4.1 3 (by decide) (by decide)]; exact hH) (by rw [hF4.2.2.2.2.2.1 2 (by decide)]; exact hb0) ⟨⟨?_, z2, by omega, a7, a6, by rw [a5 41 (by decide)]; exact z6, by rw [a5 42 (by decide)]; exact z7⟩, by omega, by omega, by omega, ⟨f + f3 + 1, ?_⟩, ?_, ?_, Fx_t g8 hF4 (by omega)⟩
          · exact this
          · obtain ⟨κ3, v3, s3, z1⟩ := z1
            exact ⟨κ3, v3, s3, Tk_c z1 (Nat.le_refl _) (fun j _ => by rw [a4 1 (by decide)]) (fun j hj => a5 j (by omega))⟩
          · refine Or.inr (Or.inr (Or.inr ⟨k1 - 1, k3 - 1, by omega, ?_, ?_, ?_, ?_, ?_, ?_⟩))
            · rw [show k3 + 1 - 1 = k3 by omega]; exact a11
            · rw [show k3 + 1 - 1 = k3 by omega]; exact a12
            · rw [show k3 + 1 - 1 = k3 by omega]; exact a13
            · rw [show k3 + 1 - 1 = k3 by omega]; exact a8
            · refine Cm_f f _ _ _ (by omega) (Cm_x f k (k1 - 1) g5 (fun j j1 j2 => ?_))
              obtain ⟨p1, p2, p3⟩ := hF4.2.2.2.1 j (by omega)
              have p4 := hF4.2.2.2.2.1
              exact ⟨p1, p2, p3, by rw [nd_0, nd_0]; exact p4 _ (by omega), by rw [nd_1, nd_1]; exact p4 _ (by omega), by rw [nd_2, nd_2]; exact p4 _ (by omega), by rw [nd_3, nd_3]; exact p4 _ (by omega)⟩
            · rw [show k1 - 1 + 1 = k1 by omega]
              refine Cm_f f3 _ _ _ (by omega) (Cm_x f3 k1 (k3 - 1) y35 (fun j j1 j2 => ?_))
              obtain ⟨p1, p2, p3⟩ := a3.2.2.2.1 j (by omega)
              have p4 := a3.2.2.2.2.1
              exact ⟨p1, p2, p3, by rw [nd_0, nd_0]; exact p4 _ (by omega), by rw [nd_1, nd_1]; exact p4 _ (by omega), by rw [nd_2, nd_2]; exact p4 _ (by omega), by rw [nd_3, nd_3]; exact p4 _ (by omega)⟩
          · rw [a4 1 (by decide), y36, x33]; exact g6
          · rw [a5 10 (by decide), y37, x5 10 (by decide)]; exact g7
        · refine Or.inr ⟨o3, I3, A3, V3, lt3, tw3, J3, w3, B3, ?_, ?_, y3, Fx_t g8 (Fx_t hF2 y4 (Nat.le_refl _)) (by omega)⟩
          · rw [k37_r146_v1_12_1]
            simp (disch := omega) only [rt_c, b_some, List.cons_append, List.nil_append, Bool.cond_not, cond_true, cond_false, Bool.cond_decide, nI_add, nI_clamp, xin_n, dle_e, dlt_e, deq_e, xb_0, xb_1, decide_true, decide_false, Bool.not_true, Bool.not_false, Bool.and_true, Bool.true_and, Bool.and_false, Bool.false_and, Bool.true_or, Bool.false_or, Bool.or_true, Bool.or_false, if_true, if_false, up1_s, n_31, Int32.lt_irrefl, hi20]
            rw [k37_r146_v1_28 _ _ _ _ _ _ _ _ _ _ _ _ (isw_n (k := 9) (by decide)), show Nat.beq (1000000 + 9) 1000009 = true from rfl]
            simp (disch := omega) only [rt_c, b_some, List.cons_append, List.nil_append, Bool.cond_not, cond_true, cond_false, Bool.cond_decide, nI_add, nI_clamp, xin_n, dle_e, dlt_e, deq_e, xb_0, xb_1, decide_true, decide_false, Bool.not_true, Bool.not_false, Bool.and_true, Bool.true_and, Bool.and_false, Bool.false_and, Bool.true_or, Bool.false_or, Bool.or_true, Bool.or_false, if_true, if_false, up1_s, n_31, Int32.lt_irrefl, k37_r146_v1_31, x1, k37_r146_v1_38, y1, k37_r146_v1_43, xb_f, t37_9, t37_9_0, t37_9_1, t37_47, t37_47_0, t37_47_1, t37_67, t37_67_0, t37_67_1]
          · rw [m269_14]
            simp (disch := omega) only [rt_c, b_some, List.cons_append, List.nil_append, Bool.cond_not, cond_true, cond_false, Bool.cond_decide, nI_add, nI_clamp, xin_n, dle_e, dlt_e, deq_e, xb_0, xb_1, decide_true, decide_false, Bool.not_true, Bool.not_false, Bool.and_true, Bool.true_and, Bool.and_false, Bool.false_and, Bool.true_or, Bool.false_or, Bool.or_true, Bool.or_false, if_true, if_false, up1_s, n_31, Int32.lt_irrefl, c7, m269_20, xb_t, Nat.one_ne_zero, x2, m269_27, y2, m269_31, xb_f, t269_8, t269_8_0, t269_8_1, t269_35, t269_35_0, t269_35_1, t269_57, t269_57_0, t269_57_1]
      · rw [decide_eq_false hw] at c7
        refine Or.inl ⟨o1, k1, I1, A1, V1, lt1, tw1, up1 J1 43 (nI (k1 - 1)), w1, B1, ?_, ?_, ⟨⟨⟨κ, v, s, Tk_c hT (Nat.le_refl _) (fun _ _ => rfl) (fun j hj => up1_n (by omega))⟩, g12, g13, g14, by rw [up1_n (by decide)]; exact g15, by rw [up1_n (by decide)]; exact g16, by rw [up1_n (by decide)]; exact g17⟩, g2, g3, g4, ⟨f, g5⟩, g6, by rw [up1_n (by decide)]; exact g7, Fx_t g8 (Fx_j (k := k) (fun _ _ => rfl) (fun j hj => up1_n (by omega))) (Nat.le_refl _)⟩, up1_s⟩
        · by_cases hk : κ = 2
          · subst hk
            obtain ⟨v20, ht, -⟩ := Tk_word hT
            subst ht
            have hv : v ≠ 9 := fun h => hw ⟨rfl, h⟩
            rw [k37_r146_v1_12_1]
            simp (disch := omega) only [rt_c, b_some, List.cons_append, List.nil_append, Bool.cond_not, cond_true, cond_false, Bool.cond_decide, nI_add, nI_clamp, xin_n, dle_e, dlt_e, deq_e, xb_0, xb_1, decide_true, decide_false, Bool.not_true, Bool.not_false, Bool.and_true, Bool.true_and, Bool.and_false, Bool.false_and, Bool.true_or, Bool.false_or, Bool.or_true, Bool.or_false, if_true, if_false, up1_s, n_31, Int32.lt_irrefl, hi20]
            rw [k37_r146_v1_28 _ _ _ _ _ _ _ _ _ _ _ _ (isw_n v20), show Nat.beq (1000000 + v) 1000009 = false from nbeq (k := 9) hv]
            simp (disch := omega) only [rt_c, b_some, List.cons_append, List.nil_append, Bool.cond_not, cond_true, cond_false, Bool.cond_decide, nI_add, nI_clamp, xin_n, dle_e, dlt_e, deq_e, xb_0, xb_1, decide_true, decide_false, Bool.not_true, Bool.not_false, Bool.and_true, Bool.true_and, Bool.and_false, Bool.false_and, Bool.true_or, Bool.false_or, Bool.or_true, Bool.or_false, if_true, if_false, up1_s, n_31, Int32.lt_irrefl, k37_r146_v1_66, t37_9, t37_9_0, t37_9_1, t37_47, t37_47_0, t37_47_1, t37_67, t37_67_0, t37_67_1]
          · have ht := Tk_nw hT hk
            subst ht
            rw [k37_r146_v1_12]
            simp (disch := omega) only [rt_c, b_some, List.cons_append, List.nil_append, Bool.cond_not, cond_true, cond_false, Bool.cond_decide, nI_add, nI_clamp, xin_n, dle_e, dlt_e, deq_e, xb_0, xb_1, decide_true, decide_false, Bool.not_true, Bool.not_false, Bool.and_true, Bool.true_and, Bool.and_false, Bool.false_and, Bool.true_or, Bool.false_or, Bool.or_true, Bool.or_false, if_true, if_false, up1_s, n_31, Int32.lt_irrefl, hi20, t37_9, t37_9_0, t37_9_1, t37_47, t37_47_0, t37_47_1, t37_67, t37_67_0, t37_67_1]
        · rw [m269_14]
          simp (disch := omega) only [rt_c, b_some, List.cons_append, List.nil_append, Bool.cond_not, cond_true, cond_false, Bool.cond_decide, nI_add, nI_clamp, xin_n, dle_e, dlt_e, deq_e, xb_0, xb_1, decide_true, decide_false, Bool.not_true, Bool.not_false, Bool.and_true, Bool.true_and, Bool.and_false, Bool.false_and, Bool.true_or, Bool.false_or, Bool.or_true, Bool.or_false, if_true, if_false, up1_s, n_31, Int32.lt_irrefl, c7, m269_20, xb_f, t269_8, t269_8_0, t269_8_1, t269_35, t269_35_0, t269_35_1, t269_57, t269_57_0, t269_57_1]
  intro d d' sl sl' I A V lt tw J w B o k u hu hB hH hb0 hS
  rcases hP d d' sl sl' I A V lt tw J w B o k u hu hB hH hb0 hS with ⟨o3, k3, I3, A3, V3, lt3, tw3, J3, w3, B3, y1, y2, y3, y4⟩ | ⟨o3, I3, A3, V3, lt3, tw3, J3, w3, B3, y1, y2, y3⟩
  · have hc : C (d + 4 * e + 8) 37 [.ref 146, .int (nI (u + 1))] sl (CH I A N V lt tw 112 108 [.inr (5, [.ref 1, .ref 3, .ref 108, .int (nI o)])]) = rt 37 (R (d + 4 * e + 8) 37 (12, [some (.ref 146), some (.int (nI (u + 1))), some (.int (nI 0))], [], sl, CH I3 A3 N V3 lt3 tw3 112 108 [.inr (5, [.ref 1, .ref 3, .ref 108, .int (nI o3)])])) := by
      rw [e37, k37_r146_v1_0]
      simp (disch := omega) only [rt_c, b_some, List.cons_append, List.nil_append, Bool.cond_not, cond_true, cond_false, Bool.cond_decide, nI_add, nI_clamp, xin_n, dle_e, dlt_e, deq_e, xb_0, xb_1, decide_true, decide_false, Bool.not_true, Bool.not_false, Bool.and_true, Bool.true_and, Bool.and_false, Bool.false_and, Bool.true_or, Bool.false_or, Bool.or_true, Bool.or_false, if_true, if_false, up1_s, n_31, Int32.lt_irrefl, y1, k37_r146_v1_5, xb_t, Nat.one_ne_zero]
    have hr : C (d' + 4 * e + 10) 269 [.ref 0] sl' (RH J w B M) = rt 269 (R (d' + 4 * e + 10) 269 (14, [some (.ref 0), some (.int (nI (k3 - 1)))], [], sl', RH J3 w3 B3 M)) := by
      rw [e269, m269_0]
      simp (disch := omega) only [rt_c, b_some, List.cons_append, List.nil_append, Bool.cond_not, cond_true, cond_false, Bool.cond_decide, nI_add, nI_clamp, xin_n, dle_e, dlt_e, deq_e, xb_0, xb_1, decide_true, decide_false, Bool.not_true, Bool.not_false, Bool.and_true, Bool.true_and, Bool.and_false, Bool.false_and, Bool.true_or, Bool.false_or, Bool.or_true, Bool.or_false, if_true, if_false, up1_s, n_31, Int32.lt_irrefl, y2, m269_4, xb_t, Nat.one_ne_zero, y4]
    rw [hc, hr]
    have hF := y3.2.2.2.2.2.2.2
    exact key 21 d d' sl sl' u o k I A V J B 0 o3 k3 I3 A3 V3 lt3 tw3 J3 w3 B3 (by omega) (by have := y3.2.1; omega) hu (Fx_Bt hF (by decide) hB) (by rw [hF.1 3 (by decide) (by decide)]; exact hH) (by rw [hF.2.2.2.2.2.1 2 (by decide)]; exact hb0) y3
  · refine Or.inr ⟨o3, I3, A3, V3, lt3, tw3, J3, w3, B3, ?_, ?_, y3⟩
    · rw [e37, k37_r146_v1_0]
      simp (disch := omega) only [rt_c, b_some, List.cons_append, List.nil_append, Bool.cond_not, cond_true, cond_false, Bool.cond_decide, nI_add, nI_clamp, xin_n, dle_e, dlt_e, deq_e, xb_0, xb_1, decide_true, decide_false, Bool.not_true, Bool.not_false, Bool.and_true, Bool.true_and, Bool.and_false, Bool.false_and, Bool.true_or, Bool.false_or, Bool.or_true, Bool.or_false, if_true, if_false, up1_s, n_31, Int32.lt_irrefl, y1, k37_r146_v1_5, xb_f, t37_9, t37_9_0, t37_9_1, t37_47, t37_47_0, t37_47_1, t37_67, t37_67_0, t37_67_1]
    · rw [e269, m269_0]
      simp (disch := omega) only [rt_c, b_some, List.cons_append, List.nil_append, Bool.cond_not, cond_true, cond_false, Bool.cond_decide, nI_add, nI_clamp, xin_n, dle_e, dlt_e, deq_e, xb_0, xb_1, decide_true, decide_false, Bool.not_true, Bool.not_false, Bool.and_true, Bool.true_and, Bool.and_false, Bool.false_and, Bool.true_or, Bool.false_or, Bool.or_true, Bool.or_false, if_true, if_false, up1_s, n_31, Int32.lt_irrefl, y2, m269_4, xb_f, t269_8, t269_8_0, t269_8_1, t269_35, t269_35_0, t269_35_1, t269_57, t269_57_0, t269_57_1]
