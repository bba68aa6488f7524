/-! YEARS AND MEETS, SIDE BY SIDE -/
theorem yrs_V {H m : Nat} : ∀ (q : Nat) {n : Nat → Int32}, Vd n H m → Vd (yrs H m q n) H m
  | 0, _, h => h
  | q + 1, _, h => yrs_V q (Vd_year h)
theorem yrs_o {H m : Nat} (hH : H ≤ 6) (hm : m ≤ 12) {k : Nat} (hk : k < 70 ∨ 127 ≤ k) : ∀ (q : Nat) (n : Nat → Int32), yrs H m q n k = n k
  | 0, _ => rfl
  | q + 1, n => by
    show yrs H m q (year_ n H m) k = n k
    rw [yrs_o hH hm hk q, year_o n hH hm (by omega) (by omega)]
theorem yrs_70 {H m : Nat} : ∀ (q y : Nat) (n : Nat → Int32), n 70 = nI y → yrs H m q n 70 = nI (y + q)
  | 0, _, _, h => h
  | q + 1, y, n, h => by
    show yrs H m q (year_ n H m) 70 = nI (y + (q + 1))
    rw [yrs_70 q (y + 1) (year_ n H m) (by rw [year_70, h, nI_add])]
    congr 1
    omega
theorem left_yr {y : Nat} (hy : y ≤ 400) : x_max (nI 0) (nI 400 - nI y) = nI (400 - y) := by
  rw [nI_sub hy]
  unfold x_max
  by_cases h : 0 < 400 - y
  · rw [if_pos ((nI_ltI (by omega) (by omega)).mpr h)]
  · rw [if_neg (fun h2 => h ((nI_ltI (by omega) (by omega)).mp h2)), show 400 - y = 0 by omega]
section YRS
variable (d : Nat)
theorem ok_years (y : Int32) : Ok (d + 4) 132 231 [.ref 0, .int y] := by
  intro sl sl2 I A N V lt tw sp sr J w B M hR
  obtain ⟨H, m, h1, ⟨p, z, h2⟩, h3⟩ := hR
  have hS := h1.1
  have hV := h1.2.1
  obtain ⟨yy, hyy, hY⟩ := h1.2.2.1
  obtain ⟨hH, hD, hH6, hm⟩ := hV.1
  obtain ⟨hp, hz, hP, hZ, hz2⟩ := h2.1
  have h22 := h3.2.2.2.1.1
  cases hb : (decide (nI 1 ≤ y) && decide (y ≤ nI 60)) with
  | false =>
    refine ⟨-1, I, A, N, V, lt, tw, sp, sr, [], sl, up1 J 0 (nI 0), w, B, M, q132_out (d + 1) sl I A N V lt tw sp sr [] y hb, ?_, Rl_0 ⟨H, m, h1, ⟨p, z, h2⟩, h3⟩ (nI 0), Nat.le_refl _, by omega, by simp⟩
    rw [e231, m231_0, c166, hb]
    simp (disch := omega) only [rt_c, b_some, List.cons_append, List.nil_append, Bool.cond_not, cond_true, cond_false, Bool.cond_decide, nI_add, nI_clamp, xin_n, dle_e, dlt_e, deq_e, xb_0, xb_1, decide_true, decide_false, Bool.not_true, Bool.not_false, Bool.and_true, Bool.true_and, Bool.and_false, Bool.false_and, Bool.true_or, Bool.false_or, Bool.or_true, Bool.or_false, if_true, if_false, up1_s, n_31, Int32.lt_irrefl, m231_12, t231_16, t231_31, t231_41]
  | true =>
    have hj := hb
    rw [Bool.and_eq_true, decide_eq_true_eq, decide_eq_true_eq] at hj
    obtain ⟨v, hv1, hv2, rfl⟩ := pos_n hj.1 hj.2 (by decide)
    have hlo : ¬ v < 1 := by omega
    have h76 := q76_3 (d + 3) sl I A N V lt tw sp sr [] hS
    rw [hY, left_yr hyy] at h76
    by_cases h4 : yy = 400
    · subst h4
      have hmin : x_min (nI v) (nI (400 - 400)) = nI 0 := by rw [xmin_nn (by omega) (by omega)]; congr 1; omega
      refine ⟨nI 0, I, A, N, V, lt, tw, sp, sr, [], sl, up1 J 0 (nI 0), w, B, M, ?_, ?_, Rl_0 ⟨H, m, h1, ⟨p, z, h2⟩, h3⟩ (nI 0), Nat.le_refl _, by omega, by simp⟩
      · rw [e132, k132_0]
        simp (disch := omega) only [rt_c, b_some, List.cons_append, List.nil_append, Bool.cond_not, cond_true, cond_false, Bool.cond_decide, nI_add, nI_clamp, xin_n, dle_e, dlt_e, deq_e, xb_0, xb_1, decide_true, decide_false, Bool.not_true, Bool.not_false, Bool.and_true, Bool.true_and, Bool.and_false, Bool.false_and, Bool.true_or, Bool.false_or, Bool.or_true, Bool.or_false, if_true, if_false, up1_s, n_31, Int32.lt_irrefl, hlo, hv2, h76, k132_21, hmin, Nat.le_refl, k132_40, k132_42, t132_12, t132_61]
      · rw [e231, m231_0, c166, hb]
        simp (disch := omega) only [rt_c, b_some, List.cons_append, List.nil_append, Bool.cond_not, cond_true, cond_false, Bool.cond_decide, nI_add, nI_clamp, xin_n, dle_e, dlt_e, deq_e, xb_0, xb_1, decide_true, decide_false, Bool.not_true, Bool.not_false, Bool.and_true, Bool.true_and, Bool.and_false, Bool.false_and, Bool.true_or, Bool.false_or, Bool.or_true, Bool.or_false, if_true, if_false, up1_s, n_31, Int32.lt_irrefl, m231_12, hY, t231_16, t231_31, t231_41]
    · have hg : min v (400 - yy) ≠ 0 := by omega
      have hmin : x_min (nI v) (nI (400 - yy)) = nI (min v (400 - yy)) := xmin_nn (by omega) (by omega)
      generalize hgg : min v (400 - yy) = g at hg hmin
      have hg60 : g ≤ 60 := by omega
      have hgy : yy + g ≤ 400 := by omega
      have hg0 : ¬ g ≤ 0 := by omega
      have h76' := h76
      obtain ⟨I1, A1, N1, e1, k1, k2, k3, k4, k5, k6, k7⟩ := q27_3 (d + 2) sl I A N V lt tw sp sr [] h22 hp hz hP hZ
      have hS1 : Sh I1 A1 3 (B 2) H m := Sh_c hS (fun _ _ => rfl) (k5 3 (by omega) (by omega)) (fun q _ _ => k6 q (by omega))
      obtain ⟨I', A', e2, hS2, f1, f2⟩ := q132_42 (d + 1) sl N1 V lt tw sp sr [] (nI v) (nI g) g 0 I1 A1 (B 2) (by omega) (by rw [Nat.zero_add]) hS1 hV
      have h24 : up1 J 0 (nI 0) 24 = nI z := by rw [up1_n (by decide)]; exact hz2
      obtain ⟨B5, r1, r2, r3⟩ := c217 (d + 3) sl2 (up1 J 0 (nI 0)) w B M hz h24
      have hB2 : up1 B 5 B5 2 = B 2 := up1_n (by decide)
      have r4 := c230_18 (d + 1) sl2 (up1 (up1 J 0 (nI 0)) 24 (nI (min 8 (z + 1)))) w M (H := H) (m := m) (nI v) (nI g) g 0 (up1 B 5 B5) (by omega) (by rw [Nat.zero_add]) (by rw [hB2]; exact hV)
      rw [hB2] at r4
      have hmin2 : x_min (nI v) (nI 400 - nI yy) = nI g := by rw [nI_sub hyy]; exact hmin
      have r5 : C (d + 3) 230 [.ref 0, .int (nI v)] sl2 (RH (up1 (up1 J 0 (nI 0)) 24 (nI (min 8 (z + 1)))) w (up1 B 5 B5) M) = some ([.int (nI g)], sl2, RH (up1 (up1 J 0 (nI 0)) 24 (nI (min 8 (z + 1)))) w (up1 (up1 B 5 B5) 2 (yrs H m g (B 2))) M) := by
        rw [e230, m230_0, c169]
        simp (disch := omega) only [rt_c, b_some, List.cons_append, List.nil_append, Bool.cond_not, cond_true, cond_false, Bool.cond_decide, nI_add, nI_clamp, xin_n, dle_e, dlt_e, deq_e, xb_0, xb_1, decide_true, decide_false, Bool.not_true, Bool.not_false, Bool.and_true, Bool.true_and, Bool.and_false, Bool.false_and, Bool.true_or, Bool.false_or, Bool.or_true, Bool.or_false, if_true, if_false, up1_s, n_31, Int32.lt_irrefl, m230_15, hB2, hY, hmin2, r4]
      refine ⟨nI g, I', A', N1, V, lt, tw, sp, sr, [], sl, up1 (up1 J 0 (nI 0)) 24 (nI (min 8 (z + 1))), w, up1 (up1 B 5 B5) 2 (yrs H m g (B 2)), M, ?_, ?_, Rl_push h1 h2 h3 hS2 (yrs_V g hV) ⟨yy + g, hgy, yrs_70 g yy _ hY⟩ ⟨?_, ?_, ?_, k4, ?_, ?_, ?_⟩ (J8_24 J _ _) up1_s r2 r3 (fun k hk => yrs_o hH6 hm hk g _), Nat.le_refl _, by omega, by simp⟩
      · rw [e132, k132_0]
        simp (disch := omega) only [rt_c, b_some, List.cons_append, List.nil_append, Bool.cond_not, cond_true, cond_false, Bool.cond_decide, nI_add, nI_clamp, xin_n, dle_e, dlt_e, deq_e, xb_0, xb_1, decide_true, decide_false, Bool.not_true, Bool.not_false, Bool.and_true, Bool.true_and, Bool.and_false, Bool.false_and, Bool.true_or, Bool.false_or, Bool.or_true, Bool.or_false, if_true, if_false, up1_s, n_31, Int32.lt_irrefl, hlo, hv2, h76, k132_21, hmin, hg0, e1, k132_40, e2]
      · rw [e231, m231_0, c166, hb]
        simp (disch := omega) only [rt_c, b_some, List.cons_append, List.nil_append, Bool.cond_not, cond_true, cond_false, Bool.cond_decide, nI_add, nI_clamp, xin_n, dle_e, dlt_e, deq_e, xb_0, xb_1, decide_true, decide_false, Bool.not_true, Bool.not_false, Bool.and_true, Bool.true_and, Bool.and_false, Bool.false_and, Bool.true_or, Bool.false_or, Bool.or_true, Bool.or_false, if_true, if_false, up1_s, n_31, Int32.lt_irrefl, m231_12, hY, h4, r1, m231_36, r5, m231_41, t231_16, t231_31, t231_41]
      · rw [f1 21 (by omega)]; exact k1
      · rw [f1 21 (by omega)]; exact k2
      · exact Sh_c (k3 _ _ _ hS) (fun _ _ => rfl) (f1 _ (by omega)) (fun q _ _ => f2 q (by omega))
      · intro q q1 q2
        rw [f1 q (by omega), k5 q (by omega) (by omega)]
      · intro q q1 q2
        rw [f2 q (by omega), k6 q (by omega)]
      · intro q q1 q2
        rw [k7 q (by omega)]
/-- meets: both loops -/
theorem meets_loop {H m h : Nat} (hh : h < H) (sl sl2 : Nat) (N : Nat → Nat → Int64) (V : Nat → Nat → Option Nat) (lt : Int64) (tw : Option Nat) (sp sr : Nat) (X : List AC) (J : Nat → Int32) (w : Int64) (M : Nat → Nat → Int64) : ∀ (q i : Nat) (I A B : Nat → Nat → Int32), i + q = 100 → Sh I A 12 (B 2) H m → Vd (B 2) H m →
    ∃ v I' A', rt 139 (R (d + 3) 139 (26, [some (.ref 0), some (.int (nI h)), some (.int (nI i))], [], sl, CH I A N V lt tw sp sr X)) = some ([.int v], sl, CH I' A' N V lt tw sp sr X) ∧ Fr 12 I A I' A' ∧
      rt 237 (R (d + 3) 237 (21, [some (.ref 0), some (.int (nI h)), some (.int (nI i))], [], sl2, RH J w B M)) = some ([.int v], sl2, RH J w (up1 B 2 (lay (B 2) (B 6) 0)) M) := by
  intro q
  induction q with
  | zero =>
    intro i I A B hi hS hV
    have h1 : 99 < i := by omega
    have h2 : ¬ i ≤ 99 := by omega
    have h236 := c236 (d + 2) sl2 J w B M
    refine ⟨-1, I, A, ?_, Fr_rf, ?_⟩
    · rw [k139_26]
      simp (disch := omega) only [rt_c, b_some, List.cons_append, List.nil_append, Bool.cond_not, cond_true, cond_false, Bool.cond_decide, nI_add, nI_clamp, xin_n, dle_e, dlt_e, deq_e, xb_0, xb_1, decide_true, decide_false, Bool.not_true, Bool.not_false, Bool.and_true, Bool.true_and, Bool.and_false, Bool.false_and, Bool.true_or, Bool.false_or, Bool.or_true, Bool.or_false, if_true, if_false, up1_s, n_31, Int32.lt_irrefl, h1, t139_12, t139_44, t139_59]
    · rw [m237_21]
      simp (disch := omega) only [rt_c, b_some, List.cons_append, List.nil_append, Bool.cond_not, cond_true, cond_false, Bool.cond_decide, nI_add, nI_clamp, xin_n, dle_e, dlt_e, deq_e, xb_0, xb_1, decide_true, decide_false, Bool.not_true, Bool.not_false, Bool.and_true, Bool.true_and, Bool.and_false, Bool.false_and, Bool.true_or, Bool.false_or, Bool.or_true, Bool.or_false, if_true, if_false, up1_s, n_31, Int32.lt_irrefl, h1, h236, m237_49, h2, t237_14, t237_60]
  | succ q ih =>
    intro i I A B hi hS hV
    have h1 : ¬ 99 < i := by omega
    have h2 : i ≤ 99 := by omega
    have h62 := q62_12 (d + 1) sl I A N V lt tw sp sr X hS hh
    have h204 := c204 (d + 1) sl2 J w B M hV.1.2.2.2 hV.1.2.1 (show h < 6 from Nat.lt_of_lt_of_le hh hV.1.2.2.1)
    cases hb : broke_ (B 2) m h with
    | true =>
      rw [hb] at h62 h204
      have h236 := c236 (d + 2) sl2 J w B M
      refine ⟨nI i, I, A, ?_, Fr_rf, ?_⟩
      · rw [k139_26]
        simp (disch := omega) only [rt_c, b_some, List.cons_append, List.nil_append, Bool.cond_not, cond_true, cond_false, Bool.cond_decide, nI_add, nI_clamp, xin_n, dle_e, dlt_e, deq_e, xb_0, xb_1, decide_true, decide_false, Bool.not_true, Bool.not_false, Bool.and_true, Bool.true_and, Bool.and_false, Bool.false_and, Bool.true_or, Bool.false_or, Bool.or_true, Bool.or_false, if_true, if_false, up1_s, n_31, Int32.lt_irrefl, h1, h62, k139_40, t139_12, t139_44, t139_59]
      · rw [m237_21]
        simp (disch := omega) only [rt_c, b_some, List.cons_append, List.nil_append, Bool.cond_not, cond_true, cond_false, Bool.cond_decide, nI_add, nI_clamp, xin_n, dle_e, dlt_e, deq_e, xb_0, xb_1, decide_true, decide_false, Bool.not_true, Bool.not_false, Bool.and_true, Bool.true_and, Bool.and_false, Bool.false_and, Bool.true_or, Bool.false_or, Bool.or_true, Bool.or_false, if_true, if_false, up1_s, n_31, Int32.lt_irrefl, h1, h204, m237_32, h236, m237_49, h2, t237_14, t237_60]
    | false =>
      rw [hb] at h62 h204
      obtain ⟨I1, A1, e1, hS1, hF1⟩ := q77_12 (d + 2) sl I A N V lt tw sp sr X hS hV
      have r1 := c229 (d + 1) sl2 J w B M hV
      obtain ⟨v, I', A', e2, hF2, r2⟩ := ih (i + 1) I1 A1 (up1 B 2 (year_ (B 2) H m)) (by omega) (by rw [up1_s]; exact hS1) (by rw [up1_s]; exact Vd_year hV)
      rw [up1_s, up1_up, up1_n (show (6 : Nat) ≠ 2 by decide)] at r2
      have hl : lay (year_ (B 2) H m) (B 6) 0 = lay (B 2) (B 6) 0 := lay_c (fun k hk => year_o _ hV.1.2.2.1 hV.1.2.2.2 (by omega) (by omega))
      rw [hl] at r2
      refine ⟨v, I', A', ?_, Fr_tr hF1 hF2, ?_⟩
      · rw [k139_26]
        simp (disch := omega) only [rt_c, b_some, List.cons_append, List.nil_append, Bool.cond_not, cond_true, cond_false, Bool.cond_decide, nI_add, nI_clamp, xin_n, dle_e, dlt_e, deq_e, xb_0, xb_1, decide_true, decide_false, Bool.not_true, Bool.not_false, Bool.and_true, Bool.true_and, Bool.and_false, Bool.false_and, Bool.true_or, Bool.false_or, Bool.or_true, Bool.or_false, if_true, if_false, up1_s, n_31, Int32.lt_irrefl, h1, h62, k139_40, e1, k139_52, e2]
      · rw [m237_21]
        simp (disch := omega) only [rt_c, b_some, List.cons_append, List.nil_append, Bool.cond_not, cond_true, cond_false, Bool.cond_decide, nI_add, nI_clamp, xin_n, dle_e, dlt_e, deq_e, xb_0, xb_1, decide_true, decide_false, Bool.not_true, Bool.not_false, Bool.and_true, Bool.true_and, Bool.and_false, Bool.false_and, Bool.true_or, Bool.false_or, Bool.or_true, Bool.or_false, if_true, if_false, up1_s, n_31, Int32.lt_irrefl, h1, h204, m237_32, r1, m237_39, r2]
theorem ok_meets (h : Int32) : Ok (d + 4) 139 237 [.ref 0, .int h] := by
  intro sl sl2 I A N V lt tw sp sr J w B M hR
  obtain ⟨H, m, h1, ⟨p, z, h2⟩, h3⟩ := hR
  have hS := h1.1
  have hV := h1.2.1
  obtain ⟨hH, hD, hH6, hm⟩ := hV.1
  have h45 := q45_3 (d + 3) sl I A N V lt tw sp sr [] hS h
  have h196 := c196' (d + 2) sl2 (up1 J 0 (nI 0)) w B M hH6 hH h
  cases hb : isN H h with
  | false =>
    rw [hb] at h45 h196
    refine ⟨-1, I, A, N, V, lt, tw, sp, sr, [], sl, up1 J 0 (nI 0), w, B, M, ?_, ?_, Rl_0 ⟨H, m, h1, ⟨p, z, h2⟩, h3⟩ (nI 0), Nat.le_refl _, by omega, by simp⟩
    · rw [e139, k139_0, h45]
      simp (disch := omega) only [rt_c, b_some, List.cons_append, List.nil_append, Bool.cond_not, cond_true, cond_false, Bool.cond_decide, nI_add, nI_clamp, xin_n, dle_e, dlt_e, deq_e, xb_0, xb_1, decide_true, decide_false, Bool.not_true, Bool.not_false, Bool.and_true, Bool.true_and, Bool.and_false, Bool.false_and, Bool.true_or, Bool.false_or, Bool.or_true, Bool.or_false, if_true, if_false, up1_s, n_31, Int32.lt_irrefl, k139_8, t139_12, t139_44, t139_59]
    · rw [e237, m237_0, h196]
      simp (disch := omega) only [rt_c, b_some, List.cons_append, List.nil_append, Bool.cond_not, cond_true, cond_false, Bool.cond_decide, nI_add, nI_clamp, xin_n, dle_e, dlt_e, deq_e, xb_0, xb_1, decide_true, decide_false, Bool.not_true, Bool.not_false, Bool.and_true, Bool.true_and, Bool.and_false, Bool.false_and, Bool.true_or, Bool.false_or, Bool.or_true, Bool.or_false, if_true, if_false, up1_s, n_31, Int32.lt_irrefl, m237_10, t237_14, t237_60]
  | true =>
    obtain ⟨a, ha, rfl⟩ := isN_t (by omega) hb
    rw [hb] at h45 h196
    obtain ⟨I0, A0, N0, e0, c1, c2, c3, c4, c5⟩ := q44_12_3 (d + 3) sl I A N V lt tw sp sr []
    obtain ⟨B6, r0, hB6⟩ := c235 (d + 3) sl2 (up1 J 0 (nI 0)) w B M
    have hB2 : up1 B 6 B6 2 = B 2 := up1_n (by decide)
    obtain ⟨v, I', A', e1, ⟨f1, f2⟩, r1⟩ := meets_loop (d + 1) ha sl sl2 N0 V lt tw sp sr [] (up1 J 0 (nI 0)) w M 100 0 I0 A0 (up1 B 6 B6) (by omega) (by rw [hB2]; exact c1 _ _ _ hS) (by rw [hB2]; exact hV)
    have hl : lay (B 2) B6 0 = B 2 := by
      funext k
      by_cases hk : 70 ≤ k ∧ k < 127
      · obtain ⟨i, rfl⟩ : ∃ i, k = 70 + i := ⟨k - 70, by omega⟩
        rw [lay_i (by omega), Nat.zero_add, hB6 i (by omega)]
      · rw [lay_o (by omega)]
    have hBB : up1 (up1 B 6 B6) 2 (B 2) = up1 B 6 B6 := by
      rw [← hB2, up1_id]
    rw [hB2, up1_s, hl, hBB] at r1
    refine ⟨v, I', A', N0, V, lt, tw, sp, sr, [], sl, up1 J 0 (nI 0), w, up1 B 6 B6, M, ?_, ?_, ?_, Nat.le_refl _, by omega, by simp⟩
    · rw [e139, k139_0, h45]
      simp (disch := omega) only [rt_c, b_some, List.cons_append, List.nil_append, Bool.cond_not, cond_true, cond_false, Bool.cond_decide, nI_add, nI_clamp, xin_n, dle_e, dlt_e, deq_e, xb_0, xb_1, decide_true, decide_false, Bool.not_true, Bool.not_false, Bool.and_true, Bool.true_and, Bool.and_false, Bool.false_and, Bool.true_or, Bool.false_or, Bool.or_true, Bool.or_false, if_true, if_false, up1_s, n_31, Int32.lt_irrefl, k139_8, e0, k139_24, e1]
    · rw [e237, m237_0, h196]
      simp (disch := omega) only [rt_c, b_some, List.cons_append, List.nil_append, Bool.cond_not, cond_true, cond_false, Bool.cond_decide, nI_add, nI_clamp, xin_n, dle_e, dlt_e, deq_e, xb_0, xb_1, decide_true, decide_false, Bool.not_true, Bool.not_false, Bool.and_true, Bool.true_and, Bool.and_false, Bool.false_and, Bool.true_or, Bool.false_or, Bool.or_true, Bool.or_false, if_true, if_false, up1_s, n_31, Int32.lt_irrefl, m237_10, r0, m237_19, r1]
    · refine ⟨H, m, ⟨?_, ?_, ?_, ?_⟩, ⟨p, z, RPx_c h2 (fun q _ _ => ?_) (fun q _ _ => ?_) (fun q _ _ => c5 q (by omega)) rfl (up1_n (by decide)) (up1_n (by decide)) (fun k _ => by rw [hB2])⟩, RZ_f h3 (fun q _ => ?_) (fun q _ => ?_) (fun q _ => c5 q (by omega)) (J8_0 J _) ⟨up1_n (by decide), up1_n (by decide), up1_n (by decide), up1_n (by decide), up1_n (by decide), up1_n (by decide)⟩ rfl (fun k _ => by rw [hB2])⟩
      · rw [hB2]
        exact Sh_c hS (fun _ _ => rfl) (by rw [f1 3 (by omega), c3 3 (by omega)]) (fun q _ _ => by rw [f2 q (by omega), c4 q (by omega)])
      · rw [hB2]; exact hV
      · rw [hB2]; exact h1.2.2.1
      · rw [c5 4 (by omega)]; exact h1.2.2.2
      · rw [f1 q (by omega), c3 q (by omega)]
      · rw [f2 q (by omega), c4 q (by omega)]
      · rw [f1 q (by omega), c3 q (by omega)]
      · rw [f2 q (by omega), c4 q (by omega)]
end YRS
