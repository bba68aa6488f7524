/-! DRAWN AND ODDS, SIDE BY SIDE -/
theorem J8_34 (J : Nat → Int32) (x y : Int32) : J8 J (up1 (up1 J 0 x) 34 y) := by
  refine ⟨?_, ?_, ?_, ?_, ?_, ?_, ?_⟩ <;> rw [up1_n (by decide), up1_n (by decide)]
theorem J8_2434 (J : Nat → Int32) (x y z : Int32) : J8 J (up1 (up1 (up1 J 0 x) 24 y) 34 z) := by
  refine ⟨?_, ?_, ?_, ?_, ?_, ?_, ?_⟩ <;> rw [up1_n (by decide), up1_n (by decide), up1_n (by decide)]
section DRN
variable (d : Nat)
theorem ok_drawn (y x : Int32) : Ok (d + 6) 134 256 [.ref 0, .int y, .int x] := by
  intro sl sl2 I A N V lt tw sp sr J w B M hR
  obtain ⟨H, m, h1, ⟨p, z, h2⟩, h3⟩ := hR
  have hS := h1.1
  have hV := h1.2.1
  obtain ⟨yy, hyy, hY⟩ := h1.2.2.1
  obtain ⟨hH, hD, hH6, hm⟩ := hV.1
  obtain ⟨hp, hz, hP, hZ, hz2⟩ := h2.1
  have h22 := h3.2.2.2.1.1
  cases hb : (decide (nI 1 ≤ y) && decide (y ≤ nI 60)) with
  | false =>
    refine ⟨-1, I, A, N, V, lt, tw, sp, sr, [], sl, up1 J 0 (nI 0), w, B, M, ?_, ?_, Rl_0 ⟨H, m, h1, ⟨p, z, h2⟩, h3⟩ (nI 0), Nat.le_refl _, by omega, by simp⟩
    · rw [e134, k134_0]
      by_cases h4 : y < nI 1
      · simp (disch := omega) only [rt_c, b_some, List.cons_append, List.nil_append, Bool.cond_not, cond_true, cond_false, Bool.cond_decide, nI_add, nI_clamp, xin_n, dle_e, dlt_e, deq_e, xb_0, xb_1, decide_true, decide_false, Bool.not_true, Bool.not_false, Bool.and_true, Bool.true_and, Bool.and_false, Bool.false_and, Bool.true_or, Bool.false_or, Bool.or_true, Bool.or_false, if_true, if_false, up1_s, n_31, Int32.lt_irrefl, h4, t134_12, t134_57]
      · have h4' : nI 1 ≤ y := Int32.not_lt.mp h4
        have h5 : ¬ y ≤ nI 60 := by
          intro h
          rw [decide_eq_true h4', decide_eq_true h] at hb
          cases hb
        simp (disch := omega) only [rt_c, b_some, List.cons_append, List.nil_append, Bool.cond_not, cond_true, cond_false, Bool.cond_decide, nI_add, nI_clamp, xin_n, dle_e, dlt_e, deq_e, xb_0, xb_1, decide_true, decide_false, Bool.not_true, Bool.not_false, Bool.and_true, Bool.true_and, Bool.and_false, Bool.false_and, Bool.true_or, Bool.false_or, Bool.or_true, Bool.or_false, if_true, if_false, up1_s, n_31, Int32.lt_irrefl, h4, h5, t134_12, t134_57]
    · rw [e256, m256_0, c166, hb]
      simp (disch := omega) only [rt_c, b_some, List.cons_append, List.nil_append, Bool.cond_not, cond_true, cond_false, Bool.cond_decide, nI_add, nI_clamp, xin_n, dle_e, dlt_e, deq_e, xb_0, xb_1, decide_true, decide_false, Bool.not_true, Bool.not_false, Bool.and_true, Bool.true_and, Bool.and_false, Bool.false_and, Bool.true_or, Bool.false_or, Bool.or_true, Bool.or_false, if_true, if_false, up1_s, n_31, Int32.lt_irrefl, m256_12, t256_16, t256_31, t256_42]
  | true =>
    have hj := hb
    rw [Bool.and_eq_true, decide_eq_true_eq, decide_eq_true_eq] at hj
    obtain ⟨v, hv1, hv2, rfl⟩ := pos_n hj.1 hj.2 (by decide)
    have hlo : ¬ v < 1 := by omega
    obtain ⟨I0, A0, N0, e0, hB⟩ := q44_12_3 (d + 5) sl I A N V lt tw sp sr []
    have e1 := q6 (d + 5) (sl + 1) I0 A0 N0 V lt tw sp sr x 0
    obtain ⟨n', m', x', I1, A1, e2, hS1, hV1, hF1, hn1, hy1, hq0, r1⟩ := dd_3 d (sl + 1) I0 A0 N0 V lt tw sp sr (Bc_3 hS hB) hV hyy hY hv2 x
    obtain ⟨c1, c2, c3, c4, c5⟩ := hB
    obtain ⟨f1, f2⟩ := hF1
    by_cases h4 : yy = 400
    · subst h4
      have h0 : min v (400 - 400) = 0 := by omega
      obtain ⟨rfl, rfl⟩ := hq0 h0
      rw [h0] at e2
      refine ⟨nI 0, I1, A1, N0, V, lt, tw, sp, sr, [.inr (0, [.int x'])], sl + 1, up1 J 0 (nI 0), w, B, M, ?_, ?_, Rl_un h1 ⟨p, z, h2⟩ h3 hS1 ⟨?_, ?_, ?_⟩ (J8_0 J _) (up1_n (by decide)), by omega, by omega, Nat.le_refl 1⟩
      · rw [e134, k134_0]
        simp (disch := omega) only [rt_c, b_some, List.cons_append, List.nil_append, Bool.cond_not, cond_true, cond_false, Bool.cond_decide, nI_add, nI_clamp, xin_n, dle_e, dlt_e, deq_e, xb_0, xb_1, decide_true, decide_false, Bool.not_true, Bool.not_false, Bool.and_true, Bool.true_and, Bool.and_false, Bool.false_and, Bool.true_or, Bool.false_or, Bool.or_true, Bool.or_false, if_true, if_false, up1_s, n_31, Int32.lt_irrefl, hlo, hv2, e0, k134_24, e1, k134_37, e2, k134_40, Nat.le_refl, k134_56, t134_12, t134_57]
      · rw [e256, m256_0, c166, hb]
        simp (disch := omega) only [rt_c, b_some, List.cons_append, List.nil_append, Bool.cond_not, cond_true, cond_false, Bool.cond_decide, nI_add, nI_clamp, xin_n, dle_e, dlt_e, deq_e, xb_0, xb_1, decide_true, decide_false, Bool.not_true, Bool.not_false, Bool.and_true, Bool.true_and, Bool.and_false, Bool.false_and, Bool.true_or, Bool.false_or, Bool.or_true, Bool.or_false, if_true, if_false, up1_s, n_31, Int32.lt_irrefl, m256_12, hY, t256_16, t256_31, t256_42]
      · intro q hq
        rw [f1 q (by omega), c3 q (by omega)]
      · intro q hq
        rw [f2 q (by omega), c4 q (by omega)]
      · intro q hq
        rw [c5 q (by omega)]
    · have hg0 : ¬ min v (400 - yy) ≤ 0 := by omega
      have hP1 : I1 21 1 = nI p := by rw [f1 21 (by omega), c3 21 (by omega)]; exact hP
      have hZ1 : I1 21 2 = nI z := by rw [f1 21 (by omega), c3 21 (by omega)]; exact hZ
      obtain ⟨I', A', N', e3, k1, k2, k3, k4, k5, k6, k7⟩ := q27_12 (d + 4) (sl + 1) I1 A1 N0 V lt tw sp sr [.inr (0, [.int x'])] h22 hp hz hP1 hZ1
      have hS' : Sh I' A' 3 n' H m' := Sh_c hS1 (fun _ _ => rfl) (k5 3 (by omega) (by omega)) (fun q _ _ => k6 q (by omega))
      have h24 : up1 J 0 (nI 0) 24 = nI z := by rw [up1_n (by decide)]; exact hz2
      obtain ⟨B5, r2, r3, r4⟩ := c217 (d + 5) sl2 (up1 J 0 (nI 0)) w B M hz h24
      have hB2 : up1 B 5 B5 2 = B 2 := up1_n (by decide)
      have r5 := r1 sl2 (up1 (up1 J 0 (nI 0)) 24 (nI (min 8 (z + 1)))) w (up1 B 5 B5) M hB2
      have hgl : min v (400 - yy) < 2 ^ 31 := by omega
      refine ⟨nI (min v (400 - yy)), I', A', N', V, lt, tw, sp, sr, [.inr (0, [.int x'])], sl + 1, up1 (up1 (up1 J 0 (nI 0)) 24 (nI (min 8 (z + 1)))) 34 x', w, up1 (up1 B 5 B5) 2 n', M, ?_, ?_, Rl_push h1 h2 h3 hS' hV1 ⟨yy + min v (400 - yy), by omega, hy1⟩ ⟨k1, k2, ?_, ?_, ?_, ?_, ?_⟩ (J8_2434 J _ _ _) ?_ r3 r4 hn1, by omega, by omega, Nat.le_refl 1⟩
      · rw [e134, k134_0]
        simp (disch := omega) only [rt_c, b_some, List.cons_append, List.nil_append, Bool.cond_not, cond_true, cond_false, Bool.cond_decide, nI_add, nI_clamp, xin_n, dle_e, dlt_e, deq_e, xb_0, xb_1, decide_true, decide_false, Bool.not_true, Bool.not_false, Bool.and_true, Bool.true_and, Bool.and_false, Bool.false_and, Bool.true_or, Bool.false_or, Bool.or_true, Bool.or_false, if_true, if_false, up1_s, n_31, Int32.lt_irrefl, hlo, hv2, e0, k134_24, e1, k134_37, e2, k134_40, hg0, e3, k134_56, t134_12, t134_57]
      · rw [e256, m256_0, c166, hb]
        simp (disch := omega) only [rt_c, b_some, List.cons_append, List.nil_append, Bool.cond_not, cond_true, cond_false, Bool.cond_decide, nI_add, nI_clamp, xin_n, dle_e, dlt_e, deq_e, xb_0, xb_1, decide_true, decide_false, Bool.not_true, Bool.not_false, Bool.and_true, Bool.true_and, Bool.and_false, Bool.false_and, Bool.true_or, Bool.false_or, Bool.or_true, Bool.or_false, if_true, if_false, up1_s, n_31, Int32.lt_irrefl, m256_12, hY, h4, r2, m256_36, r5, m256_42, t256_16, t256_31, t256_42]
      · exact k3 _ _ _ (Sh_c (c1 _ _ _ hS) (fun _ _ => rfl) (f1 12 (by omega)) (fun q _ _ => f2 q (by omega)))
      · intro h hh
        rw [k4 h hh, c2 h hh]
      · intro q q1 q2
        rw [k5 q (by omega) (by omega), f1 q (by omega), c3 q (by omega)]
      · intro q q1 q2
        rw [k6 q (by omega), f2 q (by omega), c4 q (by omega)]
      · intro q q1 q2
        rw [k7 q (by omega), c5 q (by omega)]
      · rw [up1_n (by decide), up1_s]
theorem odds_loop {H m h v yy : Nat} (hh : h < H) (seed : Int32) (sl : Nat) (V : Nat → Nat → Option Nat) (lt : Int64) (tw : Option Nat) (sp sr : Nat) {n : Nat → Int32} (hV : Vd n H m) (hyy : yy ≤ 400) (hY : n 70 = nI yy) (hv : v ≤ 30) : ∀ (q i c : Nat) (x : Int32) (I A : Nat → Nat → Int32) (N : Nat → Nat → Int64), i + q = v → Sh I A 3 n H m →
    ∃ r x' I' A' N', rt 135 (R (d + 6) 135 (40, [some (.ref 0), some (.int (nI h)), some (.int (nI v)), some (.int seed), some (.ref 146), some (.int (nI c)), some (.int (nI i))], [], sl, CH I A N V lt tw sp sr [.inr (0, [.int x])])) = some ([.int r], sl, CH I' A' N' V lt tw sp sr [.inr (0, [.int x'])]) ∧ Un I A N I' A' N' ∧ Sh I' A' 3 n H m ∧
      (∀ sl2 J w B M, B 2 = n → (∀ k, k < 57 → B 6 k = n (70 + k)) → ∃ y, rt 257 (R (d + 6) 257 (35, [some (.ref 0), some (.int (nI h)), some (.int (nI v)), some (.int seed), some (.int (nI c)), some (.int (nI i))], [], sl2, RH J w B M)) = some ([.int r], sl2, RH (up1 J 34 y) w B M)) := by
  intro q
  induction q with
  | zero =>
    intro i c x I A N hi hS
    have h1 : v ≤ i := by omega
    refine ⟨nI c, x, I, A, N, ?_, ⟨fun _ _ => rfl, fun _ _ => rfl, fun _ _ => rfl⟩, hS, ?_⟩
    · rw [k135_40]
      simp (disch := omega) only [rt_c, b_some, List.cons_append, List.nil_append, Bool.cond_not, cond_true, cond_false, Bool.cond_decide, nI_add, nI_clamp, xin_n, dle_e, dlt_e, deq_e, xb_0, xb_1, decide_true, decide_false, Bool.not_true, Bool.not_false, Bool.and_true, Bool.true_and, Bool.and_false, Bool.false_and, Bool.true_or, Bool.false_or, Bool.or_true, Bool.or_false, if_true, if_false, up1_s, n_31, Int32.lt_irrefl, h1, t135_23, t135_100]
    · intro sl2 J w B M hB hB6
      refine ⟨J 34, ?_⟩
      rw [up1_id, m257_35]
      simp (disch := omega) only [rt_c, b_some, List.cons_append, List.nil_append, Bool.cond_not, cond_true, cond_false, Bool.cond_decide, nI_add, nI_clamp, xin_n, dle_e, dlt_e, deq_e, xb_0, xb_1, decide_true, decide_false, Bool.not_true, Bool.not_false, Bool.and_true, Bool.true_and, Bool.and_false, Bool.false_and, Bool.true_or, Bool.false_or, Bool.or_true, Bool.or_false, if_true, if_false, up1_s, n_31, Int32.lt_irrefl, h1, t257_24, t257_75]
  | succ q ih =>
    intro i c x I A N hi hS
    have h1 : ¬ v ≤ i := by omega
    obtain ⟨I0, A0, N0, e0, hB⟩ := q44_12_3 (d + 5) sl I A N V lt tw sp sr [.inr (0, [.int x])]
    have hS3 := Bc_3 hS hB
    obtain ⟨c1, c2, c3, c4, c5⟩ := hB
    obtain ⟨n', m', x1, I1, A1, e2, hS1, hV1, hF1, hn1, hy1, -, r1⟩ := dd_12 d sl I0 A0 N0 V lt tw sp sr (c1 _ _ _ hS) hV hyy hY (show 20 ≤ 60 by omega) (seed + nI i)
    obtain ⟨f1, f2⟩ := hF1
    have hS' : Sh I1 A1 3 n H m := Sh_c hS3 (fun _ _ => rfl) (f1 3 (by omega)) (fun q _ _ => f2 q (by omega))
    have h62 := q62_12 (d + 4) sl I1 A1 N0 V lt tw sp sr [.inr (0, [.int x1])] hS1 hh
    have hu : Un I A N I1 A1 N0 := ⟨fun q hq => by rw [f1 q (by omega), c3 q (by omega)], fun q hq => by rw [f2 q (by omega), c4 q (by omega)], fun q hq => c5 q (by omega)⟩
    obtain ⟨r, x', I', A', N', e4, hu2, hS4, r4⟩ := ih (i + 1) (cond (broke_ n' m' h) (c + 1) c) x1 I1 A1 N0 (by omega) hS'
    refine ⟨r, x', I', A', N', ?_, ⟨fun q hq => by rw [hu2.1 q hq, hu.1 q hq], fun q hq => by rw [hu2.2.1 q hq, hu.2.1 q hq], fun q hq => by rw [hu2.2.2 q hq, hu.2.2 q hq]⟩, hS4, ?_⟩
    · rw [k135_40]
      simp (disch := omega) only [rt_c, b_some, List.cons_append, List.nil_append, Bool.cond_not, cond_true, cond_false, Bool.cond_decide, nI_add, nI_clamp, xin_n, dle_e, dlt_e, deq_e, xb_0, xb_1, decide_true, decide_false, Bool.not_true, Bool.not_false, Bool.and_true, Bool.true_and, Bool.and_false, Bool.false_and, Bool.true_or, Bool.false_or, Bool.or_true, Bool.or_false, if_true, if_false, up1_s, n_31, Int32.lt_irrefl, h1, e0, k135_57, e2, k135_77, h62, k135_86]
      cases hbr : broke_ n' m' h with
      | false =>
        rw [hbr] at e4
        simp (disch := omega) only [rt_c, b_some, List.cons_append, List.nil_append, Bool.cond_not, cond_true, cond_false, Bool.cond_decide, nI_add, nI_clamp, xin_n, dle_e, dlt_e, deq_e, xb_0, xb_1, decide_true, decide_false, Bool.not_true, Bool.not_false, Bool.and_true, Bool.true_and, Bool.and_false, Bool.false_and, Bool.true_or, Bool.false_or, Bool.or_true, Bool.or_false, if_true, if_false, up1_s, n_31, Int32.lt_irrefl]
        exact e4
      | true =>
        rw [hbr] at e4
        simp (disch := omega) only [rt_c, b_some, List.cons_append, List.nil_append, Bool.cond_not, cond_true, cond_false, Bool.cond_decide, nI_add, nI_clamp, xin_n, dle_e, dlt_e, deq_e, xb_0, xb_1, decide_true, decide_false, Bool.not_true, Bool.not_false, Bool.and_true, Bool.true_and, Bool.and_false, Bool.false_and, Bool.true_or, Bool.false_or, Bool.or_true, Bool.or_false, if_true, if_false, up1_s, n_31, Int32.lt_irrefl]
        exact e4
    · intro sl2 J w B M hB hB6
      obtain ⟨y, r5⟩ := r4 sl2 (up1 J 34 x1) w B M hB hB6
      have r2 := r1 sl2 J w B M hB
      have hB2' : up1 B 2 n' 2 = n' := up1_s
      have r3 := c204 (d + 4) sl2 (up1 J 34 x1) w (up1 B 2 n') M (m := m') (h := h) hV1.1.2.2.2 (by rw [hB2']; exact hV1.1.2.1) (Nat.lt_of_lt_of_le hh hV.1.2.2.1)
      rw [hB2'] at r3
      have r6 := c236 (d + 5) sl2 (up1 J 34 x1) w (up1 B 2 n') M
      have hl : lay n' (B 6) 0 = B 2 := by
        rw [hB]
        funext k
        by_cases hk : 70 ≤ k ∧ k < 127
        · obtain ⟨j, rfl⟩ : ∃ j, k = 70 + j := ⟨k - 70, by omega⟩
          rw [lay_i (by omega), Nat.zero_add, hB6 j (by omega)]
        · rw [lay_o (by omega), hn1 k (by omega)]
      rw [hB2', up1_up, up1_n (show (6 : Nat) ≠ 2 by decide), hl, up1_id] at r6
      rw [up1_up] at r5
      refine ⟨y, ?_⟩
      rw [m257_35]
      simp (disch := omega) only [rt_c, b_some, List.cons_append, List.nil_append, Bool.cond_not, cond_true, cond_false, Bool.cond_decide, nI_add, nI_clamp, xin_n, dle_e, dlt_e, deq_e, xb_0, xb_1, decide_true, decide_false, Bool.not_true, Bool.not_false, Bool.and_true, Bool.true_and, Bool.and_false, Bool.false_and, Bool.true_or, Bool.false_or, Bool.or_true, Bool.or_false, if_true, if_false, up1_s, n_31, Int32.lt_irrefl, h1, r2, m257_51, r3, m257_57]
      cases hbr : broke_ n' m' h with
      | false =>
        rw [hbr] at r5
        simp (disch := omega) only [rt_c, b_some, List.cons_append, List.nil_append, Bool.cond_not, cond_true, cond_false, Bool.cond_decide, nI_add, nI_clamp, xin_n, dle_e, dlt_e, deq_e, xb_0, xb_1, decide_true, decide_false, Bool.not_true, Bool.not_false, Bool.and_true, Bool.true_and, Bool.and_false, Bool.false_and, Bool.true_or, Bool.false_or, Bool.or_true, Bool.or_false, if_true, if_false, up1_s, n_31, Int32.lt_irrefl, r6, m257_67]
        exact r5
      | true =>
        rw [hbr] at r5
        simp (disch := omega) only [rt_c, b_some, List.cons_append, List.nil_append, Bool.cond_not, cond_true, cond_false, Bool.cond_decide, nI_add, nI_clamp, xin_n, dle_e, dlt_e, deq_e, xb_0, xb_1, decide_true, decide_false, Bool.not_true, Bool.not_false, Bool.and_true, Bool.true_and, Bool.and_false, Bool.false_and, Bool.true_or, Bool.false_or, Bool.or_true, Bool.or_false, if_true, if_false, up1_s, n_31, Int32.lt_irrefl, r6, m257_67]
        exact r5
theorem ok_odds (h y x : Int32) : Ok (d + 6) 135 257 [.ref 0, .int h, .int y, .int x] := by
  intro sl sl2 I A N V lt tw sp sr J w B M hR
  obtain ⟨H, m, h1, ⟨p, z, h2⟩, h3⟩ := hR
  have hS := h1.1
  have hV := h1.2.1
  obtain ⟨yy, hyy, hY⟩ := h1.2.2.1
  obtain ⟨hH, hD, hH6, hm⟩ := hV.1
  have h45 := q45_3 (d + 5) sl I A N V lt tw sp sr [] hS h
  have h196 := c196' (d + 4) sl2 (up1 J 0 (nI 0)) w B M hH6 hH h
  cases hi : isN H h with
  | false =>
    rw [hi] at h45 h196
    refine ⟨-1, I, A, N, V, lt, tw, sp, sr, [], sl, up1 J 0 (nI 0), w, B, M, ?_, ?_, Rl_0 ⟨H, m, h1, ⟨p, z, h2⟩, h3⟩ (nI 0), Nat.le_refl _, by omega, by simp⟩
    · rw [e135, k135_0, h45]
      simp (disch := omega) only [rt_c, b_some, List.cons_append, List.nil_append, Bool.cond_not, cond_true, cond_false, Bool.cond_decide, nI_add, nI_clamp, xin_n, dle_e, dlt_e, deq_e, xb_0, xb_1, decide_true, decide_false, Bool.not_true, Bool.not_false, Bool.and_true, Bool.true_and, Bool.and_false, Bool.false_and, Bool.true_or, Bool.false_or, Bool.or_true, Bool.or_false, if_true, if_false, up1_s, n_31, Int32.lt_irrefl, k135_8, t135_23, t135_100]
    · rw [e257, m257_0, h196]
      simp (disch := omega) only [rt_c, b_some, List.cons_append, List.nil_append, Bool.cond_not, cond_true, cond_false, Bool.cond_decide, nI_add, nI_clamp, xin_n, dle_e, dlt_e, deq_e, xb_0, xb_1, decide_true, decide_false, Bool.not_true, Bool.not_false, Bool.and_true, Bool.true_and, Bool.and_false, Bool.false_and, Bool.true_or, Bool.false_or, Bool.or_true, Bool.or_false, if_true, if_false, up1_s, n_31, Int32.lt_irrefl, m257_10, t257_24, t257_75]
  | true =>
    rw [hi] at h45 h196
    cases hb : (decide (nI 1 ≤ y) && decide (y ≤ nI 30)) with
    | false =>
      refine ⟨-1, I, A, N, V, lt, tw, sp, sr, [], sl, up1 J 0 (nI 0), w, B, M, ?_, ?_, Rl_0 ⟨H, m, h1, ⟨p, z, h2⟩, h3⟩ (nI 0), Nat.le_refl _, by omega, by simp⟩
      · rw [e135, k135_0, h45]
        by_cases h4 : y < nI 1
        · simp (disch := omega) only [rt_c, b_some, List.cons_append, List.nil_append, Bool.cond_not, cond_true, cond_false, Bool.cond_decide, nI_add, nI_clamp, xin_n, dle_e, dlt_e, deq_e, xb_0, xb_1, decide_true, decide_false, Bool.not_true, Bool.not_false, Bool.and_true, Bool.true_and, Bool.and_false, Bool.false_and, Bool.true_or, Bool.false_or, Bool.or_true, Bool.or_false, if_true, if_false, up1_s, n_31, Int32.lt_irrefl, k135_8, h4, t135_23, t135_100]
        · have h4' : nI 1 ≤ y := Int32.not_lt.mp h4
          have h5 : ¬ y ≤ nI 30 := by
            intro h
            rw [decide_eq_true h4', decide_eq_true h] at hb
            cases hb
          simp (disch := omega) only [rt_c, b_some, List.cons_append, List.nil_append, Bool.cond_not, cond_true, cond_false, Bool.cond_decide, nI_add, nI_clamp, xin_n, dle_e, dlt_e, deq_e, xb_0, xb_1, decide_true, decide_false, Bool.not_true, Bool.not_false, Bool.and_true, Bool.true_and, Bool.and_false, Bool.false_and, Bool.true_or, Bool.false_or, Bool.or_true, Bool.or_false, if_true, if_false, up1_s, n_31, Int32.lt_irrefl, k135_8, h4, h5, t135_23, t135_100]
      · rw [e257, m257_0, h196]
        simp (disch := omega) only [rt_c, b_some, List.cons_append, List.nil_append, Bool.cond_not, cond_true, cond_false, Bool.cond_decide, nI_add, nI_clamp, xin_n, dle_e, dlt_e, deq_e, xb_0, xb_1, decide_true, decide_false, Bool.not_true, Bool.not_false, Bool.and_true, Bool.true_and, Bool.and_false, Bool.false_and, Bool.true_or, Bool.false_or, Bool.or_true, Bool.or_false, if_true, if_false, up1_s, n_31, Int32.lt_irrefl, m257_10, c166, hb, m257_20, t257_24, t257_75]
    | true =>
      have hj := hb
      rw [Bool.and_eq_true, decide_eq_true_eq, decide_eq_true_eq] at hj
      obtain ⟨v, hv1, hv2, rfl⟩ := pos_n hj.1 hj.2 (by decide)
      obtain ⟨a, ha, rfl⟩ := isN_t (by omega) hi
      have hlo : ¬ v < 1 := by omega
      have e1 := q6 (d + 5) (sl + 1) I A N V lt tw sp sr x 0
      obtain ⟨r, x', I', A', N', e2, hu, hS', r2⟩ := odds_loop d (v := v) ha x (sl + 1) V lt tw sp sr hV hyy hY hv2 v 0 0 x I A N (by omega) hS
      obtain ⟨B6, r0, hB6⟩ := c235 (d + 5) sl2 (up1 J 0 (nI 0)) w B M
      have hB2 : up1 B 6 B6 2 = B 2 := up1_n (by decide)
      obtain ⟨yv, r3⟩ := r2 sl2 (up1 J 0 (nI 0)) w (up1 B 6 B6) M hB2 (fun k hk => by rw [up1_s]; exact hB6 k hk)
      refine ⟨r, I', A', N', V, lt, tw, sp, sr, [.inr (0, [.int x'])], sl + 1, up1 (up1 J 0 (nI 0)) 34 yv, w, up1 B 6 B6, M, ?_, ?_, ?_, by omega, by omega, Nat.le_refl 1⟩
      · rw [e135, k135_0, h45]
        simp (disch := omega) only [rt_c, b_some, List.cons_append, List.nil_append, Bool.cond_not, cond_true, cond_false, Bool.cond_decide, nI_add, nI_clamp, xin_n, dle_e, dlt_e, deq_e, xb_0, xb_1, decide_true, decide_false, Bool.not_true, Bool.not_false, Bool.and_true, Bool.true_and, Bool.and_false, Bool.false_and, Bool.true_or, Bool.false_or, Bool.or_true, Bool.or_false, if_true, if_false, up1_s, n_31, Int32.lt_irrefl, k135_8, hlo, hv2, e1, k135_32, e2]
      · rw [e257, m257_0, h196]
        simp (disch := omega) only [rt_c, b_some, List.cons_append, List.nil_append, Bool.cond_not, cond_true, cond_false, Bool.cond_decide, nI_add, nI_clamp, xin_n, dle_e, dlt_e, deq_e, xb_0, xb_1, decide_true, decide_false, Bool.not_true, Bool.not_false, Bool.and_true, Bool.true_and, Bool.and_false, Bool.false_and, Bool.true_or, Bool.false_or, Bool.or_true, Bool.or_false, if_true, if_false, up1_s, n_31, Int32.lt_irrefl, m257_10, c166, hv1, hv2, m257_20, r0, m257_29, r3]
      · obtain ⟨u1, u2, u3⟩ := hu
        refine ⟨H, m, ⟨?_, ?_, ?_, ?_⟩, ⟨p, z, RPx_c h2 (fun q _ _ => u1 q (by omega)) (fun q _ _ => u2 q (by omega)) (fun q _ _ => u3 q (by omega)) rfl (by rw [up1_n (by decide), up1_n (by decide)]) (up1_n (by decide)) (fun k _ => by rw [hB2])⟩, RZ_f h3 (fun q _ => u1 q (by omega)) (fun q _ => u2 q (by omega)) (fun q _ => u3 q (by omega)) (J8_34 J _ _) ⟨up1_n (by decide), up1_n (by decide), up1_n (by decide), up1_n (by decide), up1_n (by decide), up1_n (by decide)⟩ rfl (fun k _ => by rw [hB2])⟩
        · rw [hB2]; exact hS'
        · rw [hB2]; exact hV
        · rw [hB2]; exact h1.2.2.1
        · rw [u3 4 (by omega)]; exact h1.2.2.2
end DRN
