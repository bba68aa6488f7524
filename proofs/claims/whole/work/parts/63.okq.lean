/-! QUESTIONS, SIDE BY SIDE -/
theorem fa_byte_low (x : Int32) : (x &&& 255).toInt8 = x.toInt8 := by
  apply Int8.toBitVec_inj.1
  apply BitVec.eq_of_getLsbD_eq
  intro i hi
  have h2 : (255 : Int32).toBitVec.getLsbD i = true := by
    have : ∀ j : Fin 8, (255 : Int32).toBitVec.getLsbD j.val = true := by decide +kernel
    exact this ⟨i, hi⟩
  have h4 : (x &&& 255).toBitVec.getLsbD i = x.toBitVec.getLsbD i := by
    show (x.toBitVec &&& (255 : Int32).toBitVec).getLsbD i = _
    rw [BitVec.getLsbD_and, h2, Bool.and_true]
  have h3 : i < 32 := by omega
  first
    | (show (((x &&& 255).toBitVec).signExtend 8).getLsbD i = (x.toBitVec.signExtend 8).getLsbD i; rw [BitVec.getLsbD_signExtend, BitVec.getLsbD_signExtend, if_pos h3, if_pos h3, h4])
    | (show (((x &&& 255).toBitVec).setWidth 8).getLsbD i = (x.toBitVec.setWidth 8).getLsbD i; rw [BitVec.getLsbD_setWidth, BitVec.getLsbD_setWidth, h4])
    | (simp [hi, h3, h4]; done)
theorem byte_rel (y : Int32) : ∃ b, b < 256 ∧ y &&& nI 255 = nI b ∧ vp_nar .byte y.toInt8.toInt32 = by8 b := by
  have h0 : (y &&& (255 : Int32)).toBitVec.toNat < 256 := by
    show (y.toBitVec &&& (255 : Int32).toBitVec).toNat < 256
    rw [BitVec.toNat_and]
    exact Nat.lt_of_le_of_lt Nat.and_le_right (by decide)
  have h1 : y &&& (255 : Int32) = nI (y &&& (255 : Int32)).toBitVec.toNat := by
    apply Int32.toBitVec_inj.mp
    apply BitVec.eq_of_toNat_eq
    simp only [nI, Int32.toBitVec_ofNat', BitVec.toNat_ofNat]
    rw [Nat.mod_eq_of_lt (by omega)]
  refine ⟨_, h0, h1, ?_⟩
  have h2 := fa_byte_low y
  generalize (y &&& (255 : Int32)).toBitVec.toNat = b at h0 h1
  rw [← h2, h1]
  have : ∀ b : Fin 256, vp_nar .byte (nI b.val).toInt8.toInt32 = by8 b.val := by decide +kernel
  exact this ⟨b, h0⟩
theorem sum_z {n : Nat → Int32} {b m : Nat} (q : Nat) (h : ∀ k, m ≤ k → k < m + q → n (b + k) = nI 0) : x_it (fun k s => s + n (b + k)) 0 (m + q) (nI 0) = x_it (fun k s => s + n (b + k)) 0 m (nI 0) := by
  induction q with
  | zero => rfl
  | succ q ih =>
    rw [show m + (q + 1) = (m + q) + 1 by omega, x_it_succ, Nat.zero_add, ih (fun k h1 h2 => h k h1 (by omega)), h (m + q) (by omega) (by omega), nI_z]
theorem at_b {n : Nat → Int32} {H m : Nat} (hV : Vd n H m) (h k : Int32) : (isN H h && (decide (nI 0 ≤ k) && decide (k < n (16 + h.toNatClampNeg)))) = (isN H h && (decide (nI 0 ≤ k) && decide (k ≤ n (16 + h.toNatClampNeg) - nI 1))) := by
  have hH6 := hV.1.2.2.1
  cases hi : isN H h with
  | false => rw [Bool.false_and, Bool.false_and]
  | true =>
    rw [Bool.true_and, Bool.true_and]
    obtain ⟨i, hi', rfl⟩ := isN_t (by omega) hi
    obtain ⟨c, hc, hcc⟩ := hV.2.2.2.1 i hi'
    have e : (nI i).toNatClampNeg = i := nI_clamp (by omega)
    rw [e, hcc, isN_le (show c < 2 ^ 31 by omega)]
    unfold isN
    exact Eq.refl _
section OKQ
variable (d : Nat)
theorem ok_fault : Ok d 118 195 [.ref 0] := by
  intro sl sl2 I A N V lt tw sp sr J w B M hR
  obtain ⟨H, m, h1, h2, h3⟩ := hR
  have hq := h3.2.1.1.1
  exact ⟨_, _, _, _, _, _, _, _, _, _, _, _, _, _, _, q118 d sl I A N V lt tw sp sr [], by rw [hq]; exact c195 d sl2 J w B M, Rl_0 ⟨H, m, h1, h2, h3⟩ _, Nat.le_refl _, by omega, by simp⟩
theorem ok_ableOf : Ok d 138 234 [.ref 0] := by
  intro sl sl2 I A N V lt tw sp sr J w B M hR
  obtain ⟨H, m, h1, h2, h3⟩ := hR
  have hq := h3.2.1.1.2.1
  exact ⟨_, _, _, _, _, _, _, _, _, _, _, _, _, _, _, q138 d sl I A N V lt tw sp sr [], by rw [hq]; exact c234 d sl2 J w B M, Rl_0 ⟨H, m, h1, h2, h3⟩ _, Nat.le_refl _, by omega, by simp⟩
theorem ok_ask : Ok d 147 242 [.ref 0] := by
  intro sl sl2 I A N V lt tw sp sr J w B M hR
  obtain ⟨H, m, h1, h2, h3⟩ := hR
  have hq := h3.2.1.1.2.2
  exact ⟨_, _, _, _, _, _, _, _, _, _, _, _, _, _, _, q147 d sl I A N V lt tw sp sr [], by rw [hq]; exact c242 d sl2 J w B M, Rl_0 ⟨H, m, h1, h2, h3⟩ _, Nat.le_refl _, by omega, by simp⟩
theorem ok_count (x : Int32) : Ok d 125 281 [.ref 0, .int x] := by
  intro sl sl2 I A N V lt tw sp sr J w B M hR
  obtain ⟨H, m, h1, h2, h3⟩ := hR
  obtain ⟨t, ht, t1, t2, -⟩ := h3.1
  obtain ⟨hH, hD, hH6, hm⟩ := h1.2.1.1
  rcases sw_in 4 (by decide) x with ⟨k, hk, rfl⟩ | hx
  · exact ⟨_, _, _, _, _, _, _, _, _, _, _, _, _, _, _, q125_in d sl I A N V lt tw sp sr [] h1.1 hH hD hk, by rw [t1, ← t2]; exact c281_in d sl2 J w B M hk, Rl_0 ⟨H, m, h1, h2, h3⟩ _, Nat.le_refl _, by omega, by simp⟩
  · exact ⟨_, _, _, _, _, _, _, _, _, _, _, _, _, _, _, q125_out d sl I A N V lt tw sp sr [] x hx, c281_out d sl2 J w B M x hx, Rl_0 ⟨H, m, h1, h2, h3⟩ _, Nat.le_refl _, by omega, by simp⟩
theorem ok_debt (j x : Int32) : Ok (d + 4) 122 208 [.ref 0, .int j, .int x] := by
  intro sl sl2 I A N V lt tw sp sr J w B M hR
  obtain ⟨H, m, h1, h2, h3⟩ := hR
  obtain ⟨hH, hD, hH6, hm⟩ := h1.2.1.1
  have hout : (isN m j = false ∨ (decide (x.toInt < (0 : Int)) || decide ((4 : Int) < x.toInt)) = true) → ∃ v I' A' N' V' lt' tw' sp' sr' X' sl' J' w' B' M', C (d + 4) 122 [.ref 0, .int j, .int x] sl (CH I A N V lt tw sp sr []) = some ([.int v], sl', CH I' A' N' V' lt' tw' sp' sr' X') ∧ C (d + 4) 208 [.ref 0, .int j, .int x] sl2 (RH J w B M) = some ([.int v], sl2, RH J' w' B' M') ∧ Rl I' A' N' V' sp' sr' J' B' M' ∧ sl ≤ sl' ∧ sl' ≤ sl + 8 ∧ X'.length ≤ 1 := fun hx =>
    ⟨_, _, _, _, _, _, _, _, _, _, _, _, _, _, _, q122_out d sl I A N V lt tw sp sr [] h1.1 j x hx, c208_out (d + 1) sl2 J w B M hm hD j x hx, Rl_0 ⟨H, m, h1, h2, h3⟩ _, Nat.le_refl _, by omega, by simp⟩
  cases hi : isN m j with
  | false => exact hout (Or.inl hi)
  | true =>
    rcases sw_in 4 (by decide) x with ⟨k, hk, rfl⟩ | hx
    · obtain ⟨i, hi', rfl⟩ := isN_t (by omega) hi
      exact ⟨_, _, _, _, _, _, _, _, _, _, _, _, _, _, _, q122_in d sl I A N V lt tw sp sr [] h1.1 hi' hk, c208_in (d + 1) sl2 J w B M hm hD hi' hk, Rl_0 ⟨H, m, h1, h2, h3⟩ _, Nat.le_refl _, by omega, by simp⟩
    · exact hout (Or.inr hx)
theorem ok_at (h k : Int32) : Ok (d + 4) 123 209 [.ref 0, .int h, .int k] := by
  intro sl sl2 I A N V lt tw sp sr J w B M hR
  obtain ⟨H, m, h1, h2, h3⟩ := hR
  have hV := h1.2.1
  obtain ⟨hH, hD, hH6, hm⟩ := hV.1
  have e1 := q123 d sl I A N V lt tw sp sr [] h1.1 h k
  have e2 := c209 (d + 1) sl2 J w B M hH6 hm hH hD h k
  have hb : (isN H h && (decide (nI 0 ≤ k) && decide (k < B 2 (16 + h.toNatClampNeg)))) = (isN H h && (decide (nI 0 ≤ k) && decide (k ≤ B 2 (16 + h.toNatClampNeg) - nI 1))) := at_b hV h k
  rw [hb] at e1
  exact ⟨_, _, _, _, _, _, _, _, _, _, _, _, _, _, _, e1, e2, Rl_0 ⟨H, m, h1, h2, h3⟩ _, Nat.le_refl _, by omega, by simp⟩
theorem ok_top (k : Int32) : Ok (d + 3) 136 232 [.ref 0, .int k] := by
  intro sl sl2 I A N V lt tw sp sr J w B M hR
  obtain ⟨H, m, h1, h2, h3⟩ := hR
  obtain ⟨hH, hD, hH6, hm⟩ := h1.2.1.1
  exact ⟨_, _, _, _, _, _, _, _, _, _, _, _, _, _, _, q136 d sl I A N V lt tw sp sr [] h1.1 k, c232 (d + 1) sl2 J w B M hm hD k, Rl_0 ⟨H, m, h1, h2, h3⟩ _, Nat.le_refl _, by omega, by simp⟩
theorem ok_fullest : Ok (d + 3) 143 243 [.ref 0] := by
  intro sl sl2 I A N V lt tw sp sr J w B M hR
  obtain ⟨H, m, h1, h2, h3⟩ := hR
  exact ⟨_, _, _, _, _, _, _, _, _, _, _, _, _, _, _, q143 d sl I A N V lt tw sp sr [] h1.1, c243 (d + 1) sl2 J w B M h1.2.1, Rl_0 ⟨H, m, h1, h2, h3⟩ _, Nat.le_refl _, by omega, by simp⟩
theorem ok_ringAt (k : Int32) : Ok (d + 1) 141 214 [.ref 0, .int k] := by
  intro sl sl2 I A N V lt tw sp sr J w B M hR
  obtain ⟨H, m, h1, h2, h3⟩ := hR
  obtain ⟨q, hq, q1, q2, q3⟩ := h3.2.1.2.1
  have e1 := q141 (d + 1) sl I A N V lt tw sp sr [] hq q1 k
  have e2 := c214 d sl2 J w B M hq q2 k
  have hb : cond (isN q k) (A 98 k.toNatClampNeg) (-1) = cond (isN q k) (B 12 k.toNatClampNeg) (-1) := by
    cases hi : isN q k with
    | false => rfl
    | true =>
      obtain ⟨i, hi', rfl⟩ := isN_t (by omega) hi
      rw [nI_clamp (by omega), q3 i hi']
  rw [hb] at e1
  exact ⟨_, _, _, _, _, _, _, _, _, _, _, _, _, _, _, e1, e2, Rl_0 ⟨H, m, h1, h2, h3⟩ _, Nat.le_refl _, by omega, by simp⟩
theorem ok_byteAt (k : Int32) : Ok (d + 1) 153 251 [.ref 0, .int k] := by
  intro sl sl2 I A N V lt tw sp sr J w B M hR
  obtain ⟨H, m, h1, h2, h3⟩ := hR
  obtain ⟨t, ht, t1, t2, t3⟩ := h3.2.1.2.2.1
  cases hi : isN t k with
  | true =>
    obtain ⟨i, hi', rfl⟩ := isN_t (by omega) hi
    have a1 : ¬ i < 0 := by omega
    have a2 : ¬ t ≤ i := by omega
    have e21 : C d 21 [.ref 106, .int (nI i)] sl (CH I A N V lt tw sp sr []) = some ([.int (A 107 i)], sl, CH I A N V lt tw sp sr []) := by
      rw [e21, k21_r106_0, t1]
      simp (disch := omega) only [rt_c, b_some, List.cons_append, List.nil_append, Bool.cond_not, cond_true, cond_false, Bool.cond_decide, nI_add, nI_clamp, xin_n, dle_e, dlt_e, deq_e, xb_0, xb_1, decide_true, decide_false, Bool.not_true, Bool.not_false, Bool.and_true, Bool.true_and, Bool.and_false, Bool.false_and, Bool.true_or, Bool.false_or, Bool.or_true, Bool.or_false, if_true, if_false, up1_s, n_31, Int32.lt_irrefl, a1, a2, t21_22]
    refine ⟨B 15 i, I, A, N, V, lt, tw, sp, sr, [], sl, up1 J 0 (nI 0), w, B, M, ?_, ?_, Rl_0 ⟨H, m, h1, h2, h3⟩ _, Nat.le_refl _, by omega, by simp⟩
    · rw [e153, k153_0, e21, t3 i hi']
      simp (disch := omega) only [rt_c, b_some, List.cons_append, List.nil_append, Bool.cond_not, cond_true, cond_false, Bool.cond_decide, nI_add, nI_clamp, xin_n, dle_e, dlt_e, deq_e, xb_0, xb_1, decide_true, decide_false, Bool.not_true, Bool.not_false, Bool.and_true, Bool.true_and, Bool.and_false, Bool.false_and, Bool.true_or, Bool.false_or, Bool.or_true, Bool.or_false, if_true, if_false, up1_s, n_31, Int32.lt_irrefl, k153_8, t153_8]
    · rw [e251, m251_0, c166, t2, isN_le (by omega), hi]
      simp (disch := omega) only [rt_c, b_some, List.cons_append, List.nil_append, Bool.cond_not, cond_true, cond_false, Bool.cond_decide, nI_add, nI_clamp, xin_n, dle_e, dlt_e, deq_e, xb_0, xb_1, decide_true, decide_false, Bool.not_true, Bool.not_false, Bool.and_true, Bool.true_and, Bool.and_false, Bool.false_and, Bool.true_or, Bool.false_or, Bool.or_true, Bool.or_false, if_true, if_false, up1_s, n_31, Int32.lt_irrefl, m251_16, t251_29]
  | false =>
    have e21 : C d 21 [.ref 106, .int k] sl (CH I A N V lt tw sp sr []) = some ([.int (-1)], sl, CH I A N V lt tw sp sr []) := by
      rw [e21, k21_r106_0, t1]
      unfold isN at hi
      by_cases a1 : k < nI 0
      · simp (disch := omega) only [rt_c, b_some, List.cons_append, List.nil_append, Bool.cond_not, cond_true, cond_false, Bool.cond_decide, nI_add, nI_clamp, xin_n, dle_e, dlt_e, deq_e, xb_0, xb_1, decide_true, decide_false, Bool.not_true, Bool.not_false, Bool.and_true, Bool.true_and, Bool.and_false, Bool.false_and, Bool.true_or, Bool.false_or, Bool.or_true, Bool.or_false, if_true, if_false, up1_s, n_31, Int32.lt_irrefl, a1, t21_22]
      · have a1' : nI 0 ≤ k := Int32.not_lt.mp a1
        rw [decide_eq_true a1', Bool.true_and, decide_eq_false_iff_not] at hi
        have a2 : nI t ≤ k := Int32.not_lt.mp hi
        simp (disch := omega) only [rt_c, b_some, List.cons_append, List.nil_append, Bool.cond_not, cond_true, cond_false, Bool.cond_decide, nI_add, nI_clamp, xin_n, dle_e, dlt_e, deq_e, xb_0, xb_1, decide_true, decide_false, Bool.not_true, Bool.not_false, Bool.and_true, Bool.true_and, Bool.and_false, Bool.false_and, Bool.true_or, Bool.false_or, Bool.or_true, Bool.or_false, if_true, if_false, up1_s, n_31, Int32.lt_irrefl, a1, a2, t21_22]
    refine ⟨-1, I, A, N, V, lt, tw, sp, sr, [], sl, up1 J 0 (nI 0), w, B, M, ?_, ?_, Rl_0 ⟨H, m, h1, h2, h3⟩ _, Nat.le_refl _, by omega, by simp⟩
    · rw [e153, k153_0, e21]
      simp (disch := omega) only [rt_c, b_some, List.cons_append, List.nil_append, Bool.cond_not, cond_true, cond_false, Bool.cond_decide, nI_add, nI_clamp, xin_n, dle_e, dlt_e, deq_e, xb_0, xb_1, decide_true, decide_false, Bool.not_true, Bool.not_false, Bool.and_true, Bool.true_and, Bool.and_false, Bool.false_and, Bool.true_or, Bool.false_or, Bool.or_true, Bool.or_false, if_true, if_false, up1_s, n_31, Int32.lt_irrefl, k153_8, t153_8]
    · rw [e251, m251_0, c166, t2, isN_le (by omega), hi]
      simp (disch := omega) only [rt_c, b_some, List.cons_append, List.nil_append, Bool.cond_not, cond_true, cond_false, Bool.cond_decide, nI_add, nI_clamp, xin_n, dle_e, dlt_e, deq_e, xb_0, xb_1, decide_true, decide_false, Bool.not_true, Bool.not_false, Bool.and_true, Bool.true_and, Bool.and_false, Bool.false_and, Bool.true_or, Bool.false_or, Bool.or_true, Bool.or_false, if_true, if_false, up1_s, n_31, Int32.lt_irrefl, m251_16, t251_29]
theorem ok_told (x : Int32) : Ok (d + 1) 155 267 [.ref 0, .int x] := by
  intro sl sl2 I A N V lt tw sp sr J w B M hR
  obtain ⟨H, m, h1, h2, h3⟩ := hR
  obtain ⟨b, b1, b2, b3⟩ := h3.2.1.2.2.2
  cases b with
  | false =>
    refine ⟨-1, I, A, N, V, lt, tw, sp, sr, [], sl, up1 J 0 (nI 0), w, B, M, ?_, ?_, Rl_0 ⟨H, m, h1, h2, h3⟩ _, Nat.le_refl _, by omega, by simp⟩
    · rw [e155, k155_0, b1]
      simp (disch := omega) only [rt_c, b_some, List.cons_append, List.nil_append, Bool.cond_not, cond_true, cond_false, Bool.cond_decide, nI_add, nI_clamp, xin_n, dle_e, dlt_e, deq_e, xb_0, xb_1, decide_true, decide_false, Bool.not_true, Bool.not_false, Bool.and_true, Bool.true_and, Bool.and_false, Bool.false_and, Bool.true_or, Bool.false_or, Bool.or_true, Bool.or_false, if_true, if_false, up1_s, n_31, Int32.lt_irrefl, t155_11, t155_51, t155_59, t155_67, t155_75, t155_77]
    · rw [e267, m267_0, b2]
      simp (disch := omega) only [rt_c, b_some, List.cons_append, List.nil_append, Bool.cond_not, cond_true, cond_false, Bool.cond_decide, nI_add, nI_clamp, xin_n, dle_e, dlt_e, deq_e, xb_0, xb_1, decide_true, decide_false, Bool.not_true, Bool.not_false, Bool.and_true, Bool.true_and, Bool.and_false, Bool.false_and, Bool.true_or, Bool.false_or, Bool.or_true, Bool.or_false, if_true, if_false, up1_s, n_31, Int32.lt_irrefl, t267_31]
  | true =>
    obtain ⟨c0, c1, c2, c3⟩ := b3 rfl
    rcases sw_in 3 (by decide) x with ⟨k, hk, rfl⟩ | hx
    · refine ⟨B 17 k, I, A, N, V, lt, tw, sp, sr, [], sl, up1 J 0 (nI 0), w, B, M, ?_, ?_, Rl_0 ⟨H, m, h1, h2, h3⟩ _, Nat.le_refl _, by omega, by simp⟩
      · rw [e155, k155_0, b1]
        rcases (show k = 0 ∨ k = 1 ∨ k = 2 ∨ k = 3 by omega) with rfl | rfl | rfl | rfl <;> simp (disch := omega) only [rt_c, b_some, List.cons_append, List.nil_append, Bool.cond_not, cond_true, cond_false, Bool.cond_decide, nI_add, nI_clamp, xin_n, dle_e, dlt_e, deq_e, xb_0, xb_1, decide_true, decide_false, Bool.not_true, Bool.not_false, Bool.and_true, Bool.true_and, Bool.and_false, Bool.false_and, Bool.true_or, Bool.false_or, Bool.or_true, Bool.or_false, if_true, if_false, up1_s, n_31, Int32.lt_irrefl, k155_0, k155_13_c0, k155_13_c1, k155_13_c2, k155_13_c3, k155_76, k155_44, k155_52, k155_60, k155_68, t155_11, t155_51, t155_59, t155_67, t155_75, t155_77, c0, c1, c2, c3]
      · have a1 : 0 ≤ k := by omega
        rw [e267, m267_0, b2]
        simp (disch := omega) only [rt_c, b_some, List.cons_append, List.nil_append, Bool.cond_not, cond_true, cond_false, Bool.cond_decide, nI_add, nI_clamp, xin_n, dle_e, dlt_e, deq_e, xb_0, xb_1, decide_true, decide_false, Bool.not_true, Bool.not_false, Bool.and_true, Bool.true_and, Bool.and_false, Bool.false_and, Bool.true_or, Bool.false_or, Bool.or_true, Bool.or_false, if_true, if_false, up1_s, n_31, Int32.lt_irrefl, c166, a1, hk, xb_t, m267_18, t267_31, Nat.one_ne_zero]
    · have hb : (decide (nI 0 ≤ x) && decide (x ≤ nI 3)) = false := by
        cases hc : (decide (nI 0 ≤ x) && decide (x ≤ nI 3)) with
        | false => rfl
        | true =>
          rw [Bool.and_eq_true, decide_eq_true_eq, decide_eq_true_eq] at hc
          have f1 := Int32.le_iff_toInt_le.mp hc.1
          have f2 := Int32.le_iff_toInt_le.mp hc.2
          rw [nI_toInt (by decide)] at f1 f2
          simp only [Bool.or_eq_true, decide_eq_true_eq] at hx
          omega
      refine ⟨-1, I, A, N, V, lt, tw, sp, sr, [], sl, up1 J 0 (nI 0), w, B, M, ?_, ?_, Rl_0 ⟨H, m, h1, h2, h3⟩ _, Nat.le_refl _, by omega, by simp⟩
      · rw [e155, k155_0, b1]
        simp (disch := omega) only [rt_c, b_some, List.cons_append, List.nil_append, Bool.cond_not, cond_true, cond_false, Bool.cond_decide, nI_add, nI_clamp, xin_n, dle_e, dlt_e, deq_e, xb_0, xb_1, decide_true, decide_false, Bool.not_true, Bool.not_false, Bool.and_true, Bool.true_and, Bool.and_false, Bool.false_and, Bool.true_or, Bool.false_or, Bool.or_true, Bool.or_false, if_true, if_false, up1_s, n_31, Int32.lt_irrefl, k155_13_out _ _ _ _ _ _ _ _ _ _ _ _ _ hx, k155_0, k155_13_c0, k155_13_c1, k155_13_c2, k155_13_c3, k155_76, k155_44, k155_52, k155_60, k155_68, t155_11, t155_51, t155_59, t155_67, t155_75, t155_77]
      · rw [e267, m267_0, b2]
        simp (disch := omega) only [rt_c, b_some, List.cons_append, List.nil_append, Bool.cond_not, cond_true, cond_false, Bool.cond_decide, nI_add, nI_clamp, xin_n, dle_e, dlt_e, deq_e, xb_0, xb_1, decide_true, decide_false, Bool.not_true, Bool.not_false, Bool.and_true, Bool.true_and, Bool.and_false, Bool.false_and, Bool.true_or, Bool.false_or, Bool.or_true, Bool.or_false, if_true, if_false, up1_s, n_31, Int32.lt_irrefl, c166, hb, m267_18, t267_31]
theorem Rl_able {I A : Nat → Nat → Int32} {N : Nat → Nat → Int64} {V : Nat → Nat → Option Nat} {sp sr : Nat} {J : Nat → Int32} {B : Nat → Nat → Int32} {M : Nat → Nat → Int64} (h : Rl I A N V sp sr J B M) (v : Int32) : Rl (up1 I 0 (up1 (I 0) 14 v)) A N V sp sr (up1 (up1 J 0 (nI 0)) 28 v) B M := by
  obtain ⟨H, m, h1, ⟨p, z, h2⟩, h3⟩ := h
  have hI : ∀ q, q ≠ 0 → up1 I 0 (up1 (I 0) 14 v) q = I q := fun q hq => up1_n hq
  obtain ⟨hT, ⟨⟨q1, q2, q3⟩, qr, ql, qt⟩, hi, hv, hc1, hc2⟩ := h3
  have hs := Sn_lt (s := 0) hc1
  refine ⟨H, m, ⟨Sh_c h1.1 (fun _ _ => rfl) (hI 3 (by omega)) (fun _ _ _ => rfl), h1.2⟩, ⟨p, z, RPx_c h2 (fun q _ _ => hI q (by omega)) (fun _ _ _ => rfl) (fun _ _ _ => rfl) rfl (by rw [up1_n (by decide), up1_n (by decide)]) rfl (fun _ _ => rfl)⟩, ?_, ⟨⟨?_, ?_, ?_⟩, ?_, ?_, ?_⟩, ?_, hv, hc1, ?_⟩
  · unfold RT at hT ⊢
    rw [hI 1 (by omega), up1_n (show (2 : Nat) ≠ 28 by decide), up1_n (show (2 : Nat) ≠ 0 by decide)]
    exact hT
  · rw [up1_s, up1_n (by decide), up1_n (by decide), up1_n (by decide)]; exact q1
  · rw [up1_s, up1_s, up1_s]
  · rw [up1_s, up1_n (by decide), up1_n (by decide), up1_n (by decide)]; exact q3
  · rw [hI 95 (by omega), up1_n (show (27 : Nat) ≠ 28 by decide), up1_n (show (27 : Nat) ≠ 0 by decide)]; exact qr
  · rw [hI 106 (by omega), up1_n (show (33 : Nat) ≠ 28 by decide), up1_n (show (33 : Nat) ≠ 0 by decide)]; exact ql
  · rw [hI 101 (by omega), up1_n (show (38 : Nat) ≠ 28 by decide), up1_n (show (38 : Nat) ≠ 0 by decide)]; exact qt
  · intro k hk
    obtain ⟨b, e1, e2, e3⟩ := hi k hk
    refine ⟨b, e1, e2, fun hb => ?_⟩
    obtain ⟨H, m, f1, f2, f3, f4, f5⟩ := e3 hb
    exact ⟨H, m, Sh_c f1 (fun _ _ => rfl) (hI _ (by omega)) (fun _ _ _ => rfl), f2, f3, f4, Sn_c f5 (fun _ _ => rfl) (by rw [hI _ (by omega)]) rfl rfl rfl⟩
  · exact Sn_c hc2 (fun _ _ => rfl) (by rw [hI _ (by omega)]) rfl rfl rfl
theorem ok_able (h : Int32) : Ok (d + 3) 137 233 [.ref 0, .int h] := by
  intro sl sl2 I A N V lt tw sp sr J w B M hR
  have hR0 := hR
  obtain ⟨H, m, h1, h2, h3⟩ := hR
  have hV := h1.2.1
  obtain ⟨hH, hD, hH6, hm⟩ := hV.1
  cases hi : isN H h with
  | false => exact ⟨_, _, _, _, _, _, _, _, _, _, _, _, _, _, _, q137_out d sl I A N V lt tw sp sr [] h1.1 hi, c233_out d sl2 J w B M hV hi, Rl_0 ⟨H, m, h1, h2, h3⟩ _, Nat.le_refl _, by omega, by simp⟩
  | true =>
    obtain ⟨a, ha, rfl⟩ := isN_t (by omega) hi
    obtain ⟨g, g1, g2, g3⟩ := q137 d sl I A N V lt tw sp sr [] h1.1 hV ha
    obtain ⟨g', f1, f2, f3⟩ := c233 d sl2 J w B M hV ha
    have hg := best_uniq (open_lt hm) g1 f1
    subst hg
    exact ⟨_, _, _, _, _, _, _, _, _, _, _, _, _, _, _, g3, f3, Rl_able hR0 _, Nat.le_refl _, by omega, by simp⟩
theorem ok_end (y : Int32) : Ok d 116 164 [.ref 0, .int y] := by
  intro sl sl2 I A N V lt tw sp sr J w B M hR
  have hR0 := hR
  obtain ⟨H, m, h1, ⟨p, z, h2⟩, h3⟩ := hR
  obtain ⟨t, ht, t1, t2, t3⟩ := h3.1
  by_cases a1 : y < nI 0
  · refine ⟨x_b false, I, A, N, V, lt, tw, sp, sr, [], sl, up1 J 0 (nI 0), w, B, M, ?_, ?_, Rl_0 hR0 _, Nat.le_refl _, by omega, by simp⟩
    · rw [e116, k116_0]
      simp (disch := omega) only [rt_c, b_some, List.cons_append, List.nil_append, Bool.cond_not, cond_true, cond_false, Bool.cond_decide, nI_add, nI_clamp, xin_n, dle_e, dlt_e, deq_e, xb_0, xb_1, decide_true, decide_false, Bool.not_true, Bool.not_false, Bool.and_true, Bool.true_and, Bool.and_false, Bool.false_and, Bool.true_or, Bool.false_or, Bool.or_true, Bool.or_false, if_true, if_false, up1_s, n_31, Int32.lt_irrefl, a1, t116_16, t116_16_0, t116_16_1, t116_26, t116_26_0, t116_26_1]
    · rw [e164, m164_0]
      simp (disch := omega) only [rt_c, b_some, List.cons_append, List.nil_append, Bool.cond_not, cond_true, cond_false, Bool.cond_decide, nI_add, nI_clamp, xin_n, dle_e, dlt_e, deq_e, xb_0, xb_1, decide_true, decide_false, Bool.not_true, Bool.not_false, Bool.and_true, Bool.true_and, Bool.and_false, Bool.false_and, Bool.true_or, Bool.false_or, Bool.or_true, Bool.or_false, if_true, if_false, up1_s, n_31, Int32.lt_irrefl, a1, t164_18, t164_18_0, t164_18_1, t164_25, t164_25_0, t164_25_1]
  · obtain ⟨v, hv, rfl⟩ := nI_of (x := y) a1
    have a1' : ¬ v < 0 := by omega
    by_cases a2 : v ≤ t
    · refine ⟨x_b true, up1 I 1 (up1 (I 1) 1 (nI v)), A, N, V, lt, tw, sp, sr, [], sl, up1 (up1 J 0 (nI 0)) 2 (nI v), w, B, M, ?_, ?_, ?_, Nat.le_refl _, by omega, by simp⟩
      · rw [e116, k116_0, t1]
        simp (disch := omega) only [rt_c, b_some, List.cons_append, List.nil_append, Bool.cond_not, cond_true, cond_false, Bool.cond_decide, nI_add, nI_clamp, xin_n, dle_e, dlt_e, deq_e, xb_0, xb_1, decide_true, decide_false, Bool.not_true, Bool.not_false, Bool.and_true, Bool.true_and, Bool.and_false, Bool.false_and, Bool.true_or, Bool.false_or, Bool.or_true, Bool.or_false, if_true, if_false, up1_s, n_31, Int32.lt_irrefl, a1', a2, t116_16, t116_16_0, t116_16_1, t116_26, t116_26_0, t116_26_1]
      · rw [e164, m164_0, t2]
        simp (disch := omega) only [rt_c, b_some, List.cons_append, List.nil_append, Bool.cond_not, cond_true, cond_false, Bool.cond_decide, nI_add, nI_clamp, xin_n, dle_e, dlt_e, deq_e, xb_0, xb_1, decide_true, decide_false, Bool.not_true, Bool.not_false, Bool.and_true, Bool.true_and, Bool.and_false, Bool.false_and, Bool.true_or, Bool.false_or, Bool.or_true, Bool.or_false, if_true, if_false, up1_s, n_31, Int32.lt_irrefl, a1', a2, t164_18, t164_18_0, t164_18_1, t164_25, t164_25_0, t164_25_1]
      · have hI : ∀ q, q ≠ 1 → up1 I 1 (up1 (I 1) 1 (nI v)) q = I q := fun q hq => up1_n hq
        have hJ : ∀ q, q ≠ 2 → q ≠ 0 → up1 (up1 J 0 (nI 0)) 2 (nI v) q = J q := fun q hq hq0 => by rw [up1_n hq, up1_n hq0]
        obtain ⟨hT, ⟨⟨q1, q2, q3⟩, qr, ql, qt⟩, hi, hv', hc1, hc2⟩ := h3
        have hs := Sn_lt (s := 0) hc1
        refine ⟨H, m, ⟨Sh_c h1.1 (fun _ _ => rfl) (hI 3 (by omega)) (fun _ _ _ => rfl), h1.2⟩, ⟨p, z, RPx_c h2 (fun q _ _ => hI q (by omega)) (fun _ _ _ => rfl) (fun _ _ _ => rfl) rfl (hJ _ (by decide) (by decide)) rfl (fun _ _ => rfl)⟩, ?_, ⟨⟨?_, ?_, ?_⟩, ?_, ?_, ?_⟩, ?_, hv', hc1, ?_⟩
        · refine ⟨v, by omega, ?_, up1_s, fun k hk => t3 k (by omega)⟩
          rw [up1_s, up1_s]
        · rw [hI 0 (by omega), hJ 10 (by decide) (by decide)]; exact q1
        · rw [hI 0 (by omega), hJ 28 (by decide) (by decide)]; exact q2
        · rw [hI 0 (by omega), hJ 31 (by decide) (by decide)]; exact q3
        · rw [hI 95 (by omega), hJ 27 (by decide) (by decide)]; exact qr
        · rw [hI 106 (by omega), hJ 33 (by decide) (by decide)]; exact ql
        · rw [hI 101 (by omega), hJ 38 (by decide) (by decide)]; exact qt
        · intro k hk
          obtain ⟨b, e1, e2, e3⟩ := hi k hk
          refine ⟨b, e1, e2, fun hb => ?_⟩
          obtain ⟨H, m, f1, f2, f3, f4, f5⟩ := e3 hb
          exact ⟨H, m, Sh_c f1 (fun _ _ => rfl) (hI _ (by omega)) (fun _ _ _ => rfl), f2, f3, f4, Sn_c f5 (fun _ _ => rfl) (by rw [hI _ (by omega)]) rfl rfl rfl⟩
        · exact Sn_c hc2 (fun _ _ => rfl) (by rw [hI _ (by omega)]) rfl rfl rfl
    · refine ⟨x_b false, I, A, N, V, lt, tw, sp, sr, [], sl, up1 J 0 (nI 0), w, B, M, ?_, ?_, Rl_0 hR0 _, Nat.le_refl _, by omega, by simp⟩
      · rw [e116, k116_0, t1]
        simp (disch := omega) only [rt_c, b_some, List.cons_append, List.nil_append, Bool.cond_not, cond_true, cond_false, Bool.cond_decide, nI_add, nI_clamp, xin_n, dle_e, dlt_e, deq_e, xb_0, xb_1, decide_true, decide_false, Bool.not_true, Bool.not_false, Bool.and_true, Bool.true_and, Bool.and_false, Bool.false_and, Bool.true_or, Bool.false_or, Bool.or_true, Bool.or_false, if_true, if_false, up1_s, n_31, Int32.lt_irrefl, a1', a2, t116_16, t116_16_0, t116_16_1, t116_26, t116_26_0, t116_26_1]
      · rw [e164, m164_0, t2]
        simp (disch := omega) only [rt_c, b_some, List.cons_append, List.nil_append, Bool.cond_not, cond_true, cond_false, Bool.cond_decide, nI_add, nI_clamp, xin_n, dle_e, dlt_e, deq_e, xb_0, xb_1, decide_true, decide_false, Bool.not_true, Bool.not_false, Bool.and_true, Bool.true_and, Bool.and_false, Bool.false_and, Bool.true_or, Bool.false_or, Bool.or_true, Bool.or_false, if_true, if_false, up1_s, n_31, Int32.lt_irrefl, a1', a2, t164_18, t164_18_0, t164_18_1, t164_25, t164_25_0, t164_25_1]
end OKQ
