/-! SHIRE: both sides -/
theorem RI_c {I A I' A' : Nat → Nat → Int32} {N N' : Nat → Nat → Int64} {V V' : Nat → Nat → Option Nat} {B B' : Nat → Nat → Int32} {M M' : Nat → Nat → Int64} (h : RI I A N V B M) (hI : ∀ q, 120 ≤ q → I' q = I q) (hA : ∀ q, (q = 118 ∨ 120 ≤ q) → A' q = A q) (hN : ∀ q, 120 ≤ q → N' q = N q) (hV : ∀ q, 120 ≤ q → V' q = V q) (b4 : B' 4 = B 4) (b10 : B' 10 = B 10) (m9 : M' 9 = M 9) : RI I' A' N' V' B' M' := by
  intro k hk
  obtain ⟨b, h1, h2, h3⟩ := h k hk
  refine ⟨b, by rw [hA 118 (Or.inl rfl)]; exact h1, by rw [b10]; exact h2, fun hb => ?_⟩
  obtain ⟨H, m, g1, g2, g3, g4, g5⟩ := h3 hb
  rw [b4, m9]
  exact ⟨H, m, Sh_c g1 (fun _ _ => rfl) (hI _ (by omega)) (fun q q1 q2 => hA q (by omega)), g2, g3, by rw [hN _ (by omega)]; exact g4, Sn_c g5 (fun _ _ => rfl) (by rw [hI _ (by omega)]) (hV _ (by omega)) (hA _ (by omega)) (hA _ (by omega))⟩
theorem RQ_c {I A I' A' : Nat → Nat → Int32} {J J' : Nat → Int32} {B B' : Nat → Nat → Int32} (h : RQ I A J B) (h13 : I' 0 13 = J' 10) (h14 : I' 0 14 = I 0 14) (h15 : I' 0 15 = I 0 15) (i95 : I' 95 = I 95) (i106 : I' 106 = I 106) (i101 : ∀ k, 4 < k → I' 101 k = I 101 k) (a98 : A' 98 = A 98) (a107 : A' 107 = A 107) (hJ : J' 27 = J 27 ∧ J' 28 = J 28 ∧ J' 31 = J 31 ∧ J' 33 = J 33 ∧ J' 38 = J 38) (hB : B' 12 = B 12 ∧ B' 15 = B 15 ∧ B' 17 = B 17) : RQ I' A' J' B' := by
  obtain ⟨⟨q1, q2, q3⟩, qr, ql, qt⟩ := h
  obtain ⟨j27, j28, j31, j33, j38⟩ := hJ
  obtain ⟨b12, b15, b17⟩ := hB
  refine ⟨⟨h13, by rw [h14, j28]; exact q2, by rw [h15, j31]; exact q3⟩, ?_, ?_, ?_⟩
  · rw [i95, j27, a98, b12]; exact qr
  · rw [i106, j33, a107, b15]; exact ql
  · rw [i101 5 (by decide), i101 6 (by decide), i101 7 (by decide), i101 8 (by decide), i101 9 (by decide), j38, b17]; exact qt
theorem Rl_read {I A : Nat → Nat → Int32} {N : Nat → Nat → Int64} {V : Nat → Nat → Option Nat} {sp sr : Nat} {J : Nat → Int32} {B : Nat → Nat → Int32} {M : Nat → Nat → Int64} (h : Rl I A N V sp sr J B M) {I' A' : Nat → Nat → Int32} {N' : Nat → Nat → Int64} {J' : Nat → Int32} {B' : Nat → Nat → Int32} {M' : Nat → Nat → Int64}
    (hI : ∀ q, 2 ≤ q → q ≠ 12 → q ≠ 101 → I' q = I q) (i101 : ∀ k, 4 < k → I' 101 k = I 101 k) (h0 : ∀ k, k ≠ 13 → I' 0 k = I 0 k) (h13 : I' 0 13 = J' 10) (h11 : I' 1 1 = nI 0) (hJ2 : J' 2 = nI 0) (hA : ∀ q, (q < 14 ∨ 20 < q) → (q < 102 ∨ 105 < q) → A' q = A q) (hN : ∀ q, q ≠ 13 → N' q = N q) (h24 : J' 24 = J 24) (hJ : J' 27 = J 27 ∧ J' 28 = J 28 ∧ J' 31 = J 31 ∧ J' 33 = J 33 ∧ J' 38 = J 38) (hB : ∀ q, q ≠ 3 → q ≠ 16 → B' q = B q) (hM : ∀ q, q ≠ 8 → M' q = M q) : Rl I' A' N' V sp sr J' B' M' := by
  obtain ⟨H, m, ⟨s1, s2, s3, s4⟩, ⟨p, z, h2⟩, hT, hQ, hRI, hRV, hC1, hC2⟩ := h
  have b2 := hB 2 (by decide) (by decide)
  have hsp := Sn_lt (s := 0) hC1
  refine ⟨H, m, ⟨?_, by rw [b2]; exact s2, by rw [b2]; exact s3, by rw [hN 4 (by decide), hM 7 (by decide)]; exact s4⟩, ⟨p, z, RPx_c h2 (fun q _ _ => hI q (by omega) (by omega) (by omega)) (fun q _ _ => hA q (by omega) (by omega)) (fun q _ _ => hN q (by omega)) (hM 7 (by decide)) h24 (hB 5 (by decide) (by decide)) (fun _ _ => by rw [b2])⟩, ⟨0, by omega, h11, hJ2, fun k hk => by omega⟩, RQ_c hQ h13 (h0 14 (by decide)) (h0 15 (by decide)) (hI 95 (by decide) (by decide) (by decide)) (hI 106 (by decide) (by decide) (by decide)) i101 (hA 98 (by decide) (by decide)) (hA 107 (by decide) (by decide)) hJ ⟨hB 12 (by decide) (by decide), hB 15 (by decide) (by decide), hB 17 (by decide) (by decide)⟩, RI_c hRI (fun q _ => hI q (by omega) (by omega) (by omega)) (fun q _ => hA q (by omega) (by omega)) (fun q _ => hN q (by omega)) (fun _ _ => rfl) (hB 4 (by decide) (by decide)) (hB 10 (by decide) (by decide)) (hM 9 (by decide)), hRV, hC1, ?_⟩
  · rw [b2]; exact Sh_c s1 (fun _ _ => rfl) (hI 3 (by decide) (by decide) (by decide)) (fun q _ _ => hA q (by omega) (by omega))
  · exact Sn_c hC2 (fun _ _ => by rw [b2]) (by rw [hI sp (by omega) (by omega) (by omega)]) rfl (hA _ (by omega) (by omega)) (hA _ (by omega) (by omega))
theorem RR_Sh {I A I' : Nat → Nat → Int32} {N : Nat → Nat → Int64} {B : Nat → Nat → Int32} {M : Nat → Nat → Int64} {H m : Nat} {n : Nat → Int32} (h : RR I A N B M H m) (hn : Nst (B 3) n) (hi : I' 12 = I 12) : Sh I' A 12 n H m ∧ Vd n H m ∧ Yr n := by
  obtain ⟨⟨r1, r2, r3, r4, r5, r6, r7, r8⟩, ⟨g, g1, g2, g3⟩, ⟨y, y0, y1, y2, y3⟩, rh, rd, rz, rl, rN⟩ := h
  obtain ⟨n1, n2, n3, n4, n5, n6, n7⟩ := hn
  have e79 : ∀ k, k < 12 → n (79 + k) = B 3 (22 + k) := fun k hk => n6 k (by omega)
  have e91 : ∀ k, k < 12 → n (91 + k) = B 3 (34 + k) := fun k hk => by
    have := n6 (12 + k) (by omega)
    rw [show 79 + (12 + k) = 91 + k by omega, show 22 + (12 + k) = 34 + k by omega] at this
    exact this
  have e103 : ∀ k, k < 12 → n (103 + k) = B 3 (46 + k) := fun k hk => by
    have := n6 (24 + k) (by omega)
    rw [show 79 + (24 + k) = 103 + k by omega, show 22 + (24 + k) = 46 + k by omega] at this
    exact this
  have e115 : ∀ k, k < 12 → n (115 + k) = B 3 (58 + k) := fun k hk => by
    have := n6 (36 + k) (by omega)
    rw [show 79 + (36 + k) = 115 + k by omega, show 22 + (36 + k) = 58 + k by omega] at this
    exact this
  refine ⟨⟨⟨by rw [hi]; exact r3, by rw [hi]; exact r5, r1, r2⟩, ⟨by rw [hi, g2, n1 2 (by decide), g3], by rw [hi, y2, n1 3 (by decide), y3], by rw [hi, r7, n2], by rw [hi, r8, n3]⟩, fun h hh => ?_, fun h hh => ?_, fun h hh => ?_, fun k hk => ?_, fun k hk => ?_, fun k hk => ?_, fun k hk => ?_⟩, ⟨⟨by rw [n1 0 (by decide)]; exact r4, by rw [n4]; exact r6, r1, r2⟩, ⟨g, g1, by rw [n1 2 (by decide)]; exact g3⟩, ⟨y, y0, y1, by rw [n1 3 (by decide)]; exact y3⟩, fun h hh => ?_, fun k hk => ?_, fun k hk => ?_, fun k hk => ?_, fun k hk => ?_, fun k hk => ?_, fun k k1 k2 => ?_, fun h h1 h2 => ?_⟩, ⟨0, by decide, n2⟩⟩
  · rw [n5 h (by omega)]; exact (rh h hh).1
  · rw [n1 _ (by omega)]; exact (rh h hh).2.1
  · rw [n1 _ (by omega)]; exact (rh h hh).2.2.1
  · rw [e79 k (by omega)]; exact (rd k hk).1
  · rw [e91 k (by omega)]; exact (rd k hk).2.1
  · rw [e103 k (by omega)]; exact (rd k hk).2.2.1
  · rw [e115 k (by omega)]; exact (rd k hk).2.2.2.1
  · obtain ⟨c, c1, c2⟩ := (rh h hh).2.2.2
    exact ⟨c, c1, by rw [n1 _ (by omega)]; exact c2⟩
  · obtain ⟨a, c, l, g, z1, z2, z3, z4, z5, z6, z7, z8, z9⟩ := (rd k hk).2.2.2.2
    exact ⟨a, z1, by rw [e79 k (by omega)]; exact z6⟩
  · obtain ⟨a, c, l, g, z1, z2, z3, z4, z5, z6, z7, z8, z9⟩ := (rd k hk).2.2.2.2
    exact ⟨c, z2, by rw [e91 k (by omega)]; exact z7⟩
  · obtain ⟨a, c, l, g, z1, z2, z3, z4, z5, z6, z7, z8, z9⟩ := (rd k hk).2.2.2.2
    rw [e79 k (by omega), e91 k (by omega), z6, z7]
    intro e
    have := congrArg Int32.toNatClampNeg e
    rw [nI_clamp (by omega), nI_clamp (by omega)] at this
    exact z3 this
  · obtain ⟨a, c, l, g, z1, z2, z3, z4, z5, z6, z7, z8, z9⟩ := (rd k hk).2.2.2.2
    exact ⟨l, z4, by rw [e103 k (by omega)]; exact z8⟩
  · obtain ⟨a, c, l, g, z1, z2, z3, z4, z5, z6, z7, z8, z9⟩ := (rd k hk).2.2.2.2
    exact ⟨g, z5, by rw [e115 k (by omega)]; exact z9⟩
  · rw [e103 k k2]; exact rl k k1 k2
  · rw [n5 h h2]; exact rz h h1 h2
theorem ok_shire (d : Nat) : Ok (d + 6) 117 194 [.ref 0] := by
  intro sl sl2 I A N V lt tw sp sr J w B M hR
  have hR0 := hR
  obtain ⟨H0, m0, ⟨s1, s2, s3, s4⟩, ⟨p, z, h2⟩, hT, hQ, hRI, hRV, hC1, hC2⟩ := hR
  obtain ⟨t, b, κ, v, s, I1, lt1, tw1, J1, w1, hB, x1, x2, x3, x4, x5, x6, x7, x8, x9⟩ := rd_begin (d + 3) (d + 3) sl sl2 I A N V lt tw sp sr [] J w B M (L := 900) (by decide) hT rfl
  obtain ⟨r, c1, c2, c3, c4⟩ := c194_clr (d + 5) sl2 J1 w1 B M 70 0 (B 3) (by omega) (fun k hk => by omega)
  rw [up1_id] at c1
  have h80 : C (d + 5) 80 [.ref 146, .ref 1, .ref 12] (sl + 3) (CH I1 A N V lt1 tw1 sp sr [.inr (7, [.null, .null, .int 0])]) = some ([], sl + 3, CH I1 A N V lt1 tw1 sp sr [.inr (7, [.ref 1, .ref 12, .int (nI 0)])]) := by
    rw [e80, k80_r146_r1_r12_0]
    simp (disch := omega) only [rt_c, b_some, List.cons_append, List.nil_append, Bool.cond_not, cond_true, cond_false, Bool.cond_decide, nI_add, nI_clamp, xin_n, dle_e, dlt_e, deq_e, xb_0, xb_1, decide_true, decide_false, Bool.not_true, Bool.not_false, Bool.and_true, Bool.true_and, Bool.and_false, Bool.false_and, Bool.true_or, Bool.false_or, Bool.or_true, Bool.or_false, if_true, if_false, up1_s, n_31, Int32.lt_irrefl, t80_19]
  have h81 : C (d + 5) 81 [.ref 146] (sl + 3) (CH I1 A N V lt1 tw1 sp sr [.inr (7, [.ref 1, .ref 12, .int (nI 0)])]) = rt 81 (R (d + 5) 81 (9, [some (.ref 146), some (.int (nI 0))], [], sl + 3, CH (up1 I1 12 (up1 (up1 (up1 (up1 (up1 (up1 (I1 12) 8 (nI 0)) 9 (nI 0)) 10 (nI 1)) 11 (nI 5)) 12 (nI 0)) 13 (nI 0))) A N V lt1 tw1 sp sr [.inr (7, [.ref 1, .ref 12, .int (x_b false)])])) := by
    have h43 : C (d + 4) 43 [.ref 12] (sl + 3) (CH I1 A N V lt1 tw1 sp sr [.inr (7, [.ref 1, .ref 12, .int (nI 0)])]) = some ([], sl + 3, CH (up1 I1 12 (up1 (up1 (up1 (up1 (up1 (up1 (I1 12) 8 (nI 0)) 9 (nI 0)) 10 (nI 1)) 11 (nI 5)) 12 (nI 0)) 13 (nI 0))) A N V lt1 tw1 sp sr [.inr (7, [.ref 1, .ref 12, .int (nI 0)])]) := by
      rw [e43, k43_r12_0]
      simp (disch := omega) only [rt_c, b_some, List.cons_append, List.nil_append, Bool.cond_not, cond_true, cond_false, Bool.cond_decide, nI_add, nI_clamp, xin_n, dle_e, dlt_e, deq_e, xb_0, xb_1, decide_true, decide_false, Bool.not_true, Bool.not_false, Bool.and_true, Bool.true_and, Bool.and_false, Bool.false_and, Bool.true_or, Bool.false_or, Bool.or_true, Bool.or_false, if_true, if_false, up1_s, n_31, Int32.lt_irrefl, t43_30]
    rw [e81, k81_r146_0, h43, xb_f]
    simp (disch := omega) only [rt_c, b_some, List.cons_append, List.nil_append, Bool.cond_not, cond_true, cond_false, Bool.cond_decide, nI_add, nI_clamp, xin_n, dle_e, dlt_e, deq_e, xb_0, xb_1, decide_true, decide_false, Bool.not_true, Bool.not_false, Bool.and_true, Bool.true_and, Bool.and_false, Bool.false_and, Bool.true_or, Bool.false_or, Bool.or_true, Bool.or_false, if_true, if_false, up1_s, n_31, Int32.lt_irrefl, k81_r146_7]
  have hS : Rs t 900 (2 * 0) (up1 I1 12 (up1 (up1 (up1 (up1 (up1 (up1 (I1 12) 8 (nI 0)) 9 (nI 0)) 10 (nI 1)) 11 (nI 5)) 12 (nI 0)) 13 (nI 0))) A N lt1 tw1 false (up1 J1 23 (nI 0)) w1 (up1 B 3 r) M := by
    refine ⟨⟨κ, v, s, ?_⟩, ⟨0, 0, ⟨by decide, by decide, ?_, ?_, ?_, ?_, ?_, ?_⟩, ⟨1, by decide, ?_, ?_⟩, ⟨5, by decide, by decide, ?_, ?_⟩, fun h hh => absurd hh (by omega), fun h hh => absurd hh (by omega), fun h h1 h2 => ?_, fun h h1 h2 => ?_, fun h hh => absurd hh (by omega)⟩, ?_, ?_, ?_⟩
    · rw [up1_n (by decide)]
      obtain ⟨p, q, a1, a2, a3, a4, a5, a6, a7, a8, a9, a10, a11, a12, a13, a14⟩ := x3
      refine ⟨p, q, a1, a2, a3, ?_, a5, ?_, a7, ?_, a9, ?_, a11, a12, a13, ?_⟩
      · rw [up1_n (by decide)]; exact a4
      · rw [up1_n (by decide)]; exact a6
      · rw [up1_n (by decide)]; exact a8
      · rw [up1_n (by decide)]; exact a10
      · rw [up1_n (show (7 : Nat) ≠ 23 by decide), up1_n (show (8 : Nat) ≠ 23 by decide), up1_n (show (9 : Nat) ≠ 23 by decide)]; exact a14
    · simp (disch := omega) only [up1_s, up1_n]
    · rw [up1_s]; exact c4 0 (by decide) (by decide) (by decide)
    · simp (disch := omega) only [up1_s, up1_n]
    · rw [up1_s]; exact c4 1 (by decide) (by decide) (by decide)
    · simp (disch := omega) only [up1_s, up1_n]
    · simp (disch := omega) only [up1_s, up1_n]
    · simp (disch := omega) only [up1_s, up1_n]
    · rw [up1_s]; exact c2
    · simp (disch := omega) only [up1_s, up1_n]
    · rw [up1_s]; exact c3
    · rw [up1_s]; exact c4 _ (by omega) (by omega) (by omega)
    · rw [up1_s]; exact c4 _ (by omega) (by omega) (by omega)
    · rw [up1_s, xb_f]
    · rw [up1_n (by decide)]; exact x5
    · rw [up1_n (by decide)]; exact x6
  have hB1 : Bt t b A (up1 B 3 r) := Bt_c hB rfl (up1_n (by decide))
  have rc : C (d + 6) 194 [.ref 0] sl2 (RH J w B M) = rt 194 (R (d + 6) 194 (49, [some (.ref 0), some (.int (nI 0)), none], [], sl2, RH (up1 J1 23 (nI 0)) w1 (up1 B 3 r) M)) := by
    rw [e194, m194_0, x2]
    simp (disch := omega) only [rt_c, b_some, List.cons_append, List.nil_append, Bool.cond_not, cond_true, cond_false, Bool.cond_decide, nI_add, nI_clamp, xin_n, dle_e, dlt_e, deq_e, xb_0, xb_1, decide_true, decide_false, Bool.not_true, Bool.not_false, Bool.and_true, Bool.true_and, Bool.and_false, Bool.false_and, Bool.true_or, Bool.false_or, Bool.or_true, Bool.or_false, if_true, if_false, up1_s, n_31, Int32.lt_irrefl, m194_7, c1]
  rcases sh_loop d d (sl + 3) sl2 V sp sr (t := t) (L := 900) (b := b) (by decide) 471 0 _ A N lt1 tw1 false _ w1 _ M (by omega) (by omega) hB1 hS with ⟨l, I2, A2, N2, lt2, tw2, go2, J2, w2, B2, M2, H, m, y0, y1, y2, y3, y4, y5, y6⟩ | ⟨I2, A2, N2, lt2, tw2, go2, J2, w2, B2, M2, y1, y2, y3, y4⟩
  · -- read
    obtain ⟨g', f', e1, e2, e3⟩ := c194_end (d + 5) sl2 J2 w2 B2 M2 (nI l) 70 0 (B2 2) (by omega) (fun k hk => by omega)
    rw [up1_id] at e1
    have h119 : C (d + 5) 119 [.ref 0] (sl + 3) (CH I2 A2 N2 V lt2 tw2 sp sr [.inr (7, [.ref 1, .ref 12, .int (x_b go2)])]) = some ([], sl + 3, CH (up1 (up1 I2 0 (up1 (I2 0) 13 (I2 1 10))) 1 (up1 (I2 1) 1 (nI 0))) A2 N2 V lt2 tw2 sp sr [.inr (7, [.ref 1, .ref 12, .int (x_b go2)])]) := by
      rw [e119, k119_0]
      simp (disch := omega) only [rt_c, b_some, List.cons_append, List.nil_append, Bool.cond_not, cond_true, cond_false, Bool.cond_decide, nI_add, nI_clamp, xin_n, dle_e, dlt_e, deq_e, xb_0, xb_1, decide_true, decide_false, Bool.not_true, Bool.not_false, Bool.and_true, Bool.true_and, Bool.and_false, Bool.false_and, Bool.true_or, Bool.false_or, Bool.or_true, Bool.or_false, if_true, if_false, up1_s, n_31, Int32.lt_irrefl, t119_19]
    obtain ⟨I4, A4, N4, f1, f2, f3, f4, f5, f6⟩ := q44_3_12 (d + 5) (sl + 3) (up1 (up1 I2 0 (up1 (I2 0) 13 (I2 1 10))) 1 (up1 (I2 1) 1 (nI 0))) A2 N2 V lt2 tw2 sp sr [.inr (7, [.ref 1, .ref 12, .int (x_b go2)])]
    have h29 : ∀ (I : Nat → Nat → Int32), C (d + 5) 29 [.ref 21] (sl + 3) (CH I A4 N4 V lt2 tw2 sp sr [.inr (7, [.ref 1, .ref 12, .int (x_b go2)])]) = some ([], sl + 3, CH (up1 I 21 (up1 (I 21) 2 (nI 0))) A4 N4 V lt2 tw2 sp sr [.inr (7, [.ref 1, .ref 12, .int (x_b go2)])]) := fun I => by
      rw [e29, k29_r21_0]
      simp (disch := omega) only [rt_c, b_some, List.cons_append, List.nil_append, Bool.cond_not, cond_true, cond_false, Bool.cond_decide, nI_add, nI_clamp, xin_n, dle_e, dlt_e, deq_e, xb_0, xb_1, decide_true, decide_false, Bool.not_true, Bool.not_false, Bool.and_true, Bool.true_and, Bool.and_false, Bool.false_and, Bool.true_or, Bool.false_or, Bool.or_true, Bool.or_false, if_true, if_false, up1_s, n_31, Int32.lt_irrefl, t29_5]
    have hsp := Sn_lt (s := 0) hC1
    have hl : nI 0 ≤ nI l := by rw [show (nI 0 ≤ nI l) = (0 ≤ l) by simp (disch := omega) only [dle_e]]; omega
    refine ⟨nI l, up1 (up1 I4 sp (up1 (I4 sp) 3 (nI 0))) 21 (up1 ((up1 I4 sp (up1 (I4 sp) 3 (nI 0))) 21) 2 (nI 0)), A4, N4, V, lt2, tw2, sp, sr, [.inr (7, [.ref 1, .ref 12, .int (x_b go2)])], sl + 3, up1 J2 24 (nI 0), w2, up1 B2 2 f', up1 M2 7 g', ?_, by rw [rc, y2, e1], ?_, by omega, by omega, by simp⟩
    · rw [e117, k117_0, x1]
      simp (disch := omega) only [rt_c, b_some, List.cons_append, List.nil_append, Bool.cond_not, cond_true, cond_false, Bool.cond_decide, nI_add, nI_clamp, xin_n, dle_e, dlt_e, deq_e, xb_0, xb_1, decide_true, decide_false, Bool.not_true, Bool.not_false, Bool.and_true, Bool.true_and, Bool.and_false, Bool.false_and, Bool.true_or, Bool.false_or, Bool.or_true, Bool.or_false, if_true, if_false, up1_s, n_31, Int32.lt_irrefl, k117_10, h80, n117_25, h81, y1, n117_28, h119, n117_33, Nat.zero_le, f1]
      rcases hC1 with ⟨rfl, rfl⟩ | ⟨rfl, rfl⟩
      · simp (disch := omega) only [rt_c, b_some, List.cons_append, List.nil_append, Bool.cond_not, cond_true, cond_false, Bool.cond_decide, nI_add, nI_clamp, xin_n, dle_e, dlt_e, deq_e, xb_0, xb_1, decide_true, decide_false, Bool.not_true, Bool.not_false, Bool.and_true, Bool.true_and, Bool.and_false, Bool.false_and, Bool.true_or, Bool.false_or, Bool.or_true, Bool.or_false, if_true, if_false, up1_s, n_31, Int32.lt_irrefl, n117_58_108, h29, n117_73_108, t117_46, t117_74]
      · simp (disch := omega) only [rt_c, b_some, List.cons_append, List.nil_append, Bool.cond_not, cond_true, cond_false, Bool.cond_decide, nI_add, nI_clamp, xin_n, dle_e, dlt_e, deq_e, xb_0, xb_1, decide_true, decide_false, Bool.not_true, Bool.not_false, Bool.and_true, Bool.true_and, Bool.and_false, Bool.false_and, Bool.true_or, Bool.false_or, Bool.or_true, Bool.or_false, if_true, if_false, up1_s, n_31, Int32.lt_irrefl, n117_58_112, h29, n117_73_112, t117_46, t117_74]
    · obtain ⟨z1, z2, z3, z4, z5, z6⟩ := y6
      obtain ⟨v1, v2, v3⟩ := RR_Sh (I' := up1 (up1 I2 0 (up1 (I2 0) 13 (I2 1 10))) 1 (up1 (I2 1) 1 (nI 0))) y3 e2 (by rw [up1_n (by decide), up1_n (by decide)])
      have k1 : ∀ q, 2 ≤ q → q ≠ 3 → q ≠ 12 → I4 q = I q := fun q q1 q2 q3 => by rw [f4 q q2, up1_n (by omega), up1_n (by omega), z1 q (by omega) q3, up1_n q3, x4 q (by omega)]
      have k2 : ∀ q, q ≠ sp → q ≠ 21 → up1 (up1 I4 sp (up1 (I4 sp) 3 (nI 0))) 21 (up1 ((up1 I4 sp (up1 (I4 sp) 3 (nI 0))) 21) 2 (nI 0)) q = I4 q := fun q q1 q2 => by rw [up1_n q2, up1_n q1]
      have k21 : (up1 I4 sp (up1 (I4 sp) 3 (nI 0))) 21 = I 21 := by rw [up1_n (by omega)]; exact k1 21 (by decide) (by decide) (by decide)
      have k3 : ∀ q, 95 ≤ q → A4 q = A q := fun q hq => by rw [f5 q (by omega), z2 q (by omega)]
      have k4 : ∀ q, 95 ≤ q → N4 q = N q := fun q hq => by rw [f6 q (by omega), z3 q (by omega)]
      have i0 : I4 0 = up1 (I 0) 13 (nI 0) := by rw [f4 0 (by decide), up1_n (by decide), up1_s, y4, z1 0 (by decide) (by decide), up1_n (by decide), x4 0 (by decide)]
      have i1 : I4 1 1 = nI 0 := by rw [f4 1 (by decide), up1_s, up1_s]
      have jk : ∀ k, k < 5 ∨ (11 < k ∧ k ≠ 13 ∧ k ≠ 23) → J2 k = J1 k := fun k hk => by rw [z4 k hk, up1_n (by omega)]
      have bk : ∀ q, q ≠ 3 → q ≠ 2 → up1 B2 2 f' q = B q := fun q q1 q2 => by rw [up1_n q2, z5 q q1, up1_n q1]
      refine ⟨H, m, ⟨?_, by rw [up1_s]; exact v2, by rw [up1_s]; exact v3, ?_⟩, ⟨p, 0, RPx_0 h2.1.1 ?_ ?_ up1_s⟩, ⟨0, by omega, ?_, ?_, fun k hk => by omega⟩, RQ_c hQ ?_ ?_ ?_ ?_ ?_ ?_ (k3 98 (by decide)) (k3 107 (by decide)) ⟨?_, ?_, ?_, ?_, ?_⟩ ⟨bk 12 (by decide) (by decide), bk 15 (by decide) (by decide), bk 17 (by decide) (by decide)⟩, RI_c hRI (fun q hq => ?_) (fun q hq => k3 q (by omega)) (fun q hq => k4 q (by omega)) (fun _ _ => rfl) (bk 4 (by decide) (by decide)) (bk 10 (by decide) (by decide)) ?_, hRV, hC1, Or.inl ⟨?_, ?_⟩⟩
      · rw [up1_s]
        exact Sh_c (f2 _ _ _ v1) (fun _ _ => rfl) (k2 3 (by omega) (by decide)) (fun _ _ _ => rfl)
      · rw [up1_s]
        intro h hh
        have h6 := v2.1.2.2.1
        rw [f3 h (by omega), e3 h (by omega)]
        exact y3.2.2.2.2.2.2.2 h hh
      · rw [up1_s, up1_n (by decide), k21]; exact h2.1.2.2.1
      · rw [up1_s, up1_s]
      · rw [k2 1 (by omega) (by decide)]; exact i1
      · rw [up1_n (by decide), jk 2 (by decide)]; exact x8
      · rw [k2 0 (by omega) (by decide), i0, up1_s, up1_n (by decide), y5]
      · rw [k2 0 (by omega) (by decide), i0, up1_n (by decide)]
      · rw [k2 0 (by omega) (by decide), i0, up1_n (by decide)]
      · rw [k2 95 (by omega) (by decide)]; exact k1 95 (by decide) (by decide) (by decide)
      · rw [k2 106 (by omega) (by decide)]; exact k1 106 (by decide) (by decide) (by decide)
      · intro k hk; rw [k2 101 (by omega) (by decide), k1 101 (by decide) (by decide) (by decide)]
      · rw [up1_n (by decide), jk 27 (by decide)]; exact x9 27 (by decide)
      · rw [up1_n (by decide), jk 28 (by decide)]; exact x9 28 (by decide)
      · rw [up1_n (by decide), jk 31 (by decide)]; exact x9 31 (by decide)
      · rw [up1_n (by decide), jk 33 (by decide)]; exact x9 33 (by decide)
      · rw [up1_n (by decide), jk 38 (by decide)]; exact x9 38 (by decide)
      · rw [k2 q (by omega) (by omega)]; exact k1 q (by omega) (by omega) (by omega)
      · rw [up1_n (by decide)]; exact z6 9 (by decide)
      · rw [up1_s]; exact e2.2.2.2.2.2.2
      · rw [up1_n (by omega), up1_s, up1_s]
  · -- a fault
    have h119 : C (d + 5) 119 [.ref 0] (sl + 3) (CH I2 A2 N2 V lt2 tw2 sp sr [.inr (7, [.ref 1, .ref 12, .int (x_b go2)])]) = some ([], sl + 3, CH (up1 (up1 I2 0 (up1 (I2 0) 13 (I2 1 10))) 1 (up1 (I2 1) 1 (nI 0))) A2 N2 V lt2 tw2 sp sr [.inr (7, [.ref 1, .ref 12, .int (x_b go2)])]) := by
      rw [e119, k119_0]
      simp (disch := omega) only [rt_c, b_some, List.cons_append, List.nil_append, Bool.cond_not, cond_true, cond_false, Bool.cond_decide, nI_add, nI_clamp, xin_n, dle_e, dlt_e, deq_e, xb_0, xb_1, decide_true, decide_false, Bool.not_true, Bool.not_false, Bool.and_true, Bool.true_and, Bool.and_false, Bool.false_and, Bool.true_or, Bool.false_or, Bool.or_true, Bool.or_false, if_true, if_false, up1_s, n_31, Int32.lt_irrefl, t119_19]
    obtain ⟨c, pl, q1, q2, q3, q4, q5, q6⟩ := y3
    obtain ⟨z1, z2, z3, z4, z5, z6⟩ := y4
    have jk : ∀ k, k < 5 ∨ (11 < k ∧ k ≠ 13 ∧ k ≠ 23) → J2 k = J1 k := fun k hk => by rw [z4 k hk, up1_n (by omega)]
    have hneg : ¬ nI 0 ≤ (-1 : Int32) := by decide
    refine ⟨-1 - nI pl, _, A2, N2, V, lt2, tw2, sp, sr, [.inr (7, [.ref 1, .ref 12, .int (x_b go2)])], sl + 3, J2, w2, B2, M2, ?_, by rw [rc, y2, q6], Rl_read hR0 (I' := up1 (up1 I2 0 (up1 (I2 0) 13 (I2 1 10))) 1 (up1 (I2 1) 1 (nI 0))) (fun q r1 r2 r3 => ?_) (fun k hk => ?_) (fun k hk => ?_) ?_ ?_ ?_ (fun q r1 r2 => z2 q r1) z3 ?_ ⟨?_, ?_, ?_, ?_, ?_⟩ (fun q r1 _ => ?_) z6, by omega, by omega, by simp⟩
    · rw [e117, k117_0, x1]
      simp (disch := omega) only [rt_c, b_some, List.cons_append, List.nil_append, Bool.cond_not, cond_true, cond_false, Bool.cond_decide, nI_add, nI_clamp, xin_n, dle_e, dlt_e, deq_e, xb_0, xb_1, decide_true, decide_false, Bool.not_true, Bool.not_false, Bool.and_true, Bool.true_and, Bool.and_false, Bool.false_and, Bool.true_or, Bool.false_or, Bool.or_true, Bool.or_false, if_true, if_false, up1_s, n_31, Int32.lt_irrefl, k117_10, h80, n117_25, h81, y1, n117_28, h119, n117_33, hneg, up1_n, q5, t117_46, t117_74]
    · rw [up1_n (by omega), up1_n (by omega), z1 q (by omega) r2, up1_n r2, x4 q (by omega)]
    · rw [up1_n (by decide), up1_n (by decide), z1 101 (by decide) (by decide), up1_n (by decide), x4 101 (by decide)]
    · rw [up1_n (by decide), up1_s, up1_n hk, z1 0 (by decide) (by decide), up1_n (by decide), x4 0 (by decide)]
    · rw [up1_n (by decide), up1_s, up1_s, q3, q4]
    · rw [up1_s, up1_s]
    · rw [jk 2 (by decide)]; exact x8
    · rw [jk 24 (by decide)]; exact x9 24 (by decide)
    · rw [jk 27 (by decide)]; exact x9 27 (by decide)
    · rw [jk 28 (by decide)]; exact x9 28 (by decide)
    · rw [jk 31 (by decide)]; exact x9 31 (by decide)
    · rw [jk 33 (by decide)]; exact x9 33 (by decide)
    · rw [jk 38 (by decide)]; exact x9 38 (by decide)
    · rw [z5 q r1, up1_n r1]
