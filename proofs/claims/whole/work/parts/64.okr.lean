/-! RINGS, NOW, FEED, SIDE BY SIDE -/
theorem RZ_h {I A I' A' : Nat → Nat → Int32} {N N' : Nat → Nat → Int64} {V : Nat → Nat → Option Nat} {sp sr : Nat} {J J' : Nat → Int32} {B B' : Nat → Nat → Int32} {M M' : Nat → Nat → Int64} (h : RZ I A N V sp sr J B M)
    (hI : ∀ q, 108 ≤ q → I' q = I q) (hA : ∀ q, ((108 ≤ q ∧ q ≤ 118) ∨ 120 ≤ q) → A' q = A q) (hN : ∀ q, 95 ≤ q → N' q = N q)
    (hB : B' 4 = B 4 ∧ B' 10 = B 10) (hM : M' 9 = M 9) (hn : ∀ k, 127 ≤ k → B' 2 k = B 2 k) (hT : RT I' A' J' B') (hQ : RQ I' A' J' B') : RZ I' A' N' V sp sr J' B' M' := by
  obtain ⟨b4, b10⟩ := hB
  obtain ⟨-, -, hi, hv, hc1, hc2⟩ := h
  refine ⟨hT, hQ, ?_, hv, hc1, ?_⟩
  · intro k hk
    obtain ⟨b, e1, e2, e3⟩ := hi k hk
    refine ⟨b, ?_, ?_, ?_⟩
    · rw [hA 118 (by omega)]; exact e1
    · rw [b10]; exact e2
    · intro hb
      obtain ⟨H, m, f1, f2, f3, f4, f5⟩ := e3 hb
      rw [b4, hM, hN _ (by omega)]
      exact ⟨H, m, Sh_c f1 (fun _ _ => rfl) (hI _ (by omega)) (fun q _ _ => hA q (by omega)), f2, f3, f4, Sn_c f5 (fun _ _ => rfl) (by rw [hI _ (by omega)]) rfl (hA _ (by omega)) (hA _ (by omega))⟩
  · have := Sn_lt (s := 0) hc1
    exact Sn_c hc2 hn (by rw [hI _ (by omega)]) rfl (hA _ (by omega)) (hA _ (by omega))
section OKR
variable (d : Nat)
theorem ok_ring (h : Int32) : Ok (d + 4) 140 213 [.ref 0, .int h] := by
  intro sl sl2 I A N V lt tw sp sr J w B M hR
  have hR0 := hR
  obtain ⟨H, m, h1, ⟨p, z, h2⟩, h3⟩ := hR
  have hV := h1.2.1
  obtain ⟨hH, hD, hH6, hm⟩ := hV.1
  have h45 := q45_3 (d + 3) sl I A N V lt tw sp sr [] h1.1 h
  cases hi : isN H h with
  | false =>
    rw [hi] at h45
    refine ⟨-1, I, A, N, V, lt, tw, sp, sr, [], sl, up1 J 0 (nI 0), w, B, M, ?_, c213_no d sl2 J w B M hV h hi, Rl_0 hR0 _, Nat.le_refl _, by omega, by simp⟩
    rw [e140, k140_0, h45]
    simp (disch := omega) only [rt_c, b_some, List.cons_append, List.nil_append, Bool.cond_not, cond_true, cond_false, Bool.cond_decide, nI_add, nI_clamp, xin_n, dle_e, dlt_e, deq_e, xb_0, xb_1, decide_true, decide_false, Bool.not_true, Bool.not_false, Bool.and_true, Bool.true_and, Bool.and_false, Bool.false_and, Bool.true_or, Bool.false_or, Bool.or_true, Bool.or_false, if_true, if_false, up1_s, n_31, Int32.lt_irrefl, k140_8, t140_12, t140_39]
  | true =>
    rw [hi] at h45
    obtain ⟨a, ha, rfl⟩ := isN_t (by omega) hi
    obtain ⟨g, st, hx⟩ := q107 (d + 1) sl I A N V lt tw sp sr [] h1.1 hV ha
    have hA : ∀ F q, q ≠ 96 → q ≠ 97 → q ≠ 98 → up1 (up1 (up1 A 96 g) 97 st) 98 F q = A q := fun F q a1 a2 a3 => by rw [up1_n a3, up1_n a2, up1_n a1]
    have hA2 : ∀ q, q ≠ 96 → q ≠ 97 → up1 (up1 A 96 g) 97 st q = A q := fun q a1 a2 => by rw [up1_n a2, up1_n a1]
    rcases hx with ⟨hr, F, e1, e2⟩ | ⟨hr, e1⟩
    · have hlt : farN (Em (B 2) m) H a a < 100000 := of_decide_eq_true hr
      rcases c213 d sl2 J w B M hV ha with ⟨-, g', G, r1, r2⟩ | ⟨hn, -⟩
      · have hRG := (Fa_RG (farN_ok (E := Em (B 2) m) hH6 ha ha) hH6).1 hlt
        have hle := RG_le hRG
        refine ⟨_, up1 I 95 (up1 (I 95) 3 (nI (farN (Em (B 2) m) H a a))), up1 (up1 (up1 A 96 g) 97 st) 98 F, N, V, lt, tw, sp, sr, [], sl, _, w, _, M, ?_, r1, ?_, Nat.le_refl _, by omega, by simp⟩
        · rw [e140, k140_0, h45]
          simp (disch := omega) only [rt_c, b_some, List.cons_append, List.nil_append, Bool.cond_not, cond_true, cond_false, Bool.cond_decide, nI_add, nI_clamp, xin_n, dle_e, dlt_e, deq_e, xb_0, xb_1, decide_true, decide_false, Bool.not_true, Bool.not_false, Bool.and_true, Bool.true_and, Bool.and_false, Bool.false_and, Bool.true_or, Bool.false_or, Bool.or_true, Bool.or_false, if_true, if_false, up1_s, n_31, Int32.lt_irrefl, k140_8, e1, k140_25, t140_12, t140_39]
        · generalize farN (Em (B 2) m) H a a = L at e2 r2 hle
          have hI : ∀ q, q ≠ 95 → up1 I 95 (up1 (I 95) 3 (nI L)) q = I q := fun q hq => up1_n hq
          have hJ : ∀ q, q ≠ 27 → q ≠ 0 → up1 (up1 J 0 (nI 0)) 27 (nI L) q = J q := fun q a1 a2 => by rw [up1_n a1, up1_n a2]
          have hB : ∀ q, q ≠ 11 → q ≠ 12 → up1 (up1 B 11 g') 12 G q = B q := fun q a1 a2 => by rw [up1_n a2, up1_n a1]
          obtain ⟨⟨q1, q2, q3⟩, -, ql, qt⟩ := h3.2.1
          refine ⟨H, m, ⟨?_, ?_, ?_, h1.2.2.2⟩, ⟨p, z, RPx_c h2 (fun q _ _ => hI q (by omega)) (fun q _ _ => hA F q (by omega) (by omega) (by omega)) (fun _ _ _ => rfl) rfl (hJ _ (by decide) (by decide)) (hB _ (by decide) (by decide)) (fun k _ => by rw [hB _ (by decide) (by decide)])⟩, RZ_h h3 (fun q _ => hI q (by omega)) (fun q _ => hA F q (by omega) (by omega) (by omega)) (fun _ _ => rfl) ⟨hB _ (by decide) (by decide), hB _ (by decide) (by decide)⟩ rfl (fun k _ => by rw [hB _ (by decide) (by decide)]) ?_ ⟨⟨?_, ?_, ?_⟩, ?_, ?_, ?_⟩⟩
          · rw [hB _ (by decide) (by decide)]
            exact Sh_c h1.1 (fun _ _ => rfl) (hI 3 (by omega)) (fun q _ _ => hA F q (by omega) (by omega) (by omega))
          · rw [hB _ (by decide) (by decide)]; exact hV
          · rw [hB _ (by decide) (by decide)]; exact h1.2.2.1
          · have hT := h3.1
            unfold RT at hT ⊢
            rw [hI 1 (by omega), hA F 2 (by omega) (by omega) (by omega), hJ 2 (by decide) (by decide), hB 1 (by decide) (by decide)]
            exact hT
          · rw [hI 0 (by omega), hJ 10 (by decide) (by decide)]; exact q1
          · rw [hI 0 (by omega), hJ 28 (by decide) (by decide)]; exact q2
          · rw [hI 0 (by omega), hJ 31 (by decide) (by decide)]; exact q3
          · refine ⟨L, by omega, by rw [up1_s, up1_s], up1_s, fun k hk => ?_⟩
            rw [up1_s, up1_s, e2 k hk, r2 k hk]
          · rw [hI 106 (by omega), hA F 107 (by omega) (by omega) (by omega), hJ 33 (by decide) (by decide), hB 15 (by decide) (by decide)]; exact ql
          · rw [hI 101 (by omega), hJ 38 (by decide) (by decide), hB 17 (by decide) (by decide)]; exact qt
      · exact absurd hlt hn
    · have hlt : ¬ farN (Em (B 2) m) H a a < 100000 := of_decide_eq_false hr
      rcases c213 d sl2 J w B M hV ha with ⟨hn, -⟩ | ⟨-, g', r1⟩
      · exact absurd hn hlt
      · have hB : ∀ q, q ≠ 11 → up1 B 11 g' q = B q := fun q a1 => up1_n a1
        refine ⟨-1, I, up1 (up1 A 96 g) 97 st, N, V, lt, tw, sp, sr, [], sl, _, w, _, M, ?_, r1, ?_, Nat.le_refl _, by omega, by simp⟩
        · rw [e140, k140_0, h45]
          simp (disch := omega) only [rt_c, b_some, List.cons_append, List.nil_append, Bool.cond_not, cond_true, cond_false, Bool.cond_decide, nI_add, nI_clamp, xin_n, dle_e, dlt_e, deq_e, xb_0, xb_1, decide_true, decide_false, Bool.not_true, Bool.not_false, Bool.and_true, Bool.true_and, Bool.and_false, Bool.false_and, Bool.true_or, Bool.false_or, Bool.or_true, Bool.or_false, if_true, if_false, up1_s, n_31, Int32.lt_irrefl, k140_8, e1, k140_25, t140_12, t140_39]
        · refine ⟨H, m, ⟨?_, ?_, ?_, h1.2.2.2⟩, ⟨p, z, RPx_c h2 (fun q _ _ => rfl) (fun q _ _ => hA2 q (by omega) (by omega)) (fun _ _ _ => rfl) rfl (up1_n (by decide)) (hB _ (by decide)) (fun k _ => by rw [hB _ (by decide)])⟩, RZ_f h3 (fun q _ => rfl) (fun q _ => hA2 q (by omega) (by omega)) (fun _ _ => rfl) (J8_0 J _) ⟨hB _ (by decide), hB _ (by decide), hB _ (by decide), hB _ (by decide), hB _ (by decide), hB _ (by decide)⟩ rfl (fun k _ => by rw [hB _ (by decide)])⟩
          · rw [hB _ (by decide)]
            exact Sh_c h1.1 (fun _ _ => rfl) rfl (fun q _ _ => hA2 q (by omega) (by omega))
          · rw [hB _ (by decide)]; exact hV
          · rw [hB _ (by decide)]; exact h1.2.2.1
theorem c216_157 {H m : Nat} (sl : Nat) (I : Nat → Int32) (w : Int64) (A : Nat → Nat → Int32) (N : Nat → Nat → Int64) (hV : Vd (A 2) H m) (a : Int32) : ∀ (q i : Nat) (g : Nat → Int32), i + q = H → ∃ g', rt 216 (R (d + 4) 216 (157, [some (.ref 0), some (.int a), some (.int (nI (mkN (rg_ (A 2) m H) i))), some (.int (nI i))], [], sl, RH I w (up1 A 11 g) N)) = some ([.int (nI (mkN (rg_ (A 2) m H) H))], sl, RH I w (up1 A 11 g') N) := by
  obtain ⟨hH, hD, hH6, hm⟩ := hV.1
  intro q
  induction q with
  | zero =>
    intro i g hi
    have h1 : H ≤ i := by omega
    have h2 : i = H := by omega
    subst h2
    refine ⟨g, ?_⟩
    rw [m216_157]
    simp (disch := omega) only [rt_c, b_some, List.cons_append, List.nil_append, Bool.cond_not, cond_true, cond_false, Bool.cond_decide, nI_add, nI_clamp, xin_n, dle_e, dlt_e, deq_e, xb_0, xb_1, decide_true, decide_false, Bool.not_true, Bool.not_false, Bool.and_true, Bool.true_and, Bool.and_false, Bool.false_and, Bool.true_or, Bool.false_or, Bool.or_true, Bool.or_false, if_true, if_false, up1_s, n_31, Int32.lt_irrefl, up1_n, hH, h1, t216_59, t216_68, t216_77, t216_112, t216_120, t216_154, t216_188, t216_190]
  | succ q ih =>
    intro i g hi
    have h1 : ¬ H ≤ i := by omega
    have hA2 : up1 A 11 g 2 = A 2 := up1_n (by decide)
    have hmk := mkN_lt (rg_ (A 2) m H) i
    have hmi : 2 ^ i ≤ 2 ^ 5 := Nat.pow_le_pow_right (by decide) (by omega)
    obtain ⟨g1, e1, -⟩ := c212 d sl I w (up1 A 11 g) N (H := H) (m := m) (h := i) (by rw [hA2]; exact hV) (by omega)
    rw [hA2, up1_up] at e1
    obtain ⟨g2, e2⟩ := ih (i + 1) g1 (by omega)
    refine ⟨g2, ?_⟩
    rw [m216_157]
    cases hr : rg_ (A 2) m H i with
    | true =>
      rw [hr] at e1
      have hm1 : mkN (rg_ (A 2) m H) (i + 1) = mkN (rg_ (A 2) m H) i ||| (1 <<< i) := by rw [mkN_succ, hr]; rfl
      have hor : nI (mkN (rg_ (A 2) m H) i) ||| (nI 1 <<< nI i) = nI (mkN (rg_ (A 2) m H) i ||| (1 <<< i)) := by
        rw [nI_shl (by omega), nI_or (by omega) (Nat.lt_of_lt_of_le shl_lt (Nat.pow_le_pow_right (by decide) (by omega)))]
      rw [hm1] at e2
      simp (disch := omega) only [rt_c, b_some, List.cons_append, List.nil_append, Bool.cond_not, cond_true, cond_false, Bool.cond_decide, nI_add, nI_clamp, xin_n, dle_e, dlt_e, deq_e, xb_0, xb_1, decide_true, decide_false, Bool.not_true, Bool.not_false, Bool.and_true, Bool.true_and, Bool.and_false, Bool.false_and, Bool.true_or, Bool.false_or, Bool.or_true, Bool.or_false, if_true, if_false, up1_s, n_31, Int32.lt_irrefl, up1_n, hH, h1, e1, m216_172, hor, e2]
    | false =>
      rw [hr] at e1
      have hm1 : mkN (rg_ (A 2) m H) (i + 1) = mkN (rg_ (A 2) m H) i := by rw [mkN_succ, hr]; rfl
      rw [hm1] at e2
      simp (disch := omega) only [rt_c, b_some, List.cons_append, List.nil_append, Bool.cond_not, cond_true, cond_false, Bool.cond_decide, nI_add, nI_clamp, xin_n, dle_e, dlt_e, deq_e, xb_0, xb_1, decide_true, decide_false, Bool.not_true, Bool.not_false, Bool.and_true, Bool.true_and, Bool.and_false, Bool.false_and, Bool.true_or, Bool.false_or, Bool.or_true, Bool.or_false, if_true, if_false, up1_s, n_31, Int32.lt_irrefl, up1_n, hH, h1, e1, m216_172, e2]
theorem ok_now (x : Int32) : Ok (d + 5) 124 216 [.ref 0, .int x] := by
  intro sl sl2 I A N V lt tw sp sr J w B M hR
  have hR0 := hR
  obtain ⟨H, m, h1, ⟨p, z, h2⟩, h3⟩ := hR
  have hS := h1.1
  have hV := h1.2.1
  obtain ⟨hH, hD, hH6, hm⟩ := hV.1
  obtain ⟨hcH, hcD, -, -⟩ := (sh_3 hS).1
  obtain ⟨hg1, hg2, hy, hp⟩ := (sh_3 hS).2.1
  rcases sw_in 6 (by decide) x with ⟨k, hk, rfl⟩ | hx
  · rcases (show k = 0 ∨ k = 1 ∨ k = 2 ∨ k = 3 ∨ k = 4 ∨ k = 5 ∨ k = 6 by omega) with rfl | rfl | rfl | rfl | rfl | rfl | rfl
    · refine ⟨B 2 70, I, A, N, V, lt, tw, sp, sr, [], sl, up1 J 0 (nI 0), w, B, M, ?_, ?_, Rl_0 hR0 _, Nat.le_refl _, by omega, by simp⟩
      · rw [e124, k124_0, k124_1_c0]
        simp (disch := omega) only [rt_c, b_some, List.cons_append, List.nil_append, Bool.cond_not, cond_true, cond_false, Bool.cond_decide, nI_add, nI_clamp, xin_n, dle_e, dlt_e, deq_e, xb_0, xb_1, decide_true, decide_false, Bool.not_true, Bool.not_false, Bool.and_true, Bool.true_and, Bool.and_false, Bool.false_and, Bool.true_or, Bool.false_or, Bool.or_true, Bool.or_false, if_true, if_false, up1_s, n_31, Int32.lt_irrefl, k124_44, hy, t124_51, t124_59, t124_67, t124_75, t124_83, t124_91, t124_103, t124_105]
      · rw [e216, m216_0, m216_8_c0]
        simp (disch := omega) only [rt_c, b_some, List.cons_append, List.nil_append, Bool.cond_not, cond_true, cond_false, Bool.cond_decide, nI_add, nI_clamp, xin_n, dle_e, dlt_e, deq_e, xb_0, xb_1, decide_true, decide_false, Bool.not_true, Bool.not_false, Bool.and_true, Bool.true_and, Bool.and_false, Bool.false_and, Bool.true_or, Bool.false_or, Bool.or_true, Bool.or_false, if_true, if_false, up1_s, n_31, Int32.lt_irrefl, m216_52, t216_59, t216_68, t216_77, t216_112, t216_120, t216_154, t216_188, t216_190]
    · have h67 := q67_3 (d + 4) sl I A N V lt tw sp sr [] hS
      have h215 := c215 (d + 4) sl2 (up1 J 0 (nI 0)) w B M (b := 73) (m := 6) (by omega)
      have hz := sum_z (n := B 2) (b := 73) (m := H) (6 - H) (fun k a1 a2 => hV.2.2.2.2.2.2.2.2.2.2 k a1 (by omega))
      rw [show H + (6 - H) = 6 by omega] at hz
      rw [hz] at h215
      refine ⟨x_it (fun k s => s + B 2 (73 + k)) 0 H (nI 0), I, A, N, V, lt, tw, sp, sr, [], sl, up1 J 0 (nI 0), w, B, M, ?_, ?_, Rl_0 hR0 _, Nat.le_refl _, by omega, by simp⟩
      · rw [e124, k124_0, k124_1_c1]
        simp (disch := omega) only [rt_c, b_some, List.cons_append, List.nil_append, Bool.cond_not, cond_true, cond_false, Bool.cond_decide, nI_add, nI_clamp, xin_n, dle_e, dlt_e, deq_e, xb_0, xb_1, decide_true, decide_false, Bool.not_true, Bool.not_false, Bool.and_true, Bool.true_and, Bool.and_false, Bool.false_and, Bool.true_or, Bool.false_or, Bool.or_true, Bool.or_false, if_true, if_false, up1_s, n_31, Int32.lt_irrefl, k124_52, h67, k124_59, t124_51, t124_59, t124_67, t124_75, t124_83, t124_91, t124_103, t124_105]
      · rw [e216, m216_0, m216_8_c1]
        simp (disch := omega) only [rt_c, b_some, List.cons_append, List.nil_append, Bool.cond_not, cond_true, cond_false, Bool.cond_decide, nI_add, nI_clamp, xin_n, dle_e, dlt_e, deq_e, xb_0, xb_1, decide_true, decide_false, Bool.not_true, Bool.not_false, Bool.and_true, Bool.true_and, Bool.and_false, Bool.false_and, Bool.true_or, Bool.false_or, Bool.or_true, Bool.or_false, if_true, if_false, up1_s, n_31, Int32.lt_irrefl, m216_60, h215, m216_68, t216_59, t216_68, t216_77, t216_112, t216_120, t216_154, t216_188, t216_190]
    · have h66 := q66_3 (d + 4) sl I A N V lt tw sp sr [] hS
      have h215 := c215 (d + 4) sl2 (up1 J 0 (nI 0)) w B M (b := 103) (m := 12) (by omega)
      have hz := sum_z (n := B 2) (b := 103) (m := m) (12 - m) (fun k a1 a2 => hV.2.2.2.2.2.2.2.2.2.1 k a1 (by omega))
      rw [show m + (12 - m) = 12 by omega] at hz
      rw [hz] at h215
      refine ⟨x_it (fun k s => s + B 2 (103 + k)) 0 m (nI 0), I, A, N, V, lt, tw, sp, sr, [], sl, up1 J 0 (nI 0), w, B, M, ?_, ?_, Rl_0 hR0 _, Nat.le_refl _, by omega, by simp⟩
      · rw [e124, k124_0, k124_1_c2]
        simp (disch := omega) only [rt_c, b_some, List.cons_append, List.nil_append, Bool.cond_not, cond_true, cond_false, Bool.cond_decide, nI_add, nI_clamp, xin_n, dle_e, dlt_e, deq_e, xb_0, xb_1, decide_true, decide_false, Bool.not_true, Bool.not_false, Bool.and_true, Bool.true_and, Bool.and_false, Bool.false_and, Bool.true_or, Bool.false_or, Bool.or_true, Bool.or_false, if_true, if_false, up1_s, n_31, Int32.lt_irrefl, k124_60, h66, k124_67, t124_51, t124_59, t124_67, t124_75, t124_83, t124_91, t124_103, t124_105]
      · rw [e216, m216_0, m216_8_c2]
        simp (disch := omega) only [rt_c, b_some, List.cons_append, List.nil_append, Bool.cond_not, cond_true, cond_false, Bool.cond_decide, nI_add, nI_clamp, xin_n, dle_e, dlt_e, deq_e, xb_0, xb_1, decide_true, decide_false, Bool.not_true, Bool.not_false, Bool.and_true, Bool.true_and, Bool.and_false, Bool.false_and, Bool.true_or, Bool.false_or, Bool.or_true, Bool.or_false, if_true, if_false, up1_s, n_31, Int32.lt_irrefl, m216_69, h215, m216_77, t216_59, t216_68, t216_77, t216_112, t216_120, t216_154, t216_188, t216_190]
    · have h65 := q65_3 (d + 3) sl I A N V lt tw sp sr [] hS
      refine ⟨nI (mkN (op_ (B 2)) m), I, A, N, V, lt, tw, sp, sr, [], sl, up1 J 0 (nI 0), w, B, M, ?_, ?_, Rl_0 hR0 _, Nat.le_refl _, by omega, by simp⟩
      · rw [e124, k124_0, k124_1_c3]
        simp (disch := omega) only [rt_c, b_some, List.cons_append, List.nil_append, Bool.cond_not, cond_true, cond_false, Bool.cond_decide, nI_add, nI_clamp, xin_n, dle_e, dlt_e, deq_e, xb_0, xb_1, decide_true, decide_false, Bool.not_true, Bool.not_false, Bool.and_true, Bool.true_and, Bool.and_false, Bool.false_and, Bool.true_or, Bool.false_or, Bool.or_true, Bool.or_false, if_true, if_false, up1_s, n_31, Int32.lt_irrefl, k124_68, h65, k124_75, t124_51, t124_59, t124_67, t124_75, t124_83, t124_91, t124_103, t124_105]
      · rw [e216, m216_0, m216_8_c3, m216_78]
        refine lpM (fun k s => rt 216 (R (d + 5) 216 (80, [some (.ref 0), some (.int (nI 3)), some (.int s), some (.int (nI k))], [], sl2, RH (up1 J 0 (nI 0)) w B M))) (op_ (B 2)) m (by omega) (fun s => some ([.int s], sl2, RH (up1 J 0 (nI 0)) w B M)) ?_ ?_
        · intro k s hk
          have a1 : ¬ m ≤ k := by omega
          rw [m216_80]
          simp (disch := omega) only [rt_c, b_some, List.cons_append, List.nil_append, Bool.cond_not, cond_true, cond_false, Bool.cond_decide, nI_add, nI_clamp, xin_n, dle_e, dlt_e, deq_e, xb_0, xb_1, decide_true, decide_false, Bool.not_true, Bool.not_false, Bool.and_true, Bool.true_and, Bool.and_false, Bool.false_and, Bool.true_or, Bool.false_or, Bool.or_true, Bool.or_false, if_true, if_false, up1_s, n_31, Int32.lt_irrefl, hD, a1, c198, m216_96]
          cases op_ (B 2) k <;> simp (disch := omega) only [rt_c, b_some, List.cons_append, List.nil_append, Bool.cond_not, cond_true, cond_false, Bool.cond_decide, nI_add, nI_clamp, xin_n, dle_e, dlt_e, deq_e, xb_0, xb_1, decide_true, decide_false, Bool.not_true, Bool.not_false, Bool.and_true, Bool.true_and, Bool.and_false, Bool.false_and, Bool.true_or, Bool.false_or, Bool.or_true, Bool.or_false, if_true, if_false, up1_s, n_31, Int32.lt_irrefl]
        · intro s
          rw [m216_80]
          simp (disch := omega) only [rt_c, b_some, List.cons_append, List.nil_append, Bool.cond_not, cond_true, cond_false, Bool.cond_decide, nI_add, nI_clamp, xin_n, dle_e, dlt_e, deq_e, xb_0, xb_1, decide_true, decide_false, Bool.not_true, Bool.not_false, Bool.and_true, Bool.true_and, Bool.and_false, Bool.false_and, Bool.true_or, Bool.false_or, Bool.or_true, Bool.or_false, if_true, if_false, up1_s, n_31, Int32.lt_irrefl, hD, Nat.le_refl, t216_59, t216_68, t216_77, t216_112, t216_120, t216_154, t216_188, t216_190]
    · refine ⟨B 2 71, I, A, N, V, lt, tw, sp, sr, [], sl, up1 J 0 (nI 0), w, B, M, ?_, ?_, Rl_0 hR0 _, Nat.le_refl _, by omega, by simp⟩
      · rw [e124, k124_0, k124_1_c4]
        simp (disch := omega) only [rt_c, b_some, List.cons_append, List.nil_append, Bool.cond_not, cond_true, cond_false, Bool.cond_decide, nI_add, nI_clamp, xin_n, dle_e, dlt_e, deq_e, xb_0, xb_1, decide_true, decide_false, Bool.not_true, Bool.not_false, Bool.and_true, Bool.true_and, Bool.and_false, Bool.false_and, Bool.true_or, Bool.false_or, Bool.or_true, Bool.or_false, if_true, if_false, up1_s, n_31, Int32.lt_irrefl, k124_76, hp, t124_51, t124_59, t124_67, t124_75, t124_83, t124_91, t124_103, t124_105]
      · rw [e216, m216_0, m216_8_c4]
        simp (disch := omega) only [rt_c, b_some, List.cons_append, List.nil_append, Bool.cond_not, cond_true, cond_false, Bool.cond_decide, nI_add, nI_clamp, xin_n, dle_e, dlt_e, deq_e, xb_0, xb_1, decide_true, decide_false, Bool.not_true, Bool.not_false, Bool.and_true, Bool.true_and, Bool.and_false, Bool.false_and, Bool.true_or, Bool.false_or, Bool.or_true, Bool.or_false, if_true, if_false, up1_s, n_31, Int32.lt_irrefl, m216_113, t216_59, t216_68, t216_77, t216_112, t216_120, t216_154, t216_188, t216_190]
    · have h64 := q64_3 (d + 2) sl I A N V lt tw sp sr [] hS
      refine ⟨nI (mkN (broke_ (B 2) m) H), I, A, N, V, lt, tw, sp, sr, [], sl, up1 J 0 (nI 0), w, B, M, ?_, ?_, Rl_0 hR0 _, Nat.le_refl _, by omega, by simp⟩
      · rw [e124, k124_0, k124_1_c5]
        simp (disch := omega) only [rt_c, b_some, List.cons_append, List.nil_append, Bool.cond_not, cond_true, cond_false, Bool.cond_decide, nI_add, nI_clamp, xin_n, dle_e, dlt_e, deq_e, xb_0, xb_1, decide_true, decide_false, Bool.not_true, Bool.not_false, Bool.and_true, Bool.true_and, Bool.and_false, Bool.false_and, Bool.true_or, Bool.false_or, Bool.or_true, Bool.or_false, if_true, if_false, up1_s, n_31, Int32.lt_irrefl, k124_84, h64, k124_91, t124_51, t124_59, t124_67, t124_75, t124_83, t124_91, t124_103, t124_105]
      · rw [e216, m216_0, m216_8_c5, m216_121]
        refine lpM (fun k s => rt 216 (R (d + 5) 216 (123, [some (.ref 0), some (.int (nI 5)), some (.int s), some (.int (nI k))], [], sl2, RH (up1 J 0 (nI 0)) w B M))) (broke_ (B 2) m) H (by omega) (fun s => some ([.int s], sl2, RH (up1 J 0 (nI 0)) w B M)) ?_ ?_
        · intro k s hk
          have a1 : ¬ H ≤ k := by omega
          have h204 := c204 (d + 3) sl2 (up1 J 0 (nI 0)) w B M hm hD (show k < 6 by omega)
          rw [m216_123]
          simp (disch := omega) only [rt_c, b_some, List.cons_append, List.nil_append, Bool.cond_not, cond_true, cond_false, Bool.cond_decide, nI_add, nI_clamp, xin_n, dle_e, dlt_e, deq_e, xb_0, xb_1, decide_true, decide_false, Bool.not_true, Bool.not_false, Bool.and_true, Bool.true_and, Bool.and_false, Bool.false_and, Bool.true_or, Bool.false_or, Bool.or_true, Bool.or_false, if_true, if_false, up1_s, n_31, Int32.lt_irrefl, hH, a1, h204, m216_138]
          cases broke_ (B 2) m k <;> simp (disch := omega) only [rt_c, b_some, List.cons_append, List.nil_append, Bool.cond_not, cond_true, cond_false, Bool.cond_decide, nI_add, nI_clamp, xin_n, dle_e, dlt_e, deq_e, xb_0, xb_1, decide_true, decide_false, Bool.not_true, Bool.not_false, Bool.and_true, Bool.true_and, Bool.and_false, Bool.false_and, Bool.true_or, Bool.false_or, Bool.or_true, Bool.or_false, if_true, if_false, up1_s, n_31, Int32.lt_irrefl]
        · intro s
          rw [m216_123]
          simp (disch := omega) only [rt_c, b_some, List.cons_append, List.nil_append, Bool.cond_not, cond_true, cond_false, Bool.cond_decide, nI_add, nI_clamp, xin_n, dle_e, dlt_e, deq_e, xb_0, xb_1, decide_true, decide_false, Bool.not_true, Bool.not_false, Bool.and_true, Bool.true_and, Bool.and_false, Bool.false_and, Bool.true_or, Bool.false_or, Bool.or_true, Bool.or_false, if_true, if_false, up1_s, n_31, Int32.lt_irrefl, hH, Nat.le_refl, t216_59, t216_68, t216_77, t216_112, t216_120, t216_154, t216_188, t216_190]
    · obtain ⟨g, st, e1⟩ := q106 (d + 2) sl I A N V lt tw sp sr [] hS hV
      obtain ⟨g', e2⟩ := c216_157 (d + 1) sl2 (up1 J 0 (nI 0)) w B M hV (nI 6) H 0 (B 11) (by omega)
      rw [up1_id] at e2
      have hA2 : ∀ q, q ≠ 96 → q ≠ 97 → up1 (up1 A 96 g) 97 st q = A q := fun q a1 a2 => by rw [up1_n a2, up1_n a1]
      have hB : ∀ q, q ≠ 11 → up1 B 11 g' q = B q := fun q a1 => up1_n a1
      refine ⟨nI (mkN (rg_ (B 2) m H) H), I, up1 (up1 A 96 g) 97 st, N, V, lt, tw, sp, sr, [], sl, up1 J 0 (nI 0), w, up1 B 11 g', M, ?_, ?_, ?_, Nat.le_refl _, by omega, by simp⟩
      · rw [e124, k124_0, k124_1_c6]
        simp (disch := omega) only [rt_c, b_some, List.cons_append, List.nil_append, Bool.cond_not, cond_true, cond_false, Bool.cond_decide, nI_add, nI_clamp, xin_n, dle_e, dlt_e, deq_e, xb_0, xb_1, decide_true, decide_false, Bool.not_true, Bool.not_false, Bool.and_true, Bool.true_and, Bool.and_false, Bool.false_and, Bool.true_or, Bool.false_or, Bool.or_true, Bool.or_false, if_true, if_false, up1_s, n_31, Int32.lt_irrefl, k124_92, e1, k124_103, t124_51, t124_59, t124_67, t124_75, t124_83, t124_91, t124_103, t124_105]
      · rw [e216, m216_0, m216_8_c6, m216_155]
        exact e2
      · refine ⟨H, m, ⟨?_, ?_, ?_, h1.2.2.2⟩, ⟨p, z, RPx_c h2 (fun q _ _ => rfl) (fun q _ _ => hA2 q (by omega) (by omega)) (fun _ _ _ => rfl) rfl (up1_n (by decide)) (hB _ (by decide)) (fun k _ => by rw [hB _ (by decide)])⟩, RZ_f h3 (fun q _ => rfl) (fun q _ => hA2 q (by omega) (by omega)) (fun _ _ => rfl) (J8_0 J _) ⟨hB _ (by decide), hB _ (by decide), hB _ (by decide), hB _ (by decide), hB _ (by decide), hB _ (by decide)⟩ rfl (fun k _ => by rw [hB _ (by decide)])⟩
        · rw [hB _ (by decide)]
          exact Sh_c h1.1 (fun _ _ => rfl) rfl (fun q _ _ => hA2 q (by omega) (by omega))
        · rw [hB _ (by decide)]; exact hV
        · rw [hB _ (by decide)]; exact h1.2.2.1
  · refine ⟨-1, I, A, N, V, lt, tw, sp, sr, [], sl, up1 J 0 (nI 0), w, B, M, ?_, ?_, Rl_0 hR0 _, Nat.le_refl _, by omega, by simp⟩
    · rw [e124, k124_0, k124_1_out _ _ _ _ _ _ _ _ _ _ _ _ _ hx]
      simp (disch := omega) only [rt_c, b_some, List.cons_append, List.nil_append, Bool.cond_not, cond_true, cond_false, Bool.cond_decide, nI_add, nI_clamp, xin_n, dle_e, dlt_e, deq_e, xb_0, xb_1, decide_true, decide_false, Bool.not_true, Bool.not_false, Bool.and_true, Bool.true_and, Bool.and_false, Bool.false_and, Bool.true_or, Bool.false_or, Bool.or_true, Bool.or_false, if_true, if_false, up1_s, n_31, Int32.lt_irrefl, k124_104, t124_51, t124_59, t124_67, t124_75, t124_83, t124_91, t124_103, t124_105]
    · rw [e216, m216_0, m216_8_out _ _ _ _ _ _ _ _ _ hx]
      simp (disch := omega) only [rt_c, b_some, List.cons_append, List.nil_append, Bool.cond_not, cond_true, cond_false, Bool.cond_decide, nI_add, nI_clamp, xin_n, dle_e, dlt_e, deq_e, xb_0, xb_1, decide_true, decide_false, Bool.not_true, Bool.not_false, Bool.and_true, Bool.true_and, Bool.and_false, Bool.false_and, Bool.true_or, Bool.false_or, Bool.or_true, Bool.or_false, if_true, if_false, up1_s, n_31, Int32.lt_irrefl, m216_189, t216_59, t216_68, t216_77, t216_112, t216_120, t216_154, t216_188, t216_190]
/-- four bytes come on both sides -/
theorem put4 {t : Nat} (ht : t + 4 ≤ 940) (sl sl2 : Nat) (I A : Nat → Nat → Int32) (N : Nat → Nat → Int64) (V : Nat → Nat → Option Nat) (lt : Int64) (tw : Option Nat) (sp sr : Nat) (X : List AC) (J : Nat → Int32) (w : Int64) (B : Nat → Nat → Int32) (M : Nat → Nat → Int64) (h1 : I 1 1 = nI t) (h2 : J 2 = nI t) (h3 : ∀ k, k < t → ∃ b, b < 256 ∧ B 1 k = nI b ∧ A 2 k = by8 b) (x : Int32) :
    ∃ f g, C d 87 [.ref 1, .int x] sl (CH I A N V lt tw sp sr X) = some ([], sl, CH (up1 I 1 (up1 (I 1) 1 (nI (t + 4)))) (up1 A 2 f) N V lt tw sp sr X) ∧ C d 162 [.ref 0, .int x] sl2 (RH J w B M) = some ([], sl2, RH (up1 J 2 (nI (t + 4))) w (up1 B 1 g) M) ∧ ∀ k, k < t + 4 → ∃ b, b < 256 ∧ g k = nI b ∧ f k = by8 b := by
  have step : ∀ (u : Nat) (y : Int32) (f g : Nat → Int32), t ≤ u → u < 940 → ¬ y < nI 0 → (∀ k, k < u → ∃ b, b < 256 ∧ g k = nI b ∧ f k = by8 b) → ∃ f' g', (∀ k, k < u + 1 → ∃ b, b < 256 ∧ g' k = nI b ∧ f' k = by8 b) ∧
      rt 87 (R d 87 (3, [some (.ref 1), some (.int x), some (.int y)], [], sl, CH (up1 I 1 (up1 (I 1) 1 (nI u))) (up1 A 2 f) N V lt tw sp sr X)) = rt 87 (R d 87 (3, [some (.ref 1), some (.int x), some (.int (y + (-8)))], [], sl, CH (up1 I 1 (up1 (I 1) 1 (nI (u + 1)))) (up1 A 2 f') N V lt tw sp sr X)) ∧
      rt 162 (R d 162 (3, [some (.ref 0), some (.int x), some (.int y)], [], sl2, RH (up1 J 2 (nI u)) w (up1 B 1 g) M)) = rt 162 (R d 162 (3, [some (.ref 0), some (.int x), some (.int (y + (-8)))], [], sl2, RH (up1 J 2 (nI (u + 1))) w (up1 B 1 g') M)) := by
    intro u y f g hu1 hu2 hy hfg
    have a1 : ¬ 940 ≤ u := by omega
    obtain ⟨b, b1, b2, b3⟩ := byte_rel ((x.toUInt32 >>> (y.toUInt32 &&& Int32.toUInt32 31)).toInt32)
    refine ⟨upd f u (by8 b), upd g u (nI b), ?_, ?_, ?_⟩
    · intro k hk
      by_cases hku : k = u
      · rw [hku, upd_s, upd_s]; exact ⟨b, b1, rfl, rfl⟩
      · rw [upd_n hku, upd_n hku]; exact hfg k (by omega)
    · rw [k87_r1_3]
      simp (disch := omega) only [rt_c, b_some, List.cons_append, List.nil_append, Bool.cond_not, cond_true, cond_false, Bool.cond_decide, nI_add, nI_clamp, xin_n, dle_e, dlt_e, deq_e, xb_0, xb_1, decide_true, decide_false, Bool.not_true, Bool.not_false, Bool.and_true, Bool.true_and, Bool.and_false, Bool.false_and, Bool.true_or, Bool.false_or, Bool.or_true, Bool.or_false, if_true, if_false, up1_s, n_31, Int32.lt_irrefl, hy, a1, up1_up, b3]
    · rw [m162_3]
      simp (disch := omega) only [rt_c, b_some, List.cons_append, List.nil_append, Bool.cond_not, cond_true, cond_false, Bool.cond_decide, nI_add, nI_clamp, xin_n, dle_e, dlt_e, deq_e, xb_0, xb_1, decide_true, decide_false, Bool.not_true, Bool.not_false, Bool.and_true, Bool.true_and, Bool.and_false, Bool.false_and, Bool.true_or, Bool.false_or, Bool.or_true, Bool.or_false, if_true, if_false, up1_s, n_31, Int32.lt_irrefl, hy, up1_up, b2]
  obtain ⟨f1, g1, c1, s1, r1⟩ := step t (nI 24) (A 2) (B 1) (by omega) (by omega) (by decide) h3
  obtain ⟨f2, g2, c2, s2, r2⟩ := step (t + 1) (nI 24 + (-8)) f1 g1 (by omega) (by omega) (by decide) c1
  obtain ⟨f3, g3, c3, s3, r3⟩ := step (t + 1 + 1) (nI 24 + (-8) + (-8)) f2 g2 (by omega) (by omega) (by decide) c2
  obtain ⟨f4, g4, c4, s4, r4⟩ := step (t + 1 + 1 + 1) (nI 24 + (-8) + (-8) + (-8)) f3 g3 (by omega) (by omega) (by decide) c3
  have hneg : (nI 24 + (-8) + (-8) + (-8) + (-8) : Int32) < nI 0 := by decide
  refine ⟨f4, g4, ?_, ?_, c4⟩
  · have e0 : CH I A N V lt tw sp sr X = CH (up1 I 1 (up1 (I 1) 1 (nI t))) (up1 A 2 (A 2)) N V lt tw sp sr X := by
      rw [← h1, up1_id, up1_id, up1_id]
    rw [e87, k87_r1_0, e0, s1, s2, s3, s4, k87_r1_3]
    simp (disch := omega) only [rt_c, b_some, List.cons_append, List.nil_append, Bool.cond_not, cond_true, cond_false, Bool.cond_decide, nI_add, nI_clamp, xin_n, dle_e, dlt_e, deq_e, xb_0, xb_1, decide_true, decide_false, Bool.not_true, Bool.not_false, Bool.and_true, Bool.true_and, Bool.and_false, Bool.false_and, Bool.true_or, Bool.false_or, Bool.or_true, Bool.or_false, if_true, if_false, up1_s, n_31, Int32.lt_irrefl, hneg, t87_46]
  · have e0 : RH J w B M = RH (up1 J 2 (nI t)) w (up1 B 1 (B 1)) M := by
      rw [← h2, up1_id, up1_id]
    rw [e162, m162_0, e0, r1, r2, r3, r4, m162_3]
    simp (disch := omega) only [rt_c, b_some, List.cons_append, List.nil_append, Bool.cond_not, cond_true, cond_false, Bool.cond_decide, nI_add, nI_clamp, xin_n, dle_e, dlt_e, deq_e, xb_0, xb_1, decide_true, decide_false, Bool.not_true, Bool.not_false, Bool.and_true, Bool.true_and, Bool.and_false, Bool.false_and, Bool.true_or, Bool.false_or, Bool.or_true, Bool.or_false, if_true, if_false, up1_s, n_31, Int32.lt_irrefl, hneg, t162_39]
theorem ok_feed (a b c e f : Int32) : Ok (d + 1) 115 163 [.ref 0, .int a, .int b, .int c, .int e, .int f] := by
  intro sl sl2 I A N V lt tw sp sr J w B M hR
  have hR0 := hR
  obtain ⟨H, m, h1, ⟨p, z, h2⟩, h3⟩ := hR
  obtain ⟨t, ht, t1, t2, t3⟩ := h3.1
  by_cases hle : t + 20 ≤ 940
  · obtain ⟨f1, g1, s1, r1, c1⟩ := put4 d (t := t) (by omega) sl sl2 I A N V lt tw sp sr [] (up1 J 0 (nI 0)) w B M t1 (by rw [up1_n (by decide)]; exact t2) t3 a
    obtain ⟨f2, g2, s2, r2, c2⟩ := put4 d (t := t + 4) (by omega) sl sl2 (up1 I 1 (up1 (I 1) 1 (nI (t + 4)))) (up1 A 2 f1) N V lt tw sp sr [] (up1 (up1 J 0 (nI 0)) 2 (nI (t + 4))) w (up1 B 1 g1) M (by rw [up1_s, up1_s]) up1_s (by rw [up1_s, up1_s]; exact c1) b
    rw [up1_up, up1_up, up1_s, up1_up] at s2
    rw [up1_up, up1_up] at r2
    obtain ⟨f3, g3, s3, r3, c3⟩ := put4 d (t := t + 4 + 4) (by omega) sl sl2 (up1 I 1 (up1 (I 1) 1 (nI (t + 4 + 4)))) (up1 A 2 f2) N V lt tw sp sr [] (up1 (up1 J 0 (nI 0)) 2 (nI (t + 4 + 4))) w (up1 B 1 g2) M (by rw [up1_s, up1_s]) up1_s (by rw [up1_s, up1_s]; exact c2) c
    rw [up1_up, up1_up, up1_s, up1_up] at s3
    rw [up1_up, up1_up] at r3
    obtain ⟨f4, g4, s4, r4, c4⟩ := put4 d (t := t + 4 + 4 + 4) (by omega) sl sl2 (up1 I 1 (up1 (I 1) 1 (nI (t + 4 + 4 + 4)))) (up1 A 2 f3) N V lt tw sp sr [] (up1 (up1 J 0 (nI 0)) 2 (nI (t + 4 + 4 + 4))) w (up1 B 1 g3) M (by rw [up1_s, up1_s]) up1_s (by rw [up1_s, up1_s]; exact c3) e
    rw [up1_up, up1_up, up1_s, up1_up] at s4
    rw [up1_up, up1_up] at r4
    obtain ⟨f5, g5, s5, r5, c5⟩ := put4 d (t := t + 4 + 4 + 4 + 4) (by omega) sl sl2 (up1 I 1 (up1 (I 1) 1 (nI (t + 4 + 4 + 4 + 4)))) (up1 A 2 f4) N V lt tw sp sr [] (up1 (up1 J 0 (nI 0)) 2 (nI (t + 4 + 4 + 4 + 4))) w (up1 B 1 g4) M (by rw [up1_s, up1_s]) up1_s (by rw [up1_s, up1_s]; exact c4) f
    rw [up1_up, up1_up, up1_s, up1_up] at s5
    rw [up1_up, up1_up] at r5
    refine ⟨nI (t + 4 + 4 + 4 + 4 + 4), up1 I 1 (up1 (I 1) 1 (nI (t + 4 + 4 + 4 + 4 + 4))), up1 A 2 f5, N, V, lt, tw, sp, sr, [], sl, up1 (up1 J 0 (nI 0)) 2 (nI (t + 4 + 4 + 4 + 4 + 4)), w, up1 B 1 g5, M, ?_, ?_, ?_, Nat.le_refl _, by omega, by simp⟩
    · rw [e115, k115_0, t1]
      simp (disch := omega) only [rt_c, b_some, List.cons_append, List.nil_append, Bool.cond_not, cond_true, cond_false, Bool.cond_decide, nI_add, nI_clamp, xin_n, dle_e, dlt_e, deq_e, xb_0, xb_1, decide_true, decide_false, Bool.not_true, Bool.not_false, Bool.and_true, Bool.true_and, Bool.and_false, Bool.false_and, Bool.true_or, Bool.false_or, Bool.or_true, Bool.or_false, if_true, if_false, up1_s, n_31, Int32.lt_irrefl, hle, s1, k115_26, s2, k115_34, s3, k115_42, s4, k115_51, s5, k115_60, t115_17, t115_67]
    · rw [e163, m163_0, t2]
      simp (disch := omega) only [rt_c, b_some, List.cons_append, List.nil_append, Bool.cond_not, cond_true, cond_false, Bool.cond_decide, nI_add, nI_clamp, xin_n, dle_e, dlt_e, deq_e, xb_0, xb_1, decide_true, decide_false, Bool.not_true, Bool.not_false, Bool.and_true, Bool.true_and, Bool.and_false, Bool.false_and, Bool.true_or, Bool.false_or, Bool.or_true, Bool.or_false, if_true, if_false, up1_s, n_31, Int32.lt_irrefl, hle, r1, m163_25, r2, m163_30, r3, m163_35, r4, m163_41, r5, m163_47, t163_19, t163_51]
    · have hI : ∀ q, q ≠ 1 → up1 I 1 (up1 (I 1) 1 (nI (t + 4 + 4 + 4 + 4 + 4))) q = I q := fun q hq => up1_n hq
      have hJ : ∀ q, q ≠ 2 → q ≠ 0 → up1 (up1 J 0 (nI 0)) 2 (nI (t + 4 + 4 + 4 + 4 + 4)) q = J q := fun q hq hq0 => by rw [up1_n hq, up1_n hq0]
      have hA : ∀ q, q ≠ 2 → up1 A 2 f5 q = A q := fun q hq => up1_n hq
      have hB : ∀ q, q ≠ 1 → up1 B 1 g5 q = B q := fun q hq => up1_n hq
      obtain ⟨⟨q1, q2, q3⟩, qr, ql, qt⟩ := h3.2.1
      refine ⟨H, m, ⟨?_, ?_, ?_, h1.2.2.2⟩, ⟨p, z, RPx_c h2 (fun q _ _ => hI q (by omega)) (fun q _ _ => hA q (by omega)) (fun _ _ _ => rfl) rfl (hJ _ (by decide) (by decide)) (hB _ (by decide)) (fun k _ => by rw [hB _ (by decide)])⟩, RZ_h h3 (fun q _ => hI q (by omega)) (fun q _ => hA q (by omega)) (fun _ _ => rfl) ⟨hB _ (by decide), hB _ (by decide)⟩ rfl (fun k _ => by rw [hB _ (by decide)]) ?_ ⟨⟨?_, ?_, ?_⟩, ?_, ?_, ?_⟩⟩
      · rw [hB _ (by decide)]
        exact Sh_c h1.1 (fun _ _ => rfl) (hI 3 (by omega)) (fun q _ _ => hA q (by omega))
      · rw [hB _ (by decide)]; exact h1.2.1
      · rw [hB _ (by decide)]; exact h1.2.2.1
      · refine ⟨t + 4 + 4 + 4 + 4 + 4, by omega, by rw [up1_s, up1_s], up1_s, ?_⟩
        rw [up1_s, up1_s]
        exact c5
      · rw [hI 0 (by omega), hJ 10 (by decide) (by decide)]; exact q1
      · rw [hI 0 (by omega), hJ 28 (by decide) (by decide)]; exact q2
      · rw [hI 0 (by omega), hJ 31 (by decide) (by decide)]; exact q3
      · rw [hI 95 (by omega), hA 98 (by decide), hJ 27 (by decide) (by decide), hB 12 (by decide)]; exact qr
      · rw [hI 106 (by omega), hA 107 (by decide), hJ 33 (by decide) (by decide), hB 15 (by decide)]; exact ql
      · rw [hI 101 (by omega), hJ 38 (by decide) (by decide), hB 17 (by decide)]; exact qt
  · refine ⟨-1, I, A, N, V, lt, tw, sp, sr, [], sl, up1 J 0 (nI 0), w, B, M, ?_, ?_, Rl_0 hR0 _, Nat.le_refl _, by omega, by simp⟩
    · rw [e115, k115_0, t1]
      simp (disch := omega) only [rt_c, b_some, List.cons_append, List.nil_append, Bool.cond_not, cond_true, cond_false, Bool.cond_decide, nI_add, nI_clamp, xin_n, dle_e, dlt_e, deq_e, xb_0, xb_1, decide_true, decide_false, Bool.not_true, Bool.not_false, Bool.and_true, Bool.true_and, Bool.and_false, Bool.false_and, Bool.true_or, Bool.false_or, Bool.or_true, Bool.or_false, if_true, if_false, up1_s, n_31, Int32.lt_irrefl, hle, t115_17, t115_67]
    · rw [e163, m163_0, t2]
      simp (disch := omega) only [rt_c, b_some, List.cons_append, List.nil_append, Bool.cond_not, cond_true, cond_false, Bool.cond_decide, nI_add, nI_clamp, xin_n, dle_e, dlt_e, deq_e, xb_0, xb_1, decide_true, decide_false, Bool.not_true, Bool.not_false, Bool.and_true, Bool.true_and, Bool.and_false, Bool.false_and, Bool.true_or, Bool.false_or, Bool.or_true, Bool.or_false, if_true, if_false, up1_s, n_31, Int32.lt_irrefl, hle, t163_19, t163_51]
end OKR
