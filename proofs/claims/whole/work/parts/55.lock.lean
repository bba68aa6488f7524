/-! ACTS, SIDE BY SIDE -/
/-- nothing but the shire and the spare one is otherwise -/
def Un (I A : Nat → Nat → Int32) (N : Nat → Nat → Int64) (I' A' : Nat → Nat → Int32) (N' : Nat → Nat → Int64) : Prop :=
  (∀ q, (q ≤ 2 ∨ 21 ≤ q) → I' q = I q) ∧ (∀ q, (q ≤ 2 ∨ 21 ≤ q) → A' q = A q) ∧ (∀ q, (q = 4 ∨ 21 ≤ q) → N' q = N q)
/-- and one more can be undone -/
def Pu (p z : Nat) (n : Nat → Int32) (m H : Nat) (I A : Nat → Nat → Int32) (N : Nat → Nat → Int64) (I' A' : Nat → Nat → Int32) (N' : Nat → Nat → Int64) : Prop :=
  I' 21 1 = nI ((p + 1) % 8) ∧ I' 21 2 = nI (min 8 (z + 1)) ∧ Sh I' A' (23 + 9 * p) n H m ∧ (∀ h, h < 6 → N' (23 + 9 * p + 1) h = N 4 h) ∧
  (∀ q, (q ≤ 2 ∨ 22 ≤ q) → q ≠ 23 + 9 * p → I' q = I q) ∧ (∀ q, (q ≤ 2 ∨ 21 ≤ q) → (q < 23 + 9 * p + 2 ∨ 23 + 9 * p + 8 < q) → A' q = A q) ∧ (∀ q, (q = 4 ∨ 21 ≤ q) → q ≠ 23 + 9 * p + 1 → N' q = N q)
def J8 (J J' : Nat → Int32) : Prop := J' 2 = J 2 ∧ J' 10 = J 10 ∧ J' 27 = J 27 ∧ J' 28 = J 28 ∧ J' 31 = J 31 ∧ J' 33 = J 33 ∧ J' 38 = J 38
section RLX
variable {I A I' A' : Nat → Nat → Int32} {N N' : Nat → Nat → Int64} {V : Nat → Nat → Option Nat} {sp sr : Nat} {J J' : Nat → Int32} {B : Nat → Nat → Int32} {M : Nat → Nat → Int64} {H m : Nat}
theorem Rl_q (h : Rl I A N V sp sr J B M) (hJ : J8 J J') (h24 : J' 24 = J 24) : Rl I A N V sp sr J' B M := by
  obtain ⟨H, m, h1, ⟨p, z, h2⟩, h3⟩ := h
  exact ⟨H, m, h1, ⟨p, z, RPx_c h2 (fun _ _ _ => rfl) (fun _ _ _ => rfl) (fun _ _ _ => rfl) rfl h24 rfl (fun _ _ => rfl)⟩, RZ_f h3 (fun _ _ => rfl) (fun _ _ => rfl) (fun _ _ => rfl) hJ ⟨rfl, rfl, rfl, rfl, rfl, rfl⟩ rfl (fun _ _ => rfl)⟩
theorem Rl_0 (h : Rl I A N V sp sr J B M) (x : Int32) : Rl I A N V sp sr (up1 J 0 x) B M :=
  Rl_q h ⟨up1_n (by decide), up1_n (by decide), up1_n (by decide), up1_n (by decide), up1_n (by decide), up1_n (by decide), up1_n (by decide)⟩ (up1_n (by decide))
theorem Rl_un (h1 : RS I A N B M H m) (h2 : RP I A N J B M H) (h3 : RZ I A N V sp sr J B M) (hS : Sh I' A' 3 (B 2) H m) (hU : Un I A N I' A' N') (hJ : J8 J J') (h24 : J' 24 = J 24) : Rl I' A' N' V sp sr J' B M := by
  obtain ⟨g1, g2, g3, g4⟩ := h1
  obtain ⟨p, z, h2⟩ := h2
  obtain ⟨u1, u2, u3⟩ := hU
  refine ⟨H, m, ⟨hS, g2, g3, ?_⟩, ⟨p, z, RPx_c h2 (fun q _ _ => u1 q (by omega)) (fun q _ _ => u2 q (by omega)) (fun q _ _ => u3 q (by omega)) rfl h24 rfl (fun _ _ => rfl)⟩, RZ_f h3 (fun q _ => u1 q (by omega)) (fun q _ => u2 q (by omega)) (fun q _ => u3 q (by omega)) hJ ⟨rfl, rfl, rfl, rfl, rfl, rfl⟩ rfl (fun _ _ => rfl)⟩
  rw [u3 4 (by omega)]; exact g4
theorem Rl_push {p z m' : Nat} {n' B5 : Nat → Int32} (h1 : RS I A N B M H m) (h2 : RPx p z I A N J B M H) (h3 : RZ I A N V sp sr J B M) (hS : Sh I' A' 3 n' H m') (hV : Vd n' H m') (hY : Yr n') (hU : Pu p z (B 2) m H I A N I' A' N') (hJ : J8 J J') (h24 : J' 24 = nI (min 8 (z + 1)))
    (b1 : ∀ j k, j < min 8 (z + 1) - 1 → k < 57 → B5 (57 * j + k) = B 5 (57 * (j + (z + 1 - min 8 (z + 1))) + k)) (b2 : ∀ k, k < 57 → B5 (57 * (min 8 (z + 1) - 1) + k) = B 2 (70 + k)) (hn : ∀ k, (k < 70 ∨ 127 ≤ k) → n' k = B 2 k) : Rl I' A' N' V sp sr J' (up1 (up1 B 5 B5) 2 n') M := by
  obtain ⟨g1, g2, g3, g4⟩ := h1
  obtain ⟨u1, u2, u3, u4, u5, u6, u7⟩ := hU
  have hp := h2.1.1
  have hH := g2.1.2.2.1
  refine ⟨H, m', ⟨?_, ?_, ?_, ?_⟩, ⟨_, _, RPx_push (n0 := B 2) h2 u1 u2 h24 u3 g2 g3 ?_ (fun q _ _ h => u5 q (by omega) h) (fun q _ _ h => u6 q (by omega) h) (fun q _ _ h => u7 q (by omega) h) rfl ?_ ?_ ?_ (fun _ _ => rfl)⟩, RZ_f h3 (fun q _ => u5 q (by omega) (by omega)) (fun q _ => u6 q (by omega) (by omega)) (fun q _ => u7 q (by omega) (by omega)) hJ ⟨?_, ?_, ?_, ?_, ?_, ?_⟩ rfl ?_⟩
  · rw [up1_s]; exact hS
  · rw [up1_s]; exact hV
  · rw [up1_s]; exact hY
  · rw [u7 4 (by omega) (by omega)]; exact g4
  · exact Nm_c g4 hH u4
  · intro j k hj hk
    rw [up1_n (by omega), up1_s]; exact b1 j k hj hk
  · intro k hk
    rw [up1_n (by omega), up1_s]; exact b2 k hk
  · intro k hk
    rw [up1_s]; exact hn k hk
  · rw [up1_n (by omega), up1_n (by omega)]
  · rw [up1_n (by omega), up1_n (by omega)]
  · rw [up1_n (by omega), up1_n (by omega)]
  · rw [up1_n (by omega), up1_n (by omega)]
  · rw [up1_n (by omega), up1_n (by omega)]
  · rw [up1_n (by omega), up1_n (by omega)]
  · intro k hk
    rw [up1_s]; exact hn k (by omega)
end RLX
section CL9
variable (d sl : Nat) (I : Nat → Nat → Int32) (A : Nat → Nat → Int32) (N : Nat → Nat → Int64) (V : Nat → Nat → Option Nat) (lt : Int64) (tw : Option Nat) (sp sr : Nat) (X : List AC) {n : Nat → Int32} {H m : Nat}
theorem q_fin {p z : Nat} (h22 : V22 V) (hp : p < 8) (hz : z ≤ 8) (hP : I 21 1 = nI p) (hZ : I 21 2 = nI z) (hS : Sh I A 3 n H m) {I0 A0 I1 A1 : Nat → Nat → Int32} {N0 : Nat → Nat → Int64} (hB : Bc 12 3 I A N I0 A0 N0) (v : Int32) {n' : Nat → Int32} {m' : Nat} (hS1 : Sh I1 A1 3 n' H m') (hF : Fr 3 I0 A0 I1 A1) :
    ∃ I' A' N', C (d + 2) 131 [.ref 0, .int v] sl (CH I1 A1 N0 V lt tw sp sr X) = some ([.int v], sl, CH I' A' N' V lt tw sp sr X) ∧ Sh I' A' 3 n' H m' ∧ (v = nI 0 → Pu p z n m H I A N I' A' N') ∧ (¬ v = nI 0 → Un I A N I' A' N') := by
  obtain ⟨c1, c2, c3, c4, c5⟩ := hB
  obtain ⟨f1, f2⟩ := hF
  have hP1 : I1 21 1 = nI p := by rw [f1 21 (by omega), c3 21 (by omega)]; exact hP
  have hZ1 : I1 21 2 = nI z := by rw [f1 21 (by omega), c3 21 (by omega)]; exact hZ
  by_cases hv : v = nI 0
  · subst hv
    obtain ⟨I', A', N', e, k1, k2, k3, k4, k5, k6, k7⟩ := q27_12 d sl I1 A1 N0 V lt tw sp sr X h22 hp hz hP1 hZ1
    refine ⟨I', A', N', ?_, ?_, ?_, fun h => absurd rfl h⟩
    · rw [e131, k131_0]
      simp (disch := omega) only [rt_c, b_some, List.cons_append, List.nil_append, Bool.cond_not, cond_true, cond_false, Bool.cond_decide, nI_add, nI_clamp, xin_n, dle_e, dlt_e, deq_e, xb_0, xb_1, decide_true, decide_false, Bool.not_true, Bool.not_false, Bool.and_true, Bool.true_and, Bool.and_false, Bool.false_and, Bool.true_or, Bool.false_or, Bool.or_true, Bool.or_false, if_true, if_false, up1_s, n_31, Int32.lt_irrefl, e, k131_15, t131_16]
    · exact Sh_c hS1 (fun _ _ => rfl) (k5 3 (by omega) (by omega)) (fun q _ _ => k6 q (by omega))
    · intro _
      refine ⟨k1, k2, ?_, ?_, ?_, ?_, ?_⟩
      · exact k3 n H m (Sh_c (c1 n H m hS) (fun _ _ => rfl) (f1 12 (by omega)) (fun q _ _ => f2 q (by omega)))
      · intro h hh
        rw [k4 h hh, c2 h hh]
      · intro q h1 h2
        rw [k5 q (by omega) (by omega), f1 q (by omega), c3 q (by omega)]
      · intro q h1 h2
        rw [k6 q (by omega), f2 q (by omega), c4 q (by omega)]
      · intro q h1 h2
        rw [k7 q (by omega), c5 q (by omega)]
  · refine ⟨I1, A1, N0, ?_, hS1, fun h => absurd h hv, fun _ => ⟨?_, ?_, ?_⟩⟩
    · rw [e131, k131_0]
      simp (disch := omega) only [rt_c, b_some, List.cons_append, List.nil_append, Bool.cond_not, cond_true, cond_false, Bool.cond_decide, nI_add, nI_clamp, xin_n, dle_e, dlt_e, deq_e, xb_0, xb_1, decide_true, decide_false, Bool.not_true, Bool.not_false, Bool.and_true, Bool.true_and, Bool.and_false, Bool.false_and, Bool.true_or, Bool.false_or, Bool.or_true, Bool.or_false, if_true, if_false, up1_s, n_31, Int32.lt_irrefl, hv, k131_15, t131_16]
    · intro q h1
      rw [f1 q (by omega), c3 q (by omega)]
    · intro q h1
      rw [f2 q (by omega), c4 q (by omega)]
    · intro q h1
      rw [c5 q (by omega)]
theorem Bc_3 {I A I0 A0 : Nat → Nat → Int32} {N N0 : Nat → Nat → Int64} {n : Nat → Int32} {H m : Nat} (hS : Sh I A 3 n H m) (hB : Bc 12 3 I A N I0 A0 N0) : Sh I0 A0 3 n H m :=
  Sh_c hS (fun _ _ => rfl) (hB.2.2.1 3 (by omega)) (fun q _ _ => hB.2.2.2.1 q (by omega))
theorem q126_out (hS : Sh I A 3 n H m) (k y : Int32) (hb : (isN m k && (decide (nI 1 ≤ y) && decide (y ≤ nI 999))) = false) : C (d + 4) 126 [.ref 0, .int k, .int y] sl (CH I A N V lt tw sp sr X) = some ([.int (-1)], sl, CH I A N V lt tw sp sr X) := by
  have h46 := q46_3 (d + 3) sl I A N V lt tw sp sr X hS k
  rw [e126, k126_0, h46]
  simp (disch := omega) only [rt_c, b_some, List.cons_append, List.nil_append, Bool.cond_not, cond_true, cond_false, Bool.cond_decide, nI_add, nI_clamp, xin_n, dle_e, dlt_e, deq_e, xb_0, xb_1, decide_true, decide_false, Bool.not_true, Bool.not_false, Bool.and_true, Bool.true_and, Bool.and_false, Bool.false_and, Bool.true_or, Bool.false_or, Bool.or_true, Bool.or_false, if_true, if_false, up1_s, n_31, Int32.lt_irrefl, k126_8]
  cases hi : isN m k with
  | false => simp (disch := omega) only [rt_c, b_some, List.cons_append, List.nil_append, Bool.cond_not, cond_true, cond_false, Bool.cond_decide, nI_add, nI_clamp, xin_n, dle_e, dlt_e, deq_e, xb_0, xb_1, decide_true, decide_false, Bool.not_true, Bool.not_false, Bool.and_true, Bool.true_and, Bool.and_false, Bool.false_and, Bool.true_or, Bool.false_or, Bool.or_true, Bool.or_false, if_true, if_false, up1_s, n_31, Int32.lt_irrefl, t126_24, t126_49]
  | true =>
    rw [hi] at hb
    by_cases h1 : y < nI 1
    · simp (disch := omega) only [rt_c, b_some, List.cons_append, List.nil_append, Bool.cond_not, cond_true, cond_false, Bool.cond_decide, nI_add, nI_clamp, xin_n, dle_e, dlt_e, deq_e, xb_0, xb_1, decide_true, decide_false, Bool.not_true, Bool.not_false, Bool.and_true, Bool.true_and, Bool.and_false, Bool.false_and, Bool.true_or, Bool.false_or, Bool.or_true, Bool.or_false, if_true, if_false, up1_s, n_31, Int32.lt_irrefl, h1, t126_24, t126_49]
    · have h1' : nI 1 ≤ y := Int32.not_lt.mp h1
      have h2 : ¬ y ≤ nI 999 := by
        intro h
        rw [decide_eq_true h1', decide_eq_true h] at hb
        cases hb
      simp (disch := omega) only [rt_c, b_some, List.cons_append, List.nil_append, Bool.cond_not, cond_true, cond_false, Bool.cond_decide, nI_add, nI_clamp, xin_n, dle_e, dlt_e, deq_e, xb_0, xb_1, decide_true, decide_false, Bool.not_true, Bool.not_false, Bool.and_true, Bool.true_and, Bool.and_false, Bool.false_and, Bool.true_or, Bool.false_or, Bool.or_true, Bool.or_false, if_true, if_false, up1_s, n_31, Int32.lt_irrefl, h1, h2, t126_24, t126_49]
theorem q126_in {p z : Nat} (h22 : V22 V) (hp : p < 8) (hz : z ≤ 8) (hP : I 21 1 = nI p) (hZ : I 21 2 = nI z) (hS : Sh I A 3 n H m) (hV : Vd n H m) {k : Nat} (hk : k < m) (y : Int32) (h1 : nI 1 ≤ y) (h2 : y ≤ nI 999) :
    ∃ I' A' N', C (d + 4) 126 [.ref 0, .int (nI k), .int y] sl (CH I A N V lt tw sp sr X) = some ([.int (payW n k y)], sl, CH I' A' N' V lt tw sp sr X) ∧ Sh I' A' 3 (if payW n k y = nI 0 then payN n k y else n) H m ∧ (payW n k y = nI 0 → Pu p z n m H I A N I' A' N') ∧ (¬ payW n k y = nI 0 → Un I A N I' A' N') := by
  have h46 := q46_3 (d + 3) sl I A N V lt tw sp sr X hS (nI k)
  have h1' : ¬ y < nI 1 := Int32.not_lt.mpr h1
  obtain ⟨I0, A0, N0, e0, hB⟩ := q44_12_3 (d + 3) sl I A N V lt tw sp sr X
  obtain ⟨I1, A1, e1, hS1, hF⟩ := q70_3 (d + 1) sl I0 A0 N0 V lt tw sp sr X (Bc_3 hS hB) hV hk y
  obtain ⟨I', A', N', e2, r1, r2, r3⟩ := q_fin (d + 1) sl I A N V lt tw sp sr X h22 hp hz hP hZ hS hB (payW n k y) hS1 hF
  refine ⟨I', A', N', ?_, r1, r2, r3⟩
  rw [e126, k126_0, h46, isN_n hk (Nat.lt_of_le_of_lt hS.1.2.2.2 (by decide))]
  simp (disch := omega) only [rt_c, b_some, List.cons_append, List.nil_append, Bool.cond_not, cond_true, cond_false, Bool.cond_decide, nI_add, nI_clamp, xin_n, dle_e, dlt_e, deq_e, xb_0, xb_1, decide_true, decide_false, Bool.not_true, Bool.not_false, Bool.and_true, Bool.true_and, Bool.and_false, Bool.false_and, Bool.true_or, Bool.false_or, Bool.or_true, Bool.or_false, if_true, if_false, up1_s, n_31, Int32.lt_irrefl, k126_8, h1', h2, e0, k126_36, e1, k126_46, e2, k126_49, t126_24, t126_49]
theorem q127_out (hS : Sh I A 3 n H m) (h g y : Int32) (hb : (isN H h && (isN H g && (!decide (h = g) && (decide (nI 1 ≤ y) && decide (y ≤ nI 200))))) = false) : C (d + 4) 127 [.ref 0, .int h, .int g, .int y] sl (CH I A N V lt tw sp sr X) = some ([.int (-1)], sl, CH I A N V lt tw sp sr X) := by
  have h45 := q45_3 (d + 3) sl I A N V lt tw sp sr X hS h
  have h45' := q45_3 (d + 3) sl I A N V lt tw sp sr X hS g
  rw [e127, k127_0, h45]
  simp (disch := omega) only [rt_c, b_some, List.cons_append, List.nil_append, Bool.cond_not, cond_true, cond_false, Bool.cond_decide, nI_add, nI_clamp, xin_n, dle_e, dlt_e, deq_e, xb_0, xb_1, decide_true, decide_false, Bool.not_true, Bool.not_false, Bool.and_true, Bool.true_and, Bool.and_false, Bool.false_and, Bool.true_or, Bool.false_or, Bool.or_true, Bool.or_false, if_true, if_false, up1_s, n_31, Int32.lt_irrefl, k127_8]
  cases hi : isN H h with
  | false => simp (disch := omega) only [rt_c, b_some, List.cons_append, List.nil_append, Bool.cond_not, cond_true, cond_false, Bool.cond_decide, nI_add, nI_clamp, xin_n, dle_e, dlt_e, deq_e, xb_0, xb_1, decide_true, decide_false, Bool.not_true, Bool.not_false, Bool.and_true, Bool.true_and, Bool.and_false, Bool.false_and, Bool.true_or, Bool.false_or, Bool.or_true, Bool.or_false, if_true, if_false, up1_s, n_31, Int32.lt_irrefl, t127_40, t127_66]
  | true =>
    simp (disch := omega) only [rt_c, b_some, List.cons_append, List.nil_append, Bool.cond_not, cond_true, cond_false, Bool.cond_decide, nI_add, nI_clamp, xin_n, dle_e, dlt_e, deq_e, xb_0, xb_1, decide_true, decide_false, Bool.not_true, Bool.not_false, Bool.and_true, Bool.true_and, Bool.and_false, Bool.false_and, Bool.true_or, Bool.false_or, Bool.or_true, Bool.or_false, if_true, if_false, up1_s, n_31, Int32.lt_irrefl, h45', k127_19]
    cases hj : isN H g with
    | false => simp (disch := omega) only [rt_c, b_some, List.cons_append, List.nil_append, Bool.cond_not, cond_true, cond_false, Bool.cond_decide, nI_add, nI_clamp, xin_n, dle_e, dlt_e, deq_e, xb_0, xb_1, decide_true, decide_false, Bool.not_true, Bool.not_false, Bool.and_true, Bool.true_and, Bool.and_false, Bool.false_and, Bool.true_or, Bool.false_or, Bool.or_true, Bool.or_false, if_true, if_false, up1_s, n_31, Int32.lt_irrefl, t127_40, t127_66]
    | true =>
      rw [hi, hj] at hb
      by_cases h0 : h = g
      · simp (disch := omega) only [rt_c, b_some, List.cons_append, List.nil_append, Bool.cond_not, cond_true, cond_false, Bool.cond_decide, nI_add, nI_clamp, xin_n, dle_e, dlt_e, deq_e, xb_0, xb_1, decide_true, decide_false, Bool.not_true, Bool.not_false, Bool.and_true, Bool.true_and, Bool.and_false, Bool.false_and, Bool.true_or, Bool.false_or, Bool.or_true, Bool.or_false, if_true, if_false, up1_s, n_31, Int32.lt_irrefl, h0, t127_40, t127_66]
      · by_cases h1 : y < nI 1
        · simp (disch := omega) only [rt_c, b_some, List.cons_append, List.nil_append, Bool.cond_not, cond_true, cond_false, Bool.cond_decide, nI_add, nI_clamp, xin_n, dle_e, dlt_e, deq_e, xb_0, xb_1, decide_true, decide_false, Bool.not_true, Bool.not_false, Bool.and_true, Bool.true_and, Bool.and_false, Bool.false_and, Bool.true_or, Bool.false_or, Bool.or_true, Bool.or_false, if_true, if_false, up1_s, n_31, Int32.lt_irrefl, h0, h1, t127_40, t127_66]
        · have h1' : nI 1 ≤ y := Int32.not_lt.mp h1
          have h2 : ¬ y ≤ nI 200 := by
            intro h
            rw [decide_eq_true h1', decide_eq_true h, decide_eq_false h0] at hb
            cases hb
          simp (disch := omega) only [rt_c, b_some, List.cons_append, List.nil_append, Bool.cond_not, cond_true, cond_false, Bool.cond_decide, nI_add, nI_clamp, xin_n, dle_e, dlt_e, deq_e, xb_0, xb_1, decide_true, decide_false, Bool.not_true, Bool.not_false, Bool.and_true, Bool.true_and, Bool.and_false, Bool.false_and, Bool.true_or, Bool.false_or, Bool.or_true, Bool.or_false, if_true, if_false, up1_s, n_31, Int32.lt_irrefl, h0, h1, h2, t127_40, t127_66]
theorem q127_in {p z : Nat} (h22 : V22 V) (hp : p < 8) (hz : z ≤ 8) (hP : I 21 1 = nI p) (hZ : I 21 2 = nI z) (hS : Sh I A 3 n H m) {h g : Nat} (hh : h < H) (hg : g < H) (hne : h ≠ g) (y : Int32) (h1 : nI 1 ≤ y) (h2 : y ≤ nI 200) :
    ∃ I' A' N', C (d + 4) 127 [.ref 0, .int (nI h), .int (nI g), .int y] sl (CH I A N V lt tw sp sr X) = some ([.int (borW n m g y)], sl, CH I' A' N' V lt tw sp sr X) ∧ Sh I' A' 3 (if borW n m g y = nI 0 then borN n m h g y else n) H (if borW n m g y = nI 0 then m + 1 else m) ∧ (borW n m g y = nI 0 → Pu p z n m H I A N I' A' N') ∧ (¬ borW n m g y = nI 0 → Un I A N I' A' N') := by
  have hH6 := hS.1.2.2.1
  have h45 := q45_3 (d + 3) sl I A N V lt tw sp sr X hS (nI h)
  have h45' := q45_3 (d + 3) sl I A N V lt tw sp sr X hS (nI g)
  rw [isN_n hh (by omega)] at h45
  rw [isN_n hg (by omega)] at h45'
  have h1' : ¬ y < nI 1 := Int32.not_lt.mpr h1
  obtain ⟨I0, A0, N0, e0, hB⟩ := q44_12_3 (d + 3) sl I A N V lt tw sp sr X
  obtain ⟨I1, A1, e1, hS1, hF⟩ := q71_3 (d + 1) sl I0 A0 N0 V lt tw sp sr X (Bc_3 hS hB) hh hg y
  obtain ⟨I', A', N', e2, r1, r2, r3⟩ := q_fin (d + 1) sl I A N V lt tw sp sr X h22 hp hz hP hZ hS hB (borW n m g y) hS1 hF
  refine ⟨I', A', N', ?_, r1, r2, r3⟩
  rw [e127, k127_0, h45]
  simp (disch := omega) only [rt_c, b_some, List.cons_append, List.nil_append, Bool.cond_not, cond_true, cond_false, Bool.cond_decide, nI_add, nI_clamp, xin_n, dle_e, dlt_e, deq_e, xb_0, xb_1, decide_true, decide_false, Bool.not_true, Bool.not_false, Bool.and_true, Bool.true_and, Bool.and_false, Bool.false_and, Bool.true_or, Bool.false_or, Bool.or_true, Bool.or_false, if_true, if_false, up1_s, n_31, Int32.lt_irrefl, k127_8, h45', k127_19, hne, h1', h2, e0, k127_52, e1, k127_63, e2, k127_66, t127_40, t127_66]
theorem q128_out (hS : Sh I A 3 n H m) (k h : Int32) (hb : (isN m k && isN H h) = false) : C (d + 4) 128 [.ref 0, .int k, .int h] sl (CH I A N V lt tw sp sr X) = some ([.int (-1)], sl, CH I A N V lt tw sp sr X) := by
  have h46 := q46_3 (d + 3) sl I A N V lt tw sp sr X hS k
  have h45 := q45_3 (d + 3) sl I A N V lt tw sp sr X hS h
  rw [e128, k128_0, h46]
  simp (disch := omega) only [rt_c, b_some, List.cons_append, List.nil_append, Bool.cond_not, cond_true, cond_false, Bool.cond_decide, nI_add, nI_clamp, xin_n, dle_e, dlt_e, deq_e, xb_0, xb_1, decide_true, decide_false, Bool.not_true, Bool.not_false, Bool.and_true, Bool.true_and, Bool.and_false, Bool.false_and, Bool.true_or, Bool.false_or, Bool.or_true, Bool.or_false, if_true, if_false, up1_s, n_31, Int32.lt_irrefl, k128_8]
  cases hi : isN m k with
  | false => simp (disch := omega) only [rt_c, b_some, List.cons_append, List.nil_append, Bool.cond_not, cond_true, cond_false, Bool.cond_decide, nI_add, nI_clamp, xin_n, dle_e, dlt_e, deq_e, xb_0, xb_1, decide_true, decide_false, Bool.not_true, Bool.not_false, Bool.and_true, Bool.true_and, Bool.and_false, Bool.false_and, Bool.true_or, Bool.false_or, Bool.or_true, Bool.or_false, if_true, if_false, up1_s, n_31, Int32.lt_irrefl, t128_23, t128_48]
  | true =>
    rw [hi, Bool.true_and] at hb
    simp (disch := omega) only [rt_c, b_some, List.cons_append, List.nil_append, Bool.cond_not, cond_true, cond_false, Bool.cond_decide, nI_add, nI_clamp, xin_n, dle_e, dlt_e, deq_e, xb_0, xb_1, decide_true, decide_false, Bool.not_true, Bool.not_false, Bool.and_true, Bool.true_and, Bool.and_false, Bool.false_and, Bool.true_or, Bool.false_or, Bool.or_true, Bool.or_false, if_true, if_false, up1_s, n_31, Int32.lt_irrefl, h45, k128_19, hb, t128_23, t128_48]
theorem q128_in {p z : Nat} (h22 : V22 V) (hp : p < 8) (hz : z ≤ 8) (hP : I 21 1 = nI p) (hZ : I 21 2 = nI z) (hS : Sh I A 3 n H m) (hV : Vd n H m) {k h : Nat} (hk : k < m) (hh : h < H) :
    ∃ I' A' N', C (d + 4) 128 [.ref 0, .int (nI k), .int (nI h)] sl (CH I A N V lt tw sp sr X) = some ([.int (selW n k h)], sl, CH I' A' N' V lt tw sp sr X) ∧ Sh I' A' 3 (if selW n k h = nI 0 then selN n k h else n) H m ∧ (selW n k h = nI 0 → Pu p z n m H I A N I' A' N') ∧ (¬ selW n k h = nI 0 → Un I A N I' A' N') := by
  have hH6 := hS.1.2.2.1
  have hm := hS.1.2.2.2
  have h46 := q46_3 (d + 3) sl I A N V lt tw sp sr X hS (nI k)
  have h45 := q45_3 (d + 3) sl I A N V lt tw sp sr X hS (nI h)
  rw [isN_n hh (by omega)] at h45
  rw [isN_n hk (by omega)] at h46
  obtain ⟨I0, A0, N0, e0, hB⟩ := q44_12_3 (d + 3) sl I A N V lt tw sp sr X
  obtain ⟨I1, A1, e1, hS1, hF⟩ := q72_3 (d + 1) sl I0 A0 N0 V lt tw sp sr X (Bc_3 hS hB) hV hk hh
  obtain ⟨I', A', N', e2, r1, r2, r3⟩ := q_fin (d + 1) sl I A N V lt tw sp sr X h22 hp hz hP hZ hS hB (selW n k h) hS1 hF
  refine ⟨I', A', N', ?_, r1, r2, r3⟩
  rw [e128, k128_0, h46]
  simp (disch := omega) only [rt_c, b_some, List.cons_append, List.nil_append, Bool.cond_not, cond_true, cond_false, Bool.cond_decide, nI_add, nI_clamp, xin_n, dle_e, dlt_e, deq_e, xb_0, xb_1, decide_true, decide_false, Bool.not_true, Bool.not_false, Bool.and_true, Bool.true_and, Bool.and_false, Bool.false_and, Bool.true_or, Bool.false_or, Bool.or_true, Bool.or_false, if_true, if_false, up1_s, n_31, Int32.lt_irrefl, k128_8, h45, k128_19, e0, k128_35, e1, k128_45, e2, k128_48, t128_23, t128_48]
theorem q129_out (hS : Sh I A 3 n H m) (k : Int32) (hb : isN m k = false) : C (d + 4) 129 [.ref 0, .int k] sl (CH I A N V lt tw sp sr X) = some ([.int (-1)], sl, CH I A N V lt tw sp sr X) := by
  have h46 := q46_3 (d + 3) sl I A N V lt tw sp sr X hS k
  rw [e129, k129_0, h46, hb]
  simp (disch := omega) only [rt_c, b_some, List.cons_append, List.nil_append, Bool.cond_not, cond_true, cond_false, Bool.cond_decide, nI_add, nI_clamp, xin_n, dle_e, dlt_e, deq_e, xb_0, xb_1, decide_true, decide_false, Bool.not_true, Bool.not_false, Bool.and_true, Bool.true_and, Bool.and_false, Bool.false_and, Bool.true_or, Bool.false_or, Bool.or_true, Bool.or_false, if_true, if_false, up1_s, n_31, Int32.lt_irrefl, k129_8, t129_12, t129_36]
theorem q129_in {p z : Nat} (h22 : V22 V) (hp : p < 8) (hz : z ≤ 8) (hP : I 21 1 = nI p) (hZ : I 21 2 = nI z) (hS : Sh I A 3 n H m) {k : Nat} (hk : k < m) :
    ∃ I' A' N', C (d + 4) 129 [.ref 0, .int (nI k)] sl (CH I A N V lt tw sp sr X) = some ([.int (forW n k)], sl, CH I' A' N' V lt tw sp sr X) ∧ Sh I' A' 3 (if forW n k = nI 0 then forN n k else n) H m ∧ (forW n k = nI 0 → Pu p z n m H I A N I' A' N') ∧ (¬ forW n k = nI 0 → Un I A N I' A' N') := by
  have hm := hS.1.2.2.2
  have h46 := q46_3 (d + 3) sl I A N V lt tw sp sr X hS (nI k)
  rw [isN_n hk (by omega)] at h46
  obtain ⟨I0, A0, N0, e0, hB⟩ := q44_12_3 (d + 3) sl I A N V lt tw sp sr X
  obtain ⟨I1, A1, e1, hS1, hF⟩ := q73_3 (d + 1) sl I0 A0 N0 V lt tw sp sr X (Bc_3 hS hB) hk
  obtain ⟨I', A', N', e2, r1, r2, r3⟩ := q_fin (d + 1) sl I A N V lt tw sp sr X h22 hp hz hP hZ hS hB (forW n k) hS1 hF
  refine ⟨I', A', N', ?_, r1, r2, r3⟩
  rw [e129, k129_0, h46]
  simp (disch := omega) only [rt_c, b_some, List.cons_append, List.nil_append, Bool.cond_not, cond_true, cond_false, Bool.cond_decide, nI_add, nI_clamp, xin_n, dle_e, dlt_e, deq_e, xb_0, xb_1, decide_true, decide_false, Bool.not_true, Bool.not_false, Bool.and_true, Bool.true_and, Bool.and_false, Bool.false_and, Bool.true_or, Bool.false_or, Bool.or_true, Bool.or_false, if_true, if_false, up1_s, n_31, Int32.lt_irrefl, k129_8, e0, k129_24, e1, k129_33, e2, k129_36, t129_12, t129_36]
theorem q130_out (hS : Sh I A 3 n H m) (j k : Int32) (hb : (isN m j && isN m k) = false) : C (d + 4) 130 [.ref 0, .int j, .int k] sl (CH I A N V lt tw sp sr X) = some ([.int (-1)], sl, CH I A N V lt tw sp sr X) := by
  have h46 := q46_3 (d + 3) sl I A N V lt tw sp sr X hS j
  have h46' := q46_3 (d + 3) sl I A N V lt tw sp sr X hS k
  rw [e130, k130_0, h46]
  simp (disch := omega) only [rt_c, b_some, List.cons_append, List.nil_append, Bool.cond_not, cond_true, cond_false, Bool.cond_decide, nI_add, nI_clamp, xin_n, dle_e, dlt_e, deq_e, xb_0, xb_1, decide_true, decide_false, Bool.not_true, Bool.not_false, Bool.and_true, Bool.true_and, Bool.and_false, Bool.false_and, Bool.true_or, Bool.false_or, Bool.or_true, Bool.or_false, if_true, if_false, up1_s, n_31, Int32.lt_irrefl, k130_8]
  cases hi : isN m j with
  | false => simp (disch := omega) only [rt_c, b_some, List.cons_append, List.nil_append, Bool.cond_not, cond_true, cond_false, Bool.cond_decide, nI_add, nI_clamp, xin_n, dle_e, dlt_e, deq_e, xb_0, xb_1, decide_true, decide_false, Bool.not_true, Bool.not_false, Bool.and_true, Bool.true_and, Bool.and_false, Bool.false_and, Bool.true_or, Bool.false_or, Bool.or_true, Bool.or_false, if_true, if_false, up1_s, n_31, Int32.lt_irrefl, t130_23, t130_48]
  | true =>
    rw [hi, Bool.true_and] at hb
    simp (disch := omega) only [rt_c, b_some, List.cons_append, List.nil_append, Bool.cond_not, cond_true, cond_false, Bool.cond_decide, nI_add, nI_clamp, xin_n, dle_e, dlt_e, deq_e, xb_0, xb_1, decide_true, decide_false, Bool.not_true, Bool.not_false, Bool.and_true, Bool.true_and, Bool.and_false, Bool.false_and, Bool.true_or, Bool.false_or, Bool.or_true, Bool.or_false, if_true, if_false, up1_s, n_31, Int32.lt_irrefl, h46', k130_19, hb, t130_23, t130_48]
theorem q130_in {p z : Nat} (h22 : V22 V) (hp : p < 8) (hz : z ≤ 8) (hP : I 21 1 = nI p) (hZ : I 21 2 = nI z) (hS : Sh I A 3 n H m) {j k : Nat} (hj : j < m) (hk : k < m) :
    ∃ I' A' N', C (d + 4) 130 [.ref 0, .int (nI j), .int (nI k)] sl (CH I A N V lt tw sp sr X) = some ([.int (clrW n j k)], sl, CH I' A' N' V lt tw sp sr X) ∧ Sh I' A' 3 (if clrW n j k = nI 0 then clrN n j k else n) H m ∧ (clrW n j k = nI 0 → Pu p z n m H I A N I' A' N') ∧ (¬ clrW n j k = nI 0 → Un I A N I' A' N') := by
  have hm := hS.1.2.2.2
  have h46 := q46_3 (d + 3) sl I A N V lt tw sp sr X hS (nI j)
  have h46' := q46_3 (d + 3) sl I A N V lt tw sp sr X hS (nI k)
  rw [isN_n hj (by omega)] at h46
  rw [isN_n hk (by omega)] at h46'
  obtain ⟨I0, A0, N0, e0, hB⟩ := q44_12_3 (d + 3) sl I A N V lt tw sp sr X
  obtain ⟨I1, A1, e1, hS1, hF⟩ := q74_3 (d + 1) sl I0 A0 N0 V lt tw sp sr X (Bc_3 hS hB) hj hk
  obtain ⟨I', A', N', e2, r1, r2, r3⟩ := q_fin (d + 1) sl I A N V lt tw sp sr X h22 hp hz hP hZ hS hB (clrW n j k) hS1 hF
  refine ⟨I', A', N', ?_, r1, r2, r3⟩
  rw [e130, k130_0, h46]
  simp (disch := omega) only [rt_c, b_some, List.cons_append, List.nil_append, Bool.cond_not, cond_true, cond_false, Bool.cond_decide, nI_add, nI_clamp, xin_n, dle_e, dlt_e, deq_e, xb_0, xb_1, decide_true, decide_false, Bool.not_true, Bool.not_false, Bool.and_true, Bool.true_and, Bool.and_false, Bool.false_and, Bool.true_or, Bool.false_or, Bool.or_true, Bool.or_false, if_true, if_false, up1_s, n_31, Int32.lt_irrefl, k130_8, h46', k130_19, e0, k130_35, e1, k130_45, e2, k130_48, t130_23, t130_48]
theorem q133_0 (hZ : I 21 2 = nI 0) : C (d + 2) 133 [.ref 0] sl (CH I A N V lt tw sp sr X) = some ([.int (-1)], sl, CH I A N V lt tw sp sr X) := by
  have h28 := q28_0 d sl I A N V lt tw sp sr X hZ
  rw [e133, k133_0, h28]
  simp (disch := omega) only [rt_c, b_some, List.cons_append, List.nil_append, Bool.cond_not, cond_true, cond_false, Bool.cond_decide, nI_add, nI_clamp, xin_n, dle_e, dlt_e, deq_e, xb_0, xb_1, decide_true, decide_false, Bool.not_true, Bool.not_false, Bool.and_true, Bool.true_and, Bool.and_false, Bool.false_and, Bool.true_or, Bool.false_or, Bool.or_true, Bool.or_false, if_true, if_false, up1_s, n_31, Int32.lt_irrefl, k133_11, t133_25]
theorem q133 {p z : Nat} (hV : V22 V) (hp : p < 8) (hz : z < 8) (hP : I 21 1 = nI p) (hZ : I 21 2 = nI (z + 1)) : ∃ I' A' N', C (d + 2) 133 [.ref 0] sl (CH I A N V lt tw sp sr X) = some ([.int (nI z)], sl, CH I' A' N' V lt tw sp sr X) ∧ I' 21 1 = nI ((p + 7) % 8) ∧ I' 21 2 = nI z ∧ (∀ n H m, Sh I A (23 + 9 * ((p + 7) % 8)) n H m → Sh I' A' 3 n H m) ∧ (∀ h, h < 6 → N' 4 h = N (23 + 9 * ((p + 7) % 8) + 1) h) ∧ (∀ q, q ≠ 21 → q ≠ 3 → I' q = I q) ∧ (∀ q, (q < 5 ∨ 11 < q) → A' q = A q) ∧ (∀ q, q ≠ 4 → N' q = N q) := by
  obtain ⟨I', A', N', e, f1, f2, f3⟩ := q28 d sl I A N V lt tw sp sr X hV hp hz hP hZ
  refine ⟨I', A', N', ?_, f1, f2, f3⟩
  rw [e133, k133_0, e]
  simp (disch := omega) only [rt_c, b_some, List.cons_append, List.nil_append, Bool.cond_not, cond_true, cond_false, Bool.cond_decide, nI_add, nI_clamp, xin_n, dle_e, dlt_e, deq_e, xb_0, xb_1, decide_true, decide_false, Bool.not_true, Bool.not_false, Bool.and_true, Bool.true_and, Bool.and_false, Bool.false_and, Bool.true_or, Bool.false_or, Bool.or_true, Bool.or_false, if_true, if_false, up1_s, n_31, Int32.lt_irrefl, k133_11, f2, t133_25]
theorem q132_out (y : Int32) (hb : (decide (nI 1 ≤ y) && decide (y ≤ nI 60)) = false) : C (d + 3) 132 [.ref 0, .int y] sl (CH I A N V lt tw sp sr X) = some ([.int (-1)], sl, CH I A N V lt tw sp sr X) := by
  rw [e132, k132_0]
  by_cases h1 : y < nI 1
  · simp (disch := omega) only [rt_c, b_some, List.cons_append, List.nil_append, Bool.cond_not, cond_true, cond_false, Bool.cond_decide, nI_add, nI_clamp, xin_n, dle_e, dlt_e, deq_e, xb_0, xb_1, decide_true, decide_false, Bool.not_true, Bool.not_false, Bool.and_true, Bool.true_and, Bool.and_false, Bool.false_and, Bool.true_or, Bool.false_or, Bool.or_true, Bool.or_false, if_true, if_false, up1_s, n_31, Int32.lt_irrefl, h1, t132_12, t132_61]
  · have h1' : nI 1 ≤ y := Int32.not_lt.mp h1
    have h2 : ¬ y ≤ nI 60 := by
      intro h
      rw [decide_eq_true h1', decide_eq_true h] at hb
      cases hb
    simp (disch := omega) only [rt_c, b_some, List.cons_append, List.nil_append, Bool.cond_not, cond_true, cond_false, Bool.cond_decide, nI_add, nI_clamp, xin_n, dle_e, dlt_e, deq_e, xb_0, xb_1, decide_true, decide_false, Bool.not_true, Bool.not_false, Bool.and_true, Bool.true_and, Bool.and_false, Bool.false_and, Bool.true_or, Bool.false_or, Bool.or_true, Bool.or_false, if_true, if_false, up1_s, n_31, Int32.lt_irrefl, h1, h2, t132_12, t132_61]
/-- years, one by one -/
def yrs (H m : Nat) : Nat → (Nat → Int32) → Nat → Int32
  | 0, n => n
  | k + 1, n => yrs H m k (year_ n H m)
theorem q132_42 (a y : Int32) : ∀ (q i : Nat) (I A : Nat → Nat → Int32) (n : Nat → Int32), i + q < 2 ^ 31 → y = nI (i + q) → Sh I A 3 n H m → Vd n H m → ∃ I' A', rt 132 (R (d + 3) 132 (42, [some (.ref 0), some (.int a), some (.int y), some (.int (nI i))], [], sl, CH I A N V lt tw sp sr X)) = some ([.int y], sl, CH I' A' N V lt tw sp sr X) ∧ Sh I' A' 3 (yrs H m q n) H m ∧ Fr 3 I A I' A' := by
  intro q
  induction q with
  | zero =>
    intro i I A n hi hy hS hV
    have h1 : i + 0 ≤ i := by omega
    refine ⟨I, A, ?_, hS, Fr_rf⟩
    rw [k132_42, hy]
    simp (disch := omega) only [rt_c, b_some, List.cons_append, List.nil_append, Bool.cond_not, cond_true, cond_false, Bool.cond_decide, nI_add, nI_clamp, xin_n, dle_e, dlt_e, deq_e, xb_0, xb_1, decide_true, decide_false, Bool.not_true, Bool.not_false, Bool.and_true, Bool.true_and, Bool.and_false, Bool.false_and, Bool.true_or, Bool.false_or, Bool.or_true, Bool.or_false, if_true, if_false, up1_s, n_31, Int32.lt_irrefl, h1, t132_12, t132_61]
  | succ q ih =>
    intro i I A n hi hy hS hV
    have h1 : ¬ i + (q + 1) ≤ i := by omega
    obtain ⟨I1, A1, e1, hS1, hF1⟩ := q77_3 (d + 2) sl I A N V lt tw sp sr X hS hV
    obtain ⟨I', A', e2, hS2, hF2⟩ := ih (i + 1) I1 A1 (year_ n H m) (by omega) (by rw [hy]; congr 1; omega) hS1 (Vd_year hV)
    refine ⟨I', A', ?_, hS2, Fr_tr hF1 hF2⟩
    rw [k132_42, hy]
    simp (disch := omega) only [rt_c, b_some, List.cons_append, List.nil_append, Bool.cond_not, cond_true, cond_false, Bool.cond_decide, nI_add, nI_clamp, xin_n, dle_e, dlt_e, deq_e, xb_0, xb_1, decide_true, decide_false, Bool.not_true, Bool.not_false, Bool.and_true, Bool.true_and, Bool.and_false, Bool.false_and, Bool.true_or, Bool.false_or, Bool.or_true, Bool.or_false, if_true, if_false, up1_s, n_31, Int32.lt_irrefl, h1, e1, k132_54]
    rw [hy] at e2
    exact e2
end CL9
section RF9
variable (d sl : Nat) (I : Nat → Int32) (w : Int64) (A : Nat → Nat → Int32) (N : Nat → Nat → Int64)
theorem c222_n (a x y z : Int32) : C (d + 1) 222 [.ref 0, .int a, .int x, .int y, .int z, .int (nI 0)] sl (RH I w A N) = some ([.int (-1)], sl, RH I w A N) := by
  rw [e222, m222_0]
  simp (disch := omega) only [rt_c, b_some, List.cons_append, List.nil_append, Bool.cond_not, cond_true, cond_false, Bool.cond_decide, nI_add, nI_clamp, xin_n, dle_e, dlt_e, deq_e, xb_0, xb_1, decide_true, decide_false, Bool.not_true, Bool.not_false, Bool.and_true, Bool.true_and, Bool.and_false, Bool.false_and, Bool.true_or, Bool.false_or, Bool.or_true, Bool.or_false, if_true, if_false, up1_s, n_31, Int32.lt_irrefl, t222_6, t222_25, t222_40]
theorem c222_w (a x y z v : Int32) (hw : C d 219 [.ref 0, .int a, .int x, .int y, .int z] sl (RH I w A N) = some ([.int v], sl, RH I w A N)) (hv : ¬ v = nI 0) : C (d + 1) 222 [.ref 0, .int a, .int x, .int y, .int z, .int (nI 1)] sl (RH I w A N) = some ([.int v], sl, RH I w A N) := by
  rw [e222, m222_0]
  simp (disch := omega) only [rt_c, b_some, List.cons_append, List.nil_append, Bool.cond_not, cond_true, cond_false, Bool.cond_decide, nI_add, nI_clamp, xin_n, dle_e, dlt_e, deq_e, xb_0, xb_1, decide_true, decide_false, Bool.not_true, Bool.not_false, Bool.and_true, Bool.true_and, Bool.and_false, Bool.false_and, Bool.true_or, Bool.false_or, Bool.or_true, Bool.or_false, if_true, if_false, up1_s, n_31, Int32.lt_irrefl, hw, m222_16, hv, t222_6, t222_25, t222_40, Nat.one_ne_zero]
theorem c222_0 (a x y z : Int32) {s : Nat} (hs : s ≤ 8) (hI : I 24 = nI s) {n' : Nat → Int32} (hw : C d 219 [.ref 0, .int a, .int x, .int y, .int z] sl (RH I w A N) = some ([.int (nI 0)], sl, RH I w A N)) (hl : ∀ J A', A' 2 = A 2 → C d 221 [.ref 0, .int a, .int x, .int y, .int z] sl (RH J w A' N) = some ([], sl, RH J w (up1 A' 2 n') N)) :
    ∃ B5, C (d + 1) 222 [.ref 0, .int a, .int x, .int y, .int z, .int (nI 1)] sl (RH I w A N) = some ([.int (nI 0)], sl, RH (up1 I 24 (nI (min 8 (s + 1)))) w (up1 (up1 A 5 B5) 2 n') N) ∧ (∀ j k, j < min 8 (s + 1) - 1 → k < 57 → B5 (57 * j + k) = A 5 (57 * (j + (s + 1 - min 8 (s + 1))) + k)) ∧ (∀ k, k < 57 → B5 (57 * (min 8 (s + 1) - 1) + k) = A 2 (70 + k)) := by
  obtain ⟨B5, e1, e2, e3⟩ := c217 d sl I w A N hs hI
  have h2 := hl (up1 I 24 (nI (min 8 (s + 1)))) (up1 A 5 B5) (up1_n (by decide))
  refine ⟨B5, ?_, e2, e3⟩
  rw [e222, m222_0]
  simp (disch := omega) only [rt_c, b_some, List.cons_append, List.nil_append, Bool.cond_not, cond_true, cond_false, Bool.cond_decide, nI_add, nI_clamp, xin_n, dle_e, dlt_e, deq_e, xb_0, xb_1, decide_true, decide_false, Bool.not_true, Bool.not_false, Bool.and_true, Bool.true_and, Bool.and_false, Bool.false_and, Bool.true_or, Bool.false_or, Bool.or_true, Bool.or_false, if_true, if_false, up1_s, n_31, Int32.lt_irrefl, hw, m222_16, e1, m222_30, h2, m222_39, t222_6, t222_25, t222_40, Nat.one_ne_zero]
theorem c230_18 {H m : Nat} (a y : Int32) : ∀ (q i : Nat) (A : Nat → Nat → Int32), i + q < 2 ^ 31 → y = nI (i + q) → Vd (A 2) H m → rt 230 (R (d + 2) 230 (18, [some (.ref 0), some (.int a), some (.int y), some (.int (nI i))], [], sl, RH I w A N)) = some ([.int y], sl, RH I w (up1 A 2 (yrs H m q (A 2))) N) := by
  intro q
  induction q with
  | zero =>
    intro i A hi hy hV
    have h1 : i + 0 ≤ i := by omega
    rw [m230_18, hy]
    simp (disch := omega) only [rt_c, b_some, List.cons_append, List.nil_append, Bool.cond_not, cond_true, cond_false, Bool.cond_decide, nI_add, nI_clamp, xin_n, dle_e, dlt_e, deq_e, xb_0, xb_1, decide_true, decide_false, Bool.not_true, Bool.not_false, Bool.and_true, Bool.true_and, Bool.and_false, Bool.false_and, Bool.true_or, Bool.false_or, Bool.or_true, Bool.or_false, if_true, if_false, up1_s, n_31, Int32.lt_irrefl, h1, t230_34, yrs, up1_id]
  | succ q ih =>
    intro i A hi hy hV
    have h1 : ¬ i + (q + 1) ≤ i := by omega
    have e1 := c229 d sl I w A N hV
    have e2 := ih (i + 1) (up1 A 2 (year_ (A 2) H m)) (by omega) (by rw [hy]; congr 1; omega) (by rw [up1_s]; exact Vd_year hV)
    rw [m230_18, hy]
    simp (disch := omega) only [rt_c, b_some, List.cons_append, List.nil_append, Bool.cond_not, cond_true, cond_false, Bool.cond_decide, nI_add, nI_clamp, xin_n, dle_e, dlt_e, deq_e, xb_0, xb_1, decide_true, decide_false, Bool.not_true, Bool.not_false, Bool.and_true, Bool.true_and, Bool.and_false, Bool.false_and, Bool.true_or, Bool.false_or, Bool.or_true, Bool.or_false, if_true, if_false, up1_s, n_31, Int32.lt_irrefl, h1, e1, m230_27]
    rw [hy, up1_s, up1_up] at e2
    exact e2
end RF9
