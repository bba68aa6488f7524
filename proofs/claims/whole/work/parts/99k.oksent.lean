/-! SENTENCES: both sides -/
set_option maxRecDepth 100000 in
theorem n156_37 (d sl : Nat) (I : Nat → Nat → Int32) (A : Nat → Nat → Int32) (N : Nat → Nat → Int64) (V : Nat → Nat → Option Nat) (lt : Int64) (tw : Option Nat) (x0_3 : Int32) :
  R (d + 1) 156 (37, [some (.ref 0), none, none, none], [.ref 146], sl, (CH I A N V lt tw 108 112 [.inr (5, [.ref 1, .ref 3, .ref 112, .int x0_3])])) =
    bC (C d 37 [.ref 146, .int (nI 1)] sl (CH I A N V lt tw 108 112 [.inr (5, [.ref 1, .ref 3, .ref 112, .int x0_3])])) (fun vs sl h => R (d + 1) 156 (43, [some (.ref 0), some (.ref 146), none, none], vs ++ [], sl, h)) :=
  (R_gob [10, 37, 43, 53, 66] 400 _ _ _).trans rfl
set_option maxRecDepth 100000 in
theorem n156_37_1 (d sl : Nat) (I : Nat → Nat → Int32) (A : Nat → Nat → Int32) (N : Nat → Nat → Int64) (V : Nat → Nat → Option Nat) (lt : Int64) (tw : Option Nat) (x0_3 : Int32) :
  R (d + 1) 156 (37, [some (.ref 0), none, none, none], [.ref 146], sl, (CH I A N V lt tw 112 108 [.inr (5, [.ref 1, .ref 3, .ref 108, .int x0_3])])) =
    bC (C d 37 [.ref 146, .int (nI 1)] sl (CH I A N V lt tw 112 108 [.inr (5, [.ref 1, .ref 3, .ref 108, .int x0_3])])) (fun vs sl h => R (d + 1) 156 (43, [some (.ref 0), some (.ref 146), none, none], vs ++ [], sl, h)) :=
  (R_gob [10, 37, 43, 53, 66] 400 _ _ _).trans rfl
set_option maxRecDepth 100000 in
theorem n156_43 (d sl : Nat) (I : Nat → Nat → Int32) (A : Nat → Nat → Int32) (N : Nat → Nat → Int64) (V : Nat → Nat → Option Nat) (lt : Int64) (tw : Option Nat) (b0 : Int32) (x0_3 : Int32) :
  R (d + 1) 156 (43, [some (.ref 0), some (.ref 146), none, none], [.int b0], sl, (CH I A N V lt tw 108 112 [.inr (5, [.ref 1, .ref 3, .ref 112, .int x0_3])])) =
    cond (decide (b0 = (nI 0))) (bC (C d 119 [.ref 0] sl (CH I A N V lt tw 108 112 [.inr (5, [.ref 1, .ref 3, .ref 112, .int x0_3])])) (fun vs sl h => R (d + 1) 156 (66, [some (.ref 0), some (.ref 146), some (.int (nI 0)), none], vs ++ [], sl, h))) (bC (C d 99 [.ref 1] sl (CH I A N V lt tw 108 112 [.inr (5, [.ref 1, .ref 3, .ref 112, .int x0_3])])) (fun vs sl h => R (d + 1) 156 (53, [some (.ref 0), some (.ref 146), none, none], vs ++ [], sl, h))) :=
  (R_gob [10, 37, 43, 53, 66] 400 _ _ _).trans rfl
set_option maxRecDepth 100000 in
theorem n156_43_1 (d sl : Nat) (I : Nat → Nat → Int32) (A : Nat → Nat → Int32) (N : Nat → Nat → Int64) (V : Nat → Nat → Option Nat) (lt : Int64) (tw : Option Nat) (b0 : Int32) (x0_3 : Int32) :
  R (d + 1) 156 (43, [some (.ref 0), some (.ref 146), none, none], [.int b0], sl, (CH I A N V lt tw 112 108 [.inr (5, [.ref 1, .ref 3, .ref 108, .int x0_3])])) =
    cond (decide (b0 = (nI 0))) (bC (C d 119 [.ref 0] sl (CH I A N V lt tw 112 108 [.inr (5, [.ref 1, .ref 3, .ref 108, .int x0_3])])) (fun vs sl h => R (d + 1) 156 (66, [some (.ref 0), some (.ref 146), some (.int (nI 0)), none], vs ++ [], sl, h))) (bC (C d 99 [.ref 1] sl (CH I A N V lt tw 112 108 [.inr (5, [.ref 1, .ref 3, .ref 108, .int x0_3])])) (fun vs sl h => R (d + 1) 156 (53, [some (.ref 0), some (.ref 146), none, none], vs ++ [], sl, h))) :=
  (R_gob [10, 37, 43, 53, 66] 400 _ _ _).trans rfl
set_option maxRecDepth 100000 in
theorem n156_66 (d sl : Nat) (I : Nat → Nat → Int32) (A : Nat → Nat → Int32) (N : Nat → Nat → Int64) (V : Nat → Nat → Option Nat) (lt : Int64) (tw : Option Nat) (a2 : Int32) (x0_3 : Int32) :
  R (d + 1) 156 (66, [some (.ref 0), some (.ref 146), some (.int a2), none], [], sl, (CH I A N V lt tw 108 112 [.inr (5, [.ref 1, .ref 3, .ref 112, .int x0_3])])) =
    cond (!decide (a2 = (nI 0))) (some (102, [some (.ref 0), some (.ref 146), some (.int a2), some (.ref 108)], [.int x0_3], sl, (CH I A N V lt tw 112 108 [.inr (5, [.ref 1, .ref 3, .ref 112, .int x0_3])]))) (some (79, [some (.ref 0), some (.ref 146), some (.int a2), none], [.int ((-1 : Int32) - (I 1 11))], sl, (CH I A N V lt tw 108 112 [.inr (5, [.ref 1, .ref 3, .ref 112, .int x0_3])]))) :=
  (R_gob [10, 37, 43, 53, 66] 400 _ _ _).trans rfl
set_option maxRecDepth 100000 in
theorem n156_53 (d sl : Nat) (I : Nat → Nat → Int32) (A : Nat → Nat → Int32) (N : Nat → Nat → Int64) (V : Nat → Nat → Option Nat) (lt : Int64) (tw : Option Nat) (b0 : Int32) (x0_3 : Int32) :
  R (d + 1) 156 (53, [some (.ref 0), some (.ref 146), none, none], [.int b0], sl, (CH I A N V lt tw 108 112 [.inr (5, [.ref 1, .ref 3, .ref 112, .int x0_3])])) =
    cond (decide (b0 = (nI 0))) (bC (C d 119 [.ref 0] sl (CH I A N V lt tw 108 112 [.inr (5, [.ref 1, .ref 3, .ref 112, .int x0_3])])) (fun vs sl h => R (d + 1) 156 (66, [some (.ref 0), some (.ref 146), some (.int (nI 0)), none], vs ++ [], sl, h))) (bC (C d 119 [.ref 0] sl (CH I A N V lt tw 108 112 [.inr (5, [.ref 1, .ref 3, .ref 112, .int x0_3])])) (fun vs sl h => R (d + 1) 156 (66, [some (.ref 0), some (.ref 146), some (.int (nI 1)), none], vs ++ [], sl, h))) :=
  (R_gob [10, 37, 43, 53, 66] 400 _ _ _).trans rfl
set_option maxRecDepth 100000 in
theorem n156_66_1 (d sl : Nat) (I : Nat → Nat → Int32) (A : Nat → Nat → Int32) (N : Nat → Nat → Int64) (V : Nat → Nat → Option Nat) (lt : Int64) (tw : Option Nat) (a2 : Int32) (x0_3 : Int32) :
  R (d + 1) 156 (66, [some (.ref 0), some (.ref 146), some (.int a2), none], [], sl, (CH I A N V lt tw 112 108 [.inr (5, [.ref 1, .ref 3, .ref 108, .int x0_3])])) =
    cond (!decide (a2 = (nI 0))) (some (102, [some (.ref 0), some (.ref 146), some (.int a2), some (.ref 112)], [.int x0_3], sl, (CH I A N V lt tw 108 112 [.inr (5, [.ref 1, .ref 3, .ref 108, .int x0_3])]))) (some (79, [some (.ref 0), some (.ref 146), some (.int a2), none], [.int ((-1 : Int32) - (I 1 11))], sl, (CH I A N V lt tw 112 108 [.inr (5, [.ref 1, .ref 3, .ref 108, .int x0_3])]))) :=
  (R_gob [10, 37, 43, 53, 66] 400 _ _ _).trans rfl
set_option maxRecDepth 100000 in
theorem n156_53_1 (d sl : Nat) (I : Nat → Nat → Int32) (A : Nat → Nat → Int32) (N : Nat → Nat → Int64) (V : Nat → Nat → Option Nat) (lt : Int64) (tw : Option Nat) (b0 : Int32) (x0_3 : Int32) :
  R (d + 1) 156 (53, [some (.ref 0), some (.ref 146), none, none], [.int b0], sl, (CH I A N V lt tw 112 108 [.inr (5, [.ref 1, .ref 3, .ref 108, .int x0_3])])) =
    cond (decide (b0 = (nI 0))) (bC (C d 119 [.ref 0] sl (CH I A N V lt tw 112 108 [.inr (5, [.ref 1, .ref 3, .ref 108, .int x0_3])])) (fun vs sl h => R (d + 1) 156 (66, [some (.ref 0), some (.ref 146), some (.int (nI 0)), none], vs ++ [], sl, h))) (bC (C d 119 [.ref 0] sl (CH I A N V lt tw 112 108 [.inr (5, [.ref 1, .ref 3, .ref 108, .int x0_3])])) (fun vs sl h => R (d + 1) 156 (66, [some (.ref 0), some (.ref 146), some (.int (nI 1)), none], vs ++ [], sl, h))) :=
  (R_gob [10, 37, 43, 53, 66] 400 _ _ _).trans rfl
section SNF
variable (d sl : Nat) (I : Nat → Nat → Int32) (A : Nat → Nat → Int32) (N : Nat → Nat → Int64) (V : Nat → Nat → Option Nat) (lt : Int64) (tw : Option Nat) (sp sr : Nat) (X : List AC)
theorem q99_t {t L n v : Nat} {s : List Nat} {J : Nat → Int32} {w : Int64} (h : Tk t L n 0 v s (I 1) lt tw J w) : C (d + 1) 99 [.ref 1] sl (CH I A N V lt tw sp sr X) = some ([.int (x_b true)], sl, CH I A N V lt tw sp sr X) := by
  have h94 := q94 d sl I A N V lt tw sp sr X h
  rw [decide_eq_true (p := 0 = 0) rfl, xb_t] at h94
  rw [e99, k99_r1_0]
  simp (disch := omega) only [rt_c, b_some, List.cons_append, List.nil_append, Bool.cond_not, cond_true, cond_false, Bool.cond_decide, nI_add, nI_clamp, xin_n, dle_e, dlt_e, deq_e, xb_0, xb_1, decide_true, decide_false, Bool.not_true, Bool.not_false, Bool.and_true, Bool.true_and, Bool.and_false, Bool.false_and, Bool.true_or, Bool.false_or, Bool.or_true, Bool.or_false, if_true, if_false, up1_s, n_31, Int32.lt_irrefl, h94, k99_r1_4, Nat.one_ne_zero, t99_20, t99_20_0, t99_20_1]
theorem q99_f {t L n κ v : Nat} {s : List Nat} {J : Nat → Int32} {w : Int64} (h : Tk t L n κ v s (I 1) lt tw J w) (hk : κ ≠ 0) : C (d + 1) 99 [.ref 1] sl (CH I A N V lt tw sp sr X) = some ([.int (x_b false)], sl, CH (up1 I 1 (up1 (up1 (I 1) 10 (nI 1)) 11 (I 1 5))) A N V lt tw sp sr X) := by
  have h94 := q94 d sl I A N V lt tw sp sr X h
  rw [decide_eq_false hk, xb_f] at h94
  rw [e99, k99_r1_0]
  simp (disch := omega) only [rt_c, b_some, List.cons_append, List.nil_append, Bool.cond_not, cond_true, cond_false, Bool.cond_decide, nI_add, nI_clamp, xin_n, dle_e, dlt_e, deq_e, xb_0, xb_1, decide_true, decide_false, Bool.not_true, Bool.not_false, Bool.and_true, Bool.true_and, Bool.and_false, Bool.false_and, Bool.true_or, Bool.false_or, Bool.or_true, Bool.or_false, if_true, if_false, up1_s, n_31, Int32.lt_irrefl, h94, k99_r1_4, q97, k99_r1_12, xb_f, t99_20, t99_20_0, t99_20_1]
theorem q119 : C d 119 [.ref 0] sl (CH I A N V lt tw sp sr X) = some ([], sl, CH (up1 (up1 I 0 (up1 (I 0) 13 (I 1 10))) 1 (up1 (I 1) 1 (nI 0))) A N V lt tw sp sr X) := by
  rw [e119, k119_0]
  simp (disch := omega) only [rt_c, b_some, List.cons_append, List.nil_append, Bool.cond_not, cond_true, cond_false, Bool.cond_decide, nI_add, nI_clamp, xin_n, dle_e, dlt_e, deq_e, xb_0, xb_1, decide_true, decide_false, Bool.not_true, Bool.not_false, Bool.and_true, Bool.true_and, Bool.and_false, Bool.false_and, Bool.true_or, Bool.false_or, Bool.or_true, Bool.or_false, if_true, if_false, up1_s, n_31, Int32.lt_irrefl, t119_19]
end SNF
theorem c276_cp (d sl : Nat) (J : Nat → Int32) (w : Int64) (B : Nat → Nat → Int32) (M : Nat → Nat → Int64) : ∀ (q i : Nat) (f : Nat → Int32), i + q = 240 → ∃ f', rt 276 (R (d + 1) 276 (78, [some (.ref 0), some (.int (nI i))], [], sl, RH J w (up1 B 2 f) M)) = some ([.int (J 41)], sl, RH J w (up1 B 2 f') M) ∧ (∀ k, k < 129 + i → f' k = f k) ∧ (∀ j, i ≤ j → j < 240 → f' (129 + j) = B 18 j) := by
  intro q
  induction q with
  | zero =>
    intro i f hi
    have h1 : 240 ≤ i := by omega
    refine ⟨f, ?_, fun _ _ => rfl, fun j j1 j2 => by omega⟩
    rw [m276_78]
    simp (disch := omega) only [rt_c, b_some, List.cons_append, List.nil_append, Bool.cond_not, cond_true, cond_false, Bool.cond_decide, nI_add, nI_clamp, xin_n, dle_e, dlt_e, deq_e, xb_0, xb_1, decide_true, decide_false, Bool.not_true, Bool.not_false, Bool.and_true, Bool.true_and, Bool.and_false, Bool.false_and, Bool.true_or, Bool.false_or, Bool.or_true, Bool.or_false, if_true, if_false, up1_s, n_31, Int32.lt_irrefl, h1, t276_35, t276_55, t276_111]
  | succ q ih =>
    intro i f hi
    have h1 : ¬ 240 ≤ i := by omega
    have h18 : up1 B 2 f 18 = B 18 := up1_n (by decide)
    obtain ⟨f', e1, e2, e3⟩ := ih (i + 1) (upd f (129 + i) (B 18 i)) (by omega)
    refine ⟨f', ?_, fun k hk => by rw [e2 k (by omega), upd_n (by omega)], fun j j1 j2 => ?_⟩
    · rw [m276_78]
      simp (disch := omega) only [rt_c, b_some, List.cons_append, List.nil_append, Bool.cond_not, cond_true, cond_false, Bool.cond_decide, nI_add, nI_clamp, xin_n, dle_e, dlt_e, deq_e, xb_0, xb_1, decide_true, decide_false, Bool.not_true, Bool.not_false, Bool.and_true, Bool.true_and, Bool.and_false, Bool.false_and, Bool.true_or, Bool.false_or, Bool.or_true, Bool.or_false, if_true, if_false, up1_s, n_31, Int32.lt_irrefl, h1, h18, up1_up, e1]
    · by_cases hj : j = i
      · subst hj
        rw [e2 _ (by omega), upd_s]
      · exact e3 j (by omega) j2
theorem RPx_s {p z : Nat} {I A I' A' : Nat → Nat → Int32} {N : Nat → Nat → Int64} {J J' : Nat → Int32} {B B' : Nat → Nat → Int32} {M : Nat → Nat → Int64} {H : Nat} (h : RPx p z I A N J B M H) (hI : ∀ q, 21 ≤ q → q ≤ 93 → I' q = I q) (hA : ∀ q, 23 ≤ q → q ≤ 94 → A' q = A q) (hJ : J' 24 = J 24) (hB : B' 5 = B 5) (hn : ∀ k, k < 127 → B' 2 k = B 2 k) : RPx p z I' A' N J' B' M H := by
  obtain ⟨⟨hp, hz, h1, h2, h3⟩, hj⟩ := h
  refine ⟨⟨hp, hz, by rw [hI 21 (by omega) (by omega)]; exact h1, by rw [hI 21 (by omega) (by omega)]; exact h2, by rw [hJ]; exact h3⟩, ?_⟩
  intro j hjz
  obtain ⟨m, f1, f2, f3, f4⟩ := hj j hjz
  have hs8 : (p + 8 - z + j) % 8 < 8 := Nat.mod_lt _ (by decide)
  have hl : ∀ k, k < 127 → lay (B' 2) (B' 5) (57 * j) k = lay (B 2) (B 5) (57 * j) k := fun k hk => by
    unfold lay
    rw [hB]
    split
    · rfl
    · exact hn k hk
  exact ⟨m, Sh_c f1 hl (hI _ (by omega) (by omega)) (fun q _ _ => hA q (by omega) (by omega)), Vd_c f2 hl, Yr_c f3 (hl 70 (by decide)), f4⟩
theorem Rl_sn {T S : Nat} (hTS : (T = 108 ∧ S = 112) ∨ (T = 112 ∧ S = 108)) {I A : Nat → Nat → Int32} {N : Nat → Nat → Int64} {V : Nat → Nat → Option Nat} {J : Nat → Int32} {B : Nat → Nat → Int32} {M : Nat → Nat → Int64} (h : Rl I A N V T S J B M) {I' A' : Nat → Nat → Int32} {V' : Nat → Nat → Option Nat} {J' : Nat → Int32} {B' : Nat → Nat → Int32}
    (hI : ∀ q, 2 ≤ q → q ≠ S → I' q = I q) (h0 : ∀ k, k ≠ 13 → I' 0 k = I 0 k) (h13 : I' 0 13 = J' 10) (h11 : I' 1 1 = nI 0) (hJ2 : J' 2 = nI 0) (hA : ∀ q, q ≠ S + 2 → q ≠ S + 3 → A' q = A q) (hV : ∀ q, q ≠ S + 1 → V' q = V q) (hJ : ∀ j, 11 < j → j ≠ 13 → j < 40 → J' j = J j) (hB : ∀ q, q ≠ 18 → q ≠ 2 → B' q = B q) (hn : ∀ k, k < 127 → B' 2 k = B 2 k) {sp' sr' : Nat} (hC1 : (sp' = 108 ∧ sr' = 112) ∨ (sp' = 112 ∧ sr' = 108)) (hC2 : Sn I' A' V' sp' (B' 2)) : Rl I' A' N V' sp' sr' J' B' M := by
  obtain ⟨H, m, ⟨s1, s2, s3, s4⟩, ⟨p, z, h2⟩, hT, hQ, hRI, ⟨v1, v2, v3, v4, v5⟩, -, -⟩ := h
  refine ⟨H, m, ⟨Sh_c s1 hn (hI 3 (by omega) (by omega)) (fun q _ _ => hA q (by omega) (by omega)), Vd_c s2 hn, Yr_c s3 (hn 70 (by decide)), s4⟩, ⟨p, z, RPx_s h2 (fun q _ _ => hI q (by omega) (by omega)) (fun q _ _ => hA q (by omega) (by omega)) (hJ 24 (by decide) (by decide) (by decide)) (hB 5 (by decide) (by decide)) hn⟩, ⟨0, by omega, h11, hJ2, fun k hk => by omega⟩, RQ_c hQ h13 (h0 14 (by decide)) (h0 15 (by decide)) (hI 95 (by omega) (by omega)) (hI 106 (by omega) (by omega)) (fun k _ => by rw [hI 101 (by omega) (by omega)]) (hA 98 (by omega) (by omega)) (hA 107 (by omega) (by omega)) ⟨hJ 27 (by decide) (by decide) (by decide), hJ 28 (by decide) (by decide) (by decide), hJ 31 (by decide) (by decide) (by decide), hJ 33 (by decide) (by decide) (by decide), hJ 38 (by decide) (by decide) (by decide)⟩ ⟨hB 12 (by decide) (by decide), hB 15 (by decide) (by decide), hB 17 (by decide) (by decide)⟩, RI_c hRI (fun q _ => hI q (by omega) (by omega)) (fun q _ => hA q (by omega) (by omega)) (fun _ _ => rfl) (fun q _ => hV q (by omega)) (hB 4 (by decide) (by decide)) (hB 10 (by decide) (by decide)) rfl, ⟨fun j hj => by rw [hV 22 (by omega)]; exact v1 j hj, by rw [hV 116 (by omega)]; exact v2, by rw [hV 116 (by omega)]; exact v3, by rw [hV 117 (by omega)]; exact v4, by rw [hV 117 (by omega)]; exact v5⟩, hC1, hC2⟩
theorem ok_sentence_112 (d : Nat) {I A : Nat → Nat → Int32} {N : Nat → Nat → Int64} {V : Nat → Nat → Option Nat} {J : Nat → Int32} {B : Nat → Nat → Int32} {M : Nat → Nat → Int64} (sl sl2 : Nat) (lt : Int64) (tw : Option Nat) (w : Int64) (hR : Rl I A N V 108 112 J B M) : ∃ v I' A' N' V' lt' tw' sp' sr' X' sl' J' w' B' M', C (d + 60) 156 [.ref 0] sl (CH I A N V lt tw 108 112 []) = some ([.int v], sl', CH I' A' N' V' lt' tw' sp' sr' X') ∧ C (d + 60) 276 [.ref 0] sl2 (RH J w B M) = some ([.int v], sl2, RH J' w' B' M') ∧ Rl I' A' N' V' sp' sr' J' B' M' ∧ sl ≤ sl' ∧ sl' ≤ sl + 8 ∧ X'.length ≤ 1 := by
  have hR0 := hR
  obtain ⟨H, m, ⟨s1, s2, s3, s4⟩, ⟨p, z, h2⟩, hT, hQ, hRI, hRV, hC1, hC2⟩ := hR
  have hTS : (108 = 108 ∧ 112 = 112) ∨ (108 = 112 ∧ 112 = 108) := by decide
  obtain ⟨t, b, κ, v, s, I1, lt1, tw1, J1, w1, hB, x1, x2, x3, x4, x5, x6, x7, x8, x9⟩ := rd_begin (d + 57) (d + 57) sl sl2 I A N V lt tw 108 112 [] J w B M (L := 200) (by decide) hT rfl
  have h36 : C (d + 59) 36 [.ref 146, .ref 1, .ref 3, .ref 112] (sl + 4) (CH (up1 I1 112 (up1 (I1 112) 3 (nI 0))) A N V lt1 tw1 108 112 [.inr (5, [.null, .null, .null, .int 0])]) = some ([], sl + 4, CH (up1 I1 112 (up1 (I1 112) 3 (nI 0))) A N V lt1 tw1 108 112 [.inr (5, [.ref 1, .ref 3, .ref 112, .int (nI 0)])]) := by
    rw [e36, k36_r146_r1_r3_r112_0]
    simp (disch := omega) only [rt_c, b_some, List.cons_append, List.nil_append, Bool.cond_not, cond_true, cond_false, Bool.cond_decide, nI_add, nI_clamp, xin_n, dle_e, dlt_e, deq_e, xb_0, xb_1, decide_true, decide_false, Bool.not_true, Bool.not_false, Bool.and_true, Bool.true_and, Bool.and_false, Bool.false_and, Bool.true_or, Bool.false_or, Bool.or_true, Bool.or_false, if_true, if_false, up1_s, n_31, Int32.lt_irrefl, t36_24]
  have hS0 : Sx 112 t 200 0 0 0 (up1 I1 112 (up1 (I1 112) 3 (nI 0))) lt1 tw1 (up1 (up1 (up1 J1 40 (nI 0)) 41 (nI 0)) 42 (nI 0)) w1 := ⟨⟨κ, v, s, Tk_c x3 (Nat.le_refl _) (fun j _ => by rw [up1_n (by decide)]) (fun j hj => by rw [up1_n (by omega), up1_n (by omega), up1_n (by omega)])⟩, by omega, by omega, by rw [up1_s, up1_s], by rw [up1_n (by decide), up1_n (by decide), up1_s], by rw [up1_n (by decide), up1_s], up1_s⟩
  have hres := rl_37_112 (H := H) (b := b) (by decide) (rl_38_112 (by decide) (pA_112 (by decide) s2.1.2.2.1 s4 8)) (d + 19) (d + 17) (sl + 4) sl2 (up1 I1 112 (up1 (I1 112) 3 (nI 0))) A V lt1 tw1 (up1 (up1 (up1 J1 40 (nI 0)) 41 (nI 0)) 42 (nI 0)) w1 B 0 0 0 (by omega) hB (by rw [up1_n (by decide), x4 3 (by decide)]; exact s1.1.1) s2.1.1 hS0
  rw [show d + 19 + 4 * 8 + 8 = d + 59 by omega, show d + 17 + 4 * 8 + 10 = d + 59 by omega, show 0 + 1 = 1 from rfl] at hres
  have i10 : (up1 I1 112 (up1 (I1 112) 3 (nI 0))) 1 10 = nI 0 := by rw [up1_n (by decide)]; exact x5
  have j10 : (up1 (up1 (up1 J1 40 (nI 0)) 41 (nI 0)) 42 (nI 0)) 10 = nI 0 := by rw [up1_n (by decide), up1_n (by decide), up1_n (by decide)]; exact x6
  have jq : ∀ j, (j < 5 ∨ 9 < j) → j ≠ 40 → j ≠ 41 → j ≠ 42 → (up1 (up1 (up1 J1 40 (nI 0)) 41 (nI 0)) 42 (nI 0)) j = J1 j := fun j _ q1 q2 q3 => by rw [up1_n q3, up1_n q2, up1_n q1]
  have iq : ∀ q, q ≠ 1 → q ≠ 112 → (up1 I1 112 (up1 (I1 112) 3 (nI 0))) q = I q := fun q q1 q2 => by rw [up1_n q2, x4 q q1]
  rcases hres with ⟨o3, k3, I3, A3, V3, lt3, tw3, J3, w3, B3, y1, y2, ⟨⟨⟨κ3, v3, t3, z1⟩, z2, z3, z4, z5, z6, z7⟩, y32, y33, y34, ⟨f3, y35⟩, y36, y37, y38⟩, y4⟩ | ⟨o3, I3, A3, V3, lt3, tw3, J3, w3, B3, y1, y2, y3, y4⟩
  · obtain ⟨f1, f2, f5, f6, f7, f8, f9⟩ := y38
    obtain ⟨k1, k2, k4, -⟩ := Tk_all z1
    by_cases hk : κ3 = 0
    · -- read
      subst hk
      obtain ⟨f', c1, c2, c3⟩ := c276_cp (d + 59) sl2 J3 w3 B3 M 240 0 (upd (upd (B3 2) 127 (nI 1)) 128 (J3 43)) (by omega)
      have hj7 : J3 7 = nI 0 := k4
      refine ⟨nI o3, up1 (up1 I3 0 (up1 (I3 0) 13 (I3 1 10))) 1 (up1 (I3 1) 1 (nI 0)), A3, N, V3, lt3, tw3, 112, 108, [.inr (5, [.ref 1, .ref 3, .ref 112, .int (nI o3)])], sl + 4, J3, w3, up1 B3 2 f', M, ?_, ?_, ?_, by omega, by omega, by simp⟩
      · rw [e156, k156_0, x1]
        simp (disch := omega) only [rt_c, b_some, List.cons_append, List.nil_append, Bool.cond_not, cond_true, cond_false, Bool.cond_decide, nI_add, nI_clamp, xin_n, dle_e, dlt_e, deq_e, xb_0, xb_1, decide_true, decide_false, Bool.not_true, Bool.not_false, Bool.and_true, Bool.true_and, Bool.and_false, Bool.false_and, Bool.true_or, Bool.false_or, Bool.or_true, Bool.or_false, if_true, if_false, up1_s, n_31, Int32.lt_irrefl, k156_10, h36, n156_37, y1, n156_43, xb_t, Nat.one_ne_zero, q99_t (d + 58) (sl + 4) I3 A3 N V3 lt3 tw3 108 112 [.inr (5, [.ref 1, .ref 3, .ref 112, .int (nI o3)])] z1, n156_53, q119 (d + 59) (sl + 4) I3 A3 N V3 lt3 tw3 108 112 [.inr (5, [.ref 1, .ref 3, .ref 112, .int (nI o3)])], n156_66, t156_79, t156_102]
      · rw [e276, m276_0, x2]
        simp (disch := omega) only [rt_c, b_some, List.cons_append, List.nil_append, Bool.cond_not, cond_true, cond_false, Bool.cond_decide, nI_add, nI_clamp, xin_n, dle_e, dlt_e, deq_e, xb_0, xb_1, decide_true, decide_false, Bool.not_true, Bool.not_false, Bool.and_true, Bool.true_and, Bool.and_false, Bool.false_and, Bool.true_or, Bool.false_or, Bool.or_true, Bool.or_false, if_true, if_false, up1_s, n_31, Int32.lt_irrefl, m276_7, y2, m276_26, xb_t, Nat.one_ne_zero, hj7, c1, z6]
      · refine Rl_sn hTS hR0 (fun q q1 q2 => by rw [up1_n (by omega), up1_n (by omega), f1 q (by omega) q2, iq q (by omega) q2]) (fun k hk => by rw [up1_n (by decide), up1_s, up1_n hk, f1 0 (by decide) (by decide), iq 0 (by decide) (by decide)]) ?_ (by rw [up1_s, up1_s]) ?_ (fun q q1 q2 => f2 q q1 q2) (fun q q1 => f5 q q1) (fun j j1 j2 j3 => ?_) (fun q q1 q2 => by rw [up1_n q2, f8 q q1]) (fun k hk => ?_) (by decide) (Or.inr ⟨?_, k3 - 1, f3, by omega, ?_, ?_, ?_⟩)
        · rw [up1_n (by decide), up1_s, up1_s, y36, y37, i10, j10]
        · rw [f9 2 (by decide), jq 2 (by decide) (by decide) (by decide) (by decide)]; exact x8
        · rw [f9 j (by omega), jq j (by omega) (by omega) (by omega) (by omega), x9 j (by omega)]
        · rw [up1_s, c2 k (by omega), upd_n (by omega), upd_n (by omega), f8 2 (by decide)]
        · rw [up1_s, c2 127 (by omega), upd_n (by decide), upd_s]
        · rw [up1_n (by decide), up1_n (by decide), z4]
          congr 1
          omega
        · rw [up1_s, c2 128 (by omega), upd_s, y4]
        · refine Cm_x f3 0 (k3 - 1) y35 (fun j j1 j2 => ⟨rfl, rfl, rfl, ?_, ?_, ?_, ?_⟩)
          · rw [nd_0, up1_s]; exact c3 (4 * j) (by omega) (by omega)
          · rw [nd_1, up1_s]
            have := c3 (4 * j + 1) (by omega) (by omega)
            rw [show 129 + (4 * j + 1) = 130 + 4 * j by omega] at this
            exact this
          · rw [nd_2, up1_s]
            have := c3 (4 * j + 2) (by omega) (by omega)
            rw [show 129 + (4 * j + 2) = 131 + 4 * j by omega] at this
            exact this
          · rw [nd_3, up1_s]
            have := c3 (4 * j + 3) (by omega) (by omega)
            rw [show 129 + (4 * j + 3) = 132 + 4 * j by omega] at this
            exact this
    · -- something follows
      have hj7 : J3 7 = nI (kR κ3) := k4
      have hk0 : ¬ kR κ3 = 0 := fun h => hk (kR_0.mp h)
      have hkl := kR_le k1
      obtain ⟨pl, p1, p2, p3⟩ := (Tk_all z1).2.2.2
      have c2 := c180 (d + 59) sl2 J3 w3 B3 M (c := 1) z1 (Or.inr rfl)
      refine ⟨-1 - nI pl, _, A3, N, V3, lt3, tw3, 108, 112, [.inr (5, [.ref 1, .ref 3, .ref 112, .int (nI o3)])], sl + 4, up1 (up1 J3 10 (nI 1)) 11 (J3 6), w3, B3, M, ?_, ?_, Rl_sn hTS hR0 (I' := up1 (up1 (up1 I3 1 (up1 (up1 (I3 1) 10 (nI 1)) 11 (I3 1 5))) 0 (up1 (I3 0) 13 (nI 1))) 1 (up1 (up1 (up1 (I3 1) 10 (nI 1)) 11 (I3 1 5)) 1 (nI 0))) (fun q q1 q2 => by rw [up1_n (by omega), up1_n (by omega), up1_n (by omega), f1 q (by omega) q2, iq q (by omega) q2]) (fun k hk => by rw [up1_n (by decide), up1_s, up1_n hk, f1 0 (by decide) (by decide), iq 0 (by decide) (by decide)]) ?_ (by rw [up1_s, up1_s]) ?_ (fun q q1 q2 => f2 q q1 q2) (fun q q1 => f5 q q1) (fun j j1 j2 j3 => ?_) (fun q q1 q2 => f8 q q1) (fun k hk => by rw [f8 2 (by decide)]) (by decide) ?_, by omega, by omega, by simp⟩
      · rw [e156, k156_0, x1]
        simp (disch := omega) only [rt_c, b_some, List.cons_append, List.nil_append, Bool.cond_not, cond_true, cond_false, Bool.cond_decide, nI_add, nI_clamp, xin_n, dle_e, dlt_e, deq_e, xb_0, xb_1, decide_true, decide_false, Bool.not_true, Bool.not_false, Bool.and_true, Bool.true_and, Bool.and_false, Bool.false_and, Bool.true_or, Bool.false_or, Bool.or_true, Bool.or_false, if_true, if_false, up1_s, n_31, Int32.lt_irrefl, k156_10, h36, n156_37, y1, n156_43, xb_t, Nat.one_ne_zero, q99_f (d + 58) (sl + 4) I3 A3 N V3 lt3 tw3 108 112 [.inr (5, [.ref 1, .ref 3, .ref 112, .int (nI o3)])] z1 hk, n156_53, xb_f, q119 (d + 59) (sl + 4) (up1 I3 1 (up1 (up1 (I3 1) 10 (nI 1)) 11 (nI pl))) A3 N V3 lt3 tw3 108 112 [.inr (5, [.ref 1, .ref 3, .ref 112, .int (nI o3)])], n156_66, up1_n, up1_s, p2, t156_79, t156_102]
      · rw [e276, m276_0, x2]
        simp (disch := omega) only [rt_c, b_some, List.cons_append, List.nil_append, Bool.cond_not, cond_true, cond_false, Bool.cond_decide, nI_add, nI_clamp, xin_n, dle_e, dlt_e, deq_e, xb_0, xb_1, decide_true, decide_false, Bool.not_true, Bool.not_false, Bool.and_true, Bool.true_and, Bool.and_false, Bool.false_and, Bool.true_or, Bool.false_or, Bool.or_true, Bool.or_false, if_true, if_false, up1_s, n_31, Int32.lt_irrefl, m276_7, y2, m276_26, xb_t, Nat.one_ne_zero, hj7, hk0, c2, m276_48, up1_s, p3, t276_35, t276_55, t276_111]
      · rw [up1_n (by decide), up1_s, up1_s, up1_n (by decide), up1_s]
      · rw [up1_n (by decide), up1_n (by decide), f9 2 (by decide), jq 2 (by decide) (by decide) (by decide) (by decide)]; exact x8
      · rw [up1_n (by omega), up1_n (by omega), f9 j (by omega), jq j (by omega) (by omega) (by omega) (by omega), x9 j (by omega)]
      · exact Sn_c hC2 (fun k _ => by rw [f8 2 (by decide)]) (by rw [up1_n (by decide), up1_n (by decide), up1_n (by decide), f1 108 (by decide) (by decide), iq 108 (by decide) (by decide)]) (f5 _ (by decide)) (f2 _ (by decide) (by decide)) (f2 _ (by decide) (by decide))
  · -- a fault
    obtain ⟨f1, f2, f5, f6, f7, f8, f9⟩ := y4
    obtain ⟨c, pl, q1, q2, q3, q4, q5, q6⟩ := y3
    refine ⟨-1 - nI pl, _, A3, N, V3, lt3, tw3, 108, 112, [.inr (5, [.ref 1, .ref 3, .ref 112, .int (nI o3)])], sl + 4, J3, w3, B3, M, ?_, ?_, Rl_sn hTS hR0 (I' := up1 (up1 I3 0 (up1 (I3 0) 13 (I3 1 10))) 1 (up1 (I3 1) 1 (nI 0))) (fun q q1 q2 => by rw [up1_n (by omega), up1_n (by omega), f1 q (by omega) q2, iq q (by omega) q2]) (fun k hk => by rw [up1_n (by decide), up1_s, up1_n hk, f1 0 (by decide) (by decide), iq 0 (by decide) (by decide)]) ?_ (by rw [up1_s, up1_s]) ?_ (fun q q1 q2 => f2 q q1 q2) (fun q q1 => f5 q q1) (fun j j1 j2 j3 => ?_) (fun q q1 q2 => f8 q q1) (fun k hk => by rw [f8 2 (by decide)]) (by decide) ?_, by omega, by omega, by simp⟩
    · rw [e156, k156_0, x1]
      simp (disch := omega) only [rt_c, b_some, List.cons_append, List.nil_append, Bool.cond_not, cond_true, cond_false, Bool.cond_decide, nI_add, nI_clamp, xin_n, dle_e, dlt_e, deq_e, xb_0, xb_1, decide_true, decide_false, Bool.not_true, Bool.not_false, Bool.and_true, Bool.true_and, Bool.and_false, Bool.false_and, Bool.true_or, Bool.false_or, Bool.or_true, Bool.or_false, if_true, if_false, up1_s, n_31, Int32.lt_irrefl, k156_10, h36, n156_37, y1, n156_43, xb_f, q119 (d + 59) (sl + 4) I3 A3 N V3 lt3 tw3 108 112 [.inr (5, [.ref 1, .ref 3, .ref 112, .int (nI o3)])], n156_66, up1_n, up1_s, q5, t156_79, t156_102]
    · rw [e276, m276_0, x2]
      simp (disch := omega) only [rt_c, b_some, List.cons_append, List.nil_append, Bool.cond_not, cond_true, cond_false, Bool.cond_decide, nI_add, nI_clamp, xin_n, dle_e, dlt_e, deq_e, xb_0, xb_1, decide_true, decide_false, Bool.not_true, Bool.not_false, Bool.and_true, Bool.true_and, Bool.and_false, Bool.false_and, Bool.true_or, Bool.false_or, Bool.or_true, Bool.or_false, if_true, if_false, up1_s, n_31, Int32.lt_irrefl, m276_7, y2, m276_26, xb_f, q6, t276_35, t276_55, t276_111]
    · rw [up1_n (by decide), up1_s, up1_s, q3, q4]
    · rw [f9 2 (by decide), jq 2 (by decide) (by decide) (by decide) (by decide)]; exact x8
    · rw [f9 j (by omega), jq j (by omega) (by omega) (by omega) (by omega), x9 j (by omega)]
    · exact Sn_c hC2 (fun k _ => by rw [f8 2 (by decide)]) (by rw [up1_n (by decide), up1_n (by decide), f1 108 (by decide) (by decide), iq 108 (by decide) (by decide)]) (f5 _ (by decide)) (f2 _ (by decide) (by decide)) (f2 _ (by decide) (by decide))
theorem ok_sentence_108 (d : Nat) {I A : Nat → Nat → Int32} {N : Nat → Nat → Int64} {V : Nat → Nat → Option Nat} {J : Nat → Int32} {B : Nat → Nat → Int32} {M : Nat → Nat → Int64} (sl sl2 : Nat) (lt : Int64) (tw : Option Nat) (w : Int64) (hR : Rl I A N V 112 108 J B M) : ∃ v I' A' N' V' lt' tw' sp' sr' X' sl' J' w' B' M', C (d + 60) 156 [.ref 0] sl (CH I A N V lt tw 112 108 []) = some ([.int v], sl', CH I' A' N' V' lt' tw' sp' sr' X') ∧ C (d + 60) 276 [.ref 0] sl2 (RH J w B M) = some ([.int v], sl2, RH J' w' B' M') ∧ Rl I' A' N' V' sp' sr' J' B' M' ∧ sl ≤ sl' ∧ sl' ≤ sl + 8 ∧ X'.length ≤ 1 := by
  have hR0 := hR
  obtain ⟨H, m, ⟨s1, s2, s3, s4⟩, ⟨p, z, h2⟩, hT, hQ, hRI, hRV, hC1, hC2⟩ := hR
  have hTS : (112 = 108 ∧ 108 = 112) ∨ (112 = 112 ∧ 108 = 108) := by decide
  obtain ⟨t, b, κ, v, s, I1, lt1, tw1, J1, w1, hB, x1, x2, x3, x4, x5, x6, x7, x8, x9⟩ := rd_begin (d + 57) (d + 57) sl sl2 I A N V lt tw 112 108 [] J w B M (L := 200) (by decide) hT rfl
  have h36 : C (d + 59) 36 [.ref 146, .ref 1, .ref 3, .ref 108] (sl + 4) (CH (up1 I1 108 (up1 (I1 108) 3 (nI 0))) A N V lt1 tw1 112 108 [.inr (5, [.null, .null, .null, .int 0])]) = some ([], sl + 4, CH (up1 I1 108 (up1 (I1 108) 3 (nI 0))) A N V lt1 tw1 112 108 [.inr (5, [.ref 1, .ref 3, .ref 108, .int (nI 0)])]) := by
    rw [e36, k36_r146_r1_r3_r108_0]
    simp (disch := omega) only [rt_c, b_some, List.cons_append, List.nil_append, Bool.cond_not, cond_true, cond_false, Bool.cond_decide, nI_add, nI_clamp, xin_n, dle_e, dlt_e, deq_e, xb_0, xb_1, decide_true, decide_false, Bool.not_true, Bool.not_false, Bool.and_true, Bool.true_and, Bool.and_false, Bool.false_and, Bool.true_or, Bool.false_or, Bool.or_true, Bool.or_false, if_true, if_false, up1_s, n_31, Int32.lt_irrefl, t36_24]
  have hS0 : Sx 108 t 200 0 0 0 (up1 I1 108 (up1 (I1 108) 3 (nI 0))) lt1 tw1 (up1 (up1 (up1 J1 40 (nI 0)) 41 (nI 0)) 42 (nI 0)) w1 := ⟨⟨κ, v, s, Tk_c x3 (Nat.le_refl _) (fun j _ => by rw [up1_n (by decide)]) (fun j hj => by rw [up1_n (by omega), up1_n (by omega), up1_n (by omega)])⟩, by omega, by omega, by rw [up1_s, up1_s], by rw [up1_n (by decide), up1_n (by decide), up1_s], by rw [up1_n (by decide), up1_s], up1_s⟩
  have hres := rl_37_108 (H := H) (b := b) (by decide) (rl_38_108 (by decide) (pA_108 (by decide) s2.1.2.2.1 s4 8)) (d + 19) (d + 17) (sl + 4) sl2 (up1 I1 108 (up1 (I1 108) 3 (nI 0))) A V lt1 tw1 (up1 (up1 (up1 J1 40 (nI 0)) 41 (nI 0)) 42 (nI 0)) w1 B 0 0 0 (by omega) hB (by rw [up1_n (by decide), x4 3 (by decide)]; exact s1.1.1) s2.1.1 hS0
  rw [show d + 19 + 4 * 8 + 8 = d + 59 by omega, show d + 17 + 4 * 8 + 10 = d + 59 by omega, show 0 + 1 = 1 from rfl] at hres
  have i10 : (up1 I1 108 (up1 (I1 108) 3 (nI 0))) 1 10 = nI 0 := by rw [up1_n (by decide)]; exact x5
  have j10 : (up1 (up1 (up1 J1 40 (nI 0)) 41 (nI 0)) 42 (nI 0)) 10 = nI 0 := by rw [up1_n (by decide), up1_n (by decide), up1_n (by decide)]; exact x6
  have jq : ∀ j, (j < 5 ∨ 9 < j) → j ≠ 40 → j ≠ 41 → j ≠ 42 → (up1 (up1 (up1 J1 40 (nI 0)) 41 (nI 0)) 42 (nI 0)) j = J1 j := fun j _ q1 q2 q3 => by rw [up1_n q3, up1_n q2, up1_n q1]
  have iq : ∀ q, q ≠ 1 → q ≠ 108 → (up1 I1 108 (up1 (I1 108) 3 (nI 0))) q = I q := fun q q1 q2 => by rw [up1_n q2, x4 q q1]
  rcases hres with ⟨o3, k3, I3, A3, V3, lt3, tw3, J3, w3, B3, y1, y2, ⟨⟨⟨κ3, v3, t3, z1⟩, z2, z3, z4, z5, z6, z7⟩, y32, y33, y34, ⟨f3, y35⟩, y36, y37, y38⟩, y4⟩ | ⟨o3, I3, A3, V3, lt3, tw3, J3, w3, B3, y1, y2, y3, y4⟩
  · obtain ⟨f1, f2, f5, f6, f7, f8, f9⟩ := y38
    obtain ⟨k1, k2, k4, -⟩ := Tk_all z1
    by_cases hk : κ3 = 0
    · -- read
      subst hk
      obtain ⟨f', c1, c2, c3⟩ := c276_cp (d + 59) sl2 J3 w3 B3 M 240 0 (upd (upd (B3 2) 127 (nI 1)) 128 (J3 43)) (by omega)
      have hj7 : J3 7 = nI 0 := k4
      refine ⟨nI o3, up1 (up1 I3 0 (up1 (I3 0) 13 (I3 1 10))) 1 (up1 (I3 1) 1 (nI 0)), A3, N, V3, lt3, tw3, 108, 112, [.inr (5, [.ref 1, .ref 3, .ref 108, .int (nI o3)])], sl + 4, J3, w3, up1 B3 2 f', M, ?_, ?_, ?_, by omega, by omega, by simp⟩
      · rw [e156, k156_0, x1]
        simp (disch := omega) only [rt_c, b_some, List.cons_append, List.nil_append, Bool.cond_not, cond_true, cond_false, Bool.cond_decide, nI_add, nI_clamp, xin_n, dle_e, dlt_e, deq_e, xb_0, xb_1, decide_true, decide_false, Bool.not_true, Bool.not_false, Bool.and_true, Bool.true_and, Bool.and_false, Bool.false_and, Bool.true_or, Bool.false_or, Bool.or_true, Bool.or_false, if_true, if_false, up1_s, n_31, Int32.lt_irrefl, k156_10_1, h36, n156_37_1, y1, n156_43_1, xb_t, Nat.one_ne_zero, q99_t (d + 58) (sl + 4) I3 A3 N V3 lt3 tw3 112 108 [.inr (5, [.ref 1, .ref 3, .ref 108, .int (nI o3)])] z1, n156_53_1, q119 (d + 59) (sl + 4) I3 A3 N V3 lt3 tw3 112 108 [.inr (5, [.ref 1, .ref 3, .ref 108, .int (nI o3)])], n156_66_1, t156_79, t156_102]
      · rw [e276, m276_0, x2]
        simp (disch := omega) only [rt_c, b_some, List.cons_append, List.nil_append, Bool.cond_not, cond_true, cond_false, Bool.cond_decide, nI_add, nI_clamp, xin_n, dle_e, dlt_e, deq_e, xb_0, xb_1, decide_true, decide_false, Bool.not_true, Bool.not_false, Bool.and_true, Bool.true_and, Bool.and_false, Bool.false_and, Bool.true_or, Bool.false_or, Bool.or_true, Bool.or_false, if_true, if_false, up1_s, n_31, Int32.lt_irrefl, m276_7, y2, m276_26, xb_t, Nat.one_ne_zero, hj7, c1, z6]
      · refine Rl_sn hTS hR0 (fun q q1 q2 => by rw [up1_n (by omega), up1_n (by omega), f1 q (by omega) q2, iq q (by omega) q2]) (fun k hk => by rw [up1_n (by decide), up1_s, up1_n hk, f1 0 (by decide) (by decide), iq 0 (by decide) (by decide)]) ?_ (by rw [up1_s, up1_s]) ?_ (fun q q1 q2 => f2 q q1 q2) (fun q q1 => f5 q q1) (fun j j1 j2 j3 => ?_) (fun q q1 q2 => by rw [up1_n q2, f8 q q1]) (fun k hk => ?_) (by decide) (Or.inr ⟨?_, k3 - 1, f3, by omega, ?_, ?_, ?_⟩)
        · rw [up1_n (by decide), up1_s, up1_s, y36, y37, i10, j10]
        · rw [f9 2 (by decide), jq 2 (by decide) (by decide) (by decide) (by decide)]; exact x8
        · rw [f9 j (by omega), jq j (by omega) (by omega) (by omega) (by omega), x9 j (by omega)]
        · rw [up1_s, c2 k (by omega), upd_n (by omega), upd_n (by omega), f8 2 (by decide)]
        · rw [up1_s, c2 127 (by omega), upd_n (by decide), upd_s]
        · rw [up1_n (by decide), up1_n (by decide), z4]
          congr 1
          omega
        · rw [up1_s, c2 128 (by omega), upd_s, y4]
        · refine Cm_x f3 0 (k3 - 1) y35 (fun j j1 j2 => ⟨rfl, rfl, rfl, ?_, ?_, ?_, ?_⟩)
          · rw [nd_0, up1_s]; exact c3 (4 * j) (by omega) (by omega)
          · rw [nd_1, up1_s]
            have := c3 (4 * j + 1) (by omega) (by omega)
            rw [show 129 + (4 * j + 1) = 130 + 4 * j by omega] at this
            exact this
          · rw [nd_2, up1_s]
            have := c3 (4 * j + 2) (by omega) (by omega)
            rw [show 129 + (4 * j + 2) = 131 + 4 * j by omega] at this
            exact this
          · rw [nd_3, up1_s]
            have := c3 (4 * j + 3) (by omega) (by omega)
            rw [show 129 + (4 * j + 3) = 132 + 4 * j by omega] at this
            exact this
    · -- something follows
      have hj7 : J3 7 = nI (kR κ3) := k4
      have hk0 : ¬ kR κ3 = 0 := fun h => hk (kR_0.mp h)
      have hkl := kR_le k1
      obtain ⟨pl, p1, p2, p3⟩ := (Tk_all z1).2.2.2
      have c2 := c180 (d + 59) sl2 J3 w3 B3 M (c := 1) z1 (Or.inr rfl)
      refine ⟨-1 - nI pl, _, A3, N, V3, lt3, tw3, 112, 108, [.inr (5, [.ref 1, .ref 3, .ref 108, .int (nI o3)])], sl + 4, up1 (up1 J3 10 (nI 1)) 11 (J3 6), w3, B3, M, ?_, ?_, Rl_sn hTS hR0 (I' := up1 (up1 (up1 I3 1 (up1 (up1 (I3 1) 10 (nI 1)) 11 (I3 1 5))) 0 (up1 (I3 0) 13 (nI 1))) 1 (up1 (up1 (up1 (I3 1) 10 (nI 1)) 11 (I3 1 5)) 1 (nI 0))) (fun q q1 q2 => by rw [up1_n (by omega), up1_n (by omega), up1_n (by omega), f1 q (by omega) q2, iq q (by omega) q2]) (fun k hk => by rw [up1_n (by decide), up1_s, up1_n hk, f1 0 (by decide) (by decide), iq 0 (by decide) (by decide)]) ?_ (by rw [up1_s, up1_s]) ?_ (fun q q1 q2 => f2 q q1 q2) (fun q q1 => f5 q q1) (fun j j1 j2 j3 => ?_) (fun q q1 q2 => f8 q q1) (fun k hk => by rw [f8 2 (by decide)]) (by decide) ?_, by omega, by omega, by simp⟩
      · rw [e156, k156_0, x1]
        simp (disch := omega) only [rt_c, b_some, List.cons_append, List.nil_append, Bool.cond_not, cond_true, cond_false, Bool.cond_decide, nI_add, nI_clamp, xin_n, dle_e, dlt_e, deq_e, xb_0, xb_1, decide_true, decide_false, Bool.not_true, Bool.not_false, Bool.and_true, Bool.true_and, Bool.and_false, Bool.false_and, Bool.true_or, Bool.false_or, Bool.or_true, Bool.or_false, if_true, if_false, up1_s, n_31, Int32.lt_irrefl, k156_10_1, h36, n156_37_1, y1, n156_43_1, xb_t, Nat.one_ne_zero, q99_f (d + 58) (sl + 4) I3 A3 N V3 lt3 tw3 112 108 [.inr (5, [.ref 1, .ref 3, .ref 108, .int (nI o3)])] z1 hk, n156_53_1, xb_f, q119 (d + 59) (sl + 4) (up1 I3 1 (up1 (up1 (I3 1) 10 (nI 1)) 11 (nI pl))) A3 N V3 lt3 tw3 112 108 [.inr (5, [.ref 1, .ref 3, .ref 108, .int (nI o3)])], n156_66_1, up1_n, up1_s, p2, t156_79, t156_102]
      · rw [e276, m276_0, x2]
        simp (disch := omega) only [rt_c, b_some, List.cons_append, List.nil_append, Bool.cond_not, cond_true, cond_false, Bool.cond_decide, nI_add, nI_clamp, xin_n, dle_e, dlt_e, deq_e, xb_0, xb_1, decide_true, decide_false, Bool.not_true, Bool.not_false, Bool.and_true, Bool.true_and, Bool.and_false, Bool.false_and, Bool.true_or, Bool.false_or, Bool.or_true, Bool.or_false, if_true, if_false, up1_s, n_31, Int32.lt_irrefl, m276_7, y2, m276_26, xb_t, Nat.one_ne_zero, hj7, hk0, c2, m276_48, up1_s, p3, t276_35, t276_55, t276_111]
      · rw [up1_n (by decide), up1_s, up1_s, up1_n (by decide), up1_s]
      · rw [up1_n (by decide), up1_n (by decide), f9 2 (by decide), jq 2 (by decide) (by decide) (by decide) (by decide)]; exact x8
      · rw [up1_n (by omega), up1_n (by omega), f9 j (by omega), jq j (by omega) (by omega) (by omega) (by omega), x9 j (by omega)]
      · exact Sn_c hC2 (fun k _ => by rw [f8 2 (by decide)]) (by rw [up1_n (by decide), up1_n (by decide), up1_n (by decide), f1 112 (by decide) (by decide), iq 112 (by decide) (by decide)]) (f5 _ (by decide)) (f2 _ (by decide) (by decide)) (f2 _ (by decide) (by decide))
  · -- a fault
    obtain ⟨f1, f2, f5, f6, f7, f8, f9⟩ := y4
    obtain ⟨c, pl, q1, q2, q3, q4, q5, q6⟩ := y3
    refine ⟨-1 - nI pl, _, A3, N, V3, lt3, tw3, 112, 108, [.inr (5, [.ref 1, .ref 3, .ref 108, .int (nI o3)])], sl + 4, J3, w3, B3, M, ?_, ?_, Rl_sn hTS hR0 (I' := up1 (up1 I3 0 (up1 (I3 0) 13 (I3 1 10))) 1 (up1 (I3 1) 1 (nI 0))) (fun q q1 q2 => by rw [up1_n (by omega), up1_n (by omega), f1 q (by omega) q2, iq q (by omega) q2]) (fun k hk => by rw [up1_n (by decide), up1_s, up1_n hk, f1 0 (by decide) (by decide), iq 0 (by decide) (by decide)]) ?_ (by rw [up1_s, up1_s]) ?_ (fun q q1 q2 => f2 q q1 q2) (fun q q1 => f5 q q1) (fun j j1 j2 j3 => ?_) (fun q q1 q2 => f8 q q1) (fun k hk => by rw [f8 2 (by decide)]) (by decide) ?_, by omega, by omega, by simp⟩
    · rw [e156, k156_0, x1]
      simp (disch := omega) only [rt_c, b_some, List.cons_append, List.nil_append, Bool.cond_not, cond_true, cond_false, Bool.cond_decide, nI_add, nI_clamp, xin_n, dle_e, dlt_e, deq_e, xb_0, xb_1, decide_true, decide_false, Bool.not_true, Bool.not_false, Bool.and_true, Bool.true_and, Bool.and_false, Bool.false_and, Bool.true_or, Bool.false_or, Bool.or_true, Bool.or_false, if_true, if_false, up1_s, n_31, Int32.lt_irrefl, k156_10_1, h36, n156_37_1, y1, n156_43_1, xb_f, q119 (d + 59) (sl + 4) I3 A3 N V3 lt3 tw3 112 108 [.inr (5, [.ref 1, .ref 3, .ref 108, .int (nI o3)])], n156_66_1, up1_n, up1_s, q5, t156_79, t156_102]
    · rw [e276, m276_0, x2]
      simp (disch := omega) only [rt_c, b_some, List.cons_append, List.nil_append, Bool.cond_not, cond_true, cond_false, Bool.cond_decide, nI_add, nI_clamp, xin_n, dle_e, dlt_e, deq_e, xb_0, xb_1, decide_true, decide_false, Bool.not_true, Bool.not_false, Bool.and_true, Bool.true_and, Bool.and_false, Bool.false_and, Bool.true_or, Bool.false_or, Bool.or_true, Bool.or_false, if_true, if_false, up1_s, n_31, Int32.lt_irrefl, m276_7, y2, m276_26, xb_f, q6, t276_35, t276_55, t276_111]
    · rw [up1_n (by decide), up1_s, up1_s, q3, q4]
    · rw [f9 2 (by decide), jq 2 (by decide) (by decide) (by decide) (by decide)]; exact x8
    · rw [f9 j (by omega), jq j (by omega) (by omega) (by omega) (by omega), x9 j (by omega)]
    · exact Sn_c hC2 (fun k _ => by rw [f8 2 (by decide)]) (by rw [up1_n (by decide), up1_n (by decide), f1 112 (by decide) (by decide), iq 112 (by decide) (by decide)]) (f5 _ (by decide)) (f2 _ (by decide) (by decide)) (f2 _ (by decide) (by decide))
theorem ok_sentence (d : Nat) : Ok (d + 60) 156 276 [.ref 0] := by
  intro sl sl2 I A N V lt tw sp sr J w B M hR
  have hc := hR
  obtain ⟨H, m, -, -, -, -, -, -, hC1, -⟩ := hc
  rcases hC1 with ⟨rfl, rfl⟩ | ⟨rfl, rfl⟩
  · exact ok_sentence_112 d sl sl2 lt tw w hR
  · exact ok_sentence_108 d sl sl2 lt tw w hR
