/-! DRAWS, SIDE BY SIDE -/
def nxt (x : Int32) : Int32 := x * nI 1103515245 + nI 12345
def dN (x : Int32) : Nat := (nxt x).toBitVec.toNat / 256
theorem dN_lt (x : Int32) : dN x < 2 ^ 31 := by
  have := (nxt x).toBitVec.isLt
  unfold dN
  omega
theorem sh8 (x : Int32) : ((nxt x).toUInt32 >>> ((nI 8).toUInt32 &&& Int32.toUInt32 31)).toInt32 = nI (dN x) := by
  have h := pk_ushr (nxt x) (nI 8) 8 (by decide)
  have h2 := dN_lt x
  apply Int32.toBitVec_inj.mp
  apply BitVec.eq_of_toNat_eq
  rw [h]
  simp only [nI, Int32.toBitVec_ofNat', BitVec.toNat_ofNat]
  rw [Nat.mod_eq_of_lt (by omega)]
  rfl
theorem nxt_e (x : Int32) : x * nI 1103515245 + nI 12345 = nxt x := rfl
section DRC
variable (d sl : Nat) (I A : Nat → Nat → Int32) (N : Nat → Nat → Int64) (V : Nat → Nat → Option Nat) (lt : Int64) (tw : Option Nat) (sp sr : Nat)
theorem q7 (x : Int32) {c : Nat} (hc : 0 < c) (hc2 : c < 2 ^ 31) : C d 7 [.ref 146, .int (nI c)] sl (CH I A N V lt tw sp sr [.inr (0, [.int x])]) = some ([.int (nI (dN x % c))], sl, CH I A N V lt tw sp sr [.inr (0, [.int (nxt x)])]) := by
  have h1 : ¬ c ≤ 0 := by omega
  have h2 : ¬ c = 0 := by omega
  rw [e7, k7_r146_0]
  simp (disch := omega) only [rt_c, b_some, List.cons_append, List.nil_append, Bool.cond_not, cond_true, cond_false, Bool.cond_decide, nI_add, nI_clamp, xin_n, dle_e, dlt_e, deq_e, xb_0, xb_1, decide_true, decide_false, Bool.not_true, Bool.not_false, Bool.and_true, Bool.true_and, Bool.and_false, Bool.false_and, Bool.true_or, Bool.false_or, Bool.or_true, Bool.or_false, if_true, if_false, up1_s, n_31, Int32.lt_irrefl, h1, h2, t7_32, nxt_e, sh8, pk_rem (dN_lt x) hc hc2]
theorem q6 (x y : Int32) : C d 6 [.ref 146, .int x] sl (CH I A N V lt tw sp sr [.inr (0, [.int y])]) = some ([], sl, CH I A N V lt tw sp sr [.inr (0, [.int x])]) := by
  rw [e6, k6_r146_0]
  simp (disch := omega) only [rt_c, b_some, List.cons_append, List.nil_append, Bool.cond_not, cond_true, cond_false, Bool.cond_decide, nI_add, nI_clamp, xin_n, dle_e, dlt_e, deq_e, xb_0, xb_1, decide_true, decide_false, Bool.not_true, Bool.not_false, Bool.and_true, Bool.true_and, Bool.and_false, Bool.false_and, Bool.true_or, Bool.false_or, Bool.or_true, Bool.or_false, if_true, if_false, up1_s, n_31, Int32.lt_irrefl, t6_9]
end DRC
section DRR
variable (d sl : Nat) (I : Nat → Int32) (w : Int64) (A : Nat → Nat → Int32) (N : Nat → Nat → Int64)
theorem c252 {x : Int32} (hx : I 34 = x) {c : Nat} (hc : 0 < c) (hc2 : c < 2 ^ 31) : C d 252 [.ref 0, .int (nI c)] sl (RH I w A N) = some ([.int (nI (dN x % c))], sl, RH (up1 I 34 (nxt x)) w A N) := by
  have h2 : ¬ c = 0 := by omega
  rw [e252, m252_0, hx]
  simp (disch := omega) only [rt_c, b_some, List.cons_append, List.nil_append, Bool.cond_not, cond_true, cond_false, Bool.cond_decide, nI_add, nI_clamp, xin_n, dle_e, dlt_e, deq_e, xb_0, xb_1, decide_true, decide_false, Bool.not_true, Bool.not_false, Bool.and_true, Bool.true_and, Bool.and_false, Bool.false_and, Bool.true_or, Bool.false_or, Bool.or_true, Bool.or_false, if_true, if_false, up1_s, n_31, Int32.lt_irrefl, h2, t252_25, nxt_e, sh8, pk_rem (dN_lt x) hc hc2]
theorem c253 (a x y z v : Int32) {n' : Nat → Int32} (hw : C d 219 [.ref 0, .int a, .int x, .int y, .int z] sl (RH I w A N) = some ([.int v], sl, RH I w A N)) (hl : v = nI 0 → C d 221 [.ref 0, .int a, .int x, .int y, .int z] sl (RH I w A N) = some ([], sl, RH I w (up1 A 2 n') N)) : C (d + 1) 253 [.ref 0, .int a, .int x, .int y, .int z] sl (RH I w A N) = some ([], sl, RH I w (up1 A 2 (if v = nI 0 then n' else A 2)) N) := by
  rw [e253, m253_0, hw]
  by_cases hv : v = nI 0
  · rw [if_pos hv]
    have := hl hv
    simp (disch := omega) only [rt_c, b_some, List.cons_append, List.nil_append, Bool.cond_not, cond_true, cond_false, Bool.cond_decide, nI_add, nI_clamp, xin_n, dle_e, dlt_e, deq_e, xb_0, xb_1, decide_true, decide_false, Bool.not_true, Bool.not_false, Bool.and_true, Bool.true_and, Bool.and_false, Bool.false_and, Bool.true_or, Bool.false_or, Bool.or_true, Bool.or_false, if_true, if_false, up1_s, n_31, Int32.lt_irrefl, m253_9, hv, this, m253_21, t253_21]
  · rw [if_neg hv, up1_id]
    simp (disch := omega) only [rt_c, b_some, List.cons_append, List.nil_append, Bool.cond_not, cond_true, cond_false, Bool.cond_decide, nI_add, nI_clamp, xin_n, dle_e, dlt_e, deq_e, xb_0, xb_1, decide_true, decide_false, Bool.not_true, Bool.not_false, Bool.and_true, Bool.true_and, Bool.and_false, Bool.false_and, Bool.true_or, Bool.false_or, Bool.or_true, Bool.or_false, if_true, if_false, up1_s, n_31, Int32.lt_irrefl, m253_9, hv, m253_21, t253_21]
end DRR
section DRW
variable (d sl : Nat) (I A : Nat → Nat → Int32) (N : Nat → Nat → Int64) (V : Nat → Nat → Option Nat) (lt : Int64) (tw : Option Nat) (sp sr : Nat) {n : Nat → Int32} {H m : Nat}
theorem dr_3 (hS : Sh I A 3 n H m) (hV : Vd n H m) {h : Nat} (hh : h < H) (x : Int32) : ∃ n' m' x' I' A', C (d + 4) 79 [.ref 3, .int (nI h), .ref 146] sl (CH I A N V lt tw sp sr [.inr (0, [.int x])]) = some ([], sl, CH I' A' N V lt tw sp sr [.inr (0, [.int x'])]) ∧ Sh I' A' 3 n' H m' ∧ Vd n' H m' ∧ Fr 3 I A I' A' ∧ (∀ k, (k < 71 ∨ 127 ≤ k) → n' k = n k) ∧
    (∀ sl2 J w B M, B 2 = n → J 34 = x → C (d + 4) 254 [.ref 0, .int (nI h)] sl2 (RH J w B M) = some ([], sl2, RH (up1 J 34 x') w (up1 B 2 n') M)) := by
  obtain ⟨hH, hD, hH6, hm⟩ := hV.1
  obtain ⟨-, hcD, -, -⟩ := (sh_3 hS).1
  have e1 := q7 (d + 3) sl I A N V lt tw sp sr x (c := 6) (by omega) (by omega)
  have hu := Nat.mod_lt (dN x) (show 0 < 6 by omega)
  have r1 := fun sl2 J w B M (hJ : J 34 = x) => c252 (d + 3) sl2 J w B M hJ (c := 6) (by omega) (by omega)
  generalize dN x % 6 = u at e1 hu r1
  have e3 := q7 (d + 3) sl I A N V lt tw sp sr (nxt (nxt x)) (c := 20) (by omega) (by omega)
  have r3 := fun sl2 J w B M => c252 (d + 3) sl2 (up1 J 34 (nxt (nxt x))) w B M up1_s (c := 20) (by omega) (by omega)
  have hy := Nat.mod_lt (dN (nxt (nxt x))) (show 0 < 20 by omega)
  generalize dN (nxt (nxt x)) % 20 = y at e3 hy r3
  simp only [up1_up] at r3
  rcases (show u = 0 ∨ u = 1 ∨ u = 2 ∨ u = 3 ∨ (u = 4 ∨ u = 5) by omega) with rfl | hu1
  · -- a house borrows
    have e2 := q7 (d + 3) sl I A N V lt tw sp sr (nxt x) (c := H) (by omega) (by omega)
    have r2 := fun sl2 J w B M => c252 (d + 3) sl2 (up1 J 34 (nxt x)) w B M up1_s (c := H) (by omega) (by omega)
    have hg := Nat.mod_lt (dN (nxt x)) (show 0 < H by omega)
    generalize dN (nxt x) % H = g at e2 hg r2
    simp only [up1_up] at r2
    by_cases hgh : g = h
    · subst hgh
      refine ⟨n, m, nxt (nxt (nxt x)), I, A, ?_, hS, hV, Fr_rf, fun _ _ => rfl, ?_⟩
      · obtain ⟨hcH, -⟩ := (sh_3 hS).1
        rw [e79, k79_r3_r146_0, e1]
        simp (disch := omega) only [rt_c, b_some, List.cons_append, List.nil_append, Bool.cond_not, cond_true, cond_false, Bool.cond_decide, nI_add, nI_clamp, xin_n, dle_e, dlt_e, deq_e, xb_0, xb_1, decide_true, decide_false, Bool.not_true, Bool.not_false, Bool.and_true, Bool.true_and, Bool.and_false, Bool.false_and, Bool.true_or, Bool.false_or, Bool.or_true, Bool.or_false, if_true, if_false, up1_s, n_31, Int32.lt_irrefl, k79_r3_r146_6, hcH, e2, k79_r3_r146_19, e3, k79_r3_r146_27, t79_121]
      · intro sl2 J w B M hB hJ
        rw [e254, m254_0, r1 sl2 J w B M hJ, ← hB, up1_id]
        simp (disch := omega) only [rt_c, b_some, List.cons_append, List.nil_append, Bool.cond_not, cond_true, cond_false, Bool.cond_decide, nI_add, nI_clamp, xin_n, dle_e, dlt_e, deq_e, xb_0, xb_1, decide_true, decide_false, Bool.not_true, Bool.not_false, Bool.and_true, Bool.true_and, Bool.and_false, Bool.false_and, Bool.true_or, Bool.false_or, Bool.or_true, Bool.or_false, if_true, if_false, up1_s, n_31, Int32.lt_irrefl, m254_6, hB, hH, r2, m254_21, r3, m254_28, m254_46_1, t254_65, t254_109]
    · obtain ⟨I', A', e4, hS', hF⟩ := q71_3 (d + 1) sl I A N V lt tw sp sr [.inr (0, [.int (nxt (nxt (nxt x)))])] hS hh hg (nI (y + 1))
      have hw : borW n m g (nI (y + 1)) = nI 0 → m < 12 := fun hw => by
        have := (borW_0 hw).1
        omega
      refine ⟨_, _, nxt (nxt (nxt x)), I', A', ?_, hS', ?_, hF, ?_, ?_⟩
      · obtain ⟨hcH, -⟩ := (sh_3 hS).1
        rw [e79, k79_r3_r146_0, e1]
        simp (disch := omega) only [rt_c, b_some, List.cons_append, List.nil_append, Bool.cond_not, cond_true, cond_false, Bool.cond_decide, nI_add, nI_clamp, xin_n, dle_e, dlt_e, deq_e, xb_0, xb_1, decide_true, decide_false, Bool.not_true, Bool.not_false, Bool.and_true, Bool.true_and, Bool.and_false, Bool.false_and, Bool.true_or, Bool.false_or, Bool.or_true, Bool.or_false, if_true, if_false, up1_s, n_31, Int32.lt_irrefl, k79_r3_r146_6, hcH, e2, k79_r3_r146_19, e3, k79_r3_r146_27, hgh, e4, k79_r3_r146_46, t79_121]
      · by_cases hv : borW n m g (nI (y + 1)) = nI 0
        · rw [if_pos hv, if_pos hv]
          exact Vd_bor hV hh hg (fun e => hgh e.symm) (by omega) hv
        · rw [if_neg hv, if_neg hv]
          exact hV
      · intro k hk
        split
        · rename_i hv
          exact borN_o (hw hv) (by omega) (by omega) hk
        · rfl
      · intro sl2 J w B M hB hJ
        subst hB
        have r4 := c253 (d + 2) sl2 (up1 J 34 (nxt (nxt (nxt x)))) w B M (nI 1) (nI h) (nI g) (nI (y + 1)) (borW (B 2) m g (nI (y + 1))) (n' := borN (B 2) m h g (nI (y + 1))) (c219_1 d sl2 _ w B M hm hD (by omega) _ _) (fun hv => c221_1 (d + 1) sl2 _ w B M (hw hv) hD (by omega) (by omega) _)
        rw [e254, m254_0, r1 sl2 J w B M hJ]
        simp (disch := omega) only [rt_c, b_some, List.cons_append, List.nil_append, Bool.cond_not, cond_true, cond_false, Bool.cond_decide, nI_add, nI_clamp, xin_n, dle_e, dlt_e, deq_e, xb_0, xb_1, decide_true, decide_false, Bool.not_true, Bool.not_false, Bool.and_true, Bool.true_and, Bool.and_false, Bool.false_and, Bool.true_or, Bool.false_or, Bool.or_true, Bool.or_false, if_true, if_false, up1_s, n_31, Int32.lt_irrefl, m254_6, hH, r2, m254_21, r3, m254_28, hgh, r4, m254_46_1, t254_65, t254_109]
  · by_cases hm0 : m = 0
    · subst hm0
      refine ⟨n, 0, nxt x, I, A, ?_, hS, hV, Fr_rf, fun _ _ => rfl, ?_⟩
      · rw [e79, k79_r3_r146_0, e1]
        rcases hu1 with rfl | rfl | rfl | rfl | rfl <;> simp (disch := omega) only [rt_c, b_some, List.cons_append, List.nil_append, Bool.cond_not, cond_true, cond_false, Bool.cond_decide, nI_add, nI_clamp, xin_n, dle_e, dlt_e, deq_e, xb_0, xb_1, decide_true, decide_false, Bool.not_true, Bool.not_false, Bool.and_true, Bool.true_and, Bool.and_false, Bool.false_and, Bool.true_or, Bool.false_or, Bool.or_true, Bool.or_false, if_true, if_false, up1_s, n_31, Int32.lt_irrefl, k79_r3_r146_6, hcD, Nat.le_refl, Nat.reduceEqDiff, Nat.one_ne_zero, t79_121]
      · intro sl2 J w B M hB hJ
        subst hB
        rw [e254, m254_0, r1 sl2 J w B M hJ, up1_id]
        rcases hu1 with rfl | rfl | rfl | rfl | rfl <;> simp (disch := omega) only [rt_c, b_some, List.cons_append, List.nil_append, Bool.cond_not, cond_true, cond_false, Bool.cond_decide, nI_add, nI_clamp, xin_n, dle_e, dlt_e, deq_e, xb_0, xb_1, decide_true, decide_false, Bool.not_true, Bool.not_false, Bool.and_true, Bool.true_and, Bool.and_false, Bool.false_and, Bool.true_or, Bool.false_or, Bool.or_true, Bool.or_false, if_true, if_false, up1_s, n_31, Int32.lt_irrefl, m254_6, m254_46, hD, Nat.reduceEqDiff, Nat.one_ne_zero, Nat.reduceLT, t254_65, t254_109]
    · have hm0' : ¬ m ≤ 0 := by omega
      have e2 := q7 (d + 3) sl I A N V lt tw sp sr (nxt x) (c := m) (by omega) (by omega)
      have r2 := fun sl2 J w B M => c252 (d + 3) sl2 (up1 J 34 (nxt x)) w B M up1_s (c := m) (by omega) (by omega)
      have hg := Nat.mod_lt (dN (nxt x)) (show 0 < m by omega)
      generalize dN (nxt x) % m = g at e2 hg r2
      simp only [up1_up] at r2
      have hwh := (Vd_wh hV hg).2
      have hwm := (Vd_wm hV hg).2
      have hpay : (u = 1 ∨ u = 2) → ∃ n' m' x' I' A', C (d + 4) 79 [.ref 3, .int (nI h), .ref 146] sl (CH I A N V lt tw sp sr [.inr (0, [.int x])]) = some ([], sl, CH I' A' N V lt tw sp sr [.inr (0, [.int x'])]) ∧ Sh I' A' 3 n' H m' ∧ Vd n' H m' ∧ Fr 3 I A I' A' ∧ (∀ k, (k < 71 ∨ 127 ≤ k) → n' k = n k) ∧
          (∀ sl2 J w B M, B 2 = n → J 34 = x → C (d + 4) 254 [.ref 0, .int (nI h)] sl2 (RH J w B M) = some ([], sl2, RH (up1 J 34 x') w (up1 B 2 n') M)) := by
        intro hu2
        obtain ⟨I', A', e4, hS', hF⟩ := q70_3 (d + 1) sl I A N V lt tw sp sr [.inr (0, [.int (nxt (nxt (nxt x)))])] hS hV hg (nI (y + 1))
        refine ⟨_, _, nxt (nxt (nxt x)), I', A', ?_, hS', ?_, hF, ?_, ?_⟩
        · rw [e79, k79_r3_r146_0, e1]
          rcases hu2 with rfl | rfl <;> simp (disch := omega) only [rt_c, b_some, List.cons_append, List.nil_append, Bool.cond_not, cond_true, cond_false, Bool.cond_decide, nI_add, nI_clamp, xin_n, dle_e, dlt_e, deq_e, xb_0, xb_1, decide_true, decide_false, Bool.not_true, Bool.not_false, Bool.and_true, Bool.true_and, Bool.and_false, Bool.false_and, Bool.true_or, Bool.false_or, Bool.or_true, Bool.or_false, if_true, if_false, up1_s, n_31, Int32.lt_irrefl, k79_r3_r146_6, hcD, hm0', Nat.reduceEqDiff, Nat.one_ne_zero, e2, k79_r3_r146_75, e3, k79_r3_r146_86, e4, k79_r3_r146_91, t79_121]
        · by_cases hv : payW n g (nI (y + 1)) = nI 0
          · rw [if_pos hv]
            exact Vd_pay hV hg (by rw [nI_leI (by omega) (by omega)]; omega) hv
          · rw [if_neg hv]
            exact hV
        · intro k hk
          split
          · exact payN_o (by omega) (by omega) (by omega) hk
          · rfl
        · intro sl2 J w B M hB hJ
          subst hB
          have r4 := c253 (d + 2) sl2 (up1 J 34 (nxt (nxt (nxt x)))) w B M (nI 0) (nI g) (nI (y + 1)) (nI 0) (payW (B 2) g (nI (y + 1))) (n' := payN (B 2) g (nI (y + 1))) (c219_0 d sl2 _ w B M hV hg _ _) (fun hv => c221_0 (d + 1) sl2 _ w B M hV hg _ _)
          rw [e254, m254_0, r1 sl2 J w B M hJ]
          rcases hu2 with rfl | rfl <;> simp (disch := omega) only [rt_c, b_some, List.cons_append, List.nil_append, Bool.cond_not, cond_true, cond_false, Bool.cond_decide, nI_add, nI_clamp, xin_n, dle_e, dlt_e, deq_e, xb_0, xb_1, decide_true, decide_false, Bool.not_true, Bool.not_false, Bool.and_true, Bool.true_and, Bool.and_false, Bool.false_and, Bool.true_or, Bool.false_or, Bool.or_true, Bool.or_false, if_true, if_false, up1_s, n_31, Int32.lt_irrefl, m254_6, m254_46, hD, hm0, Nat.reduceEqDiff, Nat.one_ne_zero, Nat.reduceLT, r2, m254_77, r3, m254_103, r4, m254_109, t254_65, t254_109]
      rcases hu1 with rfl | rfl | rfl | hu2
      · exact hpay (Or.inl rfl)
      · exact hpay (Or.inr rfl)
      · obtain ⟨I', A', e4, hS', hF⟩ := q72_3 (d + 1) sl I A N V lt tw sp sr [.inr (0, [.int (nxt (nxt x))])] hS hV hg hh
        refine ⟨_, _, nxt (nxt x), I', A', ?_, hS', ?_, hF, ?_, ?_⟩
        · rw [e79, k79_r3_r146_0, e1]
          simp (disch := omega) only [rt_c, b_some, List.cons_append, List.nil_append, Bool.cond_not, cond_true, cond_false, Bool.cond_decide, nI_add, nI_clamp, xin_n, dle_e, dlt_e, deq_e, xb_0, xb_1, decide_true, decide_false, Bool.not_true, Bool.not_false, Bool.and_true, Bool.true_and, Bool.and_false, Bool.false_and, Bool.true_or, Bool.false_or, Bool.or_true, Bool.or_false, if_true, if_false, up1_s, n_31, Int32.lt_irrefl, k79_r3_r146_6, hcD, hm0', Nat.reduceEqDiff, Nat.one_ne_zero, e2, k79_r3_r146_116, e4, k79_r3_r146_120, t79_121]
        · by_cases hv : selW n g h = nI 0
          · rw [if_pos hv]
            exact Vd_sel hV hg hh hv
          · rw [if_neg hv]
            exact hV
        · intro k hk
          split
          · exact selN_o (by omega) (by omega) (by omega) hk
          · rfl
        · intro sl2 J w B M hB hJ
          subst hB
          have r4 := c253 (d + 2) sl2 (up1 J 34 (nxt (nxt x))) w B M (nI 2) (nI g) (nI h) (nI 0) (selW (B 2) g h) (n' := selN (B 2) g h) (c219_2 d sl2 _ w B M (by omega) (by omega) _) (fun hv => c221_2 (d + 1) sl2 _ w B M hV hg (by omega) _)
          rw [e254, m254_0, r1 sl2 J w B M hJ]
          simp (disch := omega) only [rt_c, b_some, List.cons_append, List.nil_append, Bool.cond_not, cond_true, cond_false, Bool.cond_decide, nI_add, nI_clamp, xin_n, dle_e, dlt_e, deq_e, xb_0, xb_1, decide_true, decide_false, Bool.not_true, Bool.not_false, Bool.and_true, Bool.true_and, Bool.and_false, Bool.false_and, Bool.true_or, Bool.false_or, Bool.or_true, Bool.or_false, if_true, if_false, up1_s, n_31, Int32.lt_irrefl, m254_6, m254_46, hD, hm0, Nat.reduceEqDiff, Nat.one_ne_zero, Nat.reduceLT, r2, m254_77, r4, m254_91, m254_109, t254_65, t254_109]
      · refine ⟨n, m, nxt x, I, A, ?_, hS, hV, Fr_rf, fun _ _ => rfl, ?_⟩
        · rw [e79, k79_r3_r146_0, e1]
          rcases hu2 with rfl | rfl <;> simp (disch := omega) only [rt_c, b_some, List.cons_append, List.nil_append, Bool.cond_not, cond_true, cond_false, Bool.cond_decide, nI_add, nI_clamp, xin_n, dle_e, dlt_e, deq_e, xb_0, xb_1, decide_true, decide_false, Bool.not_true, Bool.not_false, Bool.and_true, Bool.true_and, Bool.and_false, Bool.false_and, Bool.true_or, Bool.false_or, Bool.or_true, Bool.or_false, if_true, if_false, up1_s, n_31, Int32.lt_irrefl, k79_r3_r146_6, hcD, hm0', Nat.reduceEqDiff, Nat.one_ne_zero, t79_121]
        · intro sl2 J w B M hB hJ
          subst hB
          rw [e254, m254_0, r1 sl2 J w B M hJ, up1_id]
          rcases hu2 with rfl | rfl <;> simp (disch := omega) only [rt_c, b_some, List.cons_append, List.nil_append, Bool.cond_not, cond_true, cond_false, Bool.cond_decide, nI_add, nI_clamp, xin_n, dle_e, dlt_e, deq_e, xb_0, xb_1, decide_true, decide_false, Bool.not_true, Bool.not_false, Bool.and_true, Bool.true_and, Bool.and_false, Bool.false_and, Bool.true_or, Bool.false_or, Bool.or_true, Bool.or_false, if_true, if_false, up1_s, n_31, Int32.lt_irrefl, m254_6, m254_46, hD, hm0, Nat.reduceEqDiff, Nat.one_ne_zero, Nat.reduceLT, t254_65, t254_109]
/-- the draws of one year -/
theorem dh_3 (b1 b3 b4 : Int32) (c1 c2 c3 c4 : Int32) : ∀ (q i : Nat) (I A : Nat → Nat → Int32) (n : Nat → Int32) (m : Nat) (x : Int32), i + q = H → Sh I A 3 n H m → Vd n H m → ∃ n' m' x' I' A', rt 78 (R (d + 5) 78 (21, [some (.ref 3), some (.int b1), some (.ref 146), some (.int b3), some (.int b4), some (.int (nI i))], [], sl, CH I A N V lt tw sp sr [.inr (0, [.int x])])) = rt 78 (R (d + 5) 78 (12, [some (.ref 3), some (.int b1), some (.ref 146), some (.int b3), some (.int (b4 + nI 1)), some (.int (nI H))], [], sl, CH I' A' N V lt tw sp sr [.inr (0, [.int x'])])) ∧ Sh I' A' 3 n' H m' ∧ Vd n' H m' ∧ Fr 3 I A I' A' ∧ (∀ k, (k < 70 ∨ 127 ≤ k) → n' k = n k) ∧ n' 70 = n 70 + nI 1 ∧
    (∀ sl2 J w B M, B 2 = n → J 34 = x → rt 255 (R (d + 5) 255 (33, [some (.ref 0), some (.int c1), some (.int c2), some (.int c3), some (.int c4), some (.int (nI i))], [], sl2, RH J w B M)) = rt 255 (R (d + 5) 255 (24, [some (.ref 0), some (.int c1), some (.int c2), some (.int c3), some (.int (c4 + nI 1)), some (.int (nI H))], [], sl2, RH (up1 J 34 x') w (up1 B 2 n') M))) := by
  intro q
  induction q with
  | zero =>
    intro i I A n m x hi hS hV
    have hi' : i = H := by omega
    subst hi'
    obtain ⟨hcH, -, hH6, -⟩ := (sh_3 hS).1
    obtain ⟨I', A', e1, hS', hF⟩ := q77_3 (d + 4) sl I A N V lt tw sp sr [.inr (0, [.int x])] hS hV
    obtain ⟨hH, -, -, hm⟩ := hV.1
    refine ⟨_, m, x, I', A', ?_, hS', Vd_year hV, hF, fun k hk => year_o n hH6 hm (by omega) (by omega), year_70 n, ?_⟩
    · rw [k78_r3_r146_21]
      simp (disch := omega) only [rt_c, b_some, List.cons_append, List.nil_append, Bool.cond_not, cond_true, cond_false, Bool.cond_decide, nI_add, nI_clamp, xin_n, dle_e, dlt_e, deq_e, xb_0, xb_1, decide_true, decide_false, Bool.not_true, Bool.not_false, Bool.and_true, Bool.true_and, Bool.and_false, Bool.false_and, Bool.true_or, Bool.false_or, Bool.or_true, Bool.or_false, if_true, if_false, up1_s, n_31, Int32.lt_irrefl, hcH, Nat.le_refl, e1, k78_r3_r146_47]
    · intro sl2 J w B M hB hJ
      subst hB
      have r1 := c229 (d + 3) sl2 J w B M hV
      rw [m255_33, ← hJ, up1_id]
      simp (disch := omega) only [rt_c, b_some, List.cons_append, List.nil_append, Bool.cond_not, cond_true, cond_false, Bool.cond_decide, nI_add, nI_clamp, xin_n, dle_e, dlt_e, deq_e, xb_0, xb_1, decide_true, decide_false, Bool.not_true, Bool.not_false, Bool.and_true, Bool.true_and, Bool.and_false, Bool.false_and, Bool.true_or, Bool.false_or, Bool.or_true, Bool.or_false, if_true, if_false, up1_s, n_31, Int32.lt_irrefl, hH, Nat.le_refl, r1, m255_60]
  | succ q ih =>
    intro i I A n m x hi hS hV
    have h1 : ¬ H ≤ i := by omega
    obtain ⟨hcH, -, hH6, -⟩ := (sh_3 hS).1
    obtain ⟨hH, -, -, hm⟩ := hV.1
    obtain ⟨n1, m1, x1, I1, A1, e1, hS1, hV1, hF1, hn1, r1⟩ := dr_3 d sl I A N V lt tw sp sr hS hV (show i < H by omega) x
    obtain ⟨n2, m2, x2, I2, A2, e2, hS2, hV2, hF2, hn2, hy2, r2⟩ := ih (i + 1) I1 A1 n1 m1 x1 (by omega) hS1 hV1
    refine ⟨n2, m2, x2, I2, A2, ?_, hS2, hV2, Fr_tr hF1 hF2, fun k hk => by rw [hn2 k hk, hn1 k (by omega)], by rw [hy2, hn1 70 (by omega)], ?_⟩
    · rw [k78_r3_r146_21]
      simp (disch := omega) only [rt_c, b_some, List.cons_append, List.nil_append, Bool.cond_not, cond_true, cond_false, Bool.cond_decide, nI_add, nI_clamp, xin_n, dle_e, dlt_e, deq_e, xb_0, xb_1, decide_true, decide_false, Bool.not_true, Bool.not_false, Bool.and_true, Bool.true_and, Bool.and_false, Bool.false_and, Bool.true_or, Bool.false_or, Bool.or_true, Bool.or_false, if_true, if_false, up1_s, n_31, Int32.lt_irrefl, hcH, h1, e1, k78_r3_r146_37, e2]
    · intro sl2 J w B M hB hJ
      have r1' := r1 sl2 J w B M hB hJ
      have r2' := r2 sl2 (up1 J 34 x1) w (up1 B 2 n1) M up1_s up1_s
      rw [up1_up, up1_up] at r2'
      rw [m255_33]
      simp (disch := omega) only [rt_c, b_some, List.cons_append, List.nil_append, Bool.cond_not, cond_true, cond_false, Bool.cond_decide, nI_add, nI_clamp, xin_n, dle_e, dlt_e, deq_e, xb_0, xb_1, decide_true, decide_false, Bool.not_true, Bool.not_false, Bool.and_true, Bool.true_and, Bool.and_false, Bool.false_and, Bool.true_or, Bool.false_or, Bool.or_true, Bool.or_false, if_true, if_false, up1_s, n_31, Int32.lt_irrefl, hB, hH, h1, r1', m255_50, r2']
/-- years drawn -/
theorem dy_3 (b1 y : Int32) (c1 c2 : Int32) (hH0 : H ≤ 6) : ∀ (q i : Nat) (I A : Nat → Nat → Int32) (n : Nat → Int32) (m : Nat) (x : Int32) (o : Option Value), (o = none ∨ ∃ v, o = some (.int v)) → i + q < 2 ^ 31 → y = nI (i + q) → Sh I A 3 n H m → Vd n H m → ∃ n' m' x' I' A', rt 78 (R (d + 5) 78 (12, [some (.ref 3), some (.int b1), some (.ref 146), some (.int y), some (.int (nI i)), o], [], sl, CH I A N V lt tw sp sr [.inr (0, [.int x])])) = some ([.int y], sl, CH I' A' N V lt tw sp sr [.inr (0, [.int x'])]) ∧ Sh I' A' 3 n' H m' ∧ Vd n' H m' ∧ Fr 3 I A I' A' ∧ (∀ k, (k < 70 ∨ 127 ≤ k) → n' k = n k) ∧ (∀ z, n 70 = nI z → n' 70 = nI (z + q)) ∧ (q = 0 → n' = n ∧ m' = m) ∧
    (∀ sl2 J w B M, B 2 = n → J 34 = x → rt 255 (R (d + 5) 255 (24, [some (.ref 0), some (.int c1), some (.int c2), some (.int y), some (.int (nI i)), o], [], sl2, RH J w B M)) = some ([.int y], sl2, RH (up1 J 34 x') w (up1 B 2 n') M)) := by
  intro q
  induction q with
  | zero =>
    intro i I A n m x o ho hi hy hS hV
    have h1 : i + 0 ≤ i := by omega
    refine ⟨n, m, x, I, A, ?_, hS, hV, Fr_rf, fun _ _ => rfl, fun z hz => hz, fun _ => ⟨rfl, rfl⟩, ?_⟩
    · rcases ho with rfl | ⟨v, rfl⟩
      · rw [k78_r3_r146_12, hy]
        simp (disch := omega) only [rt_c, b_some, List.cons_append, List.nil_append, Bool.cond_not, cond_true, cond_false, Bool.cond_decide, nI_add, nI_clamp, xin_n, dle_e, dlt_e, deq_e, xb_0, xb_1, decide_true, decide_false, Bool.not_true, Bool.not_false, Bool.and_true, Bool.true_and, Bool.and_false, Bool.false_and, Bool.true_or, Bool.false_or, Bool.or_true, Bool.or_false, if_true, if_false, up1_s, n_31, Int32.lt_irrefl, h1, t78_54]
      · rw [k78_r3_r146_12_1, hy]
        simp (disch := omega) only [rt_c, b_some, List.cons_append, List.nil_append, Bool.cond_not, cond_true, cond_false, Bool.cond_decide, nI_add, nI_clamp, xin_n, dle_e, dlt_e, deq_e, xb_0, xb_1, decide_true, decide_false, Bool.not_true, Bool.not_false, Bool.and_true, Bool.true_and, Bool.and_false, Bool.false_and, Bool.true_or, Bool.false_or, Bool.or_true, Bool.or_false, if_true, if_false, up1_s, n_31, Int32.lt_irrefl, h1, t78_54]
    · intro sl2 J w B M hB hJ
      subst hB
      rw [← hJ, up1_id, up1_id]
      rcases ho with rfl | ⟨v, rfl⟩
      · rw [m255_24, hy]
        simp (disch := omega) only [rt_c, b_some, List.cons_append, List.nil_append, Bool.cond_not, cond_true, cond_false, Bool.cond_decide, nI_add, nI_clamp, xin_n, dle_e, dlt_e, deq_e, xb_0, xb_1, decide_true, decide_false, Bool.not_true, Bool.not_false, Bool.and_true, Bool.true_and, Bool.and_false, Bool.false_and, Bool.true_or, Bool.false_or, Bool.or_true, Bool.or_false, if_true, if_false, up1_s, n_31, Int32.lt_irrefl, h1, t255_67]
      · rw [m255_24_1, hy]
        simp (disch := omega) only [rt_c, b_some, List.cons_append, List.nil_append, Bool.cond_not, cond_true, cond_false, Bool.cond_decide, nI_add, nI_clamp, xin_n, dle_e, dlt_e, deq_e, xb_0, xb_1, decide_true, decide_false, Bool.not_true, Bool.not_false, Bool.and_true, Bool.true_and, Bool.and_false, Bool.false_and, Bool.true_or, Bool.false_or, Bool.or_true, Bool.or_false, if_true, if_false, up1_s, n_31, Int32.lt_irrefl, h1, t255_67]
  | succ q ih =>
    intro i I A n m x o ho hi hy hS hV
    have h1 : ¬ i + (q + 1) ≤ i := by omega
    obtain ⟨n1, m1, x1, I1, A1, e1, hS1, hV1, hF1, hn1, hy1, r1⟩ := dh_3 d sl N V lt tw sp sr b1 y (nI i) c1 c2 y (nI i) H 0 I A n m x (by omega) hS hV
    obtain ⟨n2, m2, x2, I2, A2, e2, hS2, hV2, hF2, hn2, hy2, -, r2⟩ := ih (i + 1) I1 A1 n1 m1 x1 (some (.int (nI H))) (Or.inr ⟨_, rfl⟩) (by omega) (by rw [hy]; congr 1; omega) hS1 hV1
    refine ⟨n2, m2, x2, I2, A2, ?_, hS2, hV2, Fr_tr hF1 hF2, fun k hk => by rw [hn2 k hk, hn1 k (by omega)], ?_, fun h => absurd h (by omega), ?_⟩
    · rw [nI_add] at e1
      rcases ho with rfl | ⟨v, rfl⟩
      · rw [k78_r3_r146_12, hy]
        simp (disch := omega) only [rt_c, b_some, List.cons_append, List.nil_append, Bool.cond_not, cond_true, cond_false, Bool.cond_decide, nI_add, nI_clamp, xin_n, dle_e, dlt_e, deq_e, xb_0, xb_1, decide_true, decide_false, Bool.not_true, Bool.not_false, Bool.and_true, Bool.true_and, Bool.and_false, Bool.false_and, Bool.true_or, Bool.false_or, Bool.or_true, Bool.or_false, if_true, if_false, up1_s, n_31, Int32.lt_irrefl, h1]
        rw [← hy, e1, e2]
      · rw [k78_r3_r146_12_1, hy]
        simp (disch := omega) only [rt_c, b_some, List.cons_append, List.nil_append, Bool.cond_not, cond_true, cond_false, Bool.cond_decide, nI_add, nI_clamp, xin_n, dle_e, dlt_e, deq_e, xb_0, xb_1, decide_true, decide_false, Bool.not_true, Bool.not_false, Bool.and_true, Bool.true_and, Bool.and_false, Bool.false_and, Bool.true_or, Bool.false_or, Bool.or_true, Bool.or_false, if_true, if_false, up1_s, n_31, Int32.lt_irrefl, h1]
        rw [← hy, e1, e2]
    · intro z hz
      rw [hy2 (z + 1) (by rw [hy1, hz, nI_add])]
      congr 1
      omega
    · intro sl2 J w B M hB hJ
      have r1' := r1 sl2 J w B M hB hJ
      rw [nI_add] at r1'
      have r2' := r2 sl2 (up1 J 34 x1) w (up1 B 2 n1) M up1_s up1_s
      rw [up1_up, up1_up] at r2'
      rcases ho with rfl | ⟨v, rfl⟩
      · rw [m255_24, hy]
        simp (disch := omega) only [rt_c, b_some, List.cons_append, List.nil_append, Bool.cond_not, cond_true, cond_false, Bool.cond_decide, nI_add, nI_clamp, xin_n, dle_e, dlt_e, deq_e, xb_0, xb_1, decide_true, decide_false, Bool.not_true, Bool.not_false, Bool.and_true, Bool.true_and, Bool.and_false, Bool.false_and, Bool.true_or, Bool.false_or, Bool.or_true, Bool.or_false, if_true, if_false, up1_s, n_31, Int32.lt_irrefl, h1]
        rw [← hy, r1', r2']
      · rw [m255_24_1, hy]
        simp (disch := omega) only [rt_c, b_some, List.cons_append, List.nil_append, Bool.cond_not, cond_true, cond_false, Bool.cond_decide, nI_add, nI_clamp, xin_n, dle_e, dlt_e, deq_e, xb_0, xb_1, decide_true, decide_false, Bool.not_true, Bool.not_false, Bool.and_true, Bool.true_and, Bool.and_false, Bool.false_and, Bool.true_or, Bool.false_or, Bool.or_true, Bool.or_false, if_true, if_false, up1_s, n_31, Int32.lt_irrefl, h1]
        rw [← hy, r1', r2']
/-- drawYears on both sides -/
theorem dd_3 (hS : Sh I A 3 n H m) (hV : Vd n H m) {yy v : Nat} (hyy : yy ≤ 400) (hY : n 70 = nI yy) (hv : v ≤ 60) (x : Int32) : ∃ n' m' x' I' A', C (d + 5) 78 [.ref 3, .int (nI v), .ref 146] sl (CH I A N V lt tw sp sr [.inr (0, [.int x])]) = some ([.int (nI (min v (400 - yy)))], sl, CH I' A' N V lt tw sp sr [.inr (0, [.int x'])]) ∧ Sh I' A' 3 n' H m' ∧ Vd n' H m' ∧ Fr 3 I A I' A' ∧ (∀ k, (k < 70 ∨ 127 ≤ k) → n' k = n k) ∧ n' 70 = nI (yy + min v (400 - yy)) ∧ (min v (400 - yy) = 0 → n' = n ∧ m' = m) ∧
    (∀ sl2 J w B M, B 2 = n → C (d + 5) 255 [.ref 0, .int (nI v), .int x] sl2 (RH J w B M) = some ([.int (nI (min v (400 - yy)))], sl2, RH (up1 J 34 x') w (up1 B 2 n') M)) := by
  have h76 := q76_3 (d + 4) sl I A N V lt tw sp sr [.inr (0, [.int x])] hS
  rw [hY, left_yr hyy] at h76
  have hmin : x_min (nI v) (nI (400 - yy)) = nI (min v (400 - yy)) := xmin_nn (by omega) (by omega)
  have hH6 := hV.1.2.2.1
  obtain ⟨n', m', x', I', A', e1, hS', hV', hF, hn, hy, h0, r1⟩ := dy_3 d sl N V lt tw sp sr (nI v) (nI (min v (400 - yy))) (nI v) x hH6 (min v (400 - yy)) 0 I A n m x none (Or.inl rfl) (by omega) (by rw [Nat.zero_add]) hS hV
  refine ⟨n', m', x', I', A', ?_, hS', hV', hF, hn, hy yy hY, h0, ?_⟩
  · rw [e78, k78_r3_r146_0, h76]
    simp (disch := omega) only [rt_c, b_some, List.cons_append, List.nil_append, Bool.cond_not, cond_true, cond_false, Bool.cond_decide, nI_add, nI_clamp, xin_n, dle_e, dlt_e, deq_e, xb_0, xb_1, decide_true, decide_false, Bool.not_true, Bool.not_false, Bool.and_true, Bool.true_and, Bool.and_false, Bool.false_and, Bool.true_or, Bool.false_or, Bool.or_true, Bool.or_false, if_true, if_false, up1_s, n_31, Int32.lt_irrefl, k78_r3_r146_5, hmin, e1]
  · intro sl2 J w B M hB
    have r1' := r1 sl2 (up1 J 34 x) w B M hB up1_s
    rw [up1_up] at r1'
    have hs : nI 400 - nI yy = nI (400 - yy) := nI_sub hyy
    rw [e255, m255_0, c169, hB, hY, hs, hmin]
    simp (disch := omega) only [rt_c, b_some, List.cons_append, List.nil_append, Bool.cond_not, cond_true, cond_false, Bool.cond_decide, nI_add, nI_clamp, xin_n, dle_e, dlt_e, deq_e, xb_0, xb_1, decide_true, decide_false, Bool.not_true, Bool.not_false, Bool.and_true, Bool.true_and, Bool.and_false, Bool.false_and, Bool.true_or, Bool.false_or, Bool.or_true, Bool.or_false, if_true, if_false, up1_s, n_31, Int32.lt_irrefl, m255_20, r1']
theorem dr_12 (hS : Sh I A 12 n H m) (hV : Vd n H m) {h : Nat} (hh : h < H) (x : Int32) : ∃ n' m' x' I' A', C (d + 4) 79 [.ref 12, .int (nI h), .ref 146] sl (CH I A N V lt tw sp sr [.inr (0, [.int x])]) = some ([], sl, CH I' A' N V lt tw sp sr [.inr (0, [.int x'])]) ∧ Sh I' A' 12 n' H m' ∧ Vd n' H m' ∧ Fr 12 I A I' A' ∧ (∀ k, (k < 71 ∨ 127 ≤ k) → n' k = n k) ∧
    (∀ sl2 J w B M, B 2 = n → J 34 = x → C (d + 4) 254 [.ref 0, .int (nI h)] sl2 (RH J w B M) = some ([], sl2, RH (up1 J 34 x') w (up1 B 2 n') M)) := by
  obtain ⟨hH, hD, hH6, hm⟩ := hV.1
  obtain ⟨-, hcD, -, -⟩ := (sh_12 hS).1
  have e1 := q7 (d + 3) sl I A N V lt tw sp sr x (c := 6) (by omega) (by omega)
  have hu := Nat.mod_lt (dN x) (show 0 < 6 by omega)
  have r1 := fun sl2 J w B M (hJ : J 34 = x) => c252 (d + 3) sl2 J w B M hJ (c := 6) (by omega) (by omega)
  generalize dN x % 6 = u at e1 hu r1
  have e3 := q7 (d + 3) sl I A N V lt tw sp sr (nxt (nxt x)) (c := 20) (by omega) (by omega)
  have r3 := fun sl2 J w B M => c252 (d + 3) sl2 (up1 J 34 (nxt (nxt x))) w B M up1_s (c := 20) (by omega) (by omega)
  have hy := Nat.mod_lt (dN (nxt (nxt x))) (show 0 < 20 by omega)
  generalize dN (nxt (nxt x)) % 20 = y at e3 hy r3
  simp only [up1_up] at r3
  rcases (show u = 0 ∨ u = 1 ∨ u = 2 ∨ u = 3 ∨ (u = 4 ∨ u = 5) by omega) with rfl | hu1
  · -- a house borrows
    have e2 := q7 (d + 3) sl I A N V lt tw sp sr (nxt x) (c := H) (by omega) (by omega)
    have r2 := fun sl2 J w B M => c252 (d + 3) sl2 (up1 J 34 (nxt x)) w B M up1_s (c := H) (by omega) (by omega)
    have hg := Nat.mod_lt (dN (nxt x)) (show 0 < H by omega)
    generalize dN (nxt x) % H = g at e2 hg r2
    simp only [up1_up] at r2
    by_cases hgh : g = h
    · subst hgh
      refine ⟨n, m, nxt (nxt (nxt x)), I, A, ?_, hS, hV, Fr_rf, fun _ _ => rfl, ?_⟩
      · obtain ⟨hcH, -⟩ := (sh_12 hS).1
        rw [e79, k79_r12_r146_0, e1]
        simp (disch := omega) only [rt_c, b_some, List.cons_append, List.nil_append, Bool.cond_not, cond_true, cond_false, Bool.cond_decide, nI_add, nI_clamp, xin_n, dle_e, dlt_e, deq_e, xb_0, xb_1, decide_true, decide_false, Bool.not_true, Bool.not_false, Bool.and_true, Bool.true_and, Bool.and_false, Bool.false_and, Bool.true_or, Bool.false_or, Bool.or_true, Bool.or_false, if_true, if_false, up1_s, n_31, Int32.lt_irrefl, k79_r12_r146_6, hcH, e2, k79_r12_r146_19, e3, k79_r12_r146_27, t79_121]
      · intro sl2 J w B M hB hJ
        rw [e254, m254_0, r1 sl2 J w B M hJ, ← hB, up1_id]
        simp (disch := omega) only [rt_c, b_some, List.cons_append, List.nil_append, Bool.cond_not, cond_true, cond_false, Bool.cond_decide, nI_add, nI_clamp, xin_n, dle_e, dlt_e, deq_e, xb_0, xb_1, decide_true, decide_false, Bool.not_true, Bool.not_false, Bool.and_true, Bool.true_and, Bool.and_false, Bool.false_and, Bool.true_or, Bool.false_or, Bool.or_true, Bool.or_false, if_true, if_false, up1_s, n_31, Int32.lt_irrefl, m254_6, hB, hH, r2, m254_21, r3, m254_28, m254_46_1, t254_65, t254_109]
    · obtain ⟨I', A', e4, hS', hF⟩ := q71_12 (d + 1) sl I A N V lt tw sp sr [.inr (0, [.int (nxt (nxt (nxt x)))])] hS hh hg (nI (y + 1))
      have hw : borW n m g (nI (y + 1)) = nI 0 → m < 12 := fun hw => by
        have := (borW_0 hw).1
        omega
      refine ⟨_, _, nxt (nxt (nxt x)), I', A', ?_, hS', ?_, hF, ?_, ?_⟩
      · obtain ⟨hcH, -⟩ := (sh_12 hS).1
        rw [e79, k79_r12_r146_0, e1]
        simp (disch := omega) only [rt_c, b_some, List.cons_append, List.nil_append, Bool.cond_not, cond_true, cond_false, Bool.cond_decide, nI_add, nI_clamp, xin_n, dle_e, dlt_e, deq_e, xb_0, xb_1, decide_true, decide_false, Bool.not_true, Bool.not_false, Bool.and_true, Bool.true_and, Bool.and_false, Bool.false_and, Bool.true_or, Bool.false_or, Bool.or_true, Bool.or_false, if_true, if_false, up1_s, n_31, Int32.lt_irrefl, k79_r12_r146_6, hcH, e2, k79_r12_r146_19, e3, k79_r12_r146_27, hgh, e4, k79_r12_r146_46, t79_121]
      · by_cases hv : borW n m g (nI (y + 1)) = nI 0
        · rw [if_pos hv, if_pos hv]
          exact Vd_bor hV hh hg (fun e => hgh e.symm) (by omega) hv
        · rw [if_neg hv, if_neg hv]
          exact hV
      · intro k hk
        split
        · rename_i hv
          exact borN_o (hw hv) (by omega) (by omega) hk
        · rfl
      · intro sl2 J w B M hB hJ
        subst hB
        have r4 := c253 (d + 2) sl2 (up1 J 34 (nxt (nxt (nxt x)))) w B M (nI 1) (nI h) (nI g) (nI (y + 1)) (borW (B 2) m g (nI (y + 1))) (n' := borN (B 2) m h g (nI (y + 1))) (c219_1 d sl2 _ w B M hm hD (by omega) _ _) (fun hv => c221_1 (d + 1) sl2 _ w B M (hw hv) hD (by omega) (by omega) _)
        rw [e254, m254_0, r1 sl2 J w B M hJ]
        simp (disch := omega) only [rt_c, b_some, List.cons_append, List.nil_append, Bool.cond_not, cond_true, cond_false, Bool.cond_decide, nI_add, nI_clamp, xin_n, dle_e, dlt_e, deq_e, xb_0, xb_1, decide_true, decide_false, Bool.not_true, Bool.not_false, Bool.and_true, Bool.true_and, Bool.and_false, Bool.false_and, Bool.true_or, Bool.false_or, Bool.or_true, Bool.or_false, if_true, if_false, up1_s, n_31, Int32.lt_irrefl, m254_6, hH, r2, m254_21, r3, m254_28, hgh, r4, m254_46_1, t254_65, t254_109]
  · by_cases hm0 : m = 0
    · subst hm0
      refine ⟨n, 0, nxt x, I, A, ?_, hS, hV, Fr_rf, fun _ _ => rfl, ?_⟩
      · rw [e79, k79_r12_r146_0, e1]
        rcases hu1 with rfl | rfl | rfl | rfl | rfl <;> simp (disch := omega) only [rt_c, b_some, List.cons_append, List.nil_append, Bool.cond_not, cond_true, cond_false, Bool.cond_decide, nI_add, nI_clamp, xin_n, dle_e, dlt_e, deq_e, xb_0, xb_1, decide_true, decide_false, Bool.not_true, Bool.not_false, Bool.and_true, Bool.true_and, Bool.and_false, Bool.false_and, Bool.true_or, Bool.false_or, Bool.or_true, Bool.or_false, if_true, if_false, up1_s, n_31, Int32.lt_irrefl, k79_r12_r146_6, hcD, Nat.le_refl, Nat.reduceEqDiff, Nat.one_ne_zero, t79_121]
      · intro sl2 J w B M hB hJ
        subst hB
        rw [e254, m254_0, r1 sl2 J w B M hJ, up1_id]
        rcases hu1 with rfl | rfl | rfl | rfl | rfl <;> simp (disch := omega) only [rt_c, b_some, List.cons_append, List.nil_append, Bool.cond_not, cond_true, cond_false, Bool.cond_decide, nI_add, nI_clamp, xin_n, dle_e, dlt_e, deq_e, xb_0, xb_1, decide_true, decide_false, Bool.not_true, Bool.not_false, Bool.and_true, Bool.true_and, Bool.and_false, Bool.false_and, Bool.true_or, Bool.false_or, Bool.or_true, Bool.or_false, if_true, if_false, up1_s, n_31, Int32.lt_irrefl, m254_6, m254_46, hD, Nat.reduceEqDiff, Nat.one_ne_zero, Nat.reduceLT, t254_65, t254_109]
    · have hm0' : ¬ m ≤ 0 := by omega
      have e2 := q7 (d + 3) sl I A N V lt tw sp sr (nxt x) (c := m) (by omega) (by omega)
      have r2 := fun sl2 J w B M => c252 (d + 3) sl2 (up1 J 34 (nxt x)) w B M up1_s (c := m) (by omega) (by omega)
      have hg := Nat.mod_lt (dN (nxt x)) (show 0 < m by omega)
      generalize dN (nxt x) % m = g at e2 hg r2
      simp only [up1_up] at r2
      have hwh := (Vd_wh hV hg).2
      have hwm := (Vd_wm hV hg).2
      have hpay : (u = 1 ∨ u = 2) → ∃ n' m' x' I' A', C (d + 4) 79 [.ref 12, .int (nI h), .ref 146] sl (CH I A N V lt tw sp sr [.inr (0, [.int x])]) = some ([], sl, CH I' A' N V lt tw sp sr [.inr (0, [.int x'])]) ∧ Sh I' A' 12 n' H m' ∧ Vd n' H m' ∧ Fr 12 I A I' A' ∧ (∀ k, (k < 71 ∨ 127 ≤ k) → n' k = n k) ∧
          (∀ sl2 J w B M, B 2 = n → J 34 = x → C (d + 4) 254 [.ref 0, .int (nI h)] sl2 (RH J w B M) = some ([], sl2, RH (up1 J 34 x') w (up1 B 2 n') M)) := by
        intro hu2
        obtain ⟨I', A', e4, hS', hF⟩ := q70_12 (d + 1) sl I A N V lt tw sp sr [.inr (0, [.int (nxt (nxt (nxt x)))])] hS hV hg (nI (y + 1))
        refine ⟨_, _, nxt (nxt (nxt x)), I', A', ?_, hS', ?_, hF, ?_, ?_⟩
        · rw [e79, k79_r12_r146_0, e1]
          rcases hu2 with rfl | rfl <;> simp (disch := omega) only [rt_c, b_some, List.cons_append, List.nil_append, Bool.cond_not, cond_true, cond_false, Bool.cond_decide, nI_add, nI_clamp, xin_n, dle_e, dlt_e, deq_e, xb_0, xb_1, decide_true, decide_false, Bool.not_true, Bool.not_false, Bool.and_true, Bool.true_and, Bool.and_false, Bool.false_and, Bool.true_or, Bool.false_or, Bool.or_true, Bool.or_false, if_true, if_false, up1_s, n_31, Int32.lt_irrefl, k79_r12_r146_6, hcD, hm0', Nat.reduceEqDiff, Nat.one_ne_zero, e2, k79_r12_r146_75, e3, k79_r12_r146_86, e4, k79_r12_r146_91, t79_121]
        · by_cases hv : payW n g (nI (y + 1)) = nI 0
          · rw [if_pos hv]
            exact Vd_pay hV hg (by rw [nI_leI (by omega) (by omega)]; omega) hv
          · rw [if_neg hv]
            exact hV
        · intro k hk
          split
          · exact payN_o (by omega) (by omega) (by omega) hk
          · rfl
        · intro sl2 J w B M hB hJ
          subst hB
          have r4 := c253 (d + 2) sl2 (up1 J 34 (nxt (nxt (nxt x)))) w B M (nI 0) (nI g) (nI (y + 1)) (nI 0) (payW (B 2) g (nI (y + 1))) (n' := payN (B 2) g (nI (y + 1))) (c219_0 d sl2 _ w B M hV hg _ _) (fun hv => c221_0 (d + 1) sl2 _ w B M hV hg _ _)
          rw [e254, m254_0, r1 sl2 J w B M hJ]
          rcases hu2 with rfl | rfl <;> simp (disch := omega) only [rt_c, b_some, List.cons_append, List.nil_append, Bool.cond_not, cond_true, cond_false, Bool.cond_decide, nI_add, nI_clamp, xin_n, dle_e, dlt_e, deq_e, xb_0, xb_1, decide_true, decide_false, Bool.not_true, Bool.not_false, Bool.and_true, Bool.true_and, Bool.and_false, Bool.false_and, Bool.true_or, Bool.false_or, Bool.or_true, Bool.or_false, if_true, if_false, up1_s, n_31, Int32.lt_irrefl, m254_6, m254_46, hD, hm0, Nat.reduceEqDiff, Nat.one_ne_zero, Nat.reduceLT, r2, m254_77, r3, m254_103, r4, m254_109, t254_65, t254_109]
      rcases hu1 with rfl | rfl | rfl | hu2
      · exact hpay (Or.inl rfl)
      · exact hpay (Or.inr rfl)
      · obtain ⟨I', A', e4, hS', hF⟩ := q72_12 (d + 1) sl I A N V lt tw sp sr [.inr (0, [.int (nxt (nxt x))])] hS hV hg hh
        refine ⟨_, _, nxt (nxt x), I', A', ?_, hS', ?_, hF, ?_, ?_⟩
        · rw [e79, k79_r12_r146_0, e1]
          simp (disch := omega) only [rt_c, b_some, List.cons_append, List.nil_append, Bool.cond_not, cond_true, cond_false, Bool.cond_decide, nI_add, nI_clamp, xin_n, dle_e, dlt_e, deq_e, xb_0, xb_1, decide_true, decide_false, Bool.not_true, Bool.not_false, Bool.and_true, Bool.true_and, Bool.and_false, Bool.false_and, Bool.true_or, Bool.false_or, Bool.or_true, Bool.or_false, if_true, if_false, up1_s, n_31, Int32.lt_irrefl, k79_r12_r146_6, hcD, hm0', Nat.reduceEqDiff, Nat.one_ne_zero, e2, k79_r12_r146_116, e4, k79_r12_r146_120, t79_121]
        · by_cases hv : selW n g h = nI 0
          · rw [if_pos hv]
            exact Vd_sel hV hg hh hv
          · rw [if_neg hv]
            exact hV
        · intro k hk
          split
          · exact selN_o (by omega) (by omega) (by omega) hk
          · rfl
        · intro sl2 J w B M hB hJ
          subst hB
          have r4 := c253 (d + 2) sl2 (up1 J 34 (nxt (nxt x))) w B M (nI 2) (nI g) (nI h) (nI 0) (selW (B 2) g h) (n' := selN (B 2) g h) (c219_2 d sl2 _ w B M (by omega) (by omega) _) (fun hv => c221_2 (d + 1) sl2 _ w B M hV hg (by omega) _)
          rw [e254, m254_0, r1 sl2 J w B M hJ]
          simp (disch := omega) only [rt_c, b_some, List.cons_append, List.nil_append, Bool.cond_not, cond_true, cond_false, Bool.cond_decide, nI_add, nI_clamp, xin_n, dle_e, dlt_e, deq_e, xb_0, xb_1, decide_true, decide_false, Bool.not_true, Bool.not_false, Bool.and_true, Bool.true_and, Bool.and_false, Bool.false_and, Bool.true_or, Bool.false_or, Bool.or_true, Bool.or_false, if_true, if_false, up1_s, n_31, Int32.lt_irrefl, m254_6, m254_46, hD, hm0, Nat.reduceEqDiff, Nat.one_ne_zero, Nat.reduceLT, r2, m254_77, r4, m254_91, m254_109, t254_65, t254_109]
      · refine ⟨n, m, nxt x, I, A, ?_, hS, hV, Fr_rf, fun _ _ => rfl, ?_⟩
        · rw [e79, k79_r12_r146_0, e1]
          rcases hu2 with rfl | rfl <;> simp (disch := omega) only [rt_c, b_some, List.cons_append, List.nil_append, Bool.cond_not, cond_true, cond_false, Bool.cond_decide, nI_add, nI_clamp, xin_n, dle_e, dlt_e, deq_e, xb_0, xb_1, decide_true, decide_false, Bool.not_true, Bool.not_false, Bool.and_true, Bool.true_and, Bool.and_false, Bool.false_and, Bool.true_or, Bool.false_or, Bool.or_true, Bool.or_false, if_true, if_false, up1_s, n_31, Int32.lt_irrefl, k79_r12_r146_6, hcD, hm0', Nat.reduceEqDiff, Nat.one_ne_zero, t79_121]
        · intro sl2 J w B M hB hJ
          subst hB
          rw [e254, m254_0, r1 sl2 J w B M hJ, up1_id]
          rcases hu2 with rfl | rfl <;> simp (disch := omega) only [rt_c, b_some, List.cons_append, List.nil_append, Bool.cond_not, cond_true, cond_false, Bool.cond_decide, nI_add, nI_clamp, xin_n, dle_e, dlt_e, deq_e, xb_0, xb_1, decide_true, decide_false, Bool.not_true, Bool.not_false, Bool.and_true, Bool.true_and, Bool.and_false, Bool.false_and, Bool.true_or, Bool.false_or, Bool.or_true, Bool.or_false, if_true, if_false, up1_s, n_31, Int32.lt_irrefl, m254_6, m254_46, hD, hm0, Nat.reduceEqDiff, Nat.one_ne_zero, Nat.reduceLT, t254_65, t254_109]
/-- the draws of one year -/
theorem dh_12 (b1 b3 b4 : Int32) (c1 c2 c3 c4 : Int32) : ∀ (q i : Nat) (I A : Nat → Nat → Int32) (n : Nat → Int32) (m : Nat) (x : Int32), i + q = H → Sh I A 12 n H m → Vd n H m → ∃ n' m' x' I' A', rt 78 (R (d + 5) 78 (21, [some (.ref 12), some (.int b1), some (.ref 146), some (.int b3), some (.int b4), some (.int (nI i))], [], sl, CH I A N V lt tw sp sr [.inr (0, [.int x])])) = rt 78 (R (d + 5) 78 (12, [some (.ref 12), some (.int b1), some (.ref 146), some (.int b3), some (.int (b4 + nI 1)), some (.int (nI H))], [], sl, CH I' A' N V lt tw sp sr [.inr (0, [.int x'])])) ∧ Sh I' A' 12 n' H m' ∧ Vd n' H m' ∧ Fr 12 I A I' A' ∧ (∀ k, (k < 70 ∨ 127 ≤ k) → n' k = n k) ∧ n' 70 = n 70 + nI 1 ∧
    (∀ sl2 J w B M, B 2 = n → J 34 = x → rt 255 (R (d + 5) 255 (33, [some (.ref 0), some (.int c1), some (.int c2), some (.int c3), some (.int c4), some (.int (nI i))], [], sl2, RH J w B M)) = rt 255 (R (d + 5) 255 (24, [some (.ref 0), some (.int c1), some (.int c2), some (.int c3), some (.int (c4 + nI 1)), some (.int (nI H))], [], sl2, RH (up1 J 34 x') w (up1 B 2 n') M))) := by
  intro q
  induction q with
  | zero =>
    intro i I A n m x hi hS hV
    have hi' : i = H := by omega
    subst hi'
    obtain ⟨hcH, -, hH6, -⟩ := (sh_12 hS).1
    obtain ⟨I', A', e1, hS', hF⟩ := q77_12 (d + 4) sl I A N V lt tw sp sr [.inr (0, [.int x])] hS hV
    obtain ⟨hH, -, -, hm⟩ := hV.1
    refine ⟨_, m, x, I', A', ?_, hS', Vd_year hV, hF, fun k hk => year_o n hH6 hm (by omega) (by omega), year_70 n, ?_⟩
    · rw [k78_r12_r146_21]
      simp (disch := omega) only [rt_c, b_some, List.cons_append, List.nil_append, Bool.cond_not, cond_true, cond_false, Bool.cond_decide, nI_add, nI_clamp, xin_n, dle_e, dlt_e, deq_e, xb_0, xb_1, decide_true, decide_false, Bool.not_true, Bool.not_false, Bool.and_true, Bool.true_and, Bool.and_false, Bool.false_and, Bool.true_or, Bool.false_or, Bool.or_true, Bool.or_false, if_true, if_false, up1_s, n_31, Int32.lt_irrefl, hcH, Nat.le_refl, e1, k78_r12_r146_47]
    · intro sl2 J w B M hB hJ
      subst hB
      have r1 := c229 (d + 3) sl2 J w B M hV
      rw [m255_33, ← hJ, up1_id]
      simp (disch := omega) only [rt_c, b_some, List.cons_append, List.nil_append, Bool.cond_not, cond_true, cond_false, Bool.cond_decide, nI_add, nI_clamp, xin_n, dle_e, dlt_e, deq_e, xb_0, xb_1, decide_true, decide_false, Bool.not_true, Bool.not_false, Bool.and_true, Bool.true_and, Bool.and_false, Bool.false_and, Bool.true_or, Bool.false_or, Bool.or_true, Bool.or_false, if_true, if_false, up1_s, n_31, Int32.lt_irrefl, hH, Nat.le_refl, r1, m255_60]
  | succ q ih =>
    intro i I A n m x hi hS hV
    have h1 : ¬ H ≤ i := by omega
    obtain ⟨hcH, -, hH6, -⟩ := (sh_12 hS).1
    obtain ⟨hH, -, -, hm⟩ := hV.1
    obtain ⟨n1, m1, x1, I1, A1, e1, hS1, hV1, hF1, hn1, r1⟩ := dr_12 d sl I A N V lt tw sp sr hS hV (show i < H by omega) x
    obtain ⟨n2, m2, x2, I2, A2, e2, hS2, hV2, hF2, hn2, hy2, r2⟩ := ih (i + 1) I1 A1 n1 m1 x1 (by omega) hS1 hV1
    refine ⟨n2, m2, x2, I2, A2, ?_, hS2, hV2, Fr_tr hF1 hF2, fun k hk => by rw [hn2 k hk, hn1 k (by omega)], by rw [hy2, hn1 70 (by omega)], ?_⟩
    · rw [k78_r12_r146_21]
      simp (disch := omega) only [rt_c, b_some, List.cons_append, List.nil_append, Bool.cond_not, cond_true, cond_false, Bool.cond_decide, nI_add, nI_clamp, xin_n, dle_e, dlt_e, deq_e, xb_0, xb_1, decide_true, decide_false, Bool.not_true, Bool.not_false, Bool.and_true, Bool.true_and, Bool.and_false, Bool.false_and, Bool.true_or, Bool.false_or, Bool.or_true, Bool.or_false, if_true, if_false, up1_s, n_31, Int32.lt_irrefl, hcH, h1, e1, k78_r12_r146_37, e2]
    · intro sl2 J w B M hB hJ
      have r1' := r1 sl2 J w B M hB hJ
      have r2' := r2 sl2 (up1 J 34 x1) w (up1 B 2 n1) M up1_s up1_s
      rw [up1_up, up1_up] at r2'
      rw [m255_33]
      simp (disch := omega) only [rt_c, b_some, List.cons_append, List.nil_append, Bool.cond_not, cond_true, cond_false, Bool.cond_decide, nI_add, nI_clamp, xin_n, dle_e, dlt_e, deq_e, xb_0, xb_1, decide_true, decide_false, Bool.not_true, Bool.not_false, Bool.and_true, Bool.true_and, Bool.and_false, Bool.false_and, Bool.true_or, Bool.false_or, Bool.or_true, Bool.or_false, if_true, if_false, up1_s, n_31, Int32.lt_irrefl, hB, hH, h1, r1', m255_50, r2']
/-- years drawn -/
theorem dy_12 (b1 y : Int32) (c1 c2 : Int32) (hH0 : H ≤ 6) : ∀ (q i : Nat) (I A : Nat → Nat → Int32) (n : Nat → Int32) (m : Nat) (x : Int32) (o : Option Value), (o = none ∨ ∃ v, o = some (.int v)) → i + q < 2 ^ 31 → y = nI (i + q) → Sh I A 12 n H m → Vd n H m → ∃ n' m' x' I' A', rt 78 (R (d + 5) 78 (12, [some (.ref 12), some (.int b1), some (.ref 146), some (.int y), some (.int (nI i)), o], [], sl, CH I A N V lt tw sp sr [.inr (0, [.int x])])) = some ([.int y], sl, CH I' A' N V lt tw sp sr [.inr (0, [.int x'])]) ∧ Sh I' A' 12 n' H m' ∧ Vd n' H m' ∧ Fr 12 I A I' A' ∧ (∀ k, (k < 70 ∨ 127 ≤ k) → n' k = n k) ∧ (∀ z, n 70 = nI z → n' 70 = nI (z + q)) ∧ (q = 0 → n' = n ∧ m' = m) ∧
    (∀ sl2 J w B M, B 2 = n → J 34 = x → rt 255 (R (d + 5) 255 (24, [some (.ref 0), some (.int c1), some (.int c2), some (.int y), some (.int (nI i)), o], [], sl2, RH J w B M)) = some ([.int y], sl2, RH (up1 J 34 x') w (up1 B 2 n') M)) := by
  intro q
  induction q with
  | zero =>
    intro i I A n m x o ho hi hy hS hV
    have h1 : i + 0 ≤ i := by omega
    refine ⟨n, m, x, I, A, ?_, hS, hV, Fr_rf, fun _ _ => rfl, fun z hz => hz, fun _ => ⟨rfl, rfl⟩, ?_⟩
    · rcases ho with rfl | ⟨v, rfl⟩
      · rw [k78_r12_r146_12, hy]
        simp (disch := omega) only [rt_c, b_some, List.cons_append, List.nil_append, Bool.cond_not, cond_true, cond_false, Bool.cond_decide, nI_add, nI_clamp, xin_n, dle_e, dlt_e, deq_e, xb_0, xb_1, decide_true, decide_false, Bool.not_true, Bool.not_false, Bool.and_true, Bool.true_and, Bool.and_false, Bool.false_and, Bool.true_or, Bool.false_or, Bool.or_true, Bool.or_false, if_true, if_false, up1_s, n_31, Int32.lt_irrefl, h1, t78_54]
      · rw [k78_r12_r146_12_1, hy]
        simp (disch := omega) only [rt_c, b_some, List.cons_append, List.nil_append, Bool.cond_not, cond_true, cond_false, Bool.cond_decide, nI_add, nI_clamp, xin_n, dle_e, dlt_e, deq_e, xb_0, xb_1, decide_true, decide_false, Bool.not_true, Bool.not_false, Bool.and_true, Bool.true_and, Bool.and_false, Bool.false_and, Bool.true_or, Bool.false_or, Bool.or_true, Bool.or_false, if_true, if_false, up1_s, n_31, Int32.lt_irrefl, h1, t78_54]
    · intro sl2 J w B M hB hJ
      subst hB
      rw [← hJ, up1_id, up1_id]
      rcases ho with rfl | ⟨v, rfl⟩
      · rw [m255_24, hy]
        simp (disch := omega) only [rt_c, b_some, List.cons_append, List.nil_append, Bool.cond_not, cond_true, cond_false, Bool.cond_decide, nI_add, nI_clamp, xin_n, dle_e, dlt_e, deq_e, xb_0, xb_1, decide_true, decide_false, Bool.not_true, Bool.not_false, Bool.and_true, Bool.true_and, Bool.and_false, Bool.false_and, Bool.true_or, Bool.false_or, Bool.or_true, Bool.or_false, if_true, if_false, up1_s, n_31, Int32.lt_irrefl, h1, t255_67]
      · rw [m255_24_1, hy]
        simp (disch := omega) only [rt_c, b_some, List.cons_append, List.nil_append, Bool.cond_not, cond_true, cond_false, Bool.cond_decide, nI_add, nI_clamp, xin_n, dle_e, dlt_e, deq_e, xb_0, xb_1, decide_true, decide_false, Bool.not_true, Bool.not_false, Bool.and_true, Bool.true_and, Bool.and_false, Bool.false_and, Bool.true_or, Bool.false_or, Bool.or_true, Bool.or_false, if_true, if_false, up1_s, n_31, Int32.lt_irrefl, h1, t255_67]
  | succ q ih =>
    intro i I A n m x o ho hi hy hS hV
    have h1 : ¬ i + (q + 1) ≤ i := by omega
    obtain ⟨n1, m1, x1, I1, A1, e1, hS1, hV1, hF1, hn1, hy1, r1⟩ := dh_12 d sl N V lt tw sp sr b1 y (nI i) c1 c2 y (nI i) H 0 I A n m x (by omega) hS hV
    obtain ⟨n2, m2, x2, I2, A2, e2, hS2, hV2, hF2, hn2, hy2, -, r2⟩ := ih (i + 1) I1 A1 n1 m1 x1 (some (.int (nI H))) (Or.inr ⟨_, rfl⟩) (by omega) (by rw [hy]; congr 1; omega) hS1 hV1
    refine ⟨n2, m2, x2, I2, A2, ?_, hS2, hV2, Fr_tr hF1 hF2, fun k hk => by rw [hn2 k hk, hn1 k (by omega)], ?_, fun h => absurd h (by omega), ?_⟩
    · rw [nI_add] at e1
      rcases ho with rfl | ⟨v, rfl⟩
      · rw [k78_r12_r146_12, hy]
        simp (disch := omega) only [rt_c, b_some, List.cons_append, List.nil_append, Bool.cond_not, cond_true, cond_false, Bool.cond_decide, nI_add, nI_clamp, xin_n, dle_e, dlt_e, deq_e, xb_0, xb_1, decide_true, decide_false, Bool.not_true, Bool.not_false, Bool.and_true, Bool.true_and, Bool.and_false, Bool.false_and, Bool.true_or, Bool.false_or, Bool.or_true, Bool.or_false, if_true, if_false, up1_s, n_31, Int32.lt_irrefl, h1]
        rw [← hy, e1, e2]
      · rw [k78_r12_r146_12_1, hy]
        simp (disch := omega) only [rt_c, b_some, List.cons_append, List.nil_append, Bool.cond_not, cond_true, cond_false, Bool.cond_decide, nI_add, nI_clamp, xin_n, dle_e, dlt_e, deq_e, xb_0, xb_1, decide_true, decide_false, Bool.not_true, Bool.not_false, Bool.and_true, Bool.true_and, Bool.and_false, Bool.false_and, Bool.true_or, Bool.false_or, Bool.or_true, Bool.or_false, if_true, if_false, up1_s, n_31, Int32.lt_irrefl, h1]
        rw [← hy, e1, e2]
    · intro z hz
      rw [hy2 (z + 1) (by rw [hy1, hz, nI_add])]
      congr 1
      omega
    · intro sl2 J w B M hB hJ
      have r1' := r1 sl2 J w B M hB hJ
      rw [nI_add] at r1'
      have r2' := r2 sl2 (up1 J 34 x1) w (up1 B 2 n1) M up1_s up1_s
      rw [up1_up, up1_up] at r2'
      rcases ho with rfl | ⟨v, rfl⟩
      · rw [m255_24, hy]
        simp (disch := omega) only [rt_c, b_some, List.cons_append, List.nil_append, Bool.cond_not, cond_true, cond_false, Bool.cond_decide, nI_add, nI_clamp, xin_n, dle_e, dlt_e, deq_e, xb_0, xb_1, decide_true, decide_false, Bool.not_true, Bool.not_false, Bool.and_true, Bool.true_and, Bool.and_false, Bool.false_and, Bool.true_or, Bool.false_or, Bool.or_true, Bool.or_false, if_true, if_false, up1_s, n_31, Int32.lt_irrefl, h1]
        rw [← hy, r1', r2']
      · rw [m255_24_1, hy]
        simp (disch := omega) only [rt_c, b_some, List.cons_append, List.nil_append, Bool.cond_not, cond_true, cond_false, Bool.cond_decide, nI_add, nI_clamp, xin_n, dle_e, dlt_e, deq_e, xb_0, xb_1, decide_true, decide_false, Bool.not_true, Bool.not_false, Bool.and_true, Bool.true_and, Bool.and_false, Bool.false_and, Bool.true_or, Bool.false_or, Bool.or_true, Bool.or_false, if_true, if_false, up1_s, n_31, Int32.lt_irrefl, h1]
        rw [← hy, r1', r2']
/-- drawYears on both sides -/
theorem dd_12 (hS : Sh I A 12 n H m) (hV : Vd n H m) {yy v : Nat} (hyy : yy ≤ 400) (hY : n 70 = nI yy) (hv : v ≤ 60) (x : Int32) : ∃ n' m' x' I' A', C (d + 5) 78 [.ref 12, .int (nI v), .ref 146] sl (CH I A N V lt tw sp sr [.inr (0, [.int x])]) = some ([.int (nI (min v (400 - yy)))], sl, CH I' A' N V lt tw sp sr [.inr (0, [.int x'])]) ∧ Sh I' A' 12 n' H m' ∧ Vd n' H m' ∧ Fr 12 I A I' A' ∧ (∀ k, (k < 70 ∨ 127 ≤ k) → n' k = n k) ∧ n' 70 = nI (yy + min v (400 - yy)) ∧ (min v (400 - yy) = 0 → n' = n ∧ m' = m) ∧
    (∀ sl2 J w B M, B 2 = n → C (d + 5) 255 [.ref 0, .int (nI v), .int x] sl2 (RH J w B M) = some ([.int (nI (min v (400 - yy)))], sl2, RH (up1 J 34 x') w (up1 B 2 n') M)) := by
  have h76 := q76_12 (d + 4) sl I A N V lt tw sp sr [.inr (0, [.int x])] hS
  rw [hY, left_yr hyy] at h76
  have hmin : x_min (nI v) (nI (400 - yy)) = nI (min v (400 - yy)) := xmin_nn (by omega) (by omega)
  have hH6 := hV.1.2.2.1
  obtain ⟨n', m', x', I', A', e1, hS', hV', hF, hn, hy, h0, r1⟩ := dy_12 d sl N V lt tw sp sr (nI v) (nI (min v (400 - yy))) (nI v) x hH6 (min v (400 - yy)) 0 I A n m x none (Or.inl rfl) (by omega) (by rw [Nat.zero_add]) hS hV
  refine ⟨n', m', x', I', A', ?_, hS', hV', hF, hn, hy yy hY, h0, ?_⟩
  · rw [e78, k78_r12_r146_0, h76]
    simp (disch := omega) only [rt_c, b_some, List.cons_append, List.nil_append, Bool.cond_not, cond_true, cond_false, Bool.cond_decide, nI_add, nI_clamp, xin_n, dle_e, dlt_e, deq_e, xb_0, xb_1, decide_true, decide_false, Bool.not_true, Bool.not_false, Bool.and_true, Bool.true_and, Bool.and_false, Bool.false_and, Bool.true_or, Bool.false_or, Bool.or_true, Bool.or_false, if_true, if_false, up1_s, n_31, Int32.lt_irrefl, k78_r12_r146_5, hmin, e1]
  · intro sl2 J w B M hB
    have r1' := r1 sl2 (up1 J 34 x) w B M hB up1_s
    rw [up1_up] at r1'
    have hs : nI 400 - nI yy = nI (400 - yy) := nI_sub hyy
    rw [e255, m255_0, c169, hB, hY, hs, hmin]
    simp (disch := omega) only [rt_c, b_some, List.cons_append, List.nil_append, Bool.cond_not, cond_true, cond_false, Bool.cond_decide, nI_add, nI_clamp, xin_n, dle_e, dlt_e, deq_e, xb_0, xb_1, decide_true, decide_false, Bool.not_true, Bool.not_false, Bool.and_true, Bool.true_and, Bool.and_false, Bool.false_and, Bool.true_or, Bool.false_or, Bool.or_true, Bool.or_false, if_true, if_false, up1_s, n_31, Int32.lt_irrefl, m255_20, r1']
end DRW
