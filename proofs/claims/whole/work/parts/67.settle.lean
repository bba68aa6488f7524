/-! SETTLE, SIDE BY SIDE -/
def balS (n : Nat → Int32) (m h : Nat) : Int32 := sum_ n 91 m (nI h) - sum_ n 79 m (nI h)
def sumP (v : Nat → Int32) (P : Nat → Bool) (k : Nat) : Int32 := x_it (fun i s => cond (P i) (s + v i) s) 0 k (nI 0)
def cntP (P : Nat → Bool) (k : Nat) : Nat := x_it (fun i s => cond (P i) (s + 1) s) 0 k 0
theorem sumP_succ (v : Nat → Int32) (P : Nat → Bool) (k : Nat) : sumP v P (k + 1) = cond (P k) (sumP v P k + v k) (sumP v P k) := by
  unfold sumP
  rw [x_it_succ, Nat.zero_add]
theorem cntP_succ (P : Nat → Bool) (k : Nat) : cntP P (k + 1) = cond (P k) (cntP P k + 1) (cntP P k) := by
  unfold cntP
  rw [x_it_succ, Nat.zero_add]
theorem sumP_congr {v : Nat → Int32} {P P' : Nat → Bool} : ∀ k, (∀ i, i < k → P' i = P i) → sumP v P' k = sumP v P k
  | 0, _ => rfl
  | k + 1, h => by rw [sumP_succ, sumP_succ, h k (by omega), sumP_congr k (fun i hi => h i (by omega))]
theorem cntP_congr {P P' : Nat → Bool} : ∀ k, (∀ i, i < k → P' i = P i) → cntP P' k = cntP P k
  | 0, _ => rfl
  | k + 1, h => by rw [cntP_succ, cntP_succ, h k (by omega), cntP_congr k (fun i hi => h i (by omega))]
theorem sumP_rem {v : Nat → Int32} {P P' : Nat → Bool} {h : Nat} (hP : P h = true) (hP' : ∀ i, P' i = (P i && !decide (i = h))) : ∀ k, sumP v P k = sumP v P' k + (if h < k then v h else nI 0)
  | 0 => by rw [if_neg (by omega)]; rfl
  | k + 1 => by
    rw [sumP_succ, sumP_succ, sumP_rem hP hP' k, hP' k]
    by_cases hk : k = h
    · subst hk
      rw [hP, if_neg (by omega), if_pos (by omega)]
      simp only [decide_true, Bool.not_true, Bool.and_false, cond_true, cond_false]
      rw [nI_z]
    · rw [decide_eq_false hk]
      have hlt : (if h < k + 1 then v h else nI 0) = (if h < k then v h else nI 0) := by
        by_cases h1 : h < k
        · rw [if_pos h1, if_pos (by omega)]
        · rw [if_neg h1, if_neg (by omega)]
      rw [hlt]
      simp only [Bool.not_false, Bool.and_true]
      cases P k with
      | false => rfl
      | true =>
        simp only [cond_true]
        rw [Int32.add_assoc, Int32.add_comm (if h < k then v h else nI 0), ← Int32.add_assoc]
theorem cntP_rem {P P' : Nat → Bool} {h : Nat} (hP : P h = true) (hP' : ∀ i, P' i = (P i && !decide (i = h))) : ∀ k, cntP P k = cntP P' k + (if h < k then 1 else 0)
  | 0 => by rw [if_neg (by omega)]; rfl
  | k + 1 => by
    rw [cntP_succ, cntP_succ, cntP_rem hP hP' k, hP' k]
    by_cases hk : k = h
    · subst hk
      rw [hP, if_neg (by omega), if_pos (by omega)]
      simp
    · rw [decide_eq_false hk]
      have hlt : (if h < k + 1 then 1 else 0) = (if h < k then 1 else 0) := by
        by_cases h1 : h < k
        · rw [if_pos h1, if_pos (by omega)]
        · rw [if_neg h1, if_neg (by omega)]
      rw [hlt]
      simp only [Bool.not_false, Bool.and_true]
      cases P k with
      | false => rfl
      | true =>
        simp only [cond_true]
        omega
/-- the most of f over a set -/
def mxP (P : Nat → Bool) (f : Nat → Nat) : Nat := x_it (fun h b => cond (P h) (max b (f h)) b) 0 6 0
theorem mxP_ge {P : Nat → Bool} {f : Nat → Nat} {h : Nat} (hh : h < 6) (hP : P h = true) : f h ≤ mxP P f := by
  have key : ∀ k, h < k → f h ≤ x_it (fun h b => cond (P h) (max b (f h)) b) 0 k 0 := by
    intro k
    induction k with
    | zero => intro h; omega
    | succ k ih =>
      intro hk
      rw [x_it_succ, Nat.zero_add]
      by_cases hkh : k = h
      · subst hkh
        rw [hP]
        exact Nat.le_max_right _ _
      · have := ih (by omega)
        cases P k with
        | false => exact this
        | true => exact Nat.le_trans this (Nat.le_max_left _ _)
  exact key 6 hh
theorem mxP_le {P : Nat → Bool} {f : Nat → Nat} {b : Nat} (hx : ∀ h, h < 6 → P h = true → f h ≤ b) : mxP P f ≤ b := by
  have := x_it_inv (f := fun h b => cond (P h) (max b (f h)) b) (fun _ g => g ≤ b) 6 0 0 (Nat.zero_le _) (fun j c _ hj h => by
    cases hp : P j with
    | false => exact h
    | true =>
      show max c (f j) ≤ b
      have := hx j (by omega) hp
      omega)
  exact this
theorem mxP_att {P : Nat → Bool} {f : Nat → Nat} (hx : ∃ h, h < 6 ∧ P h = true) : ∃ h, h < 6 ∧ P h = true ∧ mxP P f = f h := by
  have key : ∀ k, k ≤ 6 → (x_it (fun h b => cond (P h) (max b (f h)) b) 0 k 0 = 0 ∨ ∃ h, h < k ∧ P h = true ∧ x_it (fun h b => cond (P h) (max b (f h)) b) 0 k 0 = f h) := by
    intro k
    induction k with
    | zero => intro _; exact Or.inl rfl
    | succ k ih =>
      intro hk
      rw [x_it_succ, Nat.zero_add]
      cases hp : P k with
      | false =>
        rcases ih (by omega) with h | ⟨h, h1, h2, h3⟩
        · exact Or.inl h
        · exact Or.inr ⟨h, by omega, h2, h3⟩
      | true =>
        simp only [cond_true]
        by_cases hle : x_it (fun h b => cond (P h) (max b (f h)) b) 0 k 0 ≤ f k
        · exact Or.inr ⟨k, by omega, hp, Nat.max_eq_right hle⟩
        · rcases ih (by omega) with h | ⟨h, h1, h2, h3⟩
          · omega
          · exact Or.inr ⟨h, by omega, h2, by rw [Nat.max_eq_left (by omega)]; exact h3⟩
  rcases key 6 (Nat.le_refl _) with h | ⟨h, h1, h2, h3⟩
  · obtain ⟨j, j1, j2⟩ := hx
    refine ⟨j, j1, j2, ?_⟩
    have := mxP_ge (f := f) j1 j2
    unfold mxP at this ⊢
    omega
  · exact ⟨h, h1, h2, h3⟩
set_option maxRecDepth 100000 in
theorem tb_fin : ∀ s : Fin 64, ∀ h i : Fin 6, s.val.testBit h.val = true → (s.val - 1 <<< h.val).testBit i.val = (s.val.testBit i.val && !decide (i.val = h.val)) ∧ 1 <<< h.val ≤ s.val := by decide +kernel
theorem tb_le {s h : Nat} (hs : s < 64) (hh : h < 6) (hb : s.testBit h = true) : 1 <<< h ≤ s := (tb_fin ⟨s, hs⟩ ⟨h, hh⟩ ⟨0, by omega⟩ hb).2
theorem one_le_shl (h : Nat) : 1 ≤ 1 <<< h := by
  rw [Nat.one_shiftLeft]
  exact Nat.two_pow_pos h
theorem tb_hi {s i : Nat} (hs : s < 64) (hi : 6 ≤ i) : s.testBit i = false := Nat.testBit_lt_two_pow (Nat.lt_of_lt_of_le hs (Nat.pow_le_pow_right (n := 2) (by decide) hi))
theorem tb_sub {s h : Nat} (hs : s < 64) (hh : h < 6) (hb : s.testBit h = true) (i : Nat) : (s - 1 <<< h).testBit i = (s.testBit i && !decide (i = h)) := by
  by_cases hi : i < 6
  · exact (tb_fin ⟨s, hs⟩ ⟨h, hh⟩ ⟨i, hi⟩ hb).1
  · rw [tb_hi (s := s - 1 <<< h) (Nat.lt_of_le_of_lt (Nat.sub_le _ _) hs) (by omega), tb_hi hs (by omega)]
    rfl
def czP (o s : Nat) : Nat := cntP (fun i => s.testBit i && !o.testBit i) 6
/-- both tables at their ends -/
theorem settle_eq {H o : Nat} {v : Nat → Int32} {mo c : Nat → Nat} (hH : H ≤ 6) (ho : o < 2 ^ H) (hv : ∀ h, h < H → o.testBit h = false → v h = nI 0) (m0 : mo 0 = 0)
    (hm : ∀ s, 1 ≤ s → s < 2 ^ H → mo s = mxP s.testBit (fun h => mo (s - 1 <<< h)) + (if sumP v s.testBit 6 = nI 0 then 1 else 0)) (c0 : c 0 = 0)
    (hc : ∀ s, 1 ≤ s → s < 64 → s &&& o = s → c s = mxP s.testBit (fun h => c (s - 1 <<< h)) + (if sumP v s.testBit 6 = nI 0 then 1 else 0)) : ∀ s, s < 2 ^ H → mo s = c (s &&& o) + czP o s := by
  have h64 : 2 ^ H ≤ 2 ^ 6 := Nat.pow_le_pow_right (by decide) hH
  intro s
  induction s using Nat.strongRecOn with
  | ind s ih =>
    intro hs
    by_cases hs0 : s = 0
    · subst hs0
      rw [m0, Nat.zero_and, c0]
      have : czP o 0 = 0 := by
        unfold czP
        have : cntP (fun i => (0 : Nat).testBit i && !o.testBit i) 6 = cntP (fun _ => false) 6 := cntP_congr 6 (fun i _ => by simp)
        rw [this]; rfl
      rw [this]
    · have hT64 : s &&& o < 64 := Nat.lt_of_le_of_lt Nat.and_le_left (by omega)
      have hTo : (s &&& o) &&& o = s &&& o := by rw [Nat.and_assoc, Nat.and_self]
      have hTb : ∀ i, (s &&& o).testBit i = (s.testBit i && o.testBit i) := fun i => Nat.testBit_and _ _ _
      -- the same sum
      have hbH : ∀ i, s.testBit i = true → i < H := by
        intro i hi
        apply Nat.lt_of_not_le
        intro hle
        rw [Nat.testBit_lt_two_pow (Nat.lt_of_lt_of_le hs (Nat.pow_le_pow_right (n := 2) (by decide) hle))] at hi
        cases hi
      have hsum : sumP v s.testBit 6 = sumP v (s &&& o).testBit 6 := by
        have key : ∀ k, k ≤ 6 → sumP v s.testBit k = sumP v (s &&& o).testBit k := by
          intro k
          induction k with
          | zero => intro _; rfl
          | succ k ihk =>
            intro hk
            rw [sumP_succ, sumP_succ, ihk (by omega), hTb]
            cases hsk : s.testBit k with
            | false => rfl
            | true =>
              cases hok : o.testBit k with
              | true => rfl
              | false =>
                rw [hv k (hbH k hsk) hok]
                simp only [Bool.and_false, cond_true, cond_false]
                exact nI_z _
        exact key 6 (Nat.le_refl _)
      -- one less
      have hin : ∀ h, h < 6 → s.testBit h = true → o.testBit h = true → mo (s - 1 <<< h) = c ((s &&& o) - 1 <<< h) + czP o s := by
        intro h hh hb hob
        have hT : (s &&& o).testBit h = true := by rw [hTb, hb, hob]; rfl
        have hle := tb_le (show s < 64 by omega) hh hb
        have h1s := one_le_shl h
        rw [ih (s - 1 <<< h) (by omega) (by omega)]
        have e1 : (s - 1 <<< h) &&& o = (s &&& o) - 1 <<< h := by
          apply Nat.eq_of_testBit_eq
          intro i
          rw [Nat.testBit_and, tb_sub (by omega) hh hb, tb_sub hT64 hh hT, hTb]
          cases s.testBit i <;> cases o.testBit i <;> simp
        have e2 : czP o (s - 1 <<< h) = czP o s := by
          unfold czP
          apply cntP_congr
          intro i hi
          rw [tb_sub (by omega) hh hb]
          by_cases hih : i = h
          · subst hih
            rw [hob]; simp
          · simp [hih]
        rw [e1, e2]
      have hout : ∀ h, h < 6 → s.testBit h = true → o.testBit h = false → mo (s - 1 <<< h) + 1 = c (s &&& o) + czP o s := by
        intro h hh hb hob
        have hle := tb_le (show s < 64 by omega) hh hb
        have h1s := one_le_shl h
        rw [ih (s - 1 <<< h) (by omega) (by omega)]
        have e1 : (s - 1 <<< h) &&& o = s &&& o := by
          apply Nat.eq_of_testBit_eq
          intro i
          rw [Nat.testBit_and, tb_sub (by omega) hh hb, hTb]
          by_cases hih : i = h
          · subst hih
            rw [hob]; simp
          · simp [hih]
        have e2 : czP o s = czP o (s - 1 <<< h) + 1 := by
          unfold czP
          have := cntP_rem (P := fun i => s.testBit i && !o.testBit i) (P' := fun i => (s - 1 <<< h).testBit i && !o.testBit i) (h := h) (by rw [hb, hob]; rfl) (fun i => by
            rw [tb_sub (by omega) hh hb]
            cases s.testBit i <;> cases o.testBit i <;> simp) 6
          rw [this, if_pos hh]
        rw [e1, e2]
        omega
      have hne : ∃ h, h < 6 ∧ s.testBit h = true := by
        apply Classical.byContradiction
        intro hno
        apply hs0
        apply Nat.eq_of_testBit_eq
        intro i
        rw [Nat.zero_testBit]
        cases hi : s.testBit i with
        | false => rfl
        | true => exact absurd ⟨i, Nat.lt_of_lt_of_le (hbH i hi) hH, hi⟩ hno
      rw [hm s (by omega) hs, hsum]
      by_cases hT0 : s &&& o = 0
      · have hall : ∀ h, s.testBit h = true → o.testBit h = false := by
          intro h hb
          have := hTb h
          rw [hT0, Nat.zero_testBit, hb, Bool.true_and] at this
          exact this.symm
        have he : sumP v (s &&& o).testBit 6 = nI 0 := by
          rw [hT0]
          have : sumP v (0 : Nat).testBit 6 = sumP v (fun _ => false) 6 := sumP_congr 6 (fun i _ => by simp)
          rw [this]; rfl
        rw [if_pos he]
        obtain ⟨h, h1, h2, h3⟩ := mxP_att (f := fun h => mo (s - 1 <<< h)) hne
        rw [h3]
        have := hout h h1 h2 (hall h h2)
        exact this
      · have hcT := hc (s &&& o) (by omega) hT64 hTo
        have hmx : mxP s.testBit (fun h => mo (s - 1 <<< h)) = mxP (s &&& o).testBit (fun h => c ((s &&& o) - 1 <<< h)) + czP o s := by
          apply Nat.le_antisymm
          · apply mxP_le
            intro h hh hb
            cases hob : o.testBit h with
            | true =>
              have hT : (s &&& o).testBit h = true := by rw [hTb, hb, hob]; rfl
              have e1 := hin h hh hb hob
              have e2 := mxP_ge (f := fun h => c ((s &&& o) - 1 <<< h)) hh hT
              show mo (s - 1 <<< h) ≤ _
              omega
            | false =>
              have e1 := hout h hh hb hob
              show mo (s - 1 <<< h) ≤ _
              have : (if sumP v (s &&& o).testBit 6 = nI 0 then 1 else 0) ≤ 1 := by split <;> omega
              omega
          · have hneT : ∃ h, h < 6 ∧ (s &&& o).testBit h = true := by
              apply Classical.byContradiction
              intro hno
              apply hT0
              apply Nat.eq_of_testBit_eq
              intro i
              rw [Nat.zero_testBit]
              cases hi : (s &&& o).testBit i with
              | false => rfl
              | true =>
                have hsi : s.testBit i = true := by
                  rw [hTb, Bool.and_eq_true] at hi
                  exact hi.1
                exact absurd ⟨i, Nat.lt_of_lt_of_le (hbH i hsi) hH, hi⟩ hno
            obtain ⟨h, h1, h2, h3⟩ := mxP_att (f := fun h => c ((s &&& o) - 1 <<< h)) hneT
            rw [h3]
            have h2' := h2
            rw [hTb, Bool.and_eq_true] at h2'
            have e1 := hin h h1 h2'.1 h2'.2
            have e2 := mxP_ge (f := fun h => mo (s - 1 <<< h)) h1 h2'.1
            show c ((s &&& o) - 1 <<< h) + czP o s ≤ _
            have e3 : mo (s - 1 <<< h) ≤ mxP s.testBit (fun h => mo (s - 1 <<< h)) := e2
            omega
        rw [hmx, hcT]
        omega
set_option maxRecDepth 100000 in
theorem cz_all : ∀ H : Fin 7, ∀ o : Fin 64, o.val < 2 ^ H.val → popF 12 o.val + czP o.val (2 ^ H.val - 1) = H.val ∧ (2 ^ H.val - 1) &&& o.val = o.val := by decide +kernel
theorem sum_add {v : Nat → Int32} {h r : Nat} (hr : r < 2 ^ h) : ∀ k, sumP v (2 ^ h + r).testBit k = if k ≤ h then sumP v r.testBit k else sumP v r.testBit k + v h
  | 0 => by rw [if_pos (by omega)]; rfl
  | k + 1 => by
    rw [sumP_succ, sumP_succ, sum_add hr k]
    by_cases hk : k < h
    · rw [if_pos (by omega), if_pos (by omega), Nat.testBit_two_pow_add_gt hk]
    · by_cases hkh : k = h
      · subst hkh
        rw [if_pos (Nat.le_refl _), if_neg (by omega), Nat.testBit_two_pow_add_eq, Nat.testBit_lt_two_pow hr]
        rfl
      · have hp : 2 ^ (h + 1) ≤ 2 ^ k := Nat.pow_le_pow_right (by decide) (by omega)
        have hp2 : 2 ^ (h + 1) = 2 * 2 ^ h := by rw [Nat.pow_succ]; omega
        rw [if_neg (by omega), if_neg (by omega), Nat.testBit_lt_two_pow (show 2 ^ h + r < 2 ^ k by omega), Nat.testBit_lt_two_pow (show r < 2 ^ k by omega)]
        rfl
section CLS
variable (d sl : Nat) (I : Nat → Nat → Int32) (A : Nat → Nat → Int32) (N : Nat → Nat → Int64) (V : Nat → Nat → Option Nat) (lt : Int64) (tw : Option Nat) (sp sr : Nat) (X : List AC) {n : Nat → Int32} {H m : Nat}
theorem q113 {s : Nat} {mo : Nat → Nat} (hs : s < 64) (hmo : ∀ k, k < s → A 100 k = nI (mo k) ∧ mo k ≤ 64) : C d 113 [.ref 95, .int (nI s)] sl (CH I A N V lt tw sp sr X) = some ([.int (nI (mxP s.testBit (fun h => mo (s - 1 <<< h))))], sl, CH I A N V lt tw sp sr X) := by
  have key : ∀ (q i b : Nat), i + q = 6 → b ≤ 64 → rt 113 (R d 113 (4, [some (.ref 95), some (.int (nI s)), some (.int (nI b)), some (.int (nI i))], [], sl, CH I A N V lt tw sp sr X)) = some ([.int (nI (x_it (fun h b => cond (s.testBit h) (max b (mo (s - 1 <<< h))) b) i q b))], sl, CH I A N V lt tw sp sr X) := by
    intro q
    induction q with
    | zero =>
      intro i b hi hb
      have h1 : 6 ≤ i := by omega
      rw [k113_r95_4]
      simp (disch := omega) only [rt_c, b_some, List.cons_append, List.nil_append, Bool.cond_not, cond_true, cond_false, Bool.cond_decide, nI_add, nI_clamp, xin_n, dle_e, dlt_e, deq_e, xb_0, xb_1, decide_true, decide_false, Bool.not_true, Bool.not_false, Bool.and_true, Bool.true_and, Bool.and_false, Bool.false_and, Bool.true_or, Bool.false_or, Bool.or_true, Bool.or_false, if_true, if_false, up1_s, n_31, Int32.lt_irrefl, h1, x_it, t113_41]
    | succ q ih =>
      intro i b hi hb
      have h1 : ¬ 6 ≤ i := by omega
      have hbn := bit_n (x := s) (k := i) (by omega) (by omega)
      rw [k113_r95_4, show x_it (fun h b => cond (s.testBit h) (max b (mo (s - 1 <<< h))) b) i (q + 1) b = x_it (fun h b => cond (s.testBit h) (max b (mo (s - 1 <<< h))) b) (i + 1) q (cond (s.testBit i) (max b (mo (s - 1 <<< i))) b) from rfl]
      cases hb2 : s.testBit i with
      | false =>
        rw [hb2] at hbn
        have h3 := ih (i + 1) b (by omega) hb
        simp (disch := omega) only [rt_c, b_some, List.cons_append, List.nil_append, Bool.cond_not, cond_true, cond_false, Bool.cond_decide, nI_add, nI_clamp, xin_n, dle_e, dlt_e, deq_e, xb_0, xb_1, decide_true, decide_false, Bool.not_true, Bool.not_false, Bool.and_true, Bool.true_and, Bool.and_false, Bool.false_and, Bool.true_or, Bool.false_or, Bool.or_true, Bool.or_false, if_true, if_false, up1_s, n_31, Int32.lt_irrefl, h1, hbn, Nat.zero_ne_one, h3]
      | true =>
        rw [hb2] at hbn
        have hle := tb_le hs (show i < 6 by omega) hb2
        have h1s := one_le_shl i
        have hsub : nI s - (nI 1 <<< nI i) = nI (s - 1 <<< i) := by
          rw [nI_shl (by omega), nI_sub hle]
        have hm := hmo (s - 1 <<< i) (by omega)
        have h3 := ih (i + 1) (max b (mo (s - 1 <<< i))) (by omega) (by omega)
        have hmx : x_max (nI b) (nI (mo (s - 1 <<< i))) = nI (max b (mo (s - 1 <<< i))) := xmax_nn (by omega) (by omega)
        simp (disch := omega) only [rt_c, b_some, List.cons_append, List.nil_append, Bool.cond_not, cond_true, cond_false, Bool.cond_decide, nI_add, nI_clamp, xin_n, dle_e, dlt_e, deq_e, xb_0, xb_1, decide_true, decide_false, Bool.not_true, Bool.not_false, Bool.and_true, Bool.true_and, Bool.and_false, Bool.false_and, Bool.true_or, Bool.false_or, Bool.or_true, Bool.or_false, if_true, if_false, up1_s, n_31, Int32.lt_irrefl, h1, hbn, hsub, hm.1, hmx, h3]
  rw [e113, k113_r95_0, key 6 0 0 (by omega) (by omega)]
  rfl
theorem q112 (hS : Sh I A 3 n H m) : ∃ (u r : Nat → Int32) (mo : Nat → Nat), C (d + 1) 112 [.ref 95, .ref 3] sl (CH I A N V lt tw sp sr X) = some ([.int (nI H - nI (mo (2 ^ H - 1)))], sl, CH I (up1 (up1 A 99 u) 100 r) N V lt tw sp sr X) ∧ mo 0 = 0 ∧ (∀ s, 1 ≤ s → s < 2 ^ H → mo s = mxP s.testBit (fun h => mo (s - 1 <<< h)) + (if sumP (balS n m) s.testBit 6 = nI 0 then 1 else 0)) := by
  have hS0 := hS
  obtain ⟨⟨hH, hD, hH6, hm⟩, -⟩ := sh_3 hS
  have h64 : 2 ^ H ≤ 2 ^ 6 := Nat.pow_le_pow_right (by decide) hH6
  have hpos := Nat.two_pow_pos H
  have hsh : nI 1 <<< nI H = nI (2 ^ H) := by rw [nI_shl (by omega), Nat.one_shiftLeft]
  -- the counts
  have key3 : ∀ (q s : Nat) (u r : Nat → Int32) (mo : Nat → Nat) (o4 o5 : Option Value), ((o4 = none ∧ o5 = none) ∨ ((∃ v, o4 = some (.int v)) ∧ ∃ v, o5 = some (.int v))) → s + q = 2 ^ H → 1 ≤ s → (∀ k, k < 2 ^ H → u k = sumP (balS n m) k.testBit 6) → mo 0 = 0 → (∀ k, k < s → r k = nI (mo k) ∧ mo k ≤ k) → (∀ k, 1 ≤ k → k < s → mo k = mxP k.testBit (fun h => mo (k - 1 <<< h)) + (if sumP (balS n m) k.testBit 6 = nI 0 then 1 else 0)) → ∃ (r' : Nat → Int32) (mo' : Nat → Nat), rt 112 (R (d + 1) 112 (99, [some (.ref 95), some (.ref 3), some (.int (nI (2 ^ H))), some (.int (nI s)), o4, o5], [], sl, CH I (up1 (up1 A 99 u) 100 r) N V lt tw sp sr X)) = some ([.int (nI H - nI (mo' (2 ^ H - 1)))], sl, CH I (up1 (up1 A 99 u) 100 r') N V lt tw sp sr X) ∧ mo' 0 = 0 ∧ (∀ k, 1 ≤ k → k < 2 ^ H → mo' k = mxP k.testBit (fun h => mo' (k - 1 <<< h)) + (if sumP (balS n m) k.testBit 6 = nI 0 then 1 else 0)) := by
    intro q
    induction q with
    | zero =>
      intro s u r mo o4 o5 ho hs hs1 hu hm0 hr hrec
      have h1 : 2 ^ H ≤ s := by omega
      have h2 : s = 2 ^ H := by omega
      have hr' := hr (2 ^ H - 1) (by omega)
      have hsub : nI (2 ^ H) - nI 1 = nI (2 ^ H - 1) := nI_sub (by omega)
      refine ⟨r, mo, ?_, hm0, fun k k1 k2 => hrec k k1 (by omega)⟩
      rcases ho with ⟨rfl, rfl⟩ | ⟨⟨v, rfl⟩, w', rfl⟩
      · rw [k112_r95_r3_99]
        simp (disch := omega) only [rt_c, b_some, List.cons_append, List.nil_append, Bool.cond_not, cond_true, cond_false, Bool.cond_decide, nI_add, nI_clamp, xin_n, dle_e, dlt_e, deq_e, xb_0, xb_1, decide_true, decide_false, Bool.not_true, Bool.not_false, Bool.and_true, Bool.true_and, Bool.and_false, Bool.false_and, Bool.true_or, Bool.false_or, Bool.or_true, Bool.or_false, if_true, if_false, up1_s, n_31, Int32.lt_irrefl, h1, hsub, hr'.1, hH, t112_155]
      · rw [k112_r95_r3_99_1]
        simp (disch := omega) only [rt_c, b_some, List.cons_append, List.nil_append, Bool.cond_not, cond_true, cond_false, Bool.cond_decide, nI_add, nI_clamp, xin_n, dle_e, dlt_e, deq_e, xb_0, xb_1, decide_true, decide_false, Bool.not_true, Bool.not_false, Bool.and_true, Bool.true_and, Bool.and_false, Bool.false_and, Bool.true_or, Bool.false_or, Bool.or_true, Bool.or_false, if_true, if_false, up1_s, n_31, Int32.lt_irrefl, h1, hsub, hr'.1, hH, t112_155]
    | succ q ih =>
      intro s u r mo o4 o5 ho hs hs1 hu hm0 hr hrec
      have h1 : ¬ 2 ^ H ≤ s := by omega
      have h2 : ¬ 64 ≤ s := by omega
      have hA100 : up1 (up1 A 99 u) 100 r 100 = r := up1_s
      have h113 := q113 d sl I (up1 (up1 A 99 u) 100 r) N V lt tw sp sr X (s := s) (mo := mo) (by omega) (fun k hk => by rw [hA100]; have := hr k hk; exact ⟨this.1, by omega⟩)
      have hmxle : mxP s.testBit (fun h => mo (s - 1 <<< h)) + 1 ≤ s := by
        have : mxP s.testBit (fun h => mo (s - 1 <<< h)) ≤ s - 1 := mxP_le (fun h hh hb => by
          have hle := tb_le (show s < 64 by omega) hh hb
          have h1s := one_le_shl h
          have := (hr (s - 1 <<< h) (by omega)).2
          show mo (s - 1 <<< h) ≤ s - 1
          omega)
        omega
      have hus := hu s (by omega)
      have hstep : ∀ e, e = (if sumP (balS n m) s.testBit 6 = nI 0 then 1 else 0) → ∃ (r' : Nat → Int32) (mo' : Nat → Nat), rt 112 (R (d + 1) 112 (99, [some (.ref 95), some (.ref 3), some (.int (nI (2 ^ H))), some (.int (nI (s + 1))), o4, o5], [], sl, CH I (up1 (up1 A 99 u) 100 (upd r s (nI (mxP s.testBit (fun h => mo (s - 1 <<< h)) + e)))) N V lt tw sp sr X)) = some ([.int (nI H - nI (mo' (2 ^ H - 1)))], sl, CH I (up1 (up1 A 99 u) 100 r') N V lt tw sp sr X) ∧ mo' 0 = 0 ∧ (∀ k, 1 ≤ k → k < 2 ^ H → mo' k = mxP k.testBit (fun h => mo' (k - 1 <<< h)) + (if sumP (balS n m) k.testBit 6 = nI 0 then 1 else 0)) := by
        intro e he
        have he1 : e ≤ 1 := by rw [he]; split <;> omega
        have hmxc : ∀ k, k ≤ s → k < 64 → mxP k.testBit (fun h => (if k - 1 <<< h = s then mxP s.testBit (fun h => mo (s - 1 <<< h)) + e else mo (k - 1 <<< h))) = mxP k.testBit (fun h => mo (k - 1 <<< h)) := by
          intro k hk hk64
          unfold mxP
          apply x_it_congr
          intro j c _ hj
          cases hb : k.testBit j with
          | false => rfl
          | true =>
            have hle := tb_le hk64 (show j < 6 by omega) hb
            have h1s := one_le_shl j
            have hne : ¬ k - 1 <<< j = s := by omega
            simp only [if_neg hne]
        refine ih (s + 1) u _ (fun k => if k = s then mxP s.testBit (fun h => mo (s - 1 <<< h)) + e else mo k) o4 o5 ho (by omega) (by omega) hu (by show (if 0 = s then _ else mo 0) = 0; rw [if_neg (by omega)]; exact hm0) (fun k hk => ?_) (fun k k1 k2 => ?_)
        · by_cases hks : k = s
          · subst hks
            rw [upd_s]
            show nI _ = nI (if k = k then _ else _) ∧ (if k = k then _ else _) ≤ k
            rw [if_pos rfl]
            exact ⟨rfl, by omega⟩
          · rw [upd_n hks]
            show r k = nI (if k = s then _ else _) ∧ (if k = s then _ else _) ≤ k
            rw [if_neg hks]
            exact hr k (by omega)
        · show (if k = s then _ else mo k) = mxP k.testBit (fun h => (if k - 1 <<< h = s then mxP s.testBit (fun h => mo (s - 1 <<< h)) + e else mo (k - 1 <<< h))) + _
          rw [hmxc k (by omega) (by omega)]
          by_cases hks : k = s
          · subst hks
            rw [if_pos rfl, he]
          · rw [if_neg hks]
            exact hrec k k1 (by omega)
      have hA99 : up1 (up1 A 99 u) 100 r 99 = u := by rw [up1_n (by decide), up1_s]
      by_cases hz : sumP (balS n m) s.testBit 6 = nI 0
      · obtain ⟨r', mo', e1, e2, e3⟩ := hstep 1 (by rw [if_pos hz])
        refine ⟨r', mo', ?_, e2, e3⟩
        rcases ho with ⟨rfl, rfl⟩ | ⟨⟨v, rfl⟩, w', rfl⟩
        · rw [k112_r95_r3_99]
          simp (disch := omega) only [rt_c, b_some, List.cons_append, List.nil_append, Bool.cond_not, cond_true, cond_false, Bool.cond_decide, nI_add, nI_clamp, xin_n, dle_e, dlt_e, deq_e, xb_0, xb_1, decide_true, decide_false, Bool.not_true, Bool.not_false, Bool.and_true, Bool.true_and, Bool.and_false, Bool.false_and, Bool.true_or, Bool.false_or, Bool.or_true, Bool.or_false, if_true, if_false, up1_s, n_31, Int32.lt_irrefl, h1, h2, h113, k112_r95_r3_120, hA99, hus, hz, up1_up, e1]
        · rw [k112_r95_r3_99_1]
          simp (disch := omega) only [rt_c, b_some, List.cons_append, List.nil_append, Bool.cond_not, cond_true, cond_false, Bool.cond_decide, nI_add, nI_clamp, xin_n, dle_e, dlt_e, deq_e, xb_0, xb_1, decide_true, decide_false, Bool.not_true, Bool.not_false, Bool.and_true, Bool.true_and, Bool.and_false, Bool.false_and, Bool.true_or, Bool.false_or, Bool.or_true, Bool.or_false, if_true, if_false, up1_s, n_31, Int32.lt_irrefl, h1, h2, h113, k112_r95_r3_120_1, hA99, hus, hz, up1_up, e1]
      · obtain ⟨r', mo', e1, e2, e3⟩ := hstep 0 (by rw [if_neg hz])
        refine ⟨r', mo', ?_, e2, e3⟩
        rcases ho with ⟨rfl, rfl⟩ | ⟨⟨v, rfl⟩, w', rfl⟩
        · rw [k112_r95_r3_99]
          simp (disch := omega) only [rt_c, b_some, List.cons_append, List.nil_append, Bool.cond_not, cond_true, cond_false, Bool.cond_decide, nI_add, nI_clamp, xin_n, dle_e, dlt_e, deq_e, xb_0, xb_1, decide_true, decide_false, Bool.not_true, Bool.not_false, Bool.and_true, Bool.true_and, Bool.and_false, Bool.false_and, Bool.true_or, Bool.false_or, Bool.or_true, Bool.or_false, if_true, if_false, up1_s, n_31, Int32.lt_irrefl, h1, h2, h113, k112_r95_r3_120, hA99, hus, hz, up1_up, e1]
        · rw [k112_r95_r3_99_1]
          simp (disch := omega) only [rt_c, b_some, List.cons_append, List.nil_append, Bool.cond_not, cond_true, cond_false, Bool.cond_decide, nI_add, nI_clamp, xin_n, dle_e, dlt_e, deq_e, xb_0, xb_1, decide_true, decide_false, Bool.not_true, Bool.not_false, Bool.and_true, Bool.true_and, Bool.and_false, Bool.false_and, Bool.true_or, Bool.false_or, Bool.or_true, Bool.or_false, if_true, if_false, up1_s, n_31, Int32.lt_irrefl, h1, h2, h113, k112_r95_r3_120_1, hA99, hus, hz, up1_up, e1]
  -- one house's sums
  have key2 : ∀ (h : Nat) (r : Nat → Int32), h < H → ∀ (q j : Nat) (u : Nat → Int32), j + q = 2 ^ h → (∀ k, k < 2 ^ h + j → u k = sumP (balS n m) k.testBit 6) → ∃ u', (∀ k, k < 2 ^ (h + 1) → u' k = sumP (balS n m) k.testBit 6) ∧ rt 112 (R (d + 1) 112 (49, [some (.ref 95), some (.ref 3), some (.int (nI (2 ^ H))), some (.int (nI h)), some (.int (balS n m h)), some (.int (nI (2 ^ h + j)))], [], sl, CH I (up1 (up1 A 99 u) 100 r) N V lt tw sp sr X)) = rt 112 (R (d + 1) 112 (23, [some (.ref 95), some (.ref 3), some (.int (nI (2 ^ H))), some (.int (nI (h + 1))), some (.int (balS n m h)), some (.int (nI (2 ^ (h + 1))))], [], sl, CH I (up1 (up1 A 99 u') 100 r) N V lt tw sp sr X)) := by
    intro h r hh q
    have hp : 2 ^ (h + 1) = 2 * 2 ^ h := by rw [Nat.pow_succ]; omega
    have hp6 : 2 ^ (h + 1) ≤ 2 ^ 6 := Nat.pow_le_pow_right (by decide) (by omega)
    have hsh2 : nI 2 <<< nI h = nI (2 ^ (h + 1)) := by
      have : ∀ h : Fin 6, nI 2 <<< nI h.val = nI (2 ^ (h.val + 1)) := by decide +kernel
      exact this ⟨h, by omega⟩
    have hsh1 : nI 1 <<< nI h = nI (2 ^ h) := by rw [nI_shl (by omega), Nat.one_shiftLeft]
    induction q with
    | zero =>
      intro j u hj hu
      have h1 : 2 ^ (h + 1) ≤ 2 ^ h + j := by omega
      have h2 : 2 ^ h + j = 2 ^ (h + 1) := by omega
      refine ⟨u, fun k hk => hu k (by omega), ?_⟩
      rw [k112_r95_r3_49, h2]
      simp (disch := omega) only [rt_c, b_some, List.cons_append, List.nil_append, Bool.cond_not, cond_true, cond_false, Bool.cond_decide, nI_add, nI_clamp, xin_n, dle_e, dlt_e, deq_e, xb_0, xb_1, decide_true, decide_false, Bool.not_true, Bool.not_false, Bool.and_true, Bool.true_and, Bool.and_false, Bool.false_and, Bool.true_or, Bool.false_or, Bool.or_true, Bool.or_false, if_true, if_false, up1_s, n_31, Int32.lt_irrefl, hsh2, Nat.le_refl]
    | succ q ih =>
      intro j u hj hu
      have h1 : ¬ 2 ^ (h + 1) ≤ 2 ^ h + j := by omega
      have h2 : ¬ 64 ≤ 2 ^ h + j := by omega
      have hsub : nI (2 ^ h + j) - nI (2 ^ h) = nI j := by rw [nI_sub (by omega)]; congr 1; omega
      have huj := hu j (by omega)
      have hs6 := sum_add (v := balS n m) (show j < 2 ^ h by omega) 6
      rw [if_neg (by omega)] at hs6
      obtain ⟨u', e1, e2⟩ := ih (j + 1) (upd u (2 ^ h + j) (u j + balS n m h)) (by omega) (fun k hk => by
        by_cases hkj : k = 2 ^ h + j
        · rw [hkj, upd_s, huj, hs6]
        · rw [upd_n hkj]; exact hu k (by omega))
      refine ⟨u', e1, ?_⟩
      have hA99 : up1 (up1 A 99 u) 100 r 99 = u := by rw [up1_n (by decide), up1_s]
      have hup : ∀ g, up1 (up1 (up1 A 99 u) 100 r) 99 g = up1 (up1 A 99 g) 100 r := by
        intro g
        funext k
        by_cases hk : k = 99
        · subst hk; rw [up1_s, up1_n (by decide), up1_s]
        · rw [up1_n hk]
          by_cases hk2 : k = 100
          · subst hk2; rw [up1_s, up1_s]
          · rw [up1_n hk2, up1_n hk2, up1_n hk, up1_n hk]
      rw [← e2, k112_r95_r3_49]
      rw [show 2 ^ h + (j + 1) = 2 ^ h + j + 1 by omega]
      simp (disch := omega) only [rt_c, b_some, List.cons_append, List.nil_append, Bool.cond_not, cond_true, cond_false, Bool.cond_decide, nI_add, nI_clamp, xin_n, dle_e, dlt_e, deq_e, xb_0, xb_1, decide_true, decide_false, Bool.not_true, Bool.not_false, Bool.and_true, Bool.true_and, Bool.and_false, Bool.false_and, Bool.true_or, Bool.false_or, Bool.or_true, Bool.or_false, if_true, if_false, up1_s, n_31, Int32.lt_irrefl, hsh2, hsh1, h1, h2, hsub, hA99, hup]
  have key1 : ∀ (q h : Nat) (u r : Nat → Int32) (o4 o5 : Option Value), ((o4 = none ∧ o5 = none) ∨ ((∃ v, o4 = some (.int v)) ∧ ∃ v, o5 = some (.int v))) → h + q = H → (∀ k, k < 2 ^ h → u k = sumP (balS n m) k.testBit 6) → r 0 = nI 0 → ∃ (u' r' : Nat → Int32) (mo' : Nat → Nat), rt 112 (R (d + 1) 112 (23, [some (.ref 95), some (.ref 3), some (.int (nI (2 ^ H))), some (.int (nI h)), o4, o5], [], sl, CH I (up1 (up1 A 99 u) 100 r) N V lt tw sp sr X)) = some ([.int (nI H - nI (mo' (2 ^ H - 1)))], sl, CH I (up1 (up1 A 99 u') 100 r') N V lt tw sp sr X) ∧ mo' 0 = 0 ∧ (∀ k, 1 ≤ k → k < 2 ^ H → mo' k = mxP k.testBit (fun h => mo' (k - 1 <<< h)) + (if sumP (balS n m) k.testBit 6 = nI 0 then 1 else 0)) := by
    intro q
    induction q with
    | zero =>
      intro h u r o4 o5 ho hh hu hr0
      have h1 : H ≤ h := by omega
      have h2 : h = H := by omega
      subst h2
      obtain ⟨r', mo', e1, e2, e3⟩ := key3 (2 ^ h - 1) 1 u r (fun _ => 0) o4 o5 ho (by omega) (by omega) hu rfl (fun k hk => by
        have : k = 0 := by omega
        subst this
        exact ⟨hr0, by omega⟩) (fun k k1 k2 => by omega)
      refine ⟨u, r', mo', ?_, e2, e3⟩
      rcases ho with ⟨rfl, rfl⟩ | ⟨⟨v, rfl⟩, w', rfl⟩
      · rw [k112_r95_r3_23]
        simp (disch := omega) only [rt_c, b_some, List.cons_append, List.nil_append, Bool.cond_not, cond_true, cond_false, Bool.cond_decide, nI_add, nI_clamp, xin_n, dle_e, dlt_e, deq_e, xb_0, xb_1, decide_true, decide_false, Bool.not_true, Bool.not_false, Bool.and_true, Bool.true_and, Bool.and_false, Bool.false_and, Bool.true_or, Bool.false_or, Bool.or_true, Bool.or_false, if_true, if_false, up1_s, n_31, Int32.lt_irrefl, hH, h1, e1]
      · rw [k112_r95_r3_23_1]
        simp (disch := omega) only [rt_c, b_some, List.cons_append, List.nil_append, Bool.cond_not, cond_true, cond_false, Bool.cond_decide, nI_add, nI_clamp, xin_n, dle_e, dlt_e, deq_e, xb_0, xb_1, decide_true, decide_false, Bool.not_true, Bool.not_false, Bool.and_true, Bool.true_and, Bool.and_false, Bool.false_and, Bool.true_or, Bool.false_or, Bool.or_true, Bool.or_false, if_true, if_false, up1_s, n_31, Int32.lt_irrefl, hH, h1, e1]
    | succ q ih =>
      intro h u r o4 o5 ho hh hu hr0
      have h1 : ¬ H ≤ h := by omega
      have hSu : Sh I (up1 (up1 A 99 u) 100 r) 3 n H m := Sh_c hS0 (fun _ _ => rfl) rfl (fun q _ _ => by rw [up1_n (by omega), up1_n (by omega)])
      have h58 := q58_3 d sl I (up1 (up1 A 99 u) 100 r) N V lt tw sp sr X hSu (nI h)
      have h57 := q57_3 d sl I (up1 (up1 A 99 u) 100 r) N V lt tw sp sr X hSu (nI h)
      have hsh1 : nI 1 <<< nI h = nI (2 ^ h) := by rw [nI_shl (by omega), Nat.one_shiftLeft]
      obtain ⟨u1, e1, e2⟩ := key2 h r (by omega) (2 ^ h) 0 u (by omega) (fun k hk => hu k (by omega))
      obtain ⟨u2, r2, mo2, e3, e4, e5⟩ := ih (h + 1) u1 r (some (.int (balS n m h))) (some (.int (nI (2 ^ (h + 1))))) (Or.inr ⟨⟨_, rfl⟩, _, rfl⟩) (by omega) e1 hr0
      refine ⟨u2, r2, mo2, ?_, e4, e5⟩
      rw [← e3, ← e2, Nat.add_zero]
      rcases ho with ⟨rfl, rfl⟩ | ⟨⟨v, rfl⟩, w', rfl⟩
      · rw [k112_r95_r3_23]
        simp (disch := omega) only [rt_c, b_some, List.cons_append, List.nil_append, Bool.cond_not, cond_true, cond_false, Bool.cond_decide, nI_add, nI_clamp, xin_n, dle_e, dlt_e, deq_e, xb_0, xb_1, decide_true, decide_false, Bool.not_true, Bool.not_false, Bool.and_true, Bool.true_and, Bool.and_false, Bool.false_and, Bool.true_or, Bool.false_or, Bool.or_true, Bool.or_false, if_true, if_false, up1_s, n_31, Int32.lt_irrefl, hH, h1, h58, k112_r95_r3_36, h57, k112_r95_r3_41, hsh1]
        rfl
      · rw [k112_r95_r3_23_1]
        simp (disch := omega) only [rt_c, b_some, List.cons_append, List.nil_append, Bool.cond_not, cond_true, cond_false, Bool.cond_decide, nI_add, nI_clamp, xin_n, dle_e, dlt_e, deq_e, xb_0, xb_1, decide_true, decide_false, Bool.not_true, Bool.not_false, Bool.and_true, Bool.true_and, Bool.and_false, Bool.false_and, Bool.true_or, Bool.false_or, Bool.or_true, Bool.or_false, if_true, if_false, up1_s, n_31, Int32.lt_irrefl, hH, h1, h58, k112_r95_r3_36_1, h57, k112_r95_r3_41_1, hsh1]
        rfl
  obtain ⟨u, r, mo, e1, e2, e3⟩ := key1 H 0 (upd (A 99) 0 (nI 0)) (upd (A 100) 0 (nI 0)) none none (Or.inl ⟨rfl, rfl⟩) (by omega) (fun k hk => by
    have : k = 0 := by
      have : 2 ^ 0 = 1 := rfl
      omega
    subst this
    rw [upd_s]
    have : sumP (balS n m) (0 : Nat).testBit 6 = sumP (balS n m) (fun _ => false) 6 := sumP_congr 6 (fun i _ => by simp)
    rw [this]; rfl) upd_s
  refine ⟨u, r, mo, ?_, e2, e3⟩
  rw [e112, k112_r95_r3_0]
  simp (disch := omega) only [rt_c, b_some, List.cons_append, List.nil_append, Bool.cond_not, cond_true, cond_false, Bool.cond_decide, nI_add, nI_clamp, xin_n, dle_e, dlt_e, deq_e, xb_0, xb_1, decide_true, decide_false, Bool.not_true, Bool.not_false, Bool.and_true, Bool.true_and, Bool.and_false, Bool.false_and, Bool.true_or, Bool.false_or, Bool.or_true, Bool.or_false, if_true, if_false, up1_s, n_31, Int32.lt_irrefl, hH, hsh, e1]
end CLS
