/-! SETTLE, THE REFERENCE; BOTH -/
def unP (n : Nat → Int32) (m h : Nat) : Bool := !decide (sum_ n 91 m (nI h) = sum_ n 79 m (nI h))
set_option maxRecDepth 100000 in
theorem less_fin : ∀ s : Fin 64, ∀ h : Fin 6, s.val.testBit h.val = true → nI s.val &&& ((nI 1 <<< nI h.val) ^^^ (-1 : Int32)) = nI (s.val - 1 <<< h.val) := by decide +kernel
theorem add_sub32 (a b c : Int32) : a + b - c = a + (b - c) := by
  rw [Int32.sub_eq_add_neg, Int32.sub_eq_add_neg, Int32.add_assoc]
def anyP (P : Nat → Bool) (k : Nat) : Bool := x_it (fun i s => s || P i) 0 k false
theorem anyP_succ (P : Nat → Bool) (k : Nat) : anyP P (k + 1) = (anyP P k || P k) := by
  unfold anyP
  rw [x_it_succ, Nat.zero_add]
theorem anyP_f {P : Nat → Bool} : ∀ {k : Nat}, anyP P k = false → ∀ i, i < k → P i = false
  | 0, _, i, hi => by omega
  | k + 1, h, i, hi => by
    rw [anyP_succ, Bool.or_eq_false_iff] at h
    by_cases hik : i = k
    · rw [hik]; exact h.2
    · exact anyP_f h.1 i (by omega)
section RFS
variable (d sl : Nat) (I : Nat → Int32) (w : Int64) (A : Nat → Nat → Int32) (N : Nat → Nat → Int64)
theorem up_13_14 {A : Nat → Nat → Int32} {u r g : Nat → Int32} : up1 (up1 (up1 A 13 u) 14 r) 13 g = up1 (up1 A 13 g) 14 r := by
  funext k
  by_cases hk : k = 13
  · subst hk; rw [up1_s, up1_n (by decide), up1_s]
  · rw [up1_n hk]
    by_cases hk2 : k = 14
    · subst hk2; rw [up1_s, up1_s]
    · rw [up1_n hk2, up1_n hk2, up1_n hk, up1_n hk]
/-- one set: house by house -/
theorem c238_72 {H m o s : Nat} (hV : Vd (A 2) H m) (ho : o = mkN (unP (A 2) m) H) (hs : s < 64) (u : Nat → Int32) (c : Nat → Nat) (r : Nat → Int32) (hu : ∀ k, k < s → u k = sumP (balS (A 2) m) (k &&& o).testBit 6) (hr : ∀ k, k < s → r k = nI (c k) ∧ c k ≤ k) : ∀ (q i b : Nat) (v : Int32) (o4 : Option Value), (o4 = none ∨ ∃ v, o4 = some (.int v)) → i + q = 6 → b ≤ 64 → (anyP (s &&& o).testBit i = true → v = sumP (balS (A 2) m) (s &&& o).testBit 6) → (anyP (s &&& o).testBit i = false → v = nI 0) →
    ∃ v' o4', (o4' = none ∨ ∃ v, o4' = some (.int v)) ∧ v' = sumP (balS (A 2) m) (s &&& o).testBit 6 ∧ rt 238 (R (d + 1) 238 (72, [some (.ref 0), some (.int (nI o)), some (.int (nI s)), some (.int (nI i)), o4], [], sl, RH I w (up1 (up1 A 13 (upd u s v)) 14 (upd r s (nI b))) N)) = rt 238 (R (d + 1) 238 (72, [some (.ref 0), some (.int (nI o)), some (.int (nI s)), some (.int (nI 6)), o4'], [], sl, RH I w (up1 (up1 A 13 (upd u s v')) 14 (upd r s (nI (x_it (fun h b => cond ((s &&& o).testBit h) (max b (c (s - 1 <<< h))) b) i q b)))) N)) := by
  obtain ⟨hH, hD, hH6, hm⟩ := hV.1
  have h64 : 2 ^ H ≤ 2 ^ 6 := Nat.pow_le_pow_right (by decide) hH6
  have ho64 : o < 64 := by rw [ho]; exact Nat.lt_of_lt_of_le (mkN_lt _ H) (by omega)
  have hT64 : s &&& o < 64 := Nat.lt_of_le_of_lt Nat.and_le_left hs
  have hand : nI s &&& nI o = nI (s &&& o) := nI_and (by omega) (by omega)
  have hTb : ∀ i, (s &&& o).testBit i = (s.testBit i && o.testBit i) := fun i => Nat.testBit_and _ _ _
  intro q
  induction q with
  | zero =>
    intro i b v o4 ho4 hi hb hv1 hv2
    have h6 : i = 6 := by omega
    subst h6
    refine ⟨v, o4, ho4, ?_, rfl⟩
    cases ha : anyP (s &&& o).testBit 6 with
    | true => exact hv1 ha
    | false =>
      rw [hv2 ha]
      have : sumP (balS (A 2) m) (s &&& o).testBit 6 = sumP (balS (A 2) m) (fun _ => false) 6 := sumP_congr 6 (fun i hi => anyP_f ha i hi)
      rw [this]; rfl
  | succ q ih =>
    intro i b v o4 ho4 hi hb hv1 hv2
    have h1 : ¬ 6 ≤ i := by omega
    have h167 := fun A' => c167 d sl I w A' N (nI (s &&& o)) (k := i) (by omega)
    rw [has_n (show s &&& o < 2 ^ 31 by omega) (show i < 31 by omega)] at h167
    rw [show x_it (fun h b => cond ((s &&& o).testBit h) (max b (c (s - 1 <<< h))) b) i (q + 1) b = x_it (fun h b => cond ((s &&& o).testBit h) (max b (c (s - 1 <<< h))) b) (i + 1) q (cond ((s &&& o).testBit i) (max b (c (s - 1 <<< i))) b) from rfl]
    cases hti : (s &&& o).testBit i with
    | false =>
      rw [hti] at h167
      have hany : anyP (s &&& o).testBit (i + 1) = anyP (s &&& o).testBit i := by rw [anyP_succ, hti, Bool.or_false]
      obtain ⟨v', o4', f1, f2, f3⟩ := ih (i + 1) b v o4 ho4 (by omega) hb (by rw [hany]; exact hv1) (by rw [hany]; exact hv2)
      refine ⟨v', o4', f1, f2, ?_⟩
      rw [cond_false, ← f3]
      rcases ho4 with rfl | ⟨x, rfl⟩
      · rw [m238_72]
        simp (disch := omega) only [rt_c, b_some, List.cons_append, List.nil_append, Bool.cond_not, cond_true, cond_false, Bool.cond_decide, nI_add, nI_clamp, xin_n, dle_e, dlt_e, deq_e, xb_0, xb_1, decide_true, decide_false, Bool.not_true, Bool.not_false, Bool.and_true, Bool.true_and, Bool.and_false, Bool.false_and, Bool.true_or, Bool.false_or, Bool.or_true, Bool.or_false, if_true, if_false, up1_s, n_31, Int32.lt_irrefl, h1, hand, h167, m238_85]
      · rw [m238_72_1]
        simp (disch := omega) only [rt_c, b_some, List.cons_append, List.nil_append, Bool.cond_not, cond_true, cond_false, Bool.cond_decide, nI_add, nI_clamp, xin_n, dle_e, dlt_e, deq_e, xb_0, xb_1, decide_true, decide_false, Bool.not_true, Bool.not_false, Bool.and_true, Bool.true_and, Bool.and_false, Bool.false_and, Bool.true_or, Bool.false_or, Bool.or_true, Bool.or_false, if_true, if_false, up1_s, n_31, Int32.lt_irrefl, h1, hand, h167, m238_85_1]
    | true =>
      rw [hti] at h167
      have hsb : s.testBit i = true ∧ o.testBit i = true := by
        rw [hTb, Bool.and_eq_true] at hti
        exact hti
      have hle := tb_le hs (show i < 6 by omega) hsb.1
      have h1s := one_le_shl i
      have hless := less_fin ⟨s, hs⟩ ⟨i, by omega⟩ hsb.1
      simp only at hless
      have hul := hu (s - 1 <<< i) (by omega)
      have hrl := hr (s - 1 <<< i) (by omega)
      have hsum : sumP (balS (A 2) m) (s &&& o).testBit 6 = u (s - 1 <<< i) + balS (A 2) m i := by
        rw [hul]
        have := sumP_rem (v := balS (A 2) m) (P := (s &&& o).testBit) (P' := ((s - 1 <<< i) &&& o).testBit) (h := i) hti (fun j => by
          rw [Nat.testBit_and, tb_sub hs (by omega) hsb.1, hTb]
          cases s.testBit j <;> cases o.testBit j <;> simp) 6
        rw [this, if_pos (by omega)]
      have hany : anyP (s &&& o).testBit (i + 1) = true := by rw [anyP_succ, hti, Bool.or_true]
      have hA2 : ∀ u r, up1 (up1 A 13 u) 14 r 2 = A 2 := fun u r => by rw [up1_n (by decide), up1_n (by decide)]
      have h200 := fun u r => c200 d sl I w (up1 (up1 A 13 u) 14 r) N (b := 91) (m := m) (by decide) hm (by rw [hA2]; exact hD) (nI i)
      have h200' := fun u r => c200 d sl I w (up1 (up1 A 13 u) 14 r) N (b := 79) (m := m) (by decide) hm (by rw [hA2]; exact hD) (nI i)
      simp only [hA2] at h200 h200'
      obtain ⟨v', o4', f1, f2, f3⟩ := ih (i + 1) (max b (c (s - 1 <<< i))) (sumP (balS (A 2) m) (s &&& o).testBit 6) (some (.int (nI (s - 1 <<< i)))) (Or.inr ⟨_, rfl⟩) (by omega) (by omega) (fun _ => rfl) (by rw [hany]; intro h; cases h)
      refine ⟨v', o4', f1, f2, ?_⟩
      rw [cond_true, ← f3]
      have hA13 : ∀ u r, up1 (up1 A 13 u) 14 r 13 = u := fun u r => by rw [up1_n (by decide), up1_s]
      have hA14 : ∀ u r, up1 (up1 A 13 u) 14 r 14 = r := fun u r => up1_s
      have hul' : upd u s v (s - 1 <<< i) = u (s - 1 <<< i) := upd_n (by omega)
      have hrl' : upd r s (nI b) (s - 1 <<< i) = nI (c (s - 1 <<< i)) := by rw [upd_n (by omega)]; exact hrl.1
      have hun : u (s - 1 <<< i) + sum_ (A 2) 91 m (nI i) - sum_ (A 2) 79 m (nI i) = sumP (balS (A 2) m) (s &&& o).testBit 6 := by
        rw [add_sub32]
        exact hsum.symm
      have hup2 : ∀ x y, upd (upd u s x) s y = upd u s y := fun x y => by
        funext k
        by_cases hk : k = s
        · subst hk; rw [upd_s, upd_s]
        · rw [upd_n hk, upd_n hk, upd_n hk]
      have hup3 : ∀ x y, upd (upd r s x) s y = upd r s y := fun x y => by
        funext k
        by_cases hk : k = s
        · subst hk; rw [upd_s, upd_s]
        · rw [upd_n hk, upd_n hk, upd_n hk]
      by_cases hcb : c (s - 1 <<< i) ≤ b
      · rw [Nat.max_eq_left hcb]
        rcases ho4 with rfl | ⟨x, rfl⟩
        · rw [m238_72]
          simp (disch := omega) only [rt_c, b_some, List.cons_append, List.nil_append, Bool.cond_not, cond_true, cond_false, Bool.cond_decide, nI_add, nI_clamp, xin_n, dle_e, dlt_e, deq_e, xb_0, xb_1, decide_true, decide_false, Bool.not_true, Bool.not_false, Bool.and_true, Bool.true_and, Bool.and_false, Bool.false_and, Bool.true_or, Bool.false_or, Bool.or_true, Bool.or_false, if_true, if_false, up1_s, n_31, Int32.lt_irrefl, h1, hand, h167, m238_85, hless, h200, m238_119, h200', m238_127, hA13, hA14, hul', hrl', upd_s, hcb, hun, hup2, up_13_14]
        · rw [m238_72_1]
          simp (disch := omega) only [rt_c, b_some, List.cons_append, List.nil_append, Bool.cond_not, cond_true, cond_false, Bool.cond_decide, nI_add, nI_clamp, xin_n, dle_e, dlt_e, deq_e, xb_0, xb_1, decide_true, decide_false, Bool.not_true, Bool.not_false, Bool.and_true, Bool.true_and, Bool.and_false, Bool.false_and, Bool.true_or, Bool.false_or, Bool.or_true, Bool.or_false, if_true, if_false, up1_s, n_31, Int32.lt_irrefl, h1, hand, h167, m238_85_1, hless, h200, m238_119, h200', m238_127, hA13, hA14, hul', hrl', upd_s, hcb, hun, hup2, up_13_14]
      · rw [Nat.max_eq_right (by omega)]
        rcases ho4 with rfl | ⟨x, rfl⟩
        · rw [m238_72]
          simp (disch := omega) only [rt_c, b_some, List.cons_append, List.nil_append, Bool.cond_not, cond_true, cond_false, Bool.cond_decide, nI_add, nI_clamp, xin_n, dle_e, dlt_e, deq_e, xb_0, xb_1, decide_true, decide_false, Bool.not_true, Bool.not_false, Bool.and_true, Bool.true_and, Bool.and_false, Bool.false_and, Bool.true_or, Bool.false_or, Bool.or_true, Bool.or_false, if_true, if_false, up1_s, n_31, Int32.lt_irrefl, h1, hand, h167, m238_85, hless, h200, m238_119, h200', m238_127, hA13, hA14, hul', hrl', upd_s, hcb, hun, hup2, hup3, up_13_14, up1_up]
        · rw [m238_72_1]
          simp (disch := omega) only [rt_c, b_some, List.cons_append, List.nil_append, Bool.cond_not, cond_true, cond_false, Bool.cond_decide, nI_add, nI_clamp, xin_n, dle_e, dlt_e, deq_e, xb_0, xb_1, decide_true, decide_false, Bool.not_true, Bool.not_false, Bool.and_true, Bool.true_and, Bool.and_false, Bool.false_and, Bool.true_or, Bool.false_or, Bool.or_true, Bool.or_false, if_true, if_false, up1_s, n_31, Int32.lt_irrefl, h1, hand, h167, m238_85_1, hless, h200, m238_119, h200', m238_127, hA13, hA14, hul', hrl', upd_s, hcb, hun, hup2, hup3, up_13_14, up1_up]
theorem c238_50 {H m o : Nat} (hV : Vd (A 2) H m) (ho : o = mkN (unP (A 2) m) H) : ∀ (q s : Nat) (u r : Nat → Int32) (c : Nat → Nat) (o3 o4 : Option Value), ((o3 = none ∧ o4 = none) ∨ ((∃ v, o3 = some (.int v)) ∧ (o4 = none ∨ ∃ v, o4 = some (.int v)))) → s + q = 64 → (∀ k, k < s → u k = sumP (balS (A 2) m) (k &&& o).testBit 6) → (∀ k, k < s → r k = nI (c k) ∧ c k ≤ k) → c 0 = 0 → (∀ k, 1 ≤ k → k < s → k &&& o = k → c k = mxP k.testBit (fun h => c (k - 1 <<< h)) + (if sumP (balS (A 2) m) k.testBit 6 = nI 0 then 1 else 0)) →
    ∃ (u' r' : Nat → Int32) (c' : Nat → Nat), rt 238 (R (d + 1) 238 (50, [some (.ref 0), some (.int (nI o)), some (.int (nI s)), o3, o4], [], sl, RH I w (up1 (up1 A 13 u) 14 r) N)) = some ([.int (nI (popF 12 o) - nI (c' o))], sl, RH I w (up1 (up1 A 13 u') 14 r') N) ∧ c' 0 = 0 ∧ (∀ k, 1 ≤ k → k < 64 → k &&& o = k → c' k = mxP k.testBit (fun h => c' (k - 1 <<< h)) + (if sumP (balS (A 2) m) k.testBit 6 = nI 0 then 1 else 0)) := by
  obtain ⟨hH, hD, hH6, hm⟩ := hV.1
  have h64 : 2 ^ H ≤ 2 ^ 6 := Nat.pow_le_pow_right (by decide) hH6
  have ho64 : o < 64 := by rw [ho]; exact Nat.lt_of_lt_of_le (mkN_lt _ H) (by omega)
  intro q
  induction q with
  | zero =>
    intro s u r c o3 o4 hoo hs hu hr hc0 hrec
    have h1 : 64 ≤ s := by omega
    have h168 := fun A' => c168' d sl I w A' N (x := o) (by omega)
    have hro := hr o (by omega)
    refine ⟨u, r, c, ?_, hc0, fun k k1 k2 k3 => hrec k k1 (by omega) k3⟩
    rcases hoo with ⟨rfl, rfl⟩ | ⟨⟨v, rfl⟩, rfl | ⟨v', rfl⟩⟩
    · rw [m238_50]
      simp (disch := omega) only [rt_c, b_some, List.cons_append, List.nil_append, Bool.cond_not, cond_true, cond_false, Bool.cond_decide, nI_add, nI_clamp, xin_n, dle_e, dlt_e, deq_e, xb_0, xb_1, decide_true, decide_false, Bool.not_true, Bool.not_false, Bool.and_true, Bool.true_and, Bool.and_false, Bool.false_and, Bool.true_or, Bool.false_or, Bool.or_true, Bool.or_false, if_true, if_false, up1_s, n_31, Int32.lt_irrefl, h1, h168, m238_206, hro.1, t238_213]
    · rw [m238_50_1]
      simp (disch := omega) only [rt_c, b_some, List.cons_append, List.nil_append, Bool.cond_not, cond_true, cond_false, Bool.cond_decide, nI_add, nI_clamp, xin_n, dle_e, dlt_e, deq_e, xb_0, xb_1, decide_true, decide_false, Bool.not_true, Bool.not_false, Bool.and_true, Bool.true_and, Bool.and_false, Bool.false_and, Bool.true_or, Bool.false_or, Bool.or_true, Bool.or_false, if_true, if_false, up1_s, n_31, Int32.lt_irrefl, h1, h168, m238_206_1, hro.1, t238_213]
    · rw [m238_50_2]
      simp (disch := omega) only [rt_c, b_some, List.cons_append, List.nil_append, Bool.cond_not, cond_true, cond_false, Bool.cond_decide, nI_add, nI_clamp, xin_n, dle_e, dlt_e, deq_e, xb_0, xb_1, decide_true, decide_false, Bool.not_true, Bool.not_false, Bool.and_true, Bool.true_and, Bool.and_false, Bool.false_and, Bool.true_or, Bool.false_or, Bool.or_true, Bool.or_false, if_true, if_false, up1_s, n_31, Int32.lt_irrefl, h1, h168, m238_206_2, hro.1, t238_213]
  | succ q ih =>
    intro s u r c o3 o4 hoo hs hu hr hc0 hrec
    have h1 : ¬ 64 ≤ s := by omega
    have hT64 : s &&& o < 64 := Nat.lt_of_le_of_lt Nat.and_le_left (by omega)
    have hand : nI s &&& nI o = nI (s &&& o) := nI_and (by omega) (by omega)
    -- behind the houses
    have hnext : ∀ e v o4', (o4' = none ∨ ∃ v, o4' = some (.int v)) → v = sumP (balS (A 2) m) (s &&& o).testBit 6 → (e = if (s ≠ 0 ∧ s &&& o = s ∧ sumP (balS (A 2) m) s.testBit 6 = nI 0) then 1 else 0) → ∃ (u' r' : Nat → Int32) (c' : Nat → Nat), rt 238 (R (d + 1) 238 (50, [some (.ref 0), some (.int (nI o)), some (.int (nI (s + 1))), some (.int (nI 6)), o4'], [], sl, RH I w (up1 (up1 A 13 (upd u s v)) 14 (upd r s (nI (mxP (s &&& o).testBit (fun h => c (s - 1 <<< h)) + e)))) N)) = some ([.int (nI (popF 12 o) - nI (c' o))], sl, RH I w (up1 (up1 A 13 u') 14 r') N) ∧ c' 0 = 0 ∧ (∀ k, 1 ≤ k → k < 64 → k &&& o = k → c' k = mxP k.testBit (fun h => c' (k - 1 <<< h)) + (if sumP (balS (A 2) m) k.testBit 6 = nI 0 then 1 else 0)) := by
      intro e v o4' ho4' hv he
      have hmx : mxP (s &&& o).testBit (fun h => c (s - 1 <<< h)) + e ≤ s := by
        by_cases hs0 : s = 0
        · subst hs0
          have h0 : mxP (0 &&& o).testBit (fun h => c (0 - 1 <<< h)) ≤ 0 := mxP_le (fun h hh hb => by rw [Nat.zero_and] at hb; simp at hb)
          rw [if_neg (fun h => h.1 rfl)] at he
          omega
        · have h0 : mxP (s &&& o).testBit (fun h => c (s - 1 <<< h)) ≤ s - 1 := mxP_le (fun h hh hb => by
            have hsb : s.testBit h = true := by
              rw [Nat.testBit_and, Bool.and_eq_true] at hb
              exact hb.1
            have hle := tb_le (show s < 64 by omega) hh hsb
            have h1s := one_le_shl h
            have := (hr (s - 1 <<< h) (by omega)).2
            show c (s - 1 <<< h) ≤ s - 1
            omega)
          have he1 : e ≤ 1 := by rw [he]; split <;> omega
          omega
      have hmxc : ∀ k, k ≤ s → k < 64 → mxP k.testBit (fun h => (if k - 1 <<< h = s then mxP (s &&& o).testBit (fun h => c (s - 1 <<< h)) + e else c (k - 1 <<< h))) = mxP k.testBit (fun h => c (k - 1 <<< h)) := by
        intro k hk hk64
        unfold mxP
        apply x_it_congr
        intro j c2 _ hj
        cases hb : k.testBit j with
        | false => rfl
        | true =>
          have hle := tb_le hk64 (show j < 6 by omega) hb
          have h1s := one_le_shl j
          have hne : ¬ k - 1 <<< j = s := by omega
          simp only [if_neg hne]
      refine ih (s + 1) _ _ (fun k => if k = s then mxP (s &&& o).testBit (fun h => c (s - 1 <<< h)) + e else c k) (some (.int (nI 6))) o4' (Or.inr ⟨⟨_, rfl⟩, ho4'⟩) (by omega) (fun k hk => ?_) (fun k hk => ?_) ?_ (fun k k1 k2 k3 => ?_)
      · by_cases hks : k = s
        · subst hks
          rw [upd_s, hv]
        · rw [upd_n hks]; exact hu k (by omega)
      · by_cases hks : k = s
        · subst hks
          rw [upd_s]
          show nI _ = nI (if k = k then _ else _) ∧ (if k = k then _ else _) ≤ k
          rw [if_pos rfl]
          exact ⟨rfl, hmx⟩
        · rw [upd_n hks]
          show r k = nI (if k = s then _ else _) ∧ (if k = s then _ else _) ≤ k
          rw [if_neg hks]
          exact hr k (by omega)
      · show (if 0 = s then _ else c 0) = 0
        by_cases hs0 : 0 = s
        · rw [if_pos hs0]
          omega
        · rw [if_neg hs0]; exact hc0
      · show (if k = s then _ else c k) = mxP k.testBit (fun h => (if k - 1 <<< h = s then mxP (s &&& o).testBit (fun h => c (s - 1 <<< h)) + e else c (k - 1 <<< h))) + _
        rw [hmxc k (by omega) (by omega)]
        by_cases hks : k = s
        · subst hks
          rw [if_pos rfl, he, k3]
          congr 1
          by_cases hz : sumP (balS (A 2) m) k.testBit 6 = nI 0
          · rw [if_pos hz, if_pos ⟨by omega, rfl, hz⟩]
          · rw [if_neg hz, if_neg (fun h => hz h.2.2)]
        · rw [if_neg hks]
          exact hrec k k1 (by omega) k3
    -- the houses
    have hgo : ∀ oo, (oo = none ∨ ∃ v, oo = some (.int v)) → ∃ (u' r' : Nat → Int32) (c' : Nat → Nat), rt 238 (R (d + 1) 238 (72, [some (.ref 0), some (.int (nI o)), some (.int (nI s)), some (.int (nI 0)), oo], [], sl, RH I w (up1 (up1 A 13 (upd u s (nI 0))) 14 (upd r s (nI 0))) N)) = some ([.int (nI (popF 12 o) - nI (c' o))], sl, RH I w (up1 (up1 A 13 u') 14 r') N) ∧ c' 0 = 0 ∧ (∀ k, 1 ≤ k → k < 64 → k &&& o = k → c' k = mxP k.testBit (fun h => c' (k - 1 <<< h)) + (if sumP (balS (A 2) m) k.testBit 6 = nI 0 then 1 else 0)) := by
      intro oo hoo'
      obtain ⟨v', o4', f1, f2, f3⟩ := c238_72 d sl I w A N hV ho (show s < 64 by omega) u c r hu hr 6 0 0 (nI 0) oo hoo' (by omega) (by omega) (fun h => by cases h) (fun _ => rfl)
      rw [f3]
      have hmxe : x_it (fun h b => cond ((s &&& o).testBit h) (max b (c (s - 1 <<< h))) b) 0 6 0 = mxP (s &&& o).testBit (fun h => c (s - 1 <<< h)) := rfl
      rw [hmxe]
      have h6 : 6 ≤ 6 := Nat.le_refl 6
      have hA13 : ∀ u r, up1 (up1 A 13 u) 14 r 13 = u := fun u r => by rw [up1_n (by decide), up1_s]
      have hA14 : ∀ u r, up1 (up1 A 13 u) 14 r 14 = r := fun u r => up1_s
      have hup3 : ∀ x y, upd (upd r s x) s y = upd r s y := fun x y => by
        funext k
        by_cases hk : k = s
        · subst hk; rw [upd_s, upd_s]
        · rw [upd_n hk, upd_n hk, upd_n hk]
      by_cases hT0 : s &&& o = 0
      · have he : (0 : Nat) = if (s ≠ 0 ∧ s &&& o = s ∧ sumP (balS (A 2) m) s.testBit 6 = nI 0) then 1 else 0 := by
          rw [if_neg]
          rintro ⟨h1, h2, -⟩
          rw [hT0] at h2
          exact h1 h2.symm
        have hx := hnext 0 v' o4' f1 f2 he
        obtain ⟨u', r', c', g1, g2, g3⟩ := hx
        rw [hT0] at g1
        refine ⟨u', r', c', ?_, g2, g3⟩
        rcases f1 with rfl | ⟨x, rfl⟩
        · rw [m238_72]
          simp (disch := omega) only [rt_c, b_some, List.cons_append, List.nil_append, Bool.cond_not, cond_true, cond_false, Bool.cond_decide, nI_add, nI_clamp, xin_n, dle_e, dlt_e, deq_e, xb_0, xb_1, decide_true, decide_false, Bool.not_true, Bool.not_false, Bool.and_true, Bool.true_and, Bool.and_false, Bool.false_and, Bool.true_or, Bool.false_or, Bool.or_true, Bool.or_false, if_true, if_false, up1_s, n_31, Int32.lt_irrefl, h6, hand, hT0]
          exact g1
        · rw [m238_72_1]
          simp (disch := omega) only [rt_c, b_some, List.cons_append, List.nil_append, Bool.cond_not, cond_true, cond_false, Bool.cond_decide, nI_add, nI_clamp, xin_n, dle_e, dlt_e, deq_e, xb_0, xb_1, decide_true, decide_false, Bool.not_true, Bool.not_false, Bool.and_true, Bool.true_and, Bool.and_false, Bool.false_and, Bool.true_or, Bool.false_or, Bool.or_true, Bool.or_false, if_true, if_false, up1_s, n_31, Int32.lt_irrefl, h6, hand, hT0]
          exact g1
      · by_cases hTs : s &&& o = s
        · by_cases hz : sumP (balS (A 2) m) s.testBit 6 = nI 0
          · have he : (1 : Nat) = if (s ≠ 0 ∧ s &&& o = s ∧ sumP (balS (A 2) m) s.testBit 6 = nI 0) then 1 else 0 := by
              rw [if_pos ⟨fun h => hT0 (by rw [h, Nat.zero_and]), hTs, hz⟩]
            obtain ⟨u', r', c', g1, g2, g3⟩ := hnext 1 v' o4' f1 f2 he
            rw [hTs] at f2 g1
            have hs0 : ¬ s = 0 := fun h => hT0 (by rw [h, Nat.zero_and])
            refine ⟨u', r', c', ?_, g2, g3⟩
            rw [hTs]
            rcases f1 with rfl | ⟨x, rfl⟩
            · rw [m238_72]
              simp (disch := omega) only [rt_c, b_some, List.cons_append, List.nil_append, Bool.cond_not, cond_true, cond_false, Bool.cond_decide, nI_add, nI_clamp, xin_n, dle_e, dlt_e, deq_e, xb_0, xb_1, decide_true, decide_false, Bool.not_true, Bool.not_false, Bool.and_true, Bool.true_and, Bool.and_false, Bool.false_and, Bool.true_or, Bool.false_or, Bool.or_true, Bool.or_false, if_true, if_false, up1_s, n_31, Int32.lt_irrefl, h6, hand, hTs, hs0, hA13, hA14, upd_s, f2, hz, hup3, up1_up]
              rw [← g1, f2, hz]
            · rw [m238_72_1]
              simp (disch := omega) only [rt_c, b_some, List.cons_append, List.nil_append, Bool.cond_not, cond_true, cond_false, Bool.cond_decide, nI_add, nI_clamp, xin_n, dle_e, dlt_e, deq_e, xb_0, xb_1, decide_true, decide_false, Bool.not_true, Bool.not_false, Bool.and_true, Bool.true_and, Bool.and_false, Bool.false_and, Bool.true_or, Bool.false_or, Bool.or_true, Bool.or_false, if_true, if_false, up1_s, n_31, Int32.lt_irrefl, h6, hand, hTs, hs0, hA13, hA14, upd_s, f2, hz, hup3, up1_up]
              rw [← g1, f2, hz]
          · have he : (0 : Nat) = if (s ≠ 0 ∧ s &&& o = s ∧ sumP (balS (A 2) m) s.testBit 6 = nI 0) then 1 else 0 := by
              rw [if_neg (fun h => hz h.2.2)]
            obtain ⟨u', r', c', g1, g2, g3⟩ := hnext 0 v' o4' f1 f2 he
            rw [hTs] at f2 g1
            have hs0 : ¬ s = 0 := fun h => hT0 (by rw [h, Nat.zero_and])
            have hz' : ¬ v' = nI 0 := by rw [f2]; exact hz
            refine ⟨u', r', c', ?_, g2, g3⟩
            rw [hTs]
            rcases f1 with rfl | ⟨x, rfl⟩
            · rw [m238_72]
              simp (disch := omega) only [rt_c, b_some, List.cons_append, List.nil_append, Bool.cond_not, cond_true, cond_false, Bool.cond_decide, nI_add, nI_clamp, xin_n, dle_e, dlt_e, deq_e, xb_0, xb_1, decide_true, decide_false, Bool.not_true, Bool.not_false, Bool.and_true, Bool.true_and, Bool.and_false, Bool.false_and, Bool.true_or, Bool.false_or, Bool.or_true, Bool.or_false, if_true, if_false, up1_s, n_31, Int32.lt_irrefl, h6, hand, hTs, hs0, hA13, upd_s, hz']
              exact g1
            · rw [m238_72_1]
              simp (disch := omega) only [rt_c, b_some, List.cons_append, List.nil_append, Bool.cond_not, cond_true, cond_false, Bool.cond_decide, nI_add, nI_clamp, xin_n, dle_e, dlt_e, deq_e, xb_0, xb_1, decide_true, decide_false, Bool.not_true, Bool.not_false, Bool.and_true, Bool.true_and, Bool.and_false, Bool.false_and, Bool.true_or, Bool.false_or, Bool.or_true, Bool.or_false, if_true, if_false, up1_s, n_31, Int32.lt_irrefl, h6, hand, hTs, hs0, hA13, upd_s, hz']
              exact g1
        · have he : (0 : Nat) = if (s ≠ 0 ∧ s &&& o = s ∧ sumP (balS (A 2) m) s.testBit 6 = nI 0) then 1 else 0 := by
            rw [if_neg (fun h => hTs h.2.1)]
          obtain ⟨u', r', c', g1, g2, g3⟩ := hnext 0 v' o4' f1 f2 he
          have hTs' : ¬ s = s &&& o := fun h => hTs h.symm
          refine ⟨u', r', c', ?_, g2, g3⟩
          rcases f1 with rfl | ⟨x, rfl⟩
          · rw [m238_72]
            simp (disch := omega) only [rt_c, b_some, List.cons_append, List.nil_append, Bool.cond_not, cond_true, cond_false, Bool.cond_decide, nI_add, nI_clamp, xin_n, dle_e, dlt_e, deq_e, xb_0, xb_1, decide_true, decide_false, Bool.not_true, Bool.not_false, Bool.and_true, Bool.true_and, Bool.and_false, Bool.false_and, Bool.true_or, Bool.false_or, Bool.or_true, Bool.or_false, if_true, if_false, up1_s, n_31, Int32.lt_irrefl, h6, hand, hT0, hTs']
            exact g1
          · rw [m238_72_1]
            simp (disch := omega) only [rt_c, b_some, List.cons_append, List.nil_append, Bool.cond_not, cond_true, cond_false, Bool.cond_decide, nI_add, nI_clamp, xin_n, dle_e, dlt_e, deq_e, xb_0, xb_1, decide_true, decide_false, Bool.not_true, Bool.not_false, Bool.and_true, Bool.true_and, Bool.and_false, Bool.false_and, Bool.true_or, Bool.false_or, Bool.or_true, Bool.or_false, if_true, if_false, up1_s, n_31, Int32.lt_irrefl, h6, hand, hT0, hTs']
            exact g1
    rcases hoo with ⟨rfl, rfl⟩ | ⟨⟨v, rfl⟩, rfl | ⟨v', rfl⟩⟩
    · obtain ⟨u', r', c', g1, g2, g3⟩ := hgo none (Or.inl rfl)
      refine ⟨u', r', c', ?_, g2, g3⟩
      rw [m238_50]
      simp (disch := omega) only [rt_c, b_some, List.cons_append, List.nil_append, Bool.cond_not, cond_true, cond_false, Bool.cond_decide, nI_add, nI_clamp, xin_n, dle_e, dlt_e, deq_e, xb_0, xb_1, decide_true, decide_false, Bool.not_true, Bool.not_false, Bool.and_true, Bool.true_and, Bool.and_false, Bool.false_and, Bool.true_or, Bool.false_or, Bool.or_true, Bool.or_false, if_true, if_false, up1_s, n_31, Int32.lt_irrefl, h1, up_13_14, up1_up, up1_n, g1]
    · obtain ⟨u', r', c', g1, g2, g3⟩ := hgo none (Or.inl rfl)
      refine ⟨u', r', c', ?_, g2, g3⟩
      rw [m238_50_1]
      simp (disch := omega) only [rt_c, b_some, List.cons_append, List.nil_append, Bool.cond_not, cond_true, cond_false, Bool.cond_decide, nI_add, nI_clamp, xin_n, dle_e, dlt_e, deq_e, xb_0, xb_1, decide_true, decide_false, Bool.not_true, Bool.not_false, Bool.and_true, Bool.true_and, Bool.and_false, Bool.false_and, Bool.true_or, Bool.false_or, Bool.or_true, Bool.or_false, if_true, if_false, up1_s, n_31, Int32.lt_irrefl, h1, up_13_14, up1_up, up1_n, g1]
    · obtain ⟨u', r', c', g1, g2, g3⟩ := hgo (some (.int v')) (Or.inr ⟨_, rfl⟩)
      refine ⟨u', r', c', ?_, g2, g3⟩
      rw [m238_50_2]
      simp (disch := omega) only [rt_c, b_some, List.cons_append, List.nil_append, Bool.cond_not, cond_true, cond_false, Bool.cond_decide, nI_add, nI_clamp, xin_n, dle_e, dlt_e, deq_e, xb_0, xb_1, decide_true, decide_false, Bool.not_true, Bool.not_false, Bool.and_true, Bool.true_and, Bool.and_false, Bool.false_and, Bool.true_or, Bool.false_or, Bool.or_true, Bool.or_false, if_true, if_false, up1_s, n_31, Int32.lt_irrefl, h1, up_13_14, up1_up, up1_n, g1]
theorem c238 {H m : Nat} (hV : Vd (A 2) H m) : ∃ (u r : Nat → Int32) (c : Nat → Nat), C (d + 1) 238 [.ref 0] sl (RH I w A N) = some ([.int (nI (popF 12 (mkN (unP (A 2) m) H)) - nI (c (mkN (unP (A 2) m) H)))], sl, RH (up1 I 0 (nI 0)) w (up1 (up1 A 13 u) 14 r) N) ∧ c 0 = 0 ∧ (∀ k, 1 ≤ k → k < 64 → k &&& mkN (unP (A 2) m) H = k → c k = mxP k.testBit (fun h => c (k - 1 <<< h)) + (if sumP (balS (A 2) m) k.testBit 6 = nI 0 then 1 else 0)) := by
  obtain ⟨hH, hD, hH6, hm⟩ := hV.1
  obtain ⟨u, r, c, e1, e2, e3⟩ := c238_50 d sl (up1 I 0 (nI 0)) w A N hV rfl 64 0 (A 13) (up1 A 13 (A 13) 14) (fun _ => 0) none none (Or.inl ⟨rfl, rfl⟩) (by omega) (fun k hk => by omega) (fun k hk => by omega) rfl (fun k k1 k2 => by omega)
  rw [up1_id, up1_id] at e1
  refine ⟨u, r, c, ?_, e2, e3⟩
  rw [e238, m238_0, ← e1]
  refine lpM (fun k s => rt 238 (R (d + 1) 238 (9, [some (.ref 0), some (.int s), some (.int (nI k)), none, none], [], sl, RH (up1 I 0 (nI 0)) w A N))) (unP (A 2) m) H (by omega) (fun s => rt 238 (R (d + 1) 238 (50, [some (.ref 0), some (.int s), some (.int (nI 0)), none, none], [], sl, RH (up1 I 0 (nI 0)) w A N))) ?_ ?_
  · intro k s hk
    have h1 : ¬ H ≤ k := by omega
    have h200 := c200 d sl (up1 I 0 (nI 0)) w A N (b := 91) (by decide) hm hD (nI k)
    have h200' := c200 d sl (up1 I 0 (nI 0)) w A N (b := 79) (by decide) hm hD (nI k)
    rw [m238_9]
    simp (disch := omega) only [rt_c, b_some, List.cons_append, List.nil_append, Bool.cond_not, cond_true, cond_false, Bool.cond_decide, nI_add, nI_clamp, xin_n, dle_e, dlt_e, deq_e, xb_0, xb_1, decide_true, decide_false, Bool.not_true, Bool.not_false, Bool.and_true, Bool.true_and, Bool.and_false, Bool.false_and, Bool.true_or, Bool.false_or, Bool.or_true, Bool.or_false, if_true, if_false, up1_s, n_31, Int32.lt_irrefl, hH, h1, h200, m238_26, h200', m238_33]
    unfold unP
    by_cases h2 : sum_ (A 2) 91 m (nI k) = sum_ (A 2) 79 m (nI k) <;> simp (disch := omega) only [rt_c, b_some, List.cons_append, List.nil_append, Bool.cond_not, cond_true, cond_false, Bool.cond_decide, nI_add, nI_clamp, xin_n, dle_e, dlt_e, deq_e, xb_0, xb_1, decide_true, decide_false, Bool.not_true, Bool.not_false, Bool.and_true, Bool.true_and, Bool.and_false, Bool.false_and, Bool.true_or, Bool.false_or, Bool.or_true, Bool.or_false, if_true, if_false, up1_s, n_31, Int32.lt_irrefl, h2]
  · intro s
    rw [m238_9]
    simp (disch := omega) only [rt_c, b_some, List.cons_append, List.nil_append, Bool.cond_not, cond_true, cond_false, Bool.cond_decide, nI_add, nI_clamp, xin_n, dle_e, dlt_e, deq_e, xb_0, xb_1, decide_true, decide_false, Bool.not_true, Bool.not_false, Bool.and_true, Bool.true_and, Bool.and_false, Bool.false_and, Bool.true_or, Bool.false_or, Bool.or_true, Bool.or_false, if_true, if_false, up1_s, n_31, Int32.lt_irrefl, hH, Nat.le_refl]
end RFS
theorem ok_settle (d : Nat) : Ok (d + 2) 142 238 [.ref 0] := by
  intro sl sl2 I A N V lt tw sp sr J w B M hR
  have hR0 := hR
  obtain ⟨H, m, h1, ⟨p, z, h2⟩, h3⟩ := hR
  have hS := h1.1
  have hV := h1.2.1
  obtain ⟨hH, hD, hH6, hm⟩ := hV.1
  obtain ⟨u, r, mo, e1, e2, e3⟩ := q112 d sl I A N V lt tw sp sr [] hS
  obtain ⟨u', r', c, f1, f2, f3⟩ := c238 (d + 1) sl2 J w B M hV
  have h64 : 2 ^ H ≤ 2 ^ 6 := Nat.pow_le_pow_right (by decide) hH6
  have hpos := Nat.two_pow_pos H
  have ho := mkN_lt (unP (B 2) m) H
  have hun : ∀ h, h < H → (mkN (unP (B 2) m) H).testBit h = false → balS (B 2) m h = nI 0 := by
    intro h hh hb
    rw [mkN_bit] at hb
    have hb' : unP (B 2) m h = false := by simpa [hh] using hb
    unfold unP at hb'
    have : sum_ (B 2) 91 m (nI h) = sum_ (B 2) 79 m (nI h) := by
      apply Classical.byContradiction
      intro hne
      rw [decide_eq_false hne] at hb'
      cases hb'
    unfold balS
    rw [this]
    exact (Int32.sub_self _).trans rfl
  have hse := settle_eq hH6 ho hun e2 e3 f2 f3 (2 ^ H - 1) (by omega)
  have hcz := cz_all ⟨H, by omega⟩ ⟨mkN (unP (B 2) m) H, by omega⟩ ho
  simp only at hcz
  rw [hcz.2] at hse
  have hans : nI H - nI (mo (2 ^ H - 1)) = nI (popF 12 (mkN (unP (B 2) m) H)) - nI (c (mkN (unP (B 2) m) H)) := by
    rw [hse]
    have hcz1 := hcz.1
    generalize popF 12 (mkN (unP (B 2) m) H) = a at hcz1
    generalize czP (mkN (unP (B 2) m) H) (2 ^ H - 1) = b at hcz1
    generalize c (mkN (unP (B 2) m) H) = g
    rw [← hcz1, ← nI_add, ← nI_add]
    generalize nI a = x
    generalize nI b = y
    generalize nI g = t
    rw [Int32.sub_eq_add_neg, Int32.neg_add, Int32.sub_eq_add_neg, Int32.sub_eq_add_neg, Int32.add_assoc, Int32.add_comm (-t), ← Int32.add_assoc y, Int32.add_right_neg, Int32.zero_add]
  rw [hans] at e1
  have hA : ∀ q, q ≠ 99 → q ≠ 100 → up1 (up1 A 99 u) 100 r q = A q := fun q a1 a2 => by rw [up1_n a2, up1_n a1]
  have hB : ∀ q, q ≠ 13 → q ≠ 14 → up1 (up1 B 13 u') 14 r' q = B q := fun q a1 a2 => by rw [up1_n a2, up1_n a1]
  refine ⟨_, I, up1 (up1 A 99 u) 100 r, N, V, lt, tw, sp, sr, [], sl, _, w, _, M, ?_, f1, ?_, Nat.le_refl _, by omega, by simp⟩
  · rw [e142, k142_0, e1]
    simp (disch := omega) only [rt_c, b_some, List.cons_append, List.nil_append, Bool.cond_not, cond_true, cond_false, Bool.cond_decide, nI_add, nI_clamp, xin_n, dle_e, dlt_e, deq_e, xb_0, xb_1, decide_true, decide_false, Bool.not_true, Bool.not_false, Bool.and_true, Bool.true_and, Bool.and_false, Bool.false_and, Bool.true_or, Bool.false_or, Bool.or_true, Bool.or_false, if_true, if_false, up1_s, n_31, Int32.lt_irrefl, k142_11, t142_11]
  · refine ⟨H, m, ⟨?_, ?_, ?_, h1.2.2.2⟩, ⟨p, z, RPx_c h2 (fun q _ _ => rfl) (fun q _ _ => hA q (by omega) (by omega)) (fun _ _ _ => rfl) rfl (up1_n (by decide)) (hB _ (by decide) (by decide)) (fun k _ => by rw [hB _ (by decide) (by decide)])⟩, RZ_f h3 (fun q _ => rfl) (fun q _ => hA q (by omega) (by omega)) (fun _ _ => rfl) (J8_0 J _) ⟨hB _ (by decide) (by decide), hB _ (by decide) (by decide), hB _ (by decide) (by decide), hB _ (by decide) (by decide), hB _ (by decide) (by decide), hB _ (by decide) (by decide)⟩ rfl (fun k _ => by rw [hB _ (by decide) (by decide)])⟩
    · rw [hB _ (by decide) (by decide)]
      exact Sh_c hS (fun _ _ => rfl) rfl (fun q _ _ => hA q (by omega) (by omega))
    · rw [hB _ (by decide) (by decide)]; exact hV
    · rw [hB _ (by decide) (by decide)]; exact h1.2.2.1
