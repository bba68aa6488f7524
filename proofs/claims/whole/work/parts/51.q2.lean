/-! NOW, COUNT, FULLEST, MEAN -/
theorem fold_mk (n : Nat → Int32) (b : Nat) (P : Nat → Bool) (m : Nat) (hm : m ≤ 12) : x_it (fun k t => cond ((mkN P m).testBit k) (t + n (b + k)) t) 0 12 (nI 0) = x_it (fun k s => cond (P k) (s + n (b + k)) s) 0 m (nI 0) := by
  have h1 : ∀ (k i : Nat) (s : Int32), i + k ≤ 12 → m ≤ i → x_it (fun k t => cond ((mkN P m).testBit k) (t + n (b + k)) t) i k s = s := by
    intro k
    induction k with
    | zero => intro i s _ _; rfl
    | succ k ih =>
      intro i s h1 h2
      simp only [x_it]
      have : decide (i < m) = false := by simp; omega
      rw [mkN_bit, this]
      exact ih (i + 1) s (by omega) (by omega)
  have h2 : ∀ (k i : Nat) (s : Int32), i + k = m → x_it (fun k t => cond ((mkN P m).testBit k) (t + n (b + k)) t) i (k + (12 - m)) s = x_it (fun k s => cond (P k) (s + n (b + k)) s) i k s := by
    intro k
    induction k with
    | zero => intro i s h; rw [Nat.zero_add]; exact h1 _ i s (by omega) (by omega)
    | succ k ih =>
      intro i s h
      rw [show k + 1 + (12 - m) = (k + (12 - m)) + 1 by omega]
      simp only [x_it]
      have : decide (i < m) = true := by simp; omega
      rw [mkN_bit, this, Bool.true_and]
      exact ih (i + 1) _ (by omega)
  have := h2 m 0 (nI 0) (by omega)
  rwa [show m + (12 - m) = 12 by omega] at this
def ages_ (n : Nat → Int32) (m : Nat) (h : Int32) : Int32 := x_it (fun k s => cond (op_ n k && decide (n (79 + k) = h)) (s + n (115 + k)) s) 0 m (nI 0)
theorem ages_n {n : Nat → Int32} {H m : Nat} (hV : Vd n H m) (h : Int32) : ∃ t, t ≤ 11988 ∧ ages_ n m h = nI t := by
  have hm := hV.1.2.2.2
  have hg : ∀ k, k < m → ∃ g, g ≤ 999 ∧ n (115 + k) = nI g := hV.2.2.2.2.2.2.2.2.1
  have := x_it_inv (f := fun k s => cond (op_ n k && decide (n (79 + k) = h)) (s + n (115 + k)) s) (fun k s => ∃ t, t ≤ 999 * k ∧ s = nI t) m 0 (nI 0) ⟨0, by omega, rfl⟩ (fun j s _ hj hp => by
    obtain ⟨t, ht, rfl⟩ := hp
    obtain ⟨g, hg1, hg2⟩ := hg j (by omega)
    cases (op_ n j && decide (n (79 + j) = h)) with
    | false => exact ⟨t, by omega, rfl⟩
    | true => exact ⟨t + g, by omega, by rw [hg2]; exact nI_add t g⟩)
  rw [Nat.zero_add] at this
  obtain ⟨t, h1, h2⟩ := this
  exact ⟨t, by omega, h2⟩
theorem pop_le : ∀ x : Nat, x < 4096 → popF 12 x ≤ 12 := by
  have : ∀ (f x : Nat), popF f x ≤ f := by
    intro f
    induction f with
    | zero => intro x; exact Nat.le_refl 0
    | succ f ih =>
      intro x
      unfold popF
      split
      · omega
      · have := ih (x &&& (x - 1)); omega
  exact fun x _ => this 12 x
theorem pop_0 {x : Nat} : popF 12 x = 0 ↔ x = 0 := by
  unfold popF
  split
  · simp_all
  · simp_all
def count_ (n : Nat → Int32) (t : Int32) : Nat → Int32
  | 0 => n 0
  | 1 => n 72
  | 2 => n 2
  | 3 => n 3
  | _ => t
section RF7
variable (d sl : Nat) (I : Nat → Int32) (w : Int64) (A : Nat → Nat → Int32) (N : Nat → Nat → Int64)
theorem c281_in {k : Nat} (hk : k ≤ 4) : C d 281 [.ref 0, .int (nI k)] sl (RH I w A N) = some ([.int (count_ (A 2) (I 2) k)], sl, RH (up1 I 0 (nI 0)) w A N) := by
  rw [e281, m281_0]
  rcases (show k = 0 ∨ k = 1 ∨ k = 2 ∨ k = 3 ∨ k = 4 by omega) with rfl | rfl | rfl | rfl | rfl <;> simp (disch := omega) only [rt_c, b_some, List.cons_append, List.nil_append, Bool.cond_not, cond_true, cond_false, Bool.cond_decide, nI_add, nI_clamp, xin_n, dle_e, dlt_e, deq_e, xb_0, xb_1, decide_true, decide_false, Bool.not_true, Bool.not_false, Bool.and_true, Bool.true_and, Bool.and_false, Bool.false_and, Bool.true_or, Bool.false_or, Bool.or_true, Bool.or_false, if_true, if_false, up1_s, n_31, Int32.lt_irrefl, m281_0, m281_6_c0, m281_6_c1, m281_6_c2, m281_6_c3, m281_6_c4, m281_74, m281_40, m281_47, m281_55, m281_62, m281_69, t281_46, t281_54, t281_61, t281_68, t281_73, t281_75, count_, up1_n]
theorem c281_out (x : Int32) (hx : (decide (x.toInt < (0 : Int)) || decide ((4 : Int) < x.toInt)) = true) : C d 281 [.ref 0, .int x] sl (RH I w A N) = some ([.int (-1)], sl, RH (up1 I 0 (nI 0)) w A N) := by
  rw [e281, m281_0, m281_6_out _ _ _ _ _ _ _ _ hx]
  simp (disch := omega) only [rt_c, b_some, List.cons_append, List.nil_append, Bool.cond_not, cond_true, cond_false, Bool.cond_decide, nI_add, nI_clamp, xin_n, dle_e, dlt_e, deq_e, xb_0, xb_1, decide_true, decide_false, Bool.not_true, Bool.not_false, Bool.and_true, Bool.true_and, Bool.and_false, Bool.false_and, Bool.true_or, Bool.false_or, Bool.or_true, Bool.or_false, if_true, if_false, up1_s, n_31, Int32.lt_irrefl, m281_0, m281_6_c0, m281_6_c1, m281_6_c2, m281_6_c3, m281_6_c4, m281_74, m281_40, m281_47, m281_55, m281_62, m281_69, t281_46, t281_54, t281_61, t281_68, t281_73, t281_75]
theorem c243 {H m : Nat} (hV : Vd (A 2) H m) : C (d + 2) 243 [.ref 0] sl (RH I w A N) = some ([.int (if H = 0 then -1 else nI (x_it (full_ (A 2) m) 1 (H - 1) 0))], sl, RH (up1 I 0 (nI 0)) w A N) := by
  obtain ⟨⟨hH, hD, hH6, hm⟩, -⟩ := hV
  rw [e243, m243_0]
  have h201 := fun h => c201 d sl (up1 I 0 (nI 0)) w A N hm hD h
  have h168 := fun h => c168' (d + 1) sl (up1 I 0 (nI 0)) w A N (open_lt hm : open_ (A 2) m h < 4096)
  have key : ∀ q i b, i + q = H → b < H → rt 243 (R (d + 2) 243 (9, [some (.ref 0), some (.int (nI b)), some (.int (nI i))], [], sl, RH (up1 I 0 (nI 0)) w A N)) = some ([.int (nI (x_it (full_ (A 2) m) i q b))], sl, RH (up1 I 0 (nI 0)) w A N) := by
    intro q
    induction q with
    | zero =>
      intro i b hi hb
      have h1 : H ≤ i := by omega
      rw [m243_9]
      simp (disch := omega) only [rt_c, b_some, List.cons_append, List.nil_append, Bool.cond_not, cond_true, cond_false, Bool.cond_decide, nI_add, nI_clamp, xin_n, dle_e, dlt_e, deq_e, xb_0, xb_1, decide_true, decide_false, Bool.not_true, Bool.not_false, Bool.and_true, Bool.true_and, Bool.and_false, Bool.false_and, Bool.true_or, Bool.false_or, Bool.or_true, Bool.or_false, if_true, if_false, up1_s, n_31, Int32.lt_irrefl, hH, h1, t243_72, x_it]
    | succ q ih =>
      intro i b hi hb
      have h1 : ¬ H ≤ i := by omega
      have h3 := ih (i + 1) (full_ (A 2) m i b) (by omega) (full_lt hb (by omega))
      have hb1 : ¬ nI b = -1 := fun e => neg1_ne (k := nI b) (by rw [nI_leI (by omega) (by omega)]; omega) e.symm
      rw [m243_9]
      simp (disch := omega) only [rt_c, b_some, List.cons_append, List.nil_append, Bool.cond_not, cond_true, cond_false, Bool.cond_decide, nI_add, nI_clamp, xin_n, dle_e, dlt_e, deq_e, xb_0, xb_1, decide_true, decide_false, Bool.not_true, Bool.not_false, Bool.and_true, Bool.true_and, Bool.and_false, Bool.false_and, Bool.true_or, Bool.false_or, Bool.or_true, Bool.or_false, if_true, if_false, up1_s, n_31, Int32.lt_irrefl, hH, h1, hb1, h201, m243_29, h168, m243_32, m243_47, m243_50]
      rw [show x_it (full_ (A 2) m) i (q + 1) b = x_it (full_ (A 2) m) (i + 1) q (full_ (A 2) m i b) from rfl]
      by_cases h5 : nI (popF 12 (open_ (A 2) m (nI i))) * A 2 (16 + b) ≤ nI (popF 12 (open_ (A 2) m (nI b))) * A 2 (16 + i)
      · have hf : full_ (A 2) m i b = b := by unfold full_; rw [if_pos h5]
        rw [hf] at h3 ⊢
        rw [if_pos h5]
        exact h3
      · have hf : full_ (A 2) m i b = i := by unfold full_; rw [if_neg h5]
        rw [hf] at h3 ⊢
        rw [if_neg h5]
        exact h3
  by_cases h0 : H = 0
  · have h1 : H ≤ 0 := by omega
    rw [m243_9]
    simp (disch := omega) only [rt_c, b_some, List.cons_append, List.nil_append, Bool.cond_not, cond_true, cond_false, Bool.cond_decide, nI_add, nI_clamp, xin_n, dle_e, dlt_e, deq_e, xb_0, xb_1, decide_true, decide_false, Bool.not_true, Bool.not_false, Bool.and_true, Bool.true_and, Bool.and_false, Bool.false_and, Bool.true_or, Bool.false_or, Bool.or_true, Bool.or_false, if_true, if_false, up1_s, n_31, Int32.lt_irrefl, hH, h1, t243_72, if_pos h0]
  · have h1 : ¬ H ≤ 0 := by omega
    rw [m243_9]
    simp (disch := omega) only [rt_c, b_some, List.cons_append, List.nil_append, Bool.cond_not, cond_true, cond_false, Bool.cond_decide, nI_add, nI_clamp, xin_n, dle_e, dlt_e, deq_e, xb_0, xb_1, decide_true, decide_false, Bool.not_true, Bool.not_false, Bool.and_true, Bool.true_and, Bool.and_false, Bool.false_and, Bool.true_or, Bool.false_or, Bool.or_true, Bool.or_false, if_true, if_false, up1_s, n_31, Int32.lt_irrefl, hH, h1]
    rw [if_neg h0]
    exact key (H - 1) 1 0 (by omega) (by omega)
theorem c170 : ∀ (b a : Nat), a < 2 ^ 31 → b < 2 ^ 31 → ∀ (p q : Int32) (o : Option Value), (o = none ∨ ∃ v, o = some (.int v)) → rt 170 (R d 170 (4, [some (.int p), some (.int q), some (.int (nI a)), some (.int (nI b)), o], [], sl, RH I w A N)) = some ([.int (nI (Nat.gcd a b))], sl, RH I w A N) := by
  intro b
  induction b using Nat.strongRecOn with
  | ind b ih =>
    intro a ha hb p q o ho
    have hstep : rt 170 (R d 170 (4, [some (.int p), some (.int q), some (.int (nI a)), some (.int (nI b)), o], [], sl, RH I w A N)) = if b = 0 then some ([.int (nI a)], sl, RH I w A N) else rt 170 (R d 170 (4, [some (.int p), some (.int q), some (.int (nI b)), some (.int (nI a - nI a / nI b * nI b)), some (.int (nI a - nI a / nI b * nI b))], [], sl, RH I w A N)) := by
      rcases ho with rfl | ⟨v, rfl⟩
      · rw [m170_4]
        by_cases h : b = 0 <;> simp (disch := omega) only [rt_c, b_some, List.cons_append, List.nil_append, Bool.cond_not, cond_true, cond_false, Bool.cond_decide, nI_add, nI_clamp, xin_n, dle_e, dlt_e, deq_e, xb_0, xb_1, decide_true, decide_false, Bool.not_true, Bool.not_false, Bool.and_true, Bool.true_and, Bool.and_false, Bool.false_and, Bool.true_or, Bool.false_or, Bool.or_true, Bool.or_false, if_true, if_false, up1_s, n_31, Int32.lt_irrefl, h, t170_22]
      · rw [m170_4_1]
        by_cases h : b = 0 <;> simp (disch := omega) only [rt_c, b_some, List.cons_append, List.nil_append, Bool.cond_not, cond_true, cond_false, Bool.cond_decide, nI_add, nI_clamp, xin_n, dle_e, dlt_e, deq_e, xb_0, xb_1, decide_true, decide_false, Bool.not_true, Bool.not_false, Bool.and_true, Bool.true_and, Bool.and_false, Bool.false_and, Bool.true_or, Bool.false_or, Bool.or_true, Bool.or_false, if_true, if_false, up1_s, n_31, Int32.lt_irrefl, h, t170_22]
    rw [hstep]
    by_cases h : b = 0
    · rw [if_pos h, h, Nat.gcd_zero_right]
    · rw [if_neg h, pk_rem ha (by omega) hb]
      have h1 : a % b < b := Nat.mod_lt _ (by omega)
      rw [ih (a % b) h1 b hb (by omega) p q _ (Or.inr ⟨_, rfl⟩)]
      have : Nat.gcd b (a % b) = Nat.gcd a b := by rw [Nat.gcd_comm b, ← Nat.gcd_rec, Nat.gcd_comm]
      rw [this]
theorem c170' {a b : Nat} (ha : a < 2 ^ 31) (hb : b < 2 ^ 31) : C d 170 [.int (nI a), .int (nI b)] sl (RH I w A N) = some ([.int (nI (Nat.gcd a b))], sl, RH I w A N) := by
  rw [e170, m170_0]
  exact c170 d sl I w A N b a ha hb _ _ none (Or.inl rfl)
/-- what a mean answers -/
def mean_ (s c : Nat) (x : Nat) : Int32 := nI (if x = 0 then s / Nat.gcd s c else c / Nat.gcd s c)
theorem c244_out {H m : Nat} (hV : Vd (A 2) H m) (h x : Int32) (hx : isN H h = false ∨ (popF 12 (open_ (A 2) m h) = 0) ∨ isN 2 x = false) : C (d + 3) 244 [.ref 0, .int h, .int x] sl (RH I w A N) = some ([.int (nI 0)], sl, RH (up1 I 0 (nI 1)) w A N) := by
  obtain ⟨⟨hH, hD, hH6, hm⟩, -⟩ := hV
  rw [e244, m244_0, c196' _ _ _ _ _ _ hH6 hH]
  simp (disch := omega) only [rt_c, b_some, List.cons_append, List.nil_append, Bool.cond_not, cond_true, cond_false, Bool.cond_decide, nI_add, nI_clamp, xin_n, dle_e, dlt_e, deq_e, xb_0, xb_1, decide_true, decide_false, Bool.not_true, Bool.not_false, Bool.and_true, Bool.true_and, Bool.and_false, Bool.false_and, Bool.true_or, Bool.false_or, Bool.or_true, Bool.or_false, if_true, if_false, up1_s, n_31, Int32.lt_irrefl, m244_10]
  cases hb : isN H h with
  | false => simp (disch := omega) only [rt_c, b_some, List.cons_append, List.nil_append, Bool.cond_not, cond_true, cond_false, Bool.cond_decide, nI_add, nI_clamp, xin_n, dle_e, dlt_e, deq_e, xb_0, xb_1, decide_true, decide_false, Bool.not_true, Bool.not_false, Bool.and_true, Bool.true_and, Bool.and_false, Bool.false_and, Bool.true_or, Bool.false_or, Bool.or_true, Bool.or_false, if_true, if_false, up1_s, n_31, Int32.lt_irrefl, c161, up1_up, m244_34, t244_34, t244_106]
  | true =>
    have hol : open_ (A 2) m h < 2 ^ 31 := Nat.lt_of_lt_of_le (open_lt hm) (by decide)
    simp (disch := omega) only [rt_c, b_some, List.cons_append, List.nil_append, Bool.cond_not, cond_true, cond_false, Bool.cond_decide, nI_add, nI_clamp, xin_n, dle_e, dlt_e, deq_e, xb_0, xb_1, decide_true, decide_false, Bool.not_true, Bool.not_false, Bool.and_true, Bool.true_and, Bool.and_false, Bool.false_and, Bool.true_or, Bool.false_or, Bool.or_true, Bool.or_false, if_true, if_false, up1_s, n_31, Int32.lt_irrefl, c201 (d + 1) sl (up1 I 0 (nI 0)) w A N hm hD h, m244_18]
    by_cases h0 : open_ (A 2) m h = 0
    · simp (disch := omega) only [rt_c, b_some, List.cons_append, List.nil_append, Bool.cond_not, cond_true, cond_false, Bool.cond_decide, nI_add, nI_clamp, xin_n, dle_e, dlt_e, deq_e, xb_0, xb_1, decide_true, decide_false, Bool.not_true, Bool.not_false, Bool.and_true, Bool.true_and, Bool.and_false, Bool.false_and, Bool.true_or, Bool.false_or, Bool.or_true, Bool.or_false, if_true, if_false, up1_s, n_31, Int32.lt_irrefl, h0, c161, up1_up, m244_34, t244_34, t244_106]
    · have hx2 : isN 2 x = false := by
        rcases hx with hx | hx | hx
        · rw [hx] at hb; cases hb
        · exact absurd (pop_0.mp hx) h0
        · exact hx
      have h2 : (decide (nI 0 ≤ x) && decide (x ≤ nI 1)) = false := by
        have := isN_le (n := 2) (by decide) x
        rw [hx2] at this
        exact this
      simp (disch := omega) only [rt_c, b_some, List.cons_append, List.nil_append, Bool.cond_not, cond_true, cond_false, Bool.cond_decide, nI_add, nI_clamp, xin_n, dle_e, dlt_e, deq_e, xb_0, xb_1, decide_true, decide_false, Bool.not_true, Bool.not_false, Bool.and_true, Bool.true_and, Bool.and_false, Bool.false_and, Bool.true_or, Bool.false_or, Bool.or_true, Bool.or_false, if_true, if_false, up1_s, n_31, Int32.lt_irrefl, h0, c166, h2, m244_27, c161, up1_up, m244_34, t244_34, t244_106]
theorem c244_in {H m : Nat} (hV : Vd (A 2) H m) {h x s c : Nat} (hh : h < H) (hx : x ≤ 1) (hc : popF 12 (open_ (A 2) m (nI h)) = c) (hc0 : c ≠ 0) (hs : ages_ (A 2) m (nI h) = nI s) (hs1 : s ≤ 11988) : C (d + 3) 244 [.ref 0, .int (nI h), .int (nI x)] sl (RH I w A N) = some ([.int (mean_ s c x)], sl, RH (up1 I 0 (nI 0)) w A N) := by
  obtain ⟨⟨hH, hD, hH6, hm⟩, -⟩ := hV
  have h201 := c201 (d + 1) sl (up1 I 0 (nI 0)) w A N hm hD (nI h)
  have hol : open_ (A 2) m (nI h) < 2 ^ 31 := Nat.lt_of_lt_of_le (open_lt hm) (by decide)
  have ho0 : ¬ open_ (A 2) m (nI h) = 0 := fun e => hc0 (by rw [← hc]; exact pop_0.mpr e)
  have hc12 : c ≤ 12 := by rw [← hc]; exact pop_le _ (open_lt hm)
  have h168 := c168' (d + 2) sl (up1 I 0 (nI 0)) w A N (open_lt hm : open_ (A 2) m (nI h) < 4096)
  rw [hc] at h168
  have hg0 : ¬ Nat.gcd s c = 0 := fun e => hc0 (Nat.eq_zero_of_gcd_eq_zero_right e)
  have hgc : Nat.gcd s c ≤ c := Nat.gcd_le_right _ (by omega)
  have h170 := c170' (d + 2) sl (up1 I 0 (nI 0)) w A N (a := s) (b := c) (by omega) (by omega)
  rw [e244, m244_0, c196' _ _ _ _ _ _ hH6 hH, isN_n hh (by omega)]
  have hx2 : (decide (nI 0 ≤ nI x) && decide (nI x ≤ nI 1)) = true := by
    rw [dle_n (by omega) (by omega), dle_n (by omega) (by omega)]
    simp [hx]
  simp (disch := omega) only [rt_c, b_some, List.cons_append, List.nil_append, Bool.cond_not, cond_true, cond_false, Bool.cond_decide, nI_add, nI_clamp, xin_n, dle_e, dlt_e, deq_e, xb_0, xb_1, decide_true, decide_false, Bool.not_true, Bool.not_false, Bool.and_true, Bool.true_and, Bool.and_false, Bool.false_and, Bool.true_or, Bool.false_or, Bool.or_true, Bool.or_false, if_true, if_false, up1_s, n_31, Int32.lt_irrefl, m244_10, h201, m244_18, ho0, c166, hx2, m244_27]
  have key : rt 244 (R (d + 3) 244 (40, [some (.ref 0), some (.int (nI h)), some (.int (nI x)), some (.int (nI 0)), some (.int (nI 0))], [], sl, RH (up1 I 0 (nI 0)) w A N)) = rt 244 (R (d + 3) 244 (40, [some (.ref 0), some (.int (nI h)), some (.int (nI x)), some (.int (ages_ (A 2) m (nI h))), some (.int (nI 12))], [], sl, RH (up1 I 0 (nI 0)) w A N)) := by
    unfold ages_
    rw [← fold_mk (A 2) 115 _ m hm]
    refine lp0 (fun k s => rt 244 (R (d + 3) 244 (40, [some (.ref 0), some (.int (nI h)), some (.int (nI x)), some (.int s), some (.int (nI k))], [], sl, RH (up1 I 0 (nI 0)) w A N))) (fun k t => cond ((open_ (A 2) m (nI h)).testBit k) (t + A 2 (115 + k)) t) 12 (fun s => rt 244 (R (d + 3) 244 (40, [some (.ref 0), some (.int (nI h)), some (.int (nI x)), some (.int s), some (.int (nI 12))], [], sl, RH (up1 I 0 (nI 0)) w A N))) ?_ ?_ (nI 0)
    · intro k s hk
      have h1 : ¬ 12 ≤ k := by omega
      rw [m244_40]
      simp (disch := omega) only [rt_c, b_some, List.cons_append, List.nil_append, Bool.cond_not, cond_true, cond_false, Bool.cond_decide, nI_add, nI_clamp, xin_n, dle_e, dlt_e, deq_e, xb_0, xb_1, decide_true, decide_false, Bool.not_true, Bool.not_false, Bool.and_true, Bool.true_and, Bool.and_false, Bool.false_and, Bool.true_or, Bool.false_or, Bool.or_true, Bool.or_false, if_true, if_false, up1_s, n_31, Int32.lt_irrefl, h1, h201, m244_52, c167, has_n, m244_57]
      cases (open_ (A 2) m (nI h)).testBit k <;> simp (disch := omega) only [rt_c, b_some, List.cons_append, List.nil_append, Bool.cond_not, cond_true, cond_false, Bool.cond_decide, nI_add, nI_clamp, xin_n, dle_e, dlt_e, deq_e, xb_0, xb_1, decide_true, decide_false, Bool.not_true, Bool.not_false, Bool.and_true, Bool.true_and, Bool.and_false, Bool.false_and, Bool.true_or, Bool.false_or, Bool.or_true, Bool.or_false, if_true, if_false, up1_s, n_31, Int32.lt_irrefl]
    · intro s; rfl
  rw [key, hs, m244_40]
  have h1 : 12 ≤ 12 := by omega
  unfold mean_
  rcases (show x = 0 ∨ x = 1 by omega) with rfl | rfl
  · simp (disch := omega) only [rt_c, b_some, List.cons_append, List.nil_append, Bool.cond_not, cond_true, cond_false, Bool.cond_decide, nI_add, nI_clamp, xin_n, dle_e, dlt_e, deq_e, xb_0, xb_1, decide_true, decide_false, Bool.not_true, Bool.not_false, Bool.and_true, Bool.true_and, Bool.and_false, Bool.false_and, Bool.true_or, Bool.false_or, Bool.or_true, Bool.or_false, if_true, if_false, up1_s, n_31, Int32.lt_irrefl, h201, m244_84, h168, m244_87, h170, m244_105, hg0, pk_div, t244_34, t244_106, Nat.le_refl, Nat.zero_le]
  · simp (disch := omega) only [rt_c, b_some, List.cons_append, List.nil_append, Bool.cond_not, cond_true, cond_false, Bool.cond_decide, nI_add, nI_clamp, xin_n, dle_e, dlt_e, deq_e, xb_0, xb_1, decide_true, decide_false, Bool.not_true, Bool.not_false, Bool.and_true, Bool.true_and, Bool.and_false, Bool.false_and, Bool.true_or, Bool.false_or, Bool.or_true, Bool.or_false, if_true, if_false, up1_s, n_31, Int32.lt_irrefl, h201, m244_84, h168, m244_87, h170, m244_105, hg0, pk_div, t244_34, t244_106, Nat.le_refl, Nat.zero_le, Nat.one_ne_zero]
end RF7
section CL7
variable (d sl : Nat) (I : Nat → Nat → Int32) (A : Nat → Nat → Int32) (N : Nat → Nat → Int64) (V : Nat → Nat → Option Nat) (lt : Int64) (tw : Option Nat) (sp sr : Nat) (X : List AC) {n : Nat → Int32} {H m : Nat}
theorem q125_in (hS : Sh I A 3 n H m) (h0 : n 0 = nI H) (h72 : n 72 = nI m) {k : Nat} (hk : k ≤ 4) : C d 125 [.ref 0, .int (nI k)] sl (CH I A N V lt tw sp sr X) = some ([.int (count_ n (I 1 1) k)], sl, CH I A N V lt tw sp sr X) := by
  obtain ⟨⟨hH, hD, hH6, hm⟩, ⟨hg1, hg2, hy, hp⟩, -⟩ := sh_3 hS
  rw [e125, k125_0]
  rcases (show k = 0 ∨ k = 1 ∨ k = 2 ∨ k = 3 ∨ k = 4 by omega) with rfl | rfl | rfl | rfl | rfl <;> simp (disch := omega) only [rt_c, b_some, List.cons_append, List.nil_append, Bool.cond_not, cond_true, cond_false, Bool.cond_decide, nI_add, nI_clamp, xin_n, dle_e, dlt_e, deq_e, xb_0, xb_1, decide_true, decide_false, Bool.not_true, Bool.not_false, Bool.and_true, Bool.true_and, Bool.and_false, Bool.false_and, Bool.true_or, Bool.false_or, Bool.or_true, Bool.or_false, if_true, if_false, up1_s, n_31, Int32.lt_irrefl, k125_0, k125_1_c0, k125_1_c1, k125_1_c2, k125_1_c3, k125_1_c4, k125_76, k125_36, k125_44, k125_52, k125_60, k125_68, t125_43, t125_51, t125_59, t125_67, t125_75, t125_77, count_, hH, hD, hg1, hg2, h0, h72]
theorem q125_out (x : Int32) (hx : (decide (x.toInt < (0 : Int)) || decide ((4 : Int) < x.toInt)) = true) : C d 125 [.ref 0, .int x] sl (CH I A N V lt tw sp sr X) = some ([.int (-1)], sl, CH I A N V lt tw sp sr X) := by
  rw [e125, k125_0, k125_1_out _ _ _ _ _ _ _ _ _ _ _ _ _ hx]
  simp (disch := omega) only [rt_c, b_some, List.cons_append, List.nil_append, Bool.cond_not, cond_true, cond_false, Bool.cond_decide, nI_add, nI_clamp, xin_n, dle_e, dlt_e, deq_e, xb_0, xb_1, decide_true, decide_false, Bool.not_true, Bool.not_false, Bool.and_true, Bool.true_and, Bool.and_false, Bool.false_and, Bool.true_or, Bool.false_or, Bool.or_true, Bool.or_false, if_true, if_false, up1_s, n_31, Int32.lt_irrefl, k125_0, k125_1_c0, k125_1_c1, k125_1_c2, k125_1_c3, k125_1_c4, k125_76, k125_36, k125_44, k125_52, k125_60, k125_68, t125_43, t125_51, t125_59, t125_67, t125_75, t125_77]
theorem q145 {a b : Nat} (ha : a < 2 ^ 31) (hb : b < 2 ^ 31) (hb0 : 1 ≤ b) : C d 145 [.int (nI a), .int (nI b)] sl (CH I A N V lt tw sp sr X) = some ([.int (nI (Nat.gcd a b))], sl, CH I A N V lt tw sp sr X) := by
  rw [e145, k145_0]
  have key : ∀ t, 1 ≤ t → t ≤ b → (∀ u, t < u → u ≤ b → ¬ (u ∣ a ∧ u ∣ b)) → rt 145 (R d 145 (2, [some (.int (nI a)), some (.int (nI b)), some (.int (nI t))], [], sl, CH I A N V lt tw sp sr X)) = some ([.int (nI (Nat.gcd a b))], sl, CH I A N V lt tw sp sr X) := by
    intro t
    induction t with
    | zero => intro h; omega
    | succ t ih =>
      intro _ htb hu
      have hgp : 0 < Nat.gcd a b := Nat.gcd_pos_of_pos_right _ hb0
      have hgb : Nat.gcd a b ≤ b := Nat.gcd_le_right _ hb0
      have hg : Nat.gcd a b ≤ t + 1 := by
        apply Nat.le_of_not_lt
        intro h
        exact hu _ h hgb ⟨Nat.gcd_dvd_left a b, Nat.gcd_dvd_right a b⟩
      rw [k145_2]
      by_cases h1 : t + 1 ≤ 1
      · have : Nat.gcd a b = 1 := by omega
        simp (disch := omega) only [rt_c, b_some, List.cons_append, List.nil_append, Bool.cond_not, cond_true, cond_false, Bool.cond_decide, nI_add, nI_clamp, xin_n, dle_e, dlt_e, deq_e, xb_0, xb_1, decide_true, decide_false, Bool.not_true, Bool.not_false, Bool.and_true, Bool.true_and, Bool.and_false, Bool.false_and, Bool.true_or, Bool.false_or, Bool.or_true, Bool.or_false, if_true, if_false, up1_s, n_31, Int32.lt_irrefl, h1, t145_20, t145_28, this]
      · have h2 : ¬ t + 1 = 0 := by omega
        have hm1 : nI (t + 1) + (-1 : Int32) = nI t := by rw [← nI_pred t, Int32.sub_eq_add_neg]
        simp (disch := omega) only [rt_c, b_some, List.cons_append, List.nil_append, Bool.cond_not, cond_true, cond_false, Bool.cond_decide, nI_add, nI_clamp, xin_n, dle_e, dlt_e, deq_e, xb_0, xb_1, decide_true, decide_false, Bool.not_true, Bool.not_false, Bool.and_true, Bool.true_and, Bool.and_false, Bool.false_and, Bool.true_or, Bool.false_or, Bool.or_true, Bool.or_false, if_true, if_false, up1_s, n_31, Int32.lt_irrefl, h1, h2, pk_rem, hm1]
        by_cases h3 : a % (t + 1) = 0
        · have h3' : a % (t + 1) < 2 ^ 31 := by omega
          by_cases h4 : b % (t + 1) = 0
          · have : t + 1 = Nat.gcd a b := Nat.le_antisymm (Nat.le_of_dvd hgp (Nat.dvd_gcd (Nat.dvd_of_mod_eq_zero h3) (Nat.dvd_of_mod_eq_zero h4))) hg
            simp (disch := omega) only [rt_c, b_some, List.cons_append, List.nil_append, Bool.cond_not, cond_true, cond_false, Bool.cond_decide, nI_add, nI_clamp, xin_n, dle_e, dlt_e, deq_e, xb_0, xb_1, decide_true, decide_false, Bool.not_true, Bool.not_false, Bool.and_true, Bool.true_and, Bool.and_false, Bool.false_and, Bool.true_or, Bool.false_or, Bool.or_true, Bool.or_false, if_true, if_false, up1_s, n_31, Int32.lt_irrefl, h3, h4, t145_20, t145_28, ← this]
          · have h4' : b % (t + 1) < 2 ^ 31 := Nat.lt_of_lt_of_le (Nat.mod_lt _ (by omega)) (by omega)
            simp (disch := omega) only [rt_c, b_some, List.cons_append, List.nil_append, Bool.cond_not, cond_true, cond_false, Bool.cond_decide, nI_add, nI_clamp, xin_n, dle_e, dlt_e, deq_e, xb_0, xb_1, decide_true, decide_false, Bool.not_true, Bool.not_false, Bool.and_true, Bool.true_and, Bool.and_false, Bool.false_and, Bool.true_or, Bool.false_or, Bool.or_true, Bool.or_false, if_true, if_false, up1_s, n_31, Int32.lt_irrefl, h3, h4]
            exact ih (by omega) (by omega) (fun u h5 h6 h7 => by
              by_cases h8 : u = t + 1
              · exact h4 (Nat.mod_eq_zero_of_dvd (h8 ▸ h7.2))
              · exact hu u (by omega) h6 h7)
        · have h3' : a % (t + 1) < 2 ^ 31 := Nat.lt_of_lt_of_le (Nat.mod_lt _ (by omega)) (by omega)
          simp (disch := omega) only [rt_c, b_some, List.cons_append, List.nil_append, Bool.cond_not, cond_true, cond_false, Bool.cond_decide, nI_add, nI_clamp, xin_n, dle_e, dlt_e, deq_e, xb_0, xb_1, decide_true, decide_false, Bool.not_true, Bool.not_false, Bool.and_true, Bool.true_and, Bool.and_false, Bool.false_and, Bool.true_or, Bool.false_or, Bool.or_true, Bool.or_false, if_true, if_false, up1_s, n_31, Int32.lt_irrefl, h3]
          exact ih (by omega) (by omega) (fun u h5 h6 h7 => by
            by_cases h8 : u = t + 1
            · exact h3 (Nat.mod_eq_zero_of_dvd (h8 ▸ h7.1))
            · exact hu u (by omega) h6 h7)
  exact key b hb0 (Nat.le_refl b) (fun u h1 h2 => by omega)
theorem q144_in (hS : Sh I A 3 n H m) {h x s c : Nat} (hh : h < H) (hx : x ≤ 1) (hc : popF 12 (open_ n m (nI h)) = c) (hc0 : c ≠ 0) (hs : ages_ n m (nI h) = nI s) (hs1 : s ≤ 11988) : C (d + 3) 144 [.ref 0, .int (nI h), .int (nI x)] sl (CH I A N V lt tw sp sr X) = some ([.int (mean_ s c x)], sl, CH I A N V lt tw sp sr X) := by
  have hm := hS.1.2.2.2
  have hH6 := hS.1.2.2.1
  have h45 := q45_3 (d + 2) sl I A N V lt tw sp sr X hS (nI h)
  have h60 := q60_3 d sl I A N V lt tw sp sr X hS (nI h)
  have h61 := q61_3 (d + 1) sl I A N V lt tw sp sr X hS (nI h)
  have hc12 : c ≤ 12 := by rw [← hc]; exact pop_le _ (open_lt hm)
  have h145 := q145 (d + 2) sl I A N V lt tw sp sr X (a := s) (b := c) (by omega) (by omega) (by omega)
  have hs' : x_it (fun k s => cond (op_ n k && decide (n (79 + k) = nI h)) (s + n (115 + k)) s) 0 m (nI 0) = nI s := hs
  have hg0 : ¬ Nat.gcd s c = 0 := fun e => hc0 (Nat.eq_zero_of_gcd_eq_zero_right e)
  have hgc : Nat.gcd s c ≤ c := Nat.gcd_le_right _ (by omega)
  have hx0 : ¬ x < 0 := by omega
  have hc1 : 1 ≤ c := by omega
  rw [hc] at h60
  rw [hs'] at h61
  rw [e144, k144_0, h45, isN_n hh (by omega)]
  unfold mean_
  rcases (show x = 0 ∨ x = 1 by omega) with rfl | rfl
  · simp (disch := omega) only [rt_c, b_some, List.cons_append, List.nil_append, Bool.cond_not, cond_true, cond_false, Bool.cond_decide, nI_add, nI_clamp, xin_n, dle_e, dlt_e, deq_e, xb_0, xb_1, decide_true, decide_false, Bool.not_true, Bool.not_false, Bool.and_true, Bool.true_and, Bool.and_false, Bool.false_and, Bool.true_or, Bool.false_or, Bool.or_true, Bool.or_false, if_true, if_false, up1_s, n_31, Int32.lt_irrefl, k144_8, hx0, hx, h60, k144_39, hc1, h61, k144_64, h145, k144_72, hg0, pk_div, t144_87, Nat.le_refl]
  · simp (disch := omega) only [rt_c, b_some, List.cons_append, List.nil_append, Bool.cond_not, cond_true, cond_false, Bool.cond_decide, nI_add, nI_clamp, xin_n, dle_e, dlt_e, deq_e, xb_0, xb_1, decide_true, decide_false, Bool.not_true, Bool.not_false, Bool.and_true, Bool.true_and, Bool.and_false, Bool.false_and, Bool.true_or, Bool.false_or, Bool.or_true, Bool.or_false, if_true, if_false, up1_s, n_31, Int32.lt_irrefl, k144_8, hx0, hx, h60, k144_39, hc1, h61, k144_64, h145, k144_72, hg0, pk_div, t144_87, Nat.le_refl, Nat.one_ne_zero]
theorem q144_out (hS : Sh I A 3 n H m) (h x : Int32) (hx : isN H h = false ∨ (popF 12 (open_ n m h) = 0) ∨ isN 2 x = false) : R (d + 3) 144 (0, [some (.ref 0), some (.int h), some (.int x), none, none, none], [], sl, CH I A N V lt tw sp sr X) = some (20, [some (.ref 0), some (.int h), some (.int x), none, none, none], [], sl, CH I A N V lt tw sp sr X) ∨ ∃ v, R (d + 3) 144 (0, [some (.ref 0), some (.int h), some (.int x), none, none, none], [], sl, CH I A N V lt tw sp sr X) = some (45, [some (.ref 0), some (.int h), some (.int x), some (.int v), none, none], [], sl, CH I A N V lt tw sp sr X) := by
  have h45 := q45_3 (d + 2) sl I A N V lt tw sp sr X hS h
  have h60 := q60_3 d sl I A N V lt tw sp sr X hS h
  rw [k144_0, h45]
  simp (disch := omega) only [rt_c, b_some, List.cons_append, List.nil_append, Bool.cond_not, cond_true, cond_false, Bool.cond_decide, nI_add, nI_clamp, xin_n, dle_e, dlt_e, deq_e, xb_0, xb_1, decide_true, decide_false, Bool.not_true, Bool.not_false, Bool.and_true, Bool.true_and, Bool.and_false, Bool.false_and, Bool.true_or, Bool.false_or, Bool.or_true, Bool.or_false, if_true, if_false, up1_s, n_31, Int32.lt_irrefl, k144_8]
  cases hb : isN H h with
  | false => left; simp (disch := omega) only [rt_c, b_some, List.cons_append, List.nil_append, Bool.cond_not, cond_true, cond_false, Bool.cond_decide, nI_add, nI_clamp, xin_n, dle_e, dlt_e, deq_e, xb_0, xb_1, decide_true, decide_false, Bool.not_true, Bool.not_false, Bool.and_true, Bool.true_and, Bool.and_false, Bool.false_and, Bool.true_or, Bool.false_or, Bool.or_true, Bool.or_false, if_true, if_false, up1_s, n_31, Int32.lt_irrefl]
  | true =>
    by_cases h1 : x < nI 0
    · left; simp (disch := omega) only [rt_c, b_some, List.cons_append, List.nil_append, Bool.cond_not, cond_true, cond_false, Bool.cond_decide, nI_add, nI_clamp, xin_n, dle_e, dlt_e, deq_e, xb_0, xb_1, decide_true, decide_false, Bool.not_true, Bool.not_false, Bool.and_true, Bool.true_and, Bool.and_false, Bool.false_and, Bool.true_or, Bool.false_or, Bool.or_true, Bool.or_false, if_true, if_false, up1_s, n_31, Int32.lt_irrefl, h1]
    · by_cases h2 : x ≤ nI 1
      · right
        have h3 : popF 12 (open_ n m h) = 0 := by
          rcases hx with hx | hx | hx
          · rw [hx] at hb; cases hb
          · exact hx
          · exfalso
            have h4 := isN_le (n := 2) (by decide) x
            rw [hx, show nI 2 - nI 1 = nI 1 from by decide, decide_eq_true h2, decide_eq_true (Int32.not_lt.mp h1)] at h4
            cases h4
        have h5 : ¬ 1 ≤ 0 := by omega
        rw [h3] at h60
        exact ⟨nI 0, by simp (disch := omega) only [rt_c, b_some, List.cons_append, List.nil_append, Bool.cond_not, cond_true, cond_false, Bool.cond_decide, nI_add, nI_clamp, xin_n, dle_e, dlt_e, deq_e, xb_0, xb_1, decide_true, decide_false, Bool.not_true, Bool.not_false, Bool.and_true, Bool.true_and, Bool.and_false, Bool.false_and, Bool.true_or, Bool.false_or, Bool.or_true, Bool.or_false, if_true, if_false, up1_s, n_31, Int32.lt_irrefl, h1, h2, h60, k144_39, h5]⟩
      · left; simp (disch := omega) only [rt_c, b_some, List.cons_append, List.nil_append, Bool.cond_not, cond_true, cond_false, Bool.cond_decide, nI_add, nI_clamp, xin_n, dle_e, dlt_e, deq_e, xb_0, xb_1, decide_true, decide_false, Bool.not_true, Bool.not_false, Bool.and_true, Bool.true_and, Bool.and_false, Bool.false_and, Bool.true_or, Bool.false_or, Bool.or_true, Bool.or_false, if_true, if_false, up1_s, n_31, Int32.lt_irrefl, h1, h2]
end CL7
