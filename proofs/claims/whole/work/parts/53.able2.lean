/-! ABLE: both methods -/
theorem lt_iff {a b : Int32} : a < b ↔ a.toInt < b.toInt := Int32.lt_iff_toInt_lt
theorem bit_n {x k : Nat} (hx : x < 2 ^ 31) (hk : k < 31) : (nI x >>> nI k) &&& nI 1 = cond (x.testBit k) (nI 1) (nI 0) := by
  have h := has_n hx hk
  have h0 : (nI x >>> nI k) = nI (x >>> k) := by
    have h1 : ∀ k : Fin 31, (((nI k.val).toBitVec).smod 32).toNat = k.val := by decide +kernel
    rw [pk_shrN hx (nI k) k (h1 ⟨k, hk⟩), Nat.shiftRight_eq_div_pow]
  have h2 : x >>> k < 2 ^ 31 := Nat.lt_of_le_of_lt (Nat.shiftRight_le x k) hx
  rw [h0, nI_and h2 (by decide), Nat.testBit]
  have h3 : (x >>> k) &&& 1 = (x >>> k) % 2 := Nat.and_one_is_mod _
  rw [Nat.and_comm 1, h3]
  rcases Nat.mod_two_eq_zero_or_one (x >>> k) with h4 | h4 <;> rw [h4] <;> rfl
theorem or_bit (g u i : Nat) : (g ||| (1 <<< u)).testBit i = (g.testBit i || decide (u = i)) := by
  rw [Nat.testBit_or, Nat.one_shiftLeft, Nat.testBit_two_pow]
theorem costF_or {l : Nat → Nat} {g u : Nat} (hu : g.testBit u = false) : ∀ k, costF l (g ||| (1 <<< u)) k = costF l g k + (if u < k then l u else 0)
  | 0 => by simp [costF]
  | k + 1 => by
    simp only [costF]
    rw [costF_or hu k, or_bit]
    by_cases h : u = k
    · subst h
      rw [hu]
      simp
    · by_cases h2 : u < k
      · have h3 : u < k + 1 := by omega
        simp [h, h2, h3]
        omega
      · have h3 : ¬ u < k + 1 := by omega
        simp [h, h2, h3]
theorem sizeF_or {g u : Nat} (hu : g.testBit u = false) : ∀ k, sizeF (g ||| (1 <<< u)) k = sizeF g k + (if u < k then 1 else 0)
  | 0 => by simp [sizeF]
  | k + 1 => by
    simp only [sizeF]
    rw [sizeF_or hu k, or_bit]
    by_cases h : u = k
    · subst h
      rw [hu]
      simp
    · by_cases h2 : u < k
      · have h3 : u < k + 1 := by omega
        simp [h, h2, h3]
        omega
      · have h3 : ¬ u < k + 1 := by omega
        simp [h, h2, h3]
theorem sub_or {g o u : Nat} (hg : sub_ g o) (hu : o.testBit u = true) : sub_ (g ||| (1 <<< u)) o := by
  unfold sub_ at hg ⊢
  apply Nat.eq_of_testBit_eq
  intro i
  rw [Nat.testBit_and, or_bit]
  have h1 : (g.testBit i && o.testBit i) = g.testBit i := by rw [← Nat.testBit_and, hg]
  by_cases h : u = i
  · subst h; simp [hu]
  · simp [h, h1]
theorem sub_bit {g o : Nat} (hg : sub_ g o) {i : Nat} (h : g.testBit i = true) : o.testBit i = true := by
  unfold sub_ at hg
  rw [← hg, Nat.testBit_and] at h
  simp only [Bool.and_eq_true] at h
  exact h.2
theorem sub_eq {g o : Nat} (hg : sub_ g o) (h : ∀ i, o.testBit i = true → g.testBit i = true) : g = o := by
  apply Nat.eq_of_testBit_eq
  intro i
  cases h1 : o.testBit i with
  | true => exact h i h1
  | false =>
    cases h2 : g.testBit i with
    | false => rfl
    | true => rw [sub_bit hg h2] at h1; cases h1
theorem size_mono {g o : Nat} (hg : sub_ g o) : ∀ k, sizeF g k ≤ sizeF o k
  | 0 => Nat.le_refl _
  | k + 1 => by
    have := size_mono hg k
    simp only [sizeF]
    cases hx : g.testBit k with
    | false => simp; omega
    | true => rw [sub_bit hg hx]; simp; exact this
theorem size_lt {g o u : Nat} (hg : sub_ g o) (hu : u < 12) (h1 : o.testBit u = true) (h2 : g.testBit u = false) : sizeF g 12 < sizeF o 12 := by
  have h3 := size_mono (sub_or hg h1) 12
  rw [sizeF_or h2, if_pos hu] at h3
  omega
theorem size_le {o m : Nat} (ho : o < 2 ^ m) : ∀ k, sizeF o k ≤ m
  | 0 => Nat.zero_le _
  | k + 1 => by
    have h : ∀ k, sizeF o k ≤ k := by
      intro k
      induction k with
      | zero => exact Nat.le_refl _
      | succ k ih => simp only [sizeF]; split <;> omega
    by_cases hk : k + 1 ≤ m
    · exact Nat.le_trans (h _) hk
    · have := size_le ho k
      simp only [sizeF]
      rw [Nat.testBit_lt_two_pow (Nat.lt_of_lt_of_le ho (Nat.pow_le_pow_right (by decide) (by omega)))]
      simpa using this
section RF8
variable (d sl : Nat) (I : Nat → Int32) (w : Int64) (A : Nat → Nat → Int32) (N : Nat → Nat → Int64)
/-- what has been best so far -/
def Bsf (n : Nat → Int32) (c : Int) (o b x : Nat) : Prop :=
  sub_ b o ∧ b < 4096 ∧ (b = 0 ∨ (cost n b : Int) ≤ c) ∧ ∀ y, sub_ y o → y ≠ 0 → y < x → (cost n y : Int) ≤ c → sizeF y 12 < sizeF b 12 ∨ (sizeF y 12 = sizeF b 12 ∧ (cost n b < cost n y ∨ (cost n b = cost n y ∧ b ≤ y)))
theorem cost_lt {n : Nat → Int32} {H m : Nat} (hV : Vd n H m) (x : Nat) : cost n x < 2 ^ 31 := by
  have := costF_le (l := lc n) (x := x) (fun k hk => (Vd_lc hV k hk).2) 12 (Nat.le_refl _)
  unfold cost
  omega
theorem pop_lt31 {x : Nat} (hx : x < 4096) : popF 12 x < 2 ^ 31 := by
  have := pop_le x hx
  omega
theorem c233_step {H m h : Nat} (hV : Vd (A 2) H m) (hh : h < H) {o b x : Nat} (ho : o < 4096) (hb : b < 4096) (hx : x < 4096) (hx0 : x ≠ 0) (o5 : Option Value) (h5 : o5 = none ∨ ∃ v, o5 = some (.int v)) :
    ∃ b' v, rt 233 (R (d + 3) 233 (29, [some (.ref 0), some (.int (nI h)), some (.int (nI o)), some (.int (nI b)), some (.int (nI x)), o5], [], sl, RH I w A N)) = rt 233 (R (d + 3) 233 (29, [some (.ref 0), some (.int (nI h)), some (.int (nI o)), some (.int (nI b')), some (.int ((nI x - nI o) &&& nI o)), some (.int v)], [], sl, RH I w A N)) ∧
      ((b' = b ∧ ((A 2 (73 + h)).toInt < cost (A 2) x ∨ sizeF x 12 < sizeF b 12 ∨ (sizeF x 12 = sizeF b 12 ∧ cost (A 2) b ≤ cost (A 2) x))) ∨ (b' = x ∧ (cost (A 2) x : Int) ≤ (A 2 (73 + h)).toInt ∧ (sizeF b 12 < sizeF x 12 ∨ (sizeF x 12 = sizeF b 12 ∧ cost (A 2) x < cost (A 2) b)))) := by
  have hV0 := hV
  obtain ⟨⟨hH, hD, hH6, hm⟩, -⟩ := hV
  have h203 := c203 (d + 1) sl I w A N (x := x) (by omega)
  rw [left_cost hV0] at h203
  have h203b := c203 (d + 1) sl I w A N (x := b) (by omega)
  rw [left_cost hV0] at h203b
  have h168x := c168' (d + 2) sl I w A N hx
  have h168b := c168' (d + 2) sl I w A N hb
  have hcx := cost_lt hV0 x
  have hcb := cost_lt hV0 b
  have hpx := pop_lt31 hx
  have hpb := pop_lt31 hb
  have e1 := pop_size hx
  have e2 := pop_size hb
  have hstart : rt 233 (R (d + 3) 233 (29, [some (.ref 0), some (.int (nI h)), some (.int (nI o)), some (.int (nI b)), some (.int (nI x)), o5], [], sl, RH I w A N)) = if A 2 (73 + h) < nI (cost (A 2) x) then rt 233 (R (d + 3) 233 (29, [some (.ref 0), some (.int (nI h)), some (.int (nI o)), some (.int (nI b)), some (.int ((nI x - nI o) &&& nI o)), some (.int (nI (cost (A 2) x)))], [], sl, RH I w A N)) else rt 233 (R (d + 3) 233 (61, [some (.ref 0), some (.int (nI h)), some (.int (nI o)), some (.int (nI b)), some (.int (nI x)), some (.int (nI (cost (A 2) x)))], [.int (nI (popF 12 x))], sl, RH I w A N)) := by
    rcases h5 with rfl | ⟨v, rfl⟩
    · rw [m233_29]
      simp (disch := omega) only [rt_c, b_some, List.cons_append, List.nil_append, Bool.cond_not, cond_true, cond_false, Bool.cond_decide, nI_add, nI_clamp, xin_n, dle_e, dlt_e, deq_e, xb_0, xb_1, decide_true, decide_false, Bool.not_true, Bool.not_false, Bool.and_true, Bool.true_and, Bool.and_false, Bool.false_and, Bool.true_or, Bool.false_or, Bool.or_true, Bool.or_false, if_true, if_false, up1_s, n_31, Int32.lt_irrefl, hx0, h203, m233_40, h168x, rt_ite]
    · rw [m233_29_1]
      simp (disch := omega) only [rt_c, b_some, List.cons_append, List.nil_append, Bool.cond_not, cond_true, cond_false, Bool.cond_decide, nI_add, nI_clamp, xin_n, dle_e, dlt_e, deq_e, xb_0, xb_1, decide_true, decide_false, Bool.not_true, Bool.not_false, Bool.and_true, Bool.true_and, Bool.and_false, Bool.false_and, Bool.true_or, Bool.false_or, Bool.or_true, Bool.or_false, if_true, if_false, up1_s, n_31, Int32.lt_irrefl, hx0, h203, m233_40_1, h168x, rt_ite]
  rw [hstart]
  by_cases h1 : A 2 (73 + h) < nI (cost (A 2) x)
  · rw [if_pos h1]
    refine ⟨b, _, rfl, Or.inl ⟨rfl, Or.inl ?_⟩⟩
    have := lt_iff.mp h1
    rwa [nI_toInt hcx] at this
  · rw [if_neg h1]
    have h1' : (cost (A 2) x : Int) ≤ (A 2 (73 + h)).toInt := by
      have : ¬ (A 2 (73 + h)).toInt < (nI (cost (A 2) x)).toInt := fun q => h1 (lt_iff.mpr q)
      rw [nI_toInt hcx] at this
      omega
    by_cases h2 : popF 12 x < popF 12 b
    · refine ⟨b, nI (cost (A 2) x), ?_, Or.inl ⟨rfl, Or.inr (Or.inl (by omega))⟩⟩
      simp (disch := omega) only [rt_c, b_some, List.cons_append, List.nil_append, Bool.cond_not, cond_true, cond_false, Bool.cond_decide, nI_add, nI_clamp, xin_n, dle_e, dlt_e, deq_e, xb_0, xb_1, decide_true, decide_false, Bool.not_true, Bool.not_false, Bool.and_true, Bool.true_and, Bool.and_false, Bool.false_and, Bool.true_or, Bool.false_or, Bool.or_true, Bool.or_false, if_true, if_false, up1_s, n_31, Int32.lt_irrefl, m233_61, h168b, m233_65, h2]
    · by_cases h3 : popF 12 x = popF 12 b
      · by_cases h4 : cost (A 2) x < cost (A 2) b
        · refine ⟨x, nI (cost (A 2) x), ?_, Or.inr ⟨rfl, h1', Or.inr ⟨by omega, h4⟩⟩⟩
          rw [h3] at h168x
          simp (disch := omega) only [rt_c, b_some, List.cons_append, List.nil_append, Bool.cond_not, cond_true, cond_false, Bool.cond_decide, nI_add, nI_clamp, xin_n, dle_e, dlt_e, deq_e, xb_0, xb_1, decide_true, decide_false, Bool.not_true, Bool.not_false, Bool.and_true, Bool.true_and, Bool.and_false, Bool.false_and, Bool.true_or, Bool.false_or, Bool.or_true, Bool.or_false, if_true, if_false, up1_s, n_31, Int32.lt_irrefl, h3, m233_61, h168b, m233_65, h168x, m233_73, m233_77, h203b, m233_87, h4, Nat.lt_irrefl]
        · refine ⟨b, nI (cost (A 2) x), ?_, Or.inl ⟨rfl, Or.inr (Or.inr ⟨by omega, by omega⟩)⟩⟩
          rw [h3] at h168x
          simp (disch := omega) only [rt_c, b_some, List.cons_append, List.nil_append, Bool.cond_not, cond_true, cond_false, Bool.cond_decide, nI_add, nI_clamp, xin_n, dle_e, dlt_e, deq_e, xb_0, xb_1, decide_true, decide_false, Bool.not_true, Bool.not_false, Bool.and_true, Bool.true_and, Bool.and_false, Bool.false_and, Bool.true_or, Bool.false_or, Bool.or_true, Bool.or_false, if_true, if_false, up1_s, n_31, Int32.lt_irrefl, h3, m233_61, h168b, m233_65, h168x, m233_73, m233_77, h203b, m233_87, h4, Nat.lt_irrefl]
      · refine ⟨x, nI (cost (A 2) x), ?_, Or.inr ⟨rfl, h1', Or.inl (by omega)⟩⟩
        simp (disch := omega) only [rt_c, b_some, List.cons_append, List.nil_append, Bool.cond_not, cond_true, cond_false, Bool.cond_decide, nI_add, nI_clamp, xin_n, dle_e, dlt_e, deq_e, xb_0, xb_1, decide_true, decide_false, Bool.not_true, Bool.not_false, Bool.and_true, Bool.true_and, Bool.and_false, Bool.false_and, Bool.true_or, Bool.false_or, Bool.or_true, Bool.or_false, if_true, if_false, up1_s, n_31, Int32.lt_irrefl, m233_61, h168b, m233_65, h2, h168x, m233_73, m233_77, h3]
theorem Bsf_step {n : Nat → Int32} {c : Int} {o b x b' x' : Nat} (hB : Bsf n c o b x) (hx : x < 4096) (hsx : sub_ x o) (hgap : ∀ y, sub_ y o → x < y → y < x' → False) (h : (b' = b ∧ (c < cost n x ∨ sizeF x 12 < sizeF b 12 ∨ (sizeF x 12 = sizeF b 12 ∧ cost n b ≤ cost n x))) ∨ (b' = x ∧ (cost n x : Int) ≤ c ∧ (sizeF b 12 < sizeF x 12 ∨ (sizeF x 12 = sizeF b 12 ∧ cost n x < cost n b)))) (hbx : b = 0 ∨ b < x) : Bsf n c o b' x' ∧ (b' = 0 ∨ b' ≤ x) := by
  obtain ⟨h1, h2, h3, h4⟩ := hB
  rcases h with ⟨rfl, h⟩ | ⟨rfl, h5, h6⟩
  · refine ⟨⟨h1, h2, h3, ?_⟩, by omega⟩
    intro y hy hy0 hyx hyc
    by_cases hlt : y < x
    · exact h4 y hy hy0 hlt hyc
    · by_cases he : y = x
      · subst he
        omega
      · exact absurd (hgap y hy (by omega) hyx) id
  · refine ⟨⟨hsx, hx, Or.inr h5, ?_⟩, by omega⟩
    intro y hy hy0 hyx hyc
    by_cases hlt : y < b'
    · have := h4 y hy hy0 hlt hyc
      omega
    · by_cases he : y = b'
      · subst he; omega
      · exact absurd (hgap y hy (by omega) hyx) id
theorem c233_loop {H m h : Nat} (hV : Vd (A 2) H m) (hh : h < H) {o : Nat} (ho : o < 4096) : ∀ (z b : Nat) (o5 : Option Value), sub_ z o → z < o → Bsf (A 2) (A 2 (73 + h)).toInt o b (o - z) → (b = 0 ∨ b < o - z) → (o5 = none ∨ ∃ v, o5 = some (.int v)) →
    ∃ b', Best (A 2) (A 2 (73 + h)).toInt o b' ∧ b' < 4096 ∧ rt 233 (R (d + 3) 233 (29, [some (.ref 0), some (.int (nI h)), some (.int (nI o)), some (.int (nI b)), some (.int (nI (o - z))), o5], [], sl, RH I w A N)) = some ([.int (nI (popF 12 b'))], sl, RH (up1 I 28 (nI b')) w A N) := by
  intro z
  induction z using Nat.strongRecOn with
  | ind z ih =>
    intro b o5 hz hzo hB hbx h5
    have hsx : sub_ (o - z) o := sub_compl o z hz
    obtain ⟨b', v, e1, e2⟩ := c233_step d sl I w A N hV hh ho hB.2.1 (show o - z < 4096 by omega) (by omega) o5 h5
    rw [e1]
    by_cases h0 : z = 0
    · subst h0
      obtain ⟨f1, f2⟩ := Bsf_step (x' := 4096) hB (by omega) hsx (fun y hy h1 h2 => by have := sub_le hy; omega) e2 hbx
      rw [Nat.sub_zero, next_0 (by omega), m233_29_1]
      have h168 := c168' (d + 2) sl (up1 I 28 (nI b')) w A N f1.2.1
      refine ⟨b', ⟨f1.1, f1.2.2.1, fun y hy hy0 hyc => f1.2.2.2 y hy hy0 (by have := sub_le hy; omega) hyc⟩, f1.2.1, ?_⟩
      simp (disch := omega) only [rt_c, b_some, List.cons_append, List.nil_append, Bool.cond_not, cond_true, cond_false, Bool.cond_decide, nI_add, nI_clamp, xin_n, dle_e, dlt_e, deq_e, xb_0, xb_1, decide_true, decide_false, Bool.not_true, Bool.not_false, Bool.and_true, Bool.true_and, Bool.and_false, Bool.false_and, Bool.true_or, Bool.false_or, Bool.or_true, Bool.or_false, if_true, if_false, up1_s, n_31, Int32.lt_irrefl, h168, m233_116_1, t233_14, t233_116]
    · have hz1 : (z - 1) &&& o < z := Nat.lt_of_le_of_lt Nat.and_le_left (by omega)
      obtain ⟨f1, f2⟩ := Bsf_step (x' := o - ((z - 1) &&& o)) hB (by omega) hsx (fun y hy h1 h2 => by
        have hyo := sub_le hy
        have := sub_pred z o (o - y) hz (sub_compl o y hy) (by omega)
        omega) e2 hbx
      rw [next_mask hz (by omega) (by omega)]
      exact ih _ hz1 b' _ (sub_and _ _) (by omega) f1 (by omega) (Or.inr ⟨v, rfl⟩)
theorem c233 {H m h : Nat} (hV : Vd (A 2) H m) (hh : h < H) : ∃ b, Best (A 2) (A 2 (73 + h)).toInt (open_ (A 2) m (nI h)) b ∧ b < 4096 ∧ C (d + 3) 233 [.ref 0, .int (nI h)] sl (RH I w A N) = some ([.int (nI (popF 12 b))], sl, RH (up1 (up1 I 0 (nI 0)) 28 (nI b)) w A N) := by
  have hV0 := hV
  obtain ⟨⟨hH, hD, hH6, hm⟩, -⟩ := hV
  have ho := (open_lt hm : open_ (A 2) m (nI h) < 4096)
  rw [e233, m233_0, c196' _ _ _ _ _ _ hH6 hH, isN_n hh (by omega)]
  simp (disch := omega) only [rt_c, b_some, List.cons_append, List.nil_append, Bool.cond_not, cond_true, cond_false, Bool.cond_decide, nI_add, nI_clamp, xin_n, dle_e, dlt_e, deq_e, xb_0, xb_1, decide_true, decide_false, Bool.not_true, Bool.not_false, Bool.and_true, Bool.true_and, Bool.and_false, Bool.false_and, Bool.true_or, Bool.false_or, Bool.or_true, Bool.or_false, if_true, if_false, up1_s, n_31, Int32.lt_irrefl, m233_10, c201 (d + 1) sl (up1 I 0 (nI 0)) w A N hm hD (nI h), m233_20]
  generalize open_ (A 2) m (nI h) = o at ho ⊢
  by_cases h0 : o = 0
  · subst h0
    have h168 := c168' (d + 2) sl (up1 (up1 I 0 (nI 0)) 28 (nI 0)) w A N (x := 0) (by omega)
    refine ⟨0, ⟨rfl, Or.inl rfl, fun y hy hy0 => absurd (Nat.le_zero.mp (sub_le hy)) hy0⟩, by omega, ?_⟩
    rw [show (nI 0 &&& -nI 0 : Int32) = nI 0 from by decide, m233_29]
    simp (disch := omega) only [rt_c, b_some, List.cons_append, List.nil_append, Bool.cond_not, cond_true, cond_false, Bool.cond_decide, nI_add, nI_clamp, xin_n, dle_e, dlt_e, deq_e, xb_0, xb_1, decide_true, decide_false, Bool.not_true, Bool.not_false, Bool.and_true, Bool.true_and, Bool.and_false, Bool.false_and, Bool.true_or, Bool.false_or, Bool.or_true, Bool.or_false, if_true, if_false, up1_s, n_31, Int32.lt_irrefl, h168, m233_116, t233_14, t233_116]
  · have hn : nI o &&& -nI o = nI (o - ((o - 1) &&& o)) := by
      have := next_mask (z := o) (o := o) (sub_self o) (by omega) (by omega)
      rw [Nat.sub_self] at this
      rw [← this, show (nI 0 : Int32) = 0 from rfl, Int32.zero_sub]
      exact Int32.and_comm _ _
    rw [hn]
    refine c233_loop d sl (up1 I 0 (nI 0)) w A N hV0 hh ho ((o - 1) &&& o) 0 none (sub_and _ _) (Nat.lt_of_le_of_lt Nat.and_le_left (by omega)) ⟨by simp [sub_], by omega, Or.inl rfl, ?_⟩ (Or.inl rfl) (Or.inl rfl)
    intro y hy hy0 hyx
    have hyo := sub_le hy
    have := sub_pred o o (o - y) (sub_self o) (sub_compl o y hy) (by omega)
    omega
theorem c233_out {H m : Nat} (hV : Vd (A 2) H m) {h : Int32} (hh : isN H h = false) : C (d + 3) 233 [.ref 0, .int h] sl (RH I w A N) = some ([.int (-1)], sl, RH (up1 I 0 (nI 0)) w A N) := by
  obtain ⟨⟨hH, hD, hH6, hm⟩, -⟩ := hV
  rw [e233, m233_0, c196' _ _ _ _ _ _ hH6 hH, hh]
  simp (disch := omega) only [rt_c, b_some, List.cons_append, List.nil_append, Bool.cond_not, cond_true, cond_false, Bool.cond_decide, nI_add, nI_clamp, xin_n, dle_e, dlt_e, deq_e, xb_0, xb_1, decide_true, decide_false, Bool.not_true, Bool.not_false, Bool.and_true, Bool.true_and, Bool.and_false, Bool.false_and, Bool.true_or, Bool.false_or, Bool.or_true, Bool.or_false, if_true, if_false, up1_s, n_31, Int32.lt_irrefl, m233_10, t233_14, t233_116]
end RF8
section CL8
variable (d sl : Nat) (I : Nat → Nat → Int32) (A : Nat → Nat → Int32) (N : Nat → Nat → Int64) (V : Nat → Nat → Option Nat) (lt : Int64) (tw : Option Nat) (sp sr : Nat) (X : List AC) {n : Nat → Int32} {H m : Nat}
def encO : Option Nat → Int32
  | none => -1
  | some j => nI j
theorem open_bit {n : Nat → Int32} {m k : Nat} {h : Int32} (hk : k < m) : (open_ n m h).testBit k = (op_ n k && decide (n (79 + k) = h)) := by
  unfold open_
  rw [mkN_bit]
  simp [hk]
theorem q69 (hS : Sh I A 3 n H m) (hV : Vd n H m) (h : Int32) {g : Nat} (hg : g < 4096) : ∃ b, C (d + 1) 69 [.ref 3, .int h, .int (nI g)] sl (CH I A N V lt tw sp sr X) = some ([.int (encO b)], sl, CH I A N V lt tw sp sr X) ∧
    ((b = none ∧ ∀ j, (open_ n m h).testBit j = true → g.testBit j = true) ∨ (∃ u, b = some u ∧ u < m ∧ (open_ n m h).testBit u = true ∧ g.testBit u = false ∧ ∀ j, (open_ n m h).testBit j = true → g.testBit j = false → lc n u < lc n j ∨ (lc n u = lc n j ∧ u ≤ j))) := by
  have h51 := fun k hk => q51_3 d sl I A N V lt tw sp sr X hS h (k := k) hk
  obtain ⟨⟨hH, hD, hH6, hm⟩, -, hC, hIn, hCh, hW, hT, hL, hG⟩ := sh_3 hS
  have hlc := fun k hk => Vd_lc hV k hk
  rw [e69, k69_r3_0]
  have key : ∀ q i b o5, i + q = m → (o5 = none ∨ ∃ v, o5 = some (.int v)) →
      ((b = none ∧ ∀ j, j < i → (open_ n m h).testBit j = true → g.testBit j = true) ∨ (∃ u, b = some u ∧ u < i ∧ (open_ n m h).testBit u = true ∧ g.testBit u = false ∧ ∀ j, j < i → (open_ n m h).testBit j = true → g.testBit j = false → lc n u < lc n j ∨ (lc n u = lc n j ∧ u ≤ j))) →
      ∃ b', rt 69 (R (d + 1) 69 (5, [some (.ref 3), some (.int h), some (.int (nI g)), some (.int (encO b)), some (.int (nI i)), o5], [], sl, CH I A N V lt tw sp sr X)) = some ([.int (encO b')], sl, CH I A N V lt tw sp sr X) ∧
      ((b' = none ∧ ∀ j, j < m → (open_ n m h).testBit j = true → g.testBit j = true) ∨ (∃ u, b' = some u ∧ u < m ∧ (open_ n m h).testBit u = true ∧ g.testBit u = false ∧ ∀ j, j < m → (open_ n m h).testBit j = true → g.testBit j = false → lc n u < lc n j ∨ (lc n u = lc n j ∧ u ≤ j))) := by
    intro q
    induction q with
    | zero =>
      intro i b o5 hi h5 hb
      have h1 : m ≤ i := by omega
      have h2 : i = m := by omega
      subst h2
      refine ⟨b, ?_, hb⟩
      rcases h5 with rfl | ⟨v, rfl⟩
      · rw [k69_r3_5]
        simp (disch := omega) only [rt_c, b_some, List.cons_append, List.nil_append, Bool.cond_not, cond_true, cond_false, Bool.cond_decide, nI_add, nI_clamp, xin_n, dle_e, dlt_e, deq_e, xb_0, xb_1, decide_true, decide_false, Bool.not_true, Bool.not_false, Bool.and_true, Bool.true_and, Bool.and_false, Bool.false_and, Bool.true_or, Bool.false_or, Bool.or_true, Bool.or_false, if_true, if_false, up1_s, n_31, Int32.lt_irrefl, hD, h1, t69_76]
      · rw [k69_r3_5_1]
        simp (disch := omega) only [rt_c, b_some, List.cons_append, List.nil_append, Bool.cond_not, cond_true, cond_false, Bool.cond_decide, nI_add, nI_clamp, xin_n, dle_e, dlt_e, deq_e, xb_0, xb_1, decide_true, decide_false, Bool.not_true, Bool.not_false, Bool.and_true, Bool.true_and, Bool.and_false, Bool.false_and, Bool.true_or, Bool.false_or, Bool.or_true, Bool.or_false, if_true, if_false, up1_s, n_31, Int32.lt_irrefl, hD, h1, t69_76]
    | succ q ih =>
      intro i b o5 hi h5 hb
      have h1 : ¬ m ≤ i := by omega
      have hob := open_bit (n := n) (h := h) (show i < m by omega)
      -- one step
      have hst : ∃ b2 v, rt 69 (R (d + 1) 69 (5, [some (.ref 3), some (.int h), some (.int (nI g)), some (.int (encO b)), some (.int (nI i)), o5], [], sl, CH I A N V lt tw sp sr X)) = rt 69 (R (d + 1) 69 (5, [some (.ref 3), some (.int h), some (.int (nI g)), some (.int (encO b2)), some (.int (nI (i + 1))), some (.int v)], [], sl, CH I A N V lt tw sp sr X)) ∧
          b2 = (if (open_ n m h).testBit i = true ∧ g.testBit i = false then (match b with | none => some i | some u => if lc n i < lc n u then some i else some u) else b) := by
        rw [hob]
        cases ho : (op_ n i && decide (n (79 + i) = h)) with
        | false =>
          refine ⟨b, nI 0, ?_, by simp⟩
          have h51' := h51 i (by omega)
          rw [ho] at h51'
          rcases h5 with rfl | ⟨v, rfl⟩
          · rw [k69_r3_5]
            simp (disch := omega) only [rt_c, b_some, List.cons_append, List.nil_append, Bool.cond_not, cond_true, cond_false, Bool.cond_decide, nI_add, nI_clamp, xin_n, dle_e, dlt_e, deq_e, xb_0, xb_1, decide_true, decide_false, Bool.not_true, Bool.not_false, Bool.and_true, Bool.true_and, Bool.and_false, Bool.false_and, Bool.true_or, Bool.false_or, Bool.or_true, Bool.or_false, if_true, if_false, up1_s, n_31, Int32.lt_irrefl, hD, h1, h51', k69_r3_21]
          · rw [k69_r3_5_1]
            simp (disch := omega) only [rt_c, b_some, List.cons_append, List.nil_append, Bool.cond_not, cond_true, cond_false, Bool.cond_decide, nI_add, nI_clamp, xin_n, dle_e, dlt_e, deq_e, xb_0, xb_1, decide_true, decide_false, Bool.not_true, Bool.not_false, Bool.and_true, Bool.true_and, Bool.and_false, Bool.false_and, Bool.true_or, Bool.false_or, Bool.or_true, Bool.or_false, if_true, if_false, up1_s, n_31, Int32.lt_irrefl, hD, h1, h51', k69_r3_21_1]
        | true =>
          have h51' := h51 i (by omega)
          rw [ho] at h51'
          have hbn := bit_n (x := g) (k := i) (by omega) (by omega)
          cases hgb : g.testBit i with
          | true =>
            rw [hgb] at hbn
            refine ⟨b, nI 0, ?_, by simp⟩
            rcases h5 with rfl | ⟨v, rfl⟩
            · rw [k69_r3_5]
              simp (disch := omega) only [rt_c, b_some, List.cons_append, List.nil_append, Bool.cond_not, cond_true, cond_false, Bool.cond_decide, nI_add, nI_clamp, xin_n, dle_e, dlt_e, deq_e, xb_0, xb_1, decide_true, decide_false, Bool.not_true, Bool.not_false, Bool.and_true, Bool.true_and, Bool.and_false, Bool.false_and, Bool.true_or, Bool.false_or, Bool.or_true, Bool.or_false, if_true, if_false, up1_s, n_31, Int32.lt_irrefl, hD, h1, h51', k69_r3_21, hbn, show decide (nI 1 = nI 0) = false from by decide, Nat.one_ne_zero]
            · rw [k69_r3_5_1]
              simp (disch := omega) only [rt_c, b_some, List.cons_append, List.nil_append, Bool.cond_not, cond_true, cond_false, Bool.cond_decide, nI_add, nI_clamp, xin_n, dle_e, dlt_e, deq_e, xb_0, xb_1, decide_true, decide_false, Bool.not_true, Bool.not_false, Bool.and_true, Bool.true_and, Bool.and_false, Bool.false_and, Bool.true_or, Bool.false_or, Bool.or_true, Bool.or_false, if_true, if_false, up1_s, n_31, Int32.lt_irrefl, hD, h1, h51', k69_r3_21_1, hbn, show decide (nI 1 = nI 0) = false from by decide, Nat.one_ne_zero]
          | false =>
            rw [hgb] at hbn
            rcases hb with ⟨rfl, hb⟩ | ⟨u, rfl, hu1, hu2, hu3, hu4⟩
            · refine ⟨some i, nI 1, ?_, by simp⟩
              rcases h5 with rfl | ⟨v, rfl⟩
              · rw [k69_r3_5]
                simp (disch := omega) only [rt_c, b_some, List.cons_append, List.nil_append, Bool.cond_not, cond_true, cond_false, Bool.cond_decide, nI_add, nI_clamp, xin_n, dle_e, dlt_e, deq_e, xb_0, xb_1, decide_true, decide_false, Bool.not_true, Bool.not_false, Bool.and_true, Bool.true_and, Bool.and_false, Bool.false_and, Bool.true_or, Bool.false_or, Bool.or_true, Bool.or_false, if_true, if_false, up1_s, n_31, Int32.lt_irrefl, hD, h1, h51', k69_r3_21, hbn, encO, Nat.one_ne_zero]
              · rw [k69_r3_5_1]
                simp (disch := omega) only [rt_c, b_some, List.cons_append, List.nil_append, Bool.cond_not, cond_true, cond_false, Bool.cond_decide, nI_add, nI_clamp, xin_n, dle_e, dlt_e, deq_e, xb_0, xb_1, decide_true, decide_false, Bool.not_true, Bool.not_false, Bool.and_true, Bool.true_and, Bool.and_false, Bool.false_and, Bool.true_or, Bool.false_or, Bool.or_true, Bool.or_false, if_true, if_false, up1_s, n_31, Int32.lt_irrefl, hD, h1, h51', k69_r3_21_1, hbn, encO, Nat.one_ne_zero]
            · have hu5 : ¬ nI u = -1 := fun e => neg1_ne (k := nI u) (by rw [nI_leI (by omega) (by omega)]; omega) e.symm
              have el := (hlc i (by omega)).1
              have eu := (hlc u (by omega)).1
              have el2 := (hlc i (by omega)).2
              have eu2 := (hlc u (by omega)).2
              by_cases hlt : lc n i < lc n u
              · have hle : ¬ lc n u ≤ lc n i := by omega
                refine ⟨some i, nI 1, ?_, by simp [hlt]⟩
                rcases h5 with rfl | ⟨v, rfl⟩
                · rw [k69_r3_5]
                  simp (disch := omega) only [rt_c, b_some, List.cons_append, List.nil_append, Bool.cond_not, cond_true, cond_false, Bool.cond_decide, nI_add, nI_clamp, xin_n, dle_e, dlt_e, deq_e, xb_0, xb_1, decide_true, decide_false, Bool.not_true, Bool.not_false, Bool.and_true, Bool.true_and, Bool.and_false, Bool.false_and, Bool.true_or, Bool.false_or, Bool.or_true, Bool.or_false, if_true, if_false, up1_s, n_31, Int32.lt_irrefl, hD, h1, h51', k69_r3_21, hbn, encO, hu5, hL, el, eu, hle, Nat.one_ne_zero]
                · rw [k69_r3_5_1]
                  simp (disch := omega) only [rt_c, b_some, List.cons_append, List.nil_append, Bool.cond_not, cond_true, cond_false, Bool.cond_decide, nI_add, nI_clamp, xin_n, dle_e, dlt_e, deq_e, xb_0, xb_1, decide_true, decide_false, Bool.not_true, Bool.not_false, Bool.and_true, Bool.true_and, Bool.and_false, Bool.false_and, Bool.true_or, Bool.false_or, Bool.or_true, Bool.or_false, if_true, if_false, up1_s, n_31, Int32.lt_irrefl, hD, h1, h51', k69_r3_21_1, hbn, encO, hu5, hL, el, eu, hle, Nat.one_ne_zero]
              · have hle : lc n u ≤ lc n i := by omega
                refine ⟨some u, nI 1, ?_, by simp [hlt]⟩
                rcases h5 with rfl | ⟨v, rfl⟩
                · rw [k69_r3_5]
                  simp (disch := omega) only [rt_c, b_some, List.cons_append, List.nil_append, Bool.cond_not, cond_true, cond_false, Bool.cond_decide, nI_add, nI_clamp, xin_n, dle_e, dlt_e, deq_e, xb_0, xb_1, decide_true, decide_false, Bool.not_true, Bool.not_false, Bool.and_true, Bool.true_and, Bool.and_false, Bool.false_and, Bool.true_or, Bool.false_or, Bool.or_true, Bool.or_false, if_true, if_false, up1_s, n_31, Int32.lt_irrefl, hD, h1, h51', k69_r3_21, hbn, encO, hu5, hL, el, eu, hle, Nat.one_ne_zero]
                · rw [k69_r3_5_1]
                  simp (disch := omega) only [rt_c, b_some, List.cons_append, List.nil_append, Bool.cond_not, cond_true, cond_false, Bool.cond_decide, nI_add, nI_clamp, xin_n, dle_e, dlt_e, deq_e, xb_0, xb_1, decide_true, decide_false, Bool.not_true, Bool.not_false, Bool.and_true, Bool.true_and, Bool.and_false, Bool.false_and, Bool.true_or, Bool.false_or, Bool.or_true, Bool.or_false, if_true, if_false, up1_s, n_31, Int32.lt_irrefl, hD, h1, h51', k69_r3_21_1, hbn, encO, hu5, hL, el, eu, hle, Nat.one_ne_zero]
      obtain ⟨b2, v, e1, e2⟩ := hst
      rw [e1]
      refine ih (i + 1) b2 _ (by omega) (Or.inr ⟨v, rfl⟩) ?_
      by_cases hin : (open_ n m h).testBit i = true ∧ g.testBit i = false
      · rw [if_pos hin] at e2
        rcases hb with ⟨rfl, hb⟩ | ⟨u, rfl, hu1, hu2, hu3, hu4⟩
        · right
          refine ⟨i, e2, by omega, hin.1, hin.2, ?_⟩
          intro j hj h3 h4
          by_cases hji : j = i
          · subst hji; right; exact ⟨rfl, Nat.le_refl _⟩
          · have := hb j (by omega) h3
            rw [this] at h4; cases h4
        · right
          by_cases hlt : lc n i < lc n u
          · simp only [hlt, if_true] at e2
            refine ⟨i, e2, by omega, hin.1, hin.2, ?_⟩
            intro j hj h3 h4
            by_cases hji : j = i
            · subst hji; right; exact ⟨rfl, Nat.le_refl _⟩
            · have := hu4 j (by omega) h3 h4
              omega
          · simp only [hlt, if_false] at e2
            refine ⟨u, e2, by omega, hu2, hu3, ?_⟩
            intro j hj h3 h4
            by_cases hji : j = i
            · subst hji; omega
            · exact hu4 j (by omega) h3 h4
      · rw [if_neg hin] at e2
        subst e2
        rcases hb with ⟨rfl, hb⟩ | ⟨u, rfl, hu1, hu2, hu3, hu4⟩
        · left
          refine ⟨rfl, fun j hj h3 => ?_⟩
          by_cases hji : j = i
          · subst hji
            cases hgg : g.testBit j with
            | true => rfl
            | false => exact absurd ⟨h3, hgg⟩ hin
          · exact hb j (by omega) h3
        · right
          refine ⟨u, rfl, by omega, hu2, hu3, fun j hj h3 h4 => ?_⟩
          by_cases hji : j = i
          · subst hji; exact absurd ⟨h3, h4⟩ hin
          · exact hu4 j (by omega) h3 h4
  have hbm : ∀ j, (open_ n m h).testBit j = true → j < m := by
    intro j hj
    unfold open_ at hj
    rw [mkN_bit] at hj
    simp only [Bool.and_eq_true, decide_eq_true_eq] at hj
    exact hj.1
  obtain ⟨b, e1, e2⟩ := key m 0 none none (by omega) (Or.inl rfl) (Or.inl ⟨rfl, fun j hj => by omega⟩)
  refine ⟨b, e1, ?_⟩
  rcases e2 with ⟨rfl, e2⟩ | ⟨u, rfl, u1, u2, u3, u4⟩
  · exact Or.inl ⟨rfl, fun j hj => e2 j (hbm j hj) hj⟩
  · exact Or.inr ⟨u, rfl, u1, u2, u3, fun j h3 h4 => u4 j (hbm j h3) h3 h4⟩
theorem q68 (hS : Sh I A 3 n H m) (hV : Vd n H m) {h : Nat} (hh : h < H) : ∃ g, Best n (n (73 + h)).toInt (open_ n m (nI h)) g ∧ g < 4096 ∧ C (d + 2) 68 [.ref 3, .int (nI h)] sl (CH I A N V lt tw sp sr X) = some ([.int (nI g)], sl, CH I A N V lt tw sp sr X) := by
  have h69 := fun g hg => q69 d sl I A N V lt tw sp sr X hS hV (nI h) (g := g) hg
  obtain ⟨⟨hH, hD, hH6, hm⟩, -, hC, hIn, hCh, hW, hT, hL, hG⟩ := sh_3 hS
  have hlc := fun k hk => Vd_lc hV k hk
  have ho := (open_lt hm : open_ n m (nI h) < 4096)
  have hom : open_ n m (nI h) < 2 ^ m := mkN_lt _ m
  generalize open_ n m (nI h) = o at h69 ho hom ⊢
  have key : ∀ q i g p o5, i + q = m → (o5 = none ∨ ∃ v, o5 = some (.int v)) → sub_ g o → g < 4096 → sizeF g 12 = i → (g = 0 ∨ (cost n g : Int) ≤ (n (73 + h)).toInt) → (p.toInt = (n (73 + h)).toInt - cost n g) →
      (∀ i j, g.testBit i = true → o.testBit j = true → g.testBit j = false → lc n i < lc n j ∨ (lc n i = lc n j ∧ i < j)) →
      ∃ g', Best n (n (73 + h)).toInt o g' ∧ g' < 4096 ∧ rt 68 (R (d + 2) 68 (12, [some (.ref 3), some (.int (nI h)), some (.int (nI g)), some (.int p), some (.int (nI i)), o5], [], sl, CH I A N V lt tw sp sr X)) = some ([.int (nI g')], sl, CH I A N V lt tw sp sr X) := by
    intro q
    induction q with
    | zero =>
      intro i g p o5 hi h5 hg hg4 hsz hc hp hd
      have h1 : m ≤ i := by omega
      have hgo : g = o := by
        apply sub_eq hg
        intro u hu
        cases hgu : g.testBit u with
        | true => rfl
        | false =>
          exfalso
          have hu12 : u < 12 := by
            apply Nat.lt_of_not_le
            intro h12
            rw [Nat.testBit_lt_two_pow (Nat.lt_of_lt_of_le ho (Nat.pow_le_pow_right (n := 2) (by decide) h12))] at hu
            cases hu
          have := size_lt hg hu12 hu hgu
          have := size_le hom 12
          omega
      refine ⟨g, greedy_best ho hg hc hd (Or.inl hgo), hg4, ?_⟩
      rcases h5 with rfl | ⟨v, rfl⟩
      · rw [k68_r3_12]
        simp (disch := omega) only [rt_c, b_some, List.cons_append, List.nil_append, Bool.cond_not, cond_true, cond_false, Bool.cond_decide, nI_add, nI_clamp, xin_n, dle_e, dlt_e, deq_e, xb_0, xb_1, decide_true, decide_false, Bool.not_true, Bool.not_false, Bool.and_true, Bool.true_and, Bool.and_false, Bool.false_and, Bool.true_or, Bool.false_or, Bool.or_true, Bool.or_false, if_true, if_false, up1_s, n_31, Int32.lt_irrefl, hD, h1, t68_47, t68_72]
      · rw [k68_r3_12_1]
        simp (disch := omega) only [rt_c, b_some, List.cons_append, List.nil_append, Bool.cond_not, cond_true, cond_false, Bool.cond_decide, nI_add, nI_clamp, xin_n, dle_e, dlt_e, deq_e, xb_0, xb_1, decide_true, decide_false, Bool.not_true, Bool.not_false, Bool.and_true, Bool.true_and, Bool.and_false, Bool.false_and, Bool.true_or, Bool.false_or, Bool.or_true, Bool.or_false, if_true, if_false, up1_s, n_31, Int32.lt_irrefl, hD, h1, t68_47, t68_72]
    | succ q ih =>
      intro i g p o5 hi h5 hg hg4 hsz hc hp hd
      have h1 : ¬ m ≤ i := by omega
      obtain ⟨b, e1, e2⟩ := h69 g hg4
      rcases e2 with ⟨rfl, e2⟩ | ⟨u, rfl, u1, u2, u3, u4⟩
      · have hgo : g = o := sub_eq hg e2
        refine ⟨g, greedy_best ho hg hc hd (Or.inl hgo), hg4, ?_⟩
        rcases h5 with rfl | ⟨v, rfl⟩
        · rw [k68_r3_12]
          simp (disch := omega) only [rt_c, b_some, List.cons_append, List.nil_append, Bool.cond_not, cond_true, cond_false, Bool.cond_decide, nI_add, nI_clamp, xin_n, dle_e, dlt_e, deq_e, xb_0, xb_1, decide_true, decide_false, Bool.not_true, Bool.not_false, Bool.and_true, Bool.true_and, Bool.and_false, Bool.false_and, Bool.true_or, Bool.false_or, Bool.or_true, Bool.or_false, if_true, if_false, up1_s, n_31, Int32.lt_irrefl, hD, h1, e1, encO, k68_r3_27, t68_47, t68_72]
        · rw [k68_r3_12_1]
          simp (disch := omega) only [rt_c, b_some, List.cons_append, List.nil_append, Bool.cond_not, cond_true, cond_false, Bool.cond_decide, nI_add, nI_clamp, xin_n, dle_e, dlt_e, deq_e, xb_0, xb_1, decide_true, decide_false, Bool.not_true, Bool.not_false, Bool.and_true, Bool.true_and, Bool.and_false, Bool.false_and, Bool.true_or, Bool.false_or, Bool.or_true, Bool.or_false, if_true, if_false, up1_s, n_31, Int32.lt_irrefl, hD, h1, e1, encO, k68_r3_27_1, t68_47, t68_72]
      · have hu5 : ¬ nI u = -1 := fun e => neg1_ne (k := nI u) (by rw [nI_leI (by omega) (by omega)]; omega) e.symm
        have eu := (hlc u (by omega)).1
        have eu2 := (hlc u (by omega)).2
        by_cases hle : nI (lc n u) ≤ p
        · have hle' : (lc n u : Int) ≤ p.toInt := by
            have := Int32.le_iff_toInt_le.mp hle
            rwa [nI_toInt (by omega)] at this
          have hg' := sub_or hg u2
          have hg4' : g ||| (1 <<< u) < 4096 := Nat.lt_of_le_of_lt (sub_le hg') ho
          have hco : cost n (g ||| (1 <<< u)) = cost n g + lc n u := by
            unfold cost
            rw [costF_or u3, if_pos (by omega)]
          have hsz' : sizeF (g ||| (1 <<< u)) 12 = i + 1 := by
            rw [sizeF_or u3, if_pos (by omega), hsz]
          have hp' : (p - nI (lc n u)).toInt = (n (73 + h)).toInt - cost n (g ||| (1 <<< u)) := by
            have hpb := p.toInt_lt
            rw [Int32.toInt_sub, nI_toInt (by omega), Int.bmod_eq_of_le (by omega) (by omega), hp, hco]
            omega
          have hd' : ∀ i j, (g ||| (1 <<< u)).testBit i = true → o.testBit j = true → (g ||| (1 <<< u)).testBit j = false → lc n i < lc n j ∨ (lc n i = lc n j ∧ i < j) := by
            intro a b ha hb hgb
            rw [or_bit] at ha hgb
            simp only [Bool.or_eq_true, decide_eq_true_eq, Bool.or_eq_false_iff, decide_eq_false_iff_not] at ha hgb
            rcases ha with ha | rfl
            · exact hd a b ha hb hgb.1
            · have := u4 b hb hgb.1
              have := hgb.2
              omega
          have hor : nI g ||| (nI 1 <<< nI u) = nI (g ||| (1 <<< u)) := by
            rw [nI_shl (by omega), nI_or (by omega) (Nat.lt_of_lt_of_le shl_lt (Nat.pow_le_pow_right (by decide) (by omega)))]
          obtain ⟨g', f1, f2, f3⟩ := ih (i + 1) (g ||| (1 <<< u)) (p - nI (lc n u)) (some (.int (nI u))) (by omega) (Or.inr ⟨_, rfl⟩) hg' hg4' hsz' (Or.inr (by rw [hco]; omega)) hp' hd'
          refine ⟨g', f1, f2, ?_⟩
          rw [← f3]
          rcases h5 with rfl | ⟨v, rfl⟩
          · rw [k68_r3_12]
            simp (disch := omega) only [rt_c, b_some, List.cons_append, List.nil_append, Bool.cond_not, cond_true, cond_false, Bool.cond_decide, nI_add, nI_clamp, xin_n, dle_e, dlt_e, deq_e, xb_0, xb_1, decide_true, decide_false, Bool.not_true, Bool.not_false, Bool.and_true, Bool.true_and, Bool.and_false, Bool.false_and, Bool.true_or, Bool.false_or, Bool.or_true, Bool.or_false, if_true, if_false, up1_s, n_31, Int32.lt_irrefl, hD, h1, e1, encO, k68_r3_27, hu5, hL, eu, hle, hor]
          · rw [k68_r3_12_1]
            simp (disch := omega) only [rt_c, b_some, List.cons_append, List.nil_append, Bool.cond_not, cond_true, cond_false, Bool.cond_decide, nI_add, nI_clamp, xin_n, dle_e, dlt_e, deq_e, xb_0, xb_1, decide_true, decide_false, Bool.not_true, Bool.not_false, Bool.and_true, Bool.true_and, Bool.and_false, Bool.false_and, Bool.true_or, Bool.false_or, Bool.or_true, Bool.or_false, if_true, if_false, up1_s, n_31, Int32.lt_irrefl, hD, h1, e1, encO, k68_r3_27_1, hu5, hL, eu, hle, hor]
        · have hle' : p.toInt < (lc n u : Int) := by
            have : ¬ (nI (lc n u)).toInt ≤ p.toInt := fun q => hle (Int32.le_iff_toInt_le.mpr q)
            rw [nI_toInt (by omega)] at this
            omega
          refine ⟨g, greedy_best ho hg hc hd (Or.inr ⟨u, u2, u3, fun j h3 h4 => by have := u4 j h3 h4; omega, by omega⟩), hg4, ?_⟩
          rcases h5 with rfl | ⟨v, rfl⟩
          · rw [k68_r3_12]
            simp (disch := omega) only [rt_c, b_some, List.cons_append, List.nil_append, Bool.cond_not, cond_true, cond_false, Bool.cond_decide, nI_add, nI_clamp, xin_n, dle_e, dlt_e, deq_e, xb_0, xb_1, decide_true, decide_false, Bool.not_true, Bool.not_false, Bool.and_true, Bool.true_and, Bool.and_false, Bool.false_and, Bool.true_or, Bool.false_or, Bool.or_true, Bool.or_false, if_true, if_false, up1_s, n_31, Int32.lt_irrefl, hD, h1, e1, encO, k68_r3_27, hu5, hL, eu, hle, t68_47, t68_72]
          · rw [k68_r3_12_1]
            simp (disch := omega) only [rt_c, b_some, List.cons_append, List.nil_append, Bool.cond_not, cond_true, cond_false, Bool.cond_decide, nI_add, nI_clamp, xin_n, dle_e, dlt_e, deq_e, xb_0, xb_1, decide_true, decide_false, Bool.not_true, Bool.not_false, Bool.and_true, Bool.true_and, Bool.and_false, Bool.false_and, Bool.true_or, Bool.false_or, Bool.or_true, Bool.or_false, if_true, if_false, up1_s, n_31, Int32.lt_irrefl, hD, h1, e1, encO, k68_r3_27_1, hu5, hL, eu, hle, t68_47, t68_72]
  have hcost0 : cost n 0 = 0 := by
    unfold cost
    simp [costF]
  obtain ⟨g', f1, f2, f3⟩ := key m 0 0 (n (73 + h)) none (by omega) (Or.inl rfl) (by simp [sub_]) (by omega) (by decide) (Or.inl rfl) (by rw [hcost0]; simp) (fun i j hi => by simp at hi)
  refine ⟨g', f1, f2, ?_⟩
  rw [e68, k68_r3_0]
  simp (disch := omega) only [rt_c, b_some, List.cons_append, List.nil_append, Bool.cond_not, cond_true, cond_false, Bool.cond_decide, nI_add, nI_clamp, xin_n, dle_e, dlt_e, deq_e, xb_0, xb_1, decide_true, decide_false, Bool.not_true, Bool.not_false, Bool.and_true, Bool.true_and, Bool.and_false, Bool.false_and, Bool.true_or, Bool.false_or, Bool.or_true, Bool.or_false, if_true, if_false, up1_s, n_31, Int32.lt_irrefl, hC, f3]
theorem q137 (hS : Sh I A 3 n H m) (hV : Vd n H m) {h : Nat} (hh : h < H) : ∃ g, Best n (n (73 + h)).toInt (open_ n m (nI h)) g ∧ g < 4096 ∧ C (d + 3) 137 [.ref 0, .int (nI h)] sl (CH I A N V lt tw sp sr X) = some ([.int (nI (popF 12 g))], sl, CH (up1 I 0 (up1 (I 0) 14 (nI g))) A N V lt tw sp sr X) := by
  have h45 := q45_3 (d + 2) sl I A N V lt tw sp sr X hS (nI h)
  obtain ⟨g, g1, g2, g3⟩ := q68 d sl I A N V lt tw sp sr X hS hV hh
  have h2 := q2 (d + 2) sl (up1 I 0 (up1 (I 0) 14 (nI g))) A N V lt tw sp sr X g2
  refine ⟨g, g1, g2, ?_⟩
  rw [e137, k137_0, h45, isN_n hh (Nat.lt_of_le_of_lt hS.1.2.2.1 (by decide))]
  simp (disch := omega) only [rt_c, b_some, List.cons_append, List.nil_append, Bool.cond_not, cond_true, cond_false, Bool.cond_decide, nI_add, nI_clamp, xin_n, dle_e, dlt_e, deq_e, xb_0, xb_1, decide_true, decide_false, Bool.not_true, Bool.not_false, Bool.and_true, Bool.true_and, Bool.and_false, Bool.false_and, Bool.true_or, Bool.false_or, Bool.or_true, Bool.or_false, if_true, if_false, up1_s, n_31, Int32.lt_irrefl, k137_8, g3, k137_22, h2, k137_32, t137_12, t137_32]
theorem q137_out (hS : Sh I A 3 n H m) {h : Int32} (hh : isN H h = false) : C (d + 3) 137 [.ref 0, .int h] sl (CH I A N V lt tw sp sr X) = some ([.int (-1)], sl, CH I A N V lt tw sp sr X) := by
  have h45 := q45_3 (d + 2) sl I A N V lt tw sp sr X hS h
  rw [e137, k137_0, h45, hh]
  simp (disch := omega) only [rt_c, b_some, List.cons_append, List.nil_append, Bool.cond_not, cond_true, cond_false, Bool.cond_decide, nI_add, nI_clamp, xin_n, dle_e, dlt_e, deq_e, xb_0, xb_1, decide_true, decide_false, Bool.not_true, Bool.not_false, Bool.and_true, Bool.true_and, Bool.and_false, Bool.false_and, Bool.true_or, Bool.false_or, Bool.or_true, Bool.or_false, if_true, if_false, up1_s, n_31, Int32.lt_irrefl, k137_8, t137_12, t137_32]
end CL8
