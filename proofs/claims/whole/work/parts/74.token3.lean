/-! TOKENS: the reference's; one token on both sides -/
def InvR (b : Nat → Nat) (r i : Nat) (lf good : Bool) (J : Nat → Int32) (w : Int64) : Prop := (good = true ↔ ∀ j, j < i → isLt (b (r + j)) = lf) ∧ (allL b r i → i ≤ 7 → w = lN (p27 (sgs b r i))) ∧ (allD b r i → i ≤ 3 → J 8 = nI (dvl b r i))
section RFT
variable (d sl : Nat) (I : Nat → Int32) (w : Int64) (A : Nat → Nat → Int32) (N : Nat → Nat → Int64) {t : Nat} (b : Nat → Nat)
theorem c173 {c : Nat} (hc : c < 256) : C d 173 [.int (nI c)] sl (RH I w A N) = some ([.int (x_b (isLt c))], sl, RH I w A N) := by
  rw [e173, m173_0]
  by_cases h1 : c < 97
  · have hx : isLt c = false := by
      cases h : isLt c with
      | false => rfl
      | true => have := isLt_t.mp h; omega
    rw [hx]
    simp (disch := omega) only [rt_c, b_some, List.cons_append, List.nil_append, Bool.cond_not, cond_true, cond_false, Bool.cond_decide, nI_add, nI_clamp, xin_n, dle_e, dlt_e, deq_e, xb_0, xb_1, decide_true, decide_false, Bool.not_true, Bool.not_false, Bool.and_true, Bool.true_and, Bool.and_false, Bool.false_and, Bool.true_or, Bool.false_or, Bool.or_true, Bool.or_false, if_true, if_false, up1_s, n_31, Int32.lt_irrefl, h1, t173_17, t173_17_0, t173_17_1]
  · by_cases h2 : 122 < c
    · have hx : isLt c = false := by
        cases h : isLt c with
        | false => rfl
        | true => have := isLt_t.mp h; omega
      rw [hx]
      simp (disch := omega) only [rt_c, b_some, List.cons_append, List.nil_append, Bool.cond_not, cond_true, cond_false, Bool.cond_decide, nI_add, nI_clamp, xin_n, dle_e, dlt_e, deq_e, xb_0, xb_1, decide_true, decide_false, Bool.not_true, Bool.not_false, Bool.and_true, Bool.true_and, Bool.and_false, Bool.false_and, Bool.true_or, Bool.false_or, Bool.or_true, Bool.or_false, if_true, if_false, up1_s, n_31, Int32.lt_irrefl, h1, h2, t173_17, t173_17_0, t173_17_1]
    · rw [isLt_t.mpr ⟨by omega, by omega⟩]
      simp (disch := omega) only [rt_c, b_some, List.cons_append, List.nil_append, Bool.cond_not, cond_true, cond_false, Bool.cond_decide, nI_add, nI_clamp, xin_n, dle_e, dlt_e, deq_e, xb_0, xb_1, decide_true, decide_false, Bool.not_true, Bool.not_false, Bool.and_true, Bool.true_and, Bool.and_false, Bool.false_and, Bool.true_or, Bool.false_or, Bool.or_true, Bool.or_false, if_true, if_false, up1_s, n_31, Int32.lt_irrefl, h1, h2, t173_17, t173_17_0, t173_17_1]
theorem c172 {c : Nat} (hc : c < 256) : C d 172 [.int (nI c)] sl (RH I w A N) = some ([.int (x_b (isDg c))], sl, RH I w A N) := by
  rw [e172, m172_0]
  by_cases h1 : c < 48
  · have hx : isDg c = false := by
      cases h : isDg c with
      | false => rfl
      | true => have := isDg_t.mp h; omega
    rw [hx]
    simp (disch := omega) only [rt_c, b_some, List.cons_append, List.nil_append, Bool.cond_not, cond_true, cond_false, Bool.cond_decide, nI_add, nI_clamp, xin_n, dle_e, dlt_e, deq_e, xb_0, xb_1, decide_true, decide_false, Bool.not_true, Bool.not_false, Bool.and_true, Bool.true_and, Bool.and_false, Bool.false_and, Bool.true_or, Bool.false_or, Bool.or_true, Bool.or_false, if_true, if_false, up1_s, n_31, Int32.lt_irrefl, h1, t172_17, t172_17_0, t172_17_1]
  · by_cases h2 : 57 < c
    · have hx : isDg c = false := by
        cases h : isDg c with
        | false => rfl
        | true => have := isDg_t.mp h; omega
      rw [hx]
      simp (disch := omega) only [rt_c, b_some, List.cons_append, List.nil_append, Bool.cond_not, cond_true, cond_false, Bool.cond_decide, nI_add, nI_clamp, xin_n, dle_e, dlt_e, deq_e, xb_0, xb_1, decide_true, decide_false, Bool.not_true, Bool.not_false, Bool.and_true, Bool.true_and, Bool.and_false, Bool.false_and, Bool.true_or, Bool.false_or, Bool.or_true, Bool.or_false, if_true, if_false, up1_s, n_31, Int32.lt_irrefl, h1, h2, t172_17, t172_17_0, t172_17_1]
    · rw [isDg_t.mpr ⟨by omega, by omega⟩]
      simp (disch := omega) only [rt_c, b_some, List.cons_append, List.nil_append, Bool.cond_not, cond_true, cond_false, Bool.cond_decide, nI_add, nI_clamp, xin_n, dle_e, dlt_e, deq_e, xb_0, xb_1, decide_true, decide_false, Bool.not_true, Bool.not_false, Bool.and_true, Bool.true_and, Bool.and_false, Bool.false_and, Bool.true_or, Bool.false_or, Bool.or_true, Bool.or_false, if_true, if_false, up1_s, n_31, Int32.lt_irrefl, h1, h2, t172_17, t172_17_0, t172_17_1]
theorem c171_in {p : Nat} (hp : p < t) (ht : t ≤ 940) (h3 : I 3 = nI t) (hb : A 1 p = nI (b p)) : C d 171 [.ref 0, .int (nI p)] sl (RH I w A N) = some ([.int (nI (b p))], sl, RH I w A N) := by
  have h1 : ¬ t ≤ p := by omega
  rw [e171, m171_0, h3]
  simp (disch := omega) only [rt_c, b_some, List.cons_append, List.nil_append, Bool.cond_not, cond_true, cond_false, Bool.cond_decide, nI_add, nI_clamp, xin_n, dle_e, dlt_e, deq_e, xb_0, xb_1, decide_true, decide_false, Bool.not_true, Bool.not_false, Bool.and_true, Bool.true_and, Bool.and_false, Bool.false_and, Bool.true_or, Bool.false_or, Bool.or_true, Bool.or_false, if_true, if_false, up1_s, n_31, Int32.lt_irrefl, h1, hb, t171_18]
theorem c171_out (ht : t ≤ 940) (h3 : I 3 = nI t) : C d 171 [.ref 0, .int (nI t)] sl (RH I w A N) = some ([.int (nI 0)], sl, RH I w A N) := by
  rw [e171, m171_0, h3]
  simp (disch := omega) only [rt_c, b_some, List.cons_append, List.nil_append, Bool.cond_not, cond_true, cond_false, Bool.cond_decide, nI_add, nI_clamp, xin_n, dle_e, dlt_e, deq_e, xb_0, xb_1, decide_true, decide_false, Bool.not_true, Bool.not_false, Bool.and_true, Bool.true_and, Bool.and_false, Bool.false_and, Bool.true_or, Bool.false_or, Bool.or_true, Bool.or_false, if_true, if_false, up1_s, n_31, Int32.lt_irrefl, Nat.le_refl, t171_18]
def kndN (lf good : Bool) (i : Nat) : Nat := cond good (cond lf (if i ≤ 7 then 2 else 1) (if i ≤ 3 then 3 else 1)) 1
theorem c174_end {r i : Nat} (ht : t ≤ 940) (hi : r + i ≤ t) (J : Nat → Int32) (j3 : J 3 = nI t) (j5 : J 5 = nI (r + i)) (j6 : J 6 = nI r) (hb : ∀ k, k < t → b k < 256 ∧ A 1 k = nI (b k)) (hend : r + i < t → isLt (b (r + i)) = false ∧ isDg (b (r + i)) = false) (a1 : Int32) (lf good : Bool) (o : Option Value) (ho : o = none ∨ ∃ v, o = some (.int v)) : rt 174 (R (d + 1) 174 (215, [some (.ref 0), some (.int a1), some (.int (x_b lf)), some (.int (x_b good)), o], [], sl, RH J w A N)) = some ([], sl, RH (up1 J 7 (nI (kndN lf good i))) w A N) := by
  have hs : nI (r + i) - nI r = nI i := by rw [nI_sub (by omega)]; congr 1; omega
  have h171 : ∃ c, c < 256 ∧ C d 171 [.ref 0, .int (nI (r + i))] sl (RH J w A N) = some ([.int (nI c)], sl, RH J w A N) ∧ isLt c = false ∧ isDg c = false := by
    by_cases hp : r + i < t
    · exact ⟨b (r + i), (hb _ hp).1, c171_in d sl J w A N b hp ht j3 (hb _ hp).2, hend hp⟩
    · refine ⟨0, by omega, ?_, by decide, by decide⟩
      rw [show r + i = t by omega]
      exact c171_out d sl J w A N ht j3
  obtain ⟨c, hc, h1, h2, h3⟩ := h171
  have h173 := c173 d sl J w A N hc
  have h172 := c172 d sl J w A N hc
  rw [h2] at h173
  rw [h3] at h172
  have hk : (good = false ∧ kndN lf good i = 1) ∨ (good = true ∧ lf = false ∧ i ≤ 3 ∧ kndN lf good i = 3) ∨ (good = true ∧ lf = false ∧ ¬ i ≤ 3 ∧ kndN lf good i = 1) ∨ (good = true ∧ lf = true ∧ i ≤ 7 ∧ kndN lf good i = 2) ∨ (good = true ∧ lf = true ∧ ¬ i ≤ 7 ∧ kndN lf good i = 1) := by
    unfold kndN
    cases good with
    | false => exact Or.inl ⟨rfl, rfl⟩
    | true =>
      cases lf with
      | false =>
        by_cases h : i ≤ 3
        · exact Or.inr (Or.inl ⟨rfl, rfl, h, by simp [h]⟩)
        · exact Or.inr (Or.inr (Or.inl ⟨rfl, rfl, h, by simp [h]⟩))
      | true =>
        by_cases h : i ≤ 7
        · exact Or.inr (Or.inr (Or.inr (Or.inl ⟨rfl, rfl, h, by simp [h]⟩)))
        · exact Or.inr (Or.inr (Or.inr (Or.inr ⟨rfl, rfl, h, by simp [h]⟩)))
  rcases ho with rfl | ⟨v, rfl⟩
  · rcases hk with ⟨rfl, k4⟩ | ⟨rfl, rfl, k3, k4⟩ | ⟨rfl, rfl, k3, k4⟩ | ⟨rfl, rfl, k3, k4⟩ | ⟨rfl, rfl, k3, k4⟩
    · rw [k4, m174_215, j5, h1]
      simp (disch := omega) only [rt_c, b_some, List.cons_append, List.nil_append, Bool.cond_not, cond_true, cond_false, Bool.cond_decide, nI_add, nI_clamp, xin_n, dle_e, dlt_e, deq_e, xb_0, xb_1, decide_true, decide_false, Bool.not_true, Bool.not_false, Bool.and_true, Bool.true_and, Bool.and_false, Bool.false_and, Bool.true_or, Bool.false_or, Bool.or_true, Bool.or_false, if_true, if_false, up1_s, n_31, Int32.lt_irrefl, m174_223, h173, m174_226, j5, h1, m174_237, h172, m174_240, t174_95, t174_112, t174_197, t174_393]
    · rw [k4, m174_215, j5, h1]
      simp (disch := omega) only [rt_c, b_some, List.cons_append, List.nil_append, Bool.cond_not, cond_true, cond_false, Bool.cond_decide, nI_add, nI_clamp, xin_n, dle_e, dlt_e, deq_e, xb_0, xb_1, decide_true, decide_false, Bool.not_true, Bool.not_false, Bool.and_true, Bool.true_and, Bool.and_false, Bool.false_and, Bool.true_or, Bool.false_or, Bool.or_true, Bool.or_false, if_true, if_false, up1_s, n_31, Int32.lt_irrefl, m174_223, h173, m174_226, j5, h1, m174_237, h172, m174_240, j6, hs, k3, t174_95, t174_112, t174_197, t174_393]
    · rw [k4, m174_215, j5, h1]
      simp (disch := omega) only [rt_c, b_some, List.cons_append, List.nil_append, Bool.cond_not, cond_true, cond_false, Bool.cond_decide, nI_add, nI_clamp, xin_n, dle_e, dlt_e, deq_e, xb_0, xb_1, decide_true, decide_false, Bool.not_true, Bool.not_false, Bool.and_true, Bool.true_and, Bool.and_false, Bool.false_and, Bool.true_or, Bool.false_or, Bool.or_true, Bool.or_false, if_true, if_false, up1_s, n_31, Int32.lt_irrefl, m174_223, h173, m174_226, j5, h1, m174_237, h172, m174_240, j6, hs, k3, t174_95, t174_112, t174_197, t174_393]
    · rw [k4, m174_215, j5, h1]
      simp (disch := omega) only [rt_c, b_some, List.cons_append, List.nil_append, Bool.cond_not, cond_true, cond_false, Bool.cond_decide, nI_add, nI_clamp, xin_n, dle_e, dlt_e, deq_e, xb_0, xb_1, decide_true, decide_false, Bool.not_true, Bool.not_false, Bool.and_true, Bool.true_and, Bool.and_false, Bool.false_and, Bool.true_or, Bool.false_or, Bool.or_true, Bool.or_false, if_true, if_false, up1_s, n_31, Int32.lt_irrefl, m174_223, h173, m174_226, j5, h1, m174_237, h172, m174_240, j6, hs, k3, t174_95, t174_112, t174_197, t174_393]
    · rw [k4, m174_215, j5, h1]
      simp (disch := omega) only [rt_c, b_some, List.cons_append, List.nil_append, Bool.cond_not, cond_true, cond_false, Bool.cond_decide, nI_add, nI_clamp, xin_n, dle_e, dlt_e, deq_e, xb_0, xb_1, decide_true, decide_false, Bool.not_true, Bool.not_false, Bool.and_true, Bool.true_and, Bool.and_false, Bool.false_and, Bool.true_or, Bool.false_or, Bool.or_true, Bool.or_false, if_true, if_false, up1_s, n_31, Int32.lt_irrefl, m174_223, h173, m174_226, j5, h1, m174_237, h172, m174_240, j6, hs, k3, t174_95, t174_112, t174_197, t174_393]
  · rcases hk with ⟨rfl, k4⟩ | ⟨rfl, rfl, k3, k4⟩ | ⟨rfl, rfl, k3, k4⟩ | ⟨rfl, rfl, k3, k4⟩ | ⟨rfl, rfl, k3, k4⟩
    · rw [k4, m174_215_1, j5, h1]
      simp (disch := omega) only [rt_c, b_some, List.cons_append, List.nil_append, Bool.cond_not, cond_true, cond_false, Bool.cond_decide, nI_add, nI_clamp, xin_n, dle_e, dlt_e, deq_e, xb_0, xb_1, decide_true, decide_false, Bool.not_true, Bool.not_false, Bool.and_true, Bool.true_and, Bool.and_false, Bool.false_and, Bool.true_or, Bool.false_or, Bool.or_true, Bool.or_false, if_true, if_false, up1_s, n_31, Int32.lt_irrefl, m174_223_1, h173, m174_226_1, j5, h1, m174_237_1, h172, m174_240_1, t174_95, t174_112, t174_197, t174_393]
    · rw [k4, m174_215_1, j5, h1]
      simp (disch := omega) only [rt_c, b_some, List.cons_append, List.nil_append, Bool.cond_not, cond_true, cond_false, Bool.cond_decide, nI_add, nI_clamp, xin_n, dle_e, dlt_e, deq_e, xb_0, xb_1, decide_true, decide_false, Bool.not_true, Bool.not_false, Bool.and_true, Bool.true_and, Bool.and_false, Bool.false_and, Bool.true_or, Bool.false_or, Bool.or_true, Bool.or_false, if_true, if_false, up1_s, n_31, Int32.lt_irrefl, m174_223_1, h173, m174_226_1, j5, h1, m174_237_1, h172, m174_240_1, j6, hs, k3, t174_95, t174_112, t174_197, t174_393]
    · rw [k4, m174_215_1, j5, h1]
      simp (disch := omega) only [rt_c, b_some, List.cons_append, List.nil_append, Bool.cond_not, cond_true, cond_false, Bool.cond_decide, nI_add, nI_clamp, xin_n, dle_e, dlt_e, deq_e, xb_0, xb_1, decide_true, decide_false, Bool.not_true, Bool.not_false, Bool.and_true, Bool.true_and, Bool.and_false, Bool.false_and, Bool.true_or, Bool.false_or, Bool.or_true, Bool.or_false, if_true, if_false, up1_s, n_31, Int32.lt_irrefl, m174_223_1, h173, m174_226_1, j5, h1, m174_237_1, h172, m174_240_1, j6, hs, k3, t174_95, t174_112, t174_197, t174_393]
    · rw [k4, m174_215_1, j5, h1]
      simp (disch := omega) only [rt_c, b_some, List.cons_append, List.nil_append, Bool.cond_not, cond_true, cond_false, Bool.cond_decide, nI_add, nI_clamp, xin_n, dle_e, dlt_e, deq_e, xb_0, xb_1, decide_true, decide_false, Bool.not_true, Bool.not_false, Bool.and_true, Bool.true_and, Bool.and_false, Bool.false_and, Bool.true_or, Bool.false_or, Bool.or_true, Bool.or_false, if_true, if_false, up1_s, n_31, Int32.lt_irrefl, m174_223_1, h173, m174_226_1, j5, h1, m174_237_1, h172, m174_240_1, j6, hs, k3, t174_95, t174_112, t174_197, t174_393]
    · rw [k4, m174_215_1, j5, h1]
      simp (disch := omega) only [rt_c, b_some, List.cons_append, List.nil_append, Bool.cond_not, cond_true, cond_false, Bool.cond_decide, nI_add, nI_clamp, xin_n, dle_e, dlt_e, deq_e, xb_0, xb_1, decide_true, decide_false, Bool.not_true, Bool.not_false, Bool.and_true, Bool.true_and, Bool.and_false, Bool.false_and, Bool.true_or, Bool.false_or, Bool.or_true, Bool.or_false, if_true, if_false, up1_s, n_31, Int32.lt_irrefl, m174_223_1, h173, m174_226_1, j5, h1, m174_237_1, h172, m174_240_1, j6, hs, k3, t174_95, t174_112, t174_197, t174_393]
theorem c174_loop {r e : Nat} (he : e ≤ t) (ht : t ≤ 940) (hb : ∀ k, k < t → b k < 256 ∧ A 1 k = nI (b k)) (hrun : ∀ k, r ≤ k → k < e → isLt (b k) = true ∨ isDg (b k) = true) (hend : e < t → isLt (b e) = false ∧ isDg (b e) = false) (a1 : Int32) (lf : Bool) : ∀ (q i : Nat) (good : Bool) (J : Nat → Int32) (w : Int64) (o : Option Value), (o = none ∨ ∃ v, o = some (.int v)) → r + i + q = e → J 3 = nI t → J 5 = nI (r + i) → J 6 = nI r → InvR b r i lf good J w → ∃ good' J' w', rt 174 (R (d + 1) 174 (215, [some (.ref 0), some (.int a1), some (.int (x_b lf)), some (.int (x_b good)), o], [], sl, RH J w A N)) = some ([], sl, RH (up1 J' 7 (nI (kndN lf good' (e - r)))) w' A N) ∧ J' 5 = nI e ∧ InvR b r (e - r) lf good' J' w' ∧ ∀ k, k ≠ 5 → k ≠ 8 → J' k = J k := by
  intro q
  induction q with
  | zero =>
    intro i good J w o ho hq j3 j5 j6 hinv
    have hri : r + i = e := by omega
    have hi : e - r = i := by omega
    rw [hi]
    exact ⟨good, J, w, c174_end d sl w A N b ht (by omega) J j3 j5 j6 hb (fun h => by rw [hri] at h ⊢; exact hend h) a1 lf good o ho, by rw [j5, hri], hinv, fun _ _ _ => rfl⟩
  | succ q ih =>
    intro i good J w o ho hq j3 j5 j6 hinv
    obtain ⟨i1, i2, i3⟩ := hinv
    have hbp := hb (r + i) (by omega)
    have hbc := hbp.1
    have hs : nI (r + i) - nI r = nI i := by rw [nI_sub (by omega)]; congr 1; omega
    have h171 := c171_in d sl J w A N b (show r + i < t by omega) ht j3 hbp.2
    have h173 := c173 d sl J w A N hbp.1
    have h172 := c172 d sl J w A N hbp.1
    have hgood : ∀ g', (g' = true ↔ (good = true ∧ isLt (b (r + i)) = lf)) → (g' = true ↔ ∀ j, j < i + 1 → isLt (b (r + j)) = lf) := by
      intro g' hg
      rw [hg]
      constructor
      · rintro ⟨g1, g2⟩ j hj
        by_cases hji : j = i
        · rw [hji]; exact g2
        · exact i1.mp g1 j (by omega)
      · intro h
        exact ⟨i1.mpr (fun j hj => h j (by omega)), h i (by omega)⟩
    -- words and numbers, one byte more
    have hw1 : allL b r (i + 1) → i + 1 ≤ 7 → (nI 27).toInt64 * w + (nI (b (r + i))).toInt64 - (nI 96).toInt64 = lN (p27 (sgs b r (i + 1))) := fun h1 h2 => by
      have hh : allL b r i := fun j hj => h1 j (by omega)
      have hc := isLt_t.mp (h1 i (by omega))
      have hlt := p27_sgs hh
      have hpw : 27 ^ i ≤ 27 ^ 6 := Nat.pow_le_pow_right (by decide) (by omega)
      rw [i2 hh (by omega), sgs, p27_s]
      exact w27 (by omega) hc.1 hc.2
    have hn1 : allD b r (i + 1) → i + 1 ≤ 3 → nI 10 * J 8 + nI (b (r + i)) - nI 48 = nI (dvl b r (i + 1)) := fun h1 h2 => by
      have hh : allD b r i := fun j hj => h1 j (by omega)
      have hc := isDg_t.mp (h1 i (by omega))
      rw [i3 hh (by omega), dvl]
      exact n10' hc.1
    rcases hrun (r + i) (by omega) (by omega) with hL | hD
    · have h173k := h173
      rw [hL] at h173k
      rcases (show i < 3 ∨ (3 ≤ i ∧ i < 7) ∨ 7 ≤ i by omega) with hr | hr | hr
      · have n3 : ¬ 3 ≤ i := by omega
        have n7 : ¬ 7 ≤ i := by omega
        cases good with
        | true =>
          cases hlf : (decide (x_b (isLt (b (r + i))) = x_b lf)) with
          | true =>
            have hq2 : x_b (isLt (b (r + i))) = x_b lf := of_decide_eq_true hlf
            have hq1 : isLt (b (r + i)) = lf := by cases h1 : isLt (b (r + i)) <;> cases lf <;> first | rfl | (rw [h1] at hq2; exact absurd hq2 (by decide))
            obtain ⟨g2, J2, w2, x1, x2, x4, x3⟩ := ih (i + 1) true (up1 (up1 J 5 (nI (r + i + 1))) 8 (nI 10 * J 8 + nI (b (r + i)) - nI 48)) (((nI 27).toInt64 * w + (nI (b (r + i))).toInt64 - (nI 96).toInt64)) (some (.int (nI (b (r + i))))) (Or.inr ⟨_, rfl⟩) (by omega) (by rw [up1_n (by decide), up1_n (by decide)]; exact j3) (by rw [up1_n (by decide), up1_s]; rfl) (by rw [up1_n (by decide), up1_n (by decide)]; exact j6) ⟨hgood true ⟨fun _ => ⟨rfl, hq1⟩, fun _ => rfl⟩, hw1, fun h1 h2 => by rw [up1_s]; exact hn1 h1 h2⟩
            rw [xb_t] at x1
            refine ⟨g2, J2, w2, ?_, x2, x4, fun k k1 k2 => by rw [x3 k k1 k2, up1_n k2, up1_n k1]⟩
            rcases ho with rfl | ⟨v, rfl⟩
            · rw [m174_215, j5, h171]
              simp (disch := omega) only [rt_c, b_some, List.cons_append, List.nil_append, Bool.cond_not, cond_true, cond_false, Bool.cond_decide, nI_add, nI_clamp, xin_n, dle_e, dlt_e, deq_e, xb_0, xb_1, decide_true, decide_false, Bool.not_true, Bool.not_false, Bool.and_true, Bool.true_and, Bool.and_false, Bool.false_and, Bool.true_or, Bool.false_or, Bool.or_true, Bool.or_false, if_true, if_false, up1_s, n_31, Int32.lt_irrefl, m174_223, h173k, m174_226, j5, hbp.2, h173, m174_263, j6, hs, n3, n7]
              rw [hL] at hq2
              rw [if_pos hq2]
              exact x1
            · rw [m174_215_1, j5, h171]
              simp (disch := omega) only [rt_c, b_some, List.cons_append, List.nil_append, Bool.cond_not, cond_true, cond_false, Bool.cond_decide, nI_add, nI_clamp, xin_n, dle_e, dlt_e, deq_e, xb_0, xb_1, decide_true, decide_false, Bool.not_true, Bool.not_false, Bool.and_true, Bool.true_and, Bool.and_false, Bool.false_and, Bool.true_or, Bool.false_or, Bool.or_true, Bool.or_false, if_true, if_false, up1_s, n_31, Int32.lt_irrefl, m174_223_1, h173k, m174_226_1, j5, hbp.2, h173, m174_263, j6, hs, n3, n7]
              rw [hL] at hq2
              rw [if_pos hq2]
              exact x1
          | false =>
            have hq2 : ¬ x_b (isLt (b (r + i))) = x_b lf := of_decide_eq_false hlf
            have hq1 : ¬ isLt (b (r + i)) = lf := fun h => hq2 (by rw [h])
            obtain ⟨g2, J2, w2, x1, x2, x4, x3⟩ := ih (i + 1) false (up1 (up1 J 5 (nI (r + i + 1))) 8 (nI 10 * J 8 + nI (b (r + i)) - nI 48)) (((nI 27).toInt64 * w + (nI (b (r + i))).toInt64 - (nI 96).toInt64)) (some (.int (nI (b (r + i))))) (Or.inr ⟨_, rfl⟩) (by omega) (by rw [up1_n (by decide), up1_n (by decide)]; exact j3) (by rw [up1_n (by decide), up1_s]; rfl) (by rw [up1_n (by decide), up1_n (by decide)]; exact j6) ⟨hgood false ⟨fun h => (by cases h), fun h => absurd h.2 hq1⟩, hw1, fun h1 h2 => by rw [up1_s]; exact hn1 h1 h2⟩
            rw [xb_f] at x1
            refine ⟨g2, J2, w2, ?_, x2, x4, fun k k1 k2 => by rw [x3 k k1 k2, up1_n k2, up1_n k1]⟩
            rcases ho with rfl | ⟨v, rfl⟩
            · rw [m174_215, j5, h171]
              simp (disch := omega) only [rt_c, b_some, List.cons_append, List.nil_append, Bool.cond_not, cond_true, cond_false, Bool.cond_decide, nI_add, nI_clamp, xin_n, dle_e, dlt_e, deq_e, xb_0, xb_1, decide_true, decide_false, Bool.not_true, Bool.not_false, Bool.and_true, Bool.true_and, Bool.and_false, Bool.false_and, Bool.true_or, Bool.false_or, Bool.or_true, Bool.or_false, if_true, if_false, up1_s, n_31, Int32.lt_irrefl, m174_223, h173k, m174_226, j5, hbp.2, h173, m174_263, j6, hs, n3, n7]
              rw [hL] at hq2
              rw [if_neg hq2]
              exact x1
            · rw [m174_215_1, j5, h171]
              simp (disch := omega) only [rt_c, b_some, List.cons_append, List.nil_append, Bool.cond_not, cond_true, cond_false, Bool.cond_decide, nI_add, nI_clamp, xin_n, dle_e, dlt_e, deq_e, xb_0, xb_1, decide_true, decide_false, Bool.not_true, Bool.not_false, Bool.and_true, Bool.true_and, Bool.and_false, Bool.false_and, Bool.true_or, Bool.false_or, Bool.or_true, Bool.or_false, if_true, if_false, up1_s, n_31, Int32.lt_irrefl, m174_223_1, h173k, m174_226_1, j5, hbp.2, h173, m174_263, j6, hs, n3, n7]
              rw [hL] at hq2
              rw [if_neg hq2]
              exact x1
        | false =>
          obtain ⟨g2, J2, w2, x1, x2, x4, x3⟩ := ih (i + 1) false (up1 (up1 J 5 (nI (r + i + 1))) 8 (nI 10 * J 8 + nI (b (r + i)) - nI 48)) (((nI 27).toInt64 * w + (nI (b (r + i))).toInt64 - (nI 96).toInt64)) (some (.int (nI (b (r + i))))) (Or.inr ⟨_, rfl⟩) (by omega) (by rw [up1_n (by decide), up1_n (by decide)]; exact j3) (by rw [up1_n (by decide), up1_s]; rfl) (by rw [up1_n (by decide), up1_n (by decide)]; exact j6) ⟨hgood false ⟨fun h => (by cases h), fun h => (by cases h.1)⟩, hw1, fun h1 h2 => by rw [up1_s]; exact hn1 h1 h2⟩
          rw [xb_f] at x1
          refine ⟨g2, J2, w2, ?_, x2, x4, fun k k1 k2 => by rw [x3 k k1 k2, up1_n k2, up1_n k1]⟩
          rcases ho with rfl | ⟨v, rfl⟩
          · rw [m174_215, j5, h171]
            simp (disch := omega) only [rt_c, b_some, List.cons_append, List.nil_append, Bool.cond_not, cond_true, cond_false, Bool.cond_decide, nI_add, nI_clamp, xin_n, dle_e, dlt_e, deq_e, xb_0, xb_1, decide_true, decide_false, Bool.not_true, Bool.not_false, Bool.and_true, Bool.true_and, Bool.and_false, Bool.false_and, Bool.true_or, Bool.false_or, Bool.or_true, Bool.or_false, if_true, if_false, up1_s, n_31, Int32.lt_irrefl, m174_223, h173k, m174_226, j5, hbp.2, j6, hs, n3, n7]
            exact x1
          · rw [m174_215_1, j5, h171]
            simp (disch := omega) only [rt_c, b_some, List.cons_append, List.nil_append, Bool.cond_not, cond_true, cond_false, Bool.cond_decide, nI_add, nI_clamp, xin_n, dle_e, dlt_e, deq_e, xb_0, xb_1, decide_true, decide_false, Bool.not_true, Bool.not_false, Bool.and_true, Bool.true_and, Bool.and_false, Bool.false_and, Bool.true_or, Bool.false_or, Bool.or_true, Bool.or_false, if_true, if_false, up1_s, n_31, Int32.lt_irrefl, m174_223_1, h173k, m174_226_1, j5, hbp.2, j6, hs, n3, n7]
            exact x1
      · have n3 : 3 ≤ i := by omega
        have n7 : ¬ 7 ≤ i := by omega
        cases good with
        | true =>
          cases hlf : (decide (x_b (isLt (b (r + i))) = x_b lf)) with
          | true =>
            have hq2 : x_b (isLt (b (r + i))) = x_b lf := of_decide_eq_true hlf
            have hq1 : isLt (b (r + i)) = lf := by cases h1 : isLt (b (r + i)) <;> cases lf <;> first | rfl | (rw [h1] at hq2; exact absurd hq2 (by decide))
            obtain ⟨g2, J2, w2, x1, x2, x4, x3⟩ := ih (i + 1) true (up1 J 5 (nI (r + i + 1))) (((nI 27).toInt64 * w + (nI (b (r + i))).toInt64 - (nI 96).toInt64)) (some (.int (nI (b (r + i))))) (Or.inr ⟨_, rfl⟩) (by omega) (by rw [up1_n (by decide)]; exact j3) (up1_s) (by rw [up1_n (by decide)]; exact j6) ⟨hgood true ⟨fun _ => ⟨rfl, hq1⟩, fun _ => rfl⟩, hw1, fun _ h => by omega⟩
            rw [xb_t] at x1
            refine ⟨g2, J2, w2, ?_, x2, x4, fun k k1 k2 => by rw [x3 k k1 k2, up1_n k1]⟩
            rcases ho with rfl | ⟨v, rfl⟩
            · rw [m174_215, j5, h171]
              simp (disch := omega) only [rt_c, b_some, List.cons_append, List.nil_append, Bool.cond_not, cond_true, cond_false, Bool.cond_decide, nI_add, nI_clamp, xin_n, dle_e, dlt_e, deq_e, xb_0, xb_1, decide_true, decide_false, Bool.not_true, Bool.not_false, Bool.and_true, Bool.true_and, Bool.and_false, Bool.false_and, Bool.true_or, Bool.false_or, Bool.or_true, Bool.or_false, if_true, if_false, up1_s, n_31, Int32.lt_irrefl, m174_223, h173k, m174_226, j5, hbp.2, h173, m174_263, j6, hs, n3, n7]
              rw [hL] at hq2
              rw [if_pos hq2]
              exact x1
            · rw [m174_215_1, j5, h171]
              simp (disch := omega) only [rt_c, b_some, List.cons_append, List.nil_append, Bool.cond_not, cond_true, cond_false, Bool.cond_decide, nI_add, nI_clamp, xin_n, dle_e, dlt_e, deq_e, xb_0, xb_1, decide_true, decide_false, Bool.not_true, Bool.not_false, Bool.and_true, Bool.true_and, Bool.and_false, Bool.false_and, Bool.true_or, Bool.false_or, Bool.or_true, Bool.or_false, if_true, if_false, up1_s, n_31, Int32.lt_irrefl, m174_223_1, h173k, m174_226_1, j5, hbp.2, h173, m174_263, j6, hs, n3, n7]
              rw [hL] at hq2
              rw [if_pos hq2]
              exact x1
          | false =>
            have hq2 : ¬ x_b (isLt (b (r + i))) = x_b lf := of_decide_eq_false hlf
            have hq1 : ¬ isLt (b (r + i)) = lf := fun h => hq2 (by rw [h])
            obtain ⟨g2, J2, w2, x1, x2, x4, x3⟩ := ih (i + 1) false (up1 J 5 (nI (r + i + 1))) (((nI 27).toInt64 * w + (nI (b (r + i))).toInt64 - (nI 96).toInt64)) (some (.int (nI (b (r + i))))) (Or.inr ⟨_, rfl⟩) (by omega) (by rw [up1_n (by decide)]; exact j3) (up1_s) (by rw [up1_n (by decide)]; exact j6) ⟨hgood false ⟨fun h => (by cases h), fun h => absurd h.2 hq1⟩, hw1, fun _ h => by omega⟩
            rw [xb_f] at x1
            refine ⟨g2, J2, w2, ?_, x2, x4, fun k k1 k2 => by rw [x3 k k1 k2, up1_n k1]⟩
            rcases ho with rfl | ⟨v, rfl⟩
            · rw [m174_215, j5, h171]
              simp (disch := omega) only [rt_c, b_some, List.cons_append, List.nil_append, Bool.cond_not, cond_true, cond_false, Bool.cond_decide, nI_add, nI_clamp, xin_n, dle_e, dlt_e, deq_e, xb_0, xb_1, decide_true, decide_false, Bool.not_true, Bool.not_false, Bool.and_true, Bool.true_and, Bool.and_false, Bool.false_and, Bool.true_or, Bool.false_or, Bool.or_true, Bool.or_false, if_true, if_false, up1_s, n_31, Int32.lt_irrefl, m174_223, h173k, m174_226, j5, hbp.2, h173, m174_263, j6, hs, n3, n7]
              rw [hL] at hq2
              rw [if_neg hq2]
              exact x1
            · rw [m174_215_1, j5, h171]
              simp (disch := omega) only [rt_c, b_some, List.cons_append, List.nil_append, Bool.cond_not, cond_true, cond_false, Bool.cond_decide, nI_add, nI_clamp, xin_n, dle_e, dlt_e, deq_e, xb_0, xb_1, decide_true, decide_false, Bool.not_true, Bool.not_false, Bool.and_true, Bool.true_and, Bool.and_false, Bool.false_and, Bool.true_or, Bool.false_or, Bool.or_true, Bool.or_false, if_true, if_false, up1_s, n_31, Int32.lt_irrefl, m174_223_1, h173k, m174_226_1, j5, hbp.2, h173, m174_263, j6, hs, n3, n7]
              rw [hL] at hq2
              rw [if_neg hq2]
              exact x1
        | false =>
          obtain ⟨g2, J2, w2, x1, x2, x4, x3⟩ := ih (i + 1) false (up1 J 5 (nI (r + i + 1))) (((nI 27).toInt64 * w + (nI (b (r + i))).toInt64 - (nI 96).toInt64)) (some (.int (nI (b (r + i))))) (Or.inr ⟨_, rfl⟩) (by omega) (by rw [up1_n (by decide)]; exact j3) (up1_s) (by rw [up1_n (by decide)]; exact j6) ⟨hgood false ⟨fun h => (by cases h), fun h => (by cases h.1)⟩, hw1, fun _ h => by omega⟩
          rw [xb_f] at x1
          refine ⟨g2, J2, w2, ?_, x2, x4, fun k k1 k2 => by rw [x3 k k1 k2, up1_n k1]⟩
          rcases ho with rfl | ⟨v, rfl⟩
          · rw [m174_215, j5, h171]
            simp (disch := omega) only [rt_c, b_some, List.cons_append, List.nil_append, Bool.cond_not, cond_true, cond_false, Bool.cond_decide, nI_add, nI_clamp, xin_n, dle_e, dlt_e, deq_e, xb_0, xb_1, decide_true, decide_false, Bool.not_true, Bool.not_false, Bool.and_true, Bool.true_and, Bool.and_false, Bool.false_and, Bool.true_or, Bool.false_or, Bool.or_true, Bool.or_false, if_true, if_false, up1_s, n_31, Int32.lt_irrefl, m174_223, h173k, m174_226, j5, hbp.2, j6, hs, n3, n7]
            exact x1
          · rw [m174_215_1, j5, h171]
            simp (disch := omega) only [rt_c, b_some, List.cons_append, List.nil_append, Bool.cond_not, cond_true, cond_false, Bool.cond_decide, nI_add, nI_clamp, xin_n, dle_e, dlt_e, deq_e, xb_0, xb_1, decide_true, decide_false, Bool.not_true, Bool.not_false, Bool.and_true, Bool.true_and, Bool.and_false, Bool.false_and, Bool.true_or, Bool.false_or, Bool.or_true, Bool.or_false, if_true, if_false, up1_s, n_31, Int32.lt_irrefl, m174_223_1, h173k, m174_226_1, j5, hbp.2, j6, hs, n3, n7]
            exact x1
      · have n3 : 3 ≤ i := by omega
        have n7 : 7 ≤ i := by omega
        cases good with
        | true =>
          cases hlf : (decide (x_b (isLt (b (r + i))) = x_b lf)) with
          | true =>
            have hq2 : x_b (isLt (b (r + i))) = x_b lf := of_decide_eq_true hlf
            have hq1 : isLt (b (r + i)) = lf := by cases h1 : isLt (b (r + i)) <;> cases lf <;> first | rfl | (rw [h1] at hq2; exact absurd hq2 (by decide))
            obtain ⟨g2, J2, w2, x1, x2, x4, x3⟩ := ih (i + 1) true (up1 J 5 (nI (r + i + 1))) (w) (some (.int (nI (b (r + i))))) (Or.inr ⟨_, rfl⟩) (by omega) (by rw [up1_n (by decide)]; exact j3) (up1_s) (by rw [up1_n (by decide)]; exact j6) ⟨hgood true ⟨fun _ => ⟨rfl, hq1⟩, fun _ => rfl⟩, fun _ h => by omega, fun _ h => by omega⟩
            rw [xb_t] at x1
            refine ⟨g2, J2, w2, ?_, x2, x4, fun k k1 k2 => by rw [x3 k k1 k2, up1_n k1]⟩
            rcases ho with rfl | ⟨v, rfl⟩
            · rw [m174_215, j5, h171]
              simp (disch := omega) only [rt_c, b_some, List.cons_append, List.nil_append, Bool.cond_not, cond_true, cond_false, Bool.cond_decide, nI_add, nI_clamp, xin_n, dle_e, dlt_e, deq_e, xb_0, xb_1, decide_true, decide_false, Bool.not_true, Bool.not_false, Bool.and_true, Bool.true_and, Bool.and_false, Bool.false_and, Bool.true_or, Bool.false_or, Bool.or_true, Bool.or_false, if_true, if_false, up1_s, n_31, Int32.lt_irrefl, m174_223, h173k, m174_226, j5, hbp.2, h173, m174_263, j6, hs, n3, n7]
              rw [hL] at hq2
              rw [if_pos hq2]
              exact x1
            · rw [m174_215_1, j5, h171]
              simp (disch := omega) only [rt_c, b_some, List.cons_append, List.nil_append, Bool.cond_not, cond_true, cond_false, Bool.cond_decide, nI_add, nI_clamp, xin_n, dle_e, dlt_e, deq_e, xb_0, xb_1, decide_true, decide_false, Bool.not_true, Bool.not_false, Bool.and_true, Bool.true_and, Bool.and_false, Bool.false_and, Bool.true_or, Bool.false_or, Bool.or_true, Bool.or_false, if_true, if_false, up1_s, n_31, Int32.lt_irrefl, m174_223_1, h173k, m174_226_1, j5, hbp.2, h173, m174_263, j6, hs, n3, n7]
              rw [hL] at hq2
              rw [if_pos hq2]
              exact x1
          | false =>
            have hq2 : ¬ x_b (isLt (b (r + i))) = x_b lf := of_decide_eq_false hlf
            have hq1 : ¬ isLt (b (r + i)) = lf := fun h => hq2 (by rw [h])
            obtain ⟨g2, J2, w2, x1, x2, x4, x3⟩ := ih (i + 1) false (up1 J 5 (nI (r + i + 1))) (w) (some (.int (nI (b (r + i))))) (Or.inr ⟨_, rfl⟩) (by omega) (by rw [up1_n (by decide)]; exact j3) (up1_s) (by rw [up1_n (by decide)]; exact j6) ⟨hgood false ⟨fun h => (by cases h), fun h => absurd h.2 hq1⟩, fun _ h => by omega, fun _ h => by omega⟩
            rw [xb_f] at x1
            refine ⟨g2, J2, w2, ?_, x2, x4, fun k k1 k2 => by rw [x3 k k1 k2, up1_n k1]⟩
            rcases ho with rfl | ⟨v, rfl⟩
            · rw [m174_215, j5, h171]
              simp (disch := omega) only [rt_c, b_some, List.cons_append, List.nil_append, Bool.cond_not, cond_true, cond_false, Bool.cond_decide, nI_add, nI_clamp, xin_n, dle_e, dlt_e, deq_e, xb_0, xb_1, decide_true, decide_false, Bool.not_true, Bool.not_false, Bool.and_true, Bool.true_and, Bool.and_false, Bool.false_and, Bool.true_or, Bool.false_or, Bool.or_true, Bool.or_false, if_true, if_false, up1_s, n_31, Int32.lt_irrefl, m174_223, h173k, m174_226, j5, hbp.2, h173, m174_263, j6, hs, n3, n7]
              rw [hL] at hq2
              rw [if_neg hq2]
              exact x1
            · rw [m174_215_1, j5, h171]
              simp (disch := omega) only [rt_c, b_some, List.cons_append, List.nil_append, Bool.cond_not, cond_true, cond_false, Bool.cond_decide, nI_add, nI_clamp, xin_n, dle_e, dlt_e, deq_e, xb_0, xb_1, decide_true, decide_false, Bool.not_true, Bool.not_false, Bool.and_true, Bool.true_and, Bool.and_false, Bool.false_and, Bool.true_or, Bool.false_or, Bool.or_true, Bool.or_false, if_true, if_false, up1_s, n_31, Int32.lt_irrefl, m174_223_1, h173k, m174_226_1, j5, hbp.2, h173, m174_263, j6, hs, n3, n7]
              rw [hL] at hq2
              rw [if_neg hq2]
              exact x1
        | false =>
          obtain ⟨g2, J2, w2, x1, x2, x4, x3⟩ := ih (i + 1) false (up1 J 5 (nI (r + i + 1))) (w) (some (.int (nI (b (r + i))))) (Or.inr ⟨_, rfl⟩) (by omega) (by rw [up1_n (by decide)]; exact j3) (up1_s) (by rw [up1_n (by decide)]; exact j6) ⟨hgood false ⟨fun h => (by cases h), fun h => (by cases h.1)⟩, fun _ h => by omega, fun _ h => by omega⟩
          rw [xb_f] at x1
          refine ⟨g2, J2, w2, ?_, x2, x4, fun k k1 k2 => by rw [x3 k k1 k2, up1_n k1]⟩
          rcases ho with rfl | ⟨v, rfl⟩
          · rw [m174_215, j5, h171]
            simp (disch := omega) only [rt_c, b_some, List.cons_append, List.nil_append, Bool.cond_not, cond_true, cond_false, Bool.cond_decide, nI_add, nI_clamp, xin_n, dle_e, dlt_e, deq_e, xb_0, xb_1, decide_true, decide_false, Bool.not_true, Bool.not_false, Bool.and_true, Bool.true_and, Bool.and_false, Bool.false_and, Bool.true_or, Bool.false_or, Bool.or_true, Bool.or_false, if_true, if_false, up1_s, n_31, Int32.lt_irrefl, m174_223, h173k, m174_226, j5, hbp.2, j6, hs, n3, n7]
            exact x1
          · rw [m174_215_1, j5, h171]
            simp (disch := omega) only [rt_c, b_some, List.cons_append, List.nil_append, Bool.cond_not, cond_true, cond_false, Bool.cond_decide, nI_add, nI_clamp, xin_n, dle_e, dlt_e, deq_e, xb_0, xb_1, decide_true, decide_false, Bool.not_true, Bool.not_false, Bool.and_true, Bool.true_and, Bool.and_false, Bool.false_and, Bool.true_or, Bool.false_or, Bool.or_true, Bool.or_false, if_true, if_false, up1_s, n_31, Int32.lt_irrefl, m174_223_1, h173k, m174_226_1, j5, hbp.2, j6, hs, n3, n7]
            exact x1
    · have h173k := h173
      rw [DL hD] at h173k
      have h172k := h172
      rw [hD] at h172k
      rcases (show i < 3 ∨ (3 ≤ i ∧ i < 7) ∨ 7 ≤ i by omega) with hr | hr | hr
      · have n3 : ¬ 3 ≤ i := by omega
        have n7 : ¬ 7 ≤ i := by omega
        cases good with
        | true =>
          cases hlf : (decide (x_b (isLt (b (r + i))) = x_b lf)) with
          | true =>
            have hq2 : x_b (isLt (b (r + i))) = x_b lf := of_decide_eq_true hlf
            have hq1 : isLt (b (r + i)) = lf := by cases h1 : isLt (b (r + i)) <;> cases lf <;> first | rfl | (rw [h1] at hq2; exact absurd hq2 (by decide))
            obtain ⟨g2, J2, w2, x1, x2, x4, x3⟩ := ih (i + 1) true (up1 (up1 J 5 (nI (r + i + 1))) 8 (nI 10 * J 8 + nI (b (r + i)) - nI 48)) (((nI 27).toInt64 * w + (nI (b (r + i))).toInt64 - (nI 96).toInt64)) (some (.int (nI (b (r + i))))) (Or.inr ⟨_, rfl⟩) (by omega) (by rw [up1_n (by decide), up1_n (by decide)]; exact j3) (by rw [up1_n (by decide), up1_s]; rfl) (by rw [up1_n (by decide), up1_n (by decide)]; exact j6) ⟨hgood true ⟨fun _ => ⟨rfl, hq1⟩, fun _ => rfl⟩, hw1, fun h1 h2 => by rw [up1_s]; exact hn1 h1 h2⟩
            rw [xb_t] at x1
            refine ⟨g2, J2, w2, ?_, x2, x4, fun k k1 k2 => by rw [x3 k k1 k2, up1_n k2, up1_n k1]⟩
            rcases ho with rfl | ⟨v, rfl⟩
            · rw [m174_215, j5, h171]
              simp (disch := omega) only [rt_c, b_some, List.cons_append, List.nil_append, Bool.cond_not, cond_true, cond_false, Bool.cond_decide, nI_add, nI_clamp, xin_n, dle_e, dlt_e, deq_e, xb_0, xb_1, decide_true, decide_false, Bool.not_true, Bool.not_false, Bool.and_true, Bool.true_and, Bool.and_false, Bool.false_and, Bool.true_or, Bool.false_or, Bool.or_true, Bool.or_false, if_true, if_false, up1_s, n_31, Int32.lt_irrefl, m174_223, h173k, m174_226, j5, h171, m174_237, h172k, m174_240, hbp.2, h173, m174_263, j6, hs, n3, n7]
              rw [DL hD] at hq2
              rw [if_pos hq2]
              exact x1
            · rw [m174_215_1, j5, h171]
              simp (disch := omega) only [rt_c, b_some, List.cons_append, List.nil_append, Bool.cond_not, cond_true, cond_false, Bool.cond_decide, nI_add, nI_clamp, xin_n, dle_e, dlt_e, deq_e, xb_0, xb_1, decide_true, decide_false, Bool.not_true, Bool.not_false, Bool.and_true, Bool.true_and, Bool.and_false, Bool.false_and, Bool.true_or, Bool.false_or, Bool.or_true, Bool.or_false, if_true, if_false, up1_s, n_31, Int32.lt_irrefl, m174_223_1, h173k, m174_226_1, j5, h171, m174_237_1, h172k, m174_240_1, hbp.2, h173, m174_263, j6, hs, n3, n7]
              rw [DL hD] at hq2
              rw [if_pos hq2]
              exact x1
          | false =>
            have hq2 : ¬ x_b (isLt (b (r + i))) = x_b lf := of_decide_eq_false hlf
            have hq1 : ¬ isLt (b (r + i)) = lf := fun h => hq2 (by rw [h])
            obtain ⟨g2, J2, w2, x1, x2, x4, x3⟩ := ih (i + 1) false (up1 (up1 J 5 (nI (r + i + 1))) 8 (nI 10 * J 8 + nI (b (r + i)) - nI 48)) (((nI 27).toInt64 * w + (nI (b (r + i))).toInt64 - (nI 96).toInt64)) (some (.int (nI (b (r + i))))) (Or.inr ⟨_, rfl⟩) (by omega) (by rw [up1_n (by decide), up1_n (by decide)]; exact j3) (by rw [up1_n (by decide), up1_s]; rfl) (by rw [up1_n (by decide), up1_n (by decide)]; exact j6) ⟨hgood false ⟨fun h => (by cases h), fun h => absurd h.2 hq1⟩, hw1, fun h1 h2 => by rw [up1_s]; exact hn1 h1 h2⟩
            rw [xb_f] at x1
            refine ⟨g2, J2, w2, ?_, x2, x4, fun k k1 k2 => by rw [x3 k k1 k2, up1_n k2, up1_n k1]⟩
            rcases ho with rfl | ⟨v, rfl⟩
            · rw [m174_215, j5, h171]
              simp (disch := omega) only [rt_c, b_some, List.cons_append, List.nil_append, Bool.cond_not, cond_true, cond_false, Bool.cond_decide, nI_add, nI_clamp, xin_n, dle_e, dlt_e, deq_e, xb_0, xb_1, decide_true, decide_false, Bool.not_true, Bool.not_false, Bool.and_true, Bool.true_and, Bool.and_false, Bool.false_and, Bool.true_or, Bool.false_or, Bool.or_true, Bool.or_false, if_true, if_false, up1_s, n_31, Int32.lt_irrefl, m174_223, h173k, m174_226, j5, h171, m174_237, h172k, m174_240, hbp.2, h173, m174_263, j6, hs, n3, n7]
              rw [DL hD] at hq2
              rw [if_neg hq2]
              exact x1
            · rw [m174_215_1, j5, h171]
              simp (disch := omega) only [rt_c, b_some, List.cons_append, List.nil_append, Bool.cond_not, cond_true, cond_false, Bool.cond_decide, nI_add, nI_clamp, xin_n, dle_e, dlt_e, deq_e, xb_0, xb_1, decide_true, decide_false, Bool.not_true, Bool.not_false, Bool.and_true, Bool.true_and, Bool.and_false, Bool.false_and, Bool.true_or, Bool.false_or, Bool.or_true, Bool.or_false, if_true, if_false, up1_s, n_31, Int32.lt_irrefl, m174_223_1, h173k, m174_226_1, j5, h171, m174_237_1, h172k, m174_240_1, hbp.2, h173, m174_263, j6, hs, n3, n7]
              rw [DL hD] at hq2
              rw [if_neg hq2]
              exact x1
        | false =>
          obtain ⟨g2, J2, w2, x1, x2, x4, x3⟩ := ih (i + 1) false (up1 (up1 J 5 (nI (r + i + 1))) 8 (nI 10 * J 8 + nI (b (r + i)) - nI 48)) (((nI 27).toInt64 * w + (nI (b (r + i))).toInt64 - (nI 96).toInt64)) (some (.int (nI (b (r + i))))) (Or.inr ⟨_, rfl⟩) (by omega) (by rw [up1_n (by decide), up1_n (by decide)]; exact j3) (by rw [up1_n (by decide), up1_s]; rfl) (by rw [up1_n (by decide), up1_n (by decide)]; exact j6) ⟨hgood false ⟨fun h => (by cases h), fun h => (by cases h.1)⟩, hw1, fun h1 h2 => by rw [up1_s]; exact hn1 h1 h2⟩
          rw [xb_f] at x1
          refine ⟨g2, J2, w2, ?_, x2, x4, fun k k1 k2 => by rw [x3 k k1 k2, up1_n k2, up1_n k1]⟩
          rcases ho with rfl | ⟨v, rfl⟩
          · rw [m174_215, j5, h171]
            simp (disch := omega) only [rt_c, b_some, List.cons_append, List.nil_append, Bool.cond_not, cond_true, cond_false, Bool.cond_decide, nI_add, nI_clamp, xin_n, dle_e, dlt_e, deq_e, xb_0, xb_1, decide_true, decide_false, Bool.not_true, Bool.not_false, Bool.and_true, Bool.true_and, Bool.and_false, Bool.false_and, Bool.true_or, Bool.false_or, Bool.or_true, Bool.or_false, if_true, if_false, up1_s, n_31, Int32.lt_irrefl, m174_223, h173k, m174_226, j5, h171, m174_237, h172k, m174_240, hbp.2, j6, hs, n3, n7]
            exact x1
          · rw [m174_215_1, j5, h171]
            simp (disch := omega) only [rt_c, b_some, List.cons_append, List.nil_append, Bool.cond_not, cond_true, cond_false, Bool.cond_decide, nI_add, nI_clamp, xin_n, dle_e, dlt_e, deq_e, xb_0, xb_1, decide_true, decide_false, Bool.not_true, Bool.not_false, Bool.and_true, Bool.true_and, Bool.and_false, Bool.false_and, Bool.true_or, Bool.false_or, Bool.or_true, Bool.or_false, if_true, if_false, up1_s, n_31, Int32.lt_irrefl, m174_223_1, h173k, m174_226_1, j5, h171, m174_237_1, h172k, m174_240_1, hbp.2, j6, hs, n3, n7]
            exact x1
      · have n3 : 3 ≤ i := by omega
        have n7 : ¬ 7 ≤ i := by omega
        cases good with
        | true =>
          cases hlf : (decide (x_b (isLt (b (r + i))) = x_b lf)) with
          | true =>
            have hq2 : x_b (isLt (b (r + i))) = x_b lf := of_decide_eq_true hlf
            have hq1 : isLt (b (r + i)) = lf := by cases h1 : isLt (b (r + i)) <;> cases lf <;> first | rfl | (rw [h1] at hq2; exact absurd hq2 (by decide))
            obtain ⟨g2, J2, w2, x1, x2, x4, x3⟩ := ih (i + 1) true (up1 J 5 (nI (r + i + 1))) (((nI 27).toInt64 * w + (nI (b (r + i))).toInt64 - (nI 96).toInt64)) (some (.int (nI (b (r + i))))) (Or.inr ⟨_, rfl⟩) (by omega) (by rw [up1_n (by decide)]; exact j3) (up1_s) (by rw [up1_n (by decide)]; exact j6) ⟨hgood true ⟨fun _ => ⟨rfl, hq1⟩, fun _ => rfl⟩, hw1, fun _ h => by omega⟩
            rw [xb_t] at x1
            refine ⟨g2, J2, w2, ?_, x2, x4, fun k k1 k2 => by rw [x3 k k1 k2, up1_n k1]⟩
            rcases ho with rfl | ⟨v, rfl⟩
            · rw [m174_215, j5, h171]
              simp (disch := omega) only [rt_c, b_some, List.cons_append, List.nil_append, Bool.cond_not, cond_true, cond_false, Bool.cond_decide, nI_add, nI_clamp, xin_n, dle_e, dlt_e, deq_e, xb_0, xb_1, decide_true, decide_false, Bool.not_true, Bool.not_false, Bool.and_true, Bool.true_and, Bool.and_false, Bool.false_and, Bool.true_or, Bool.false_or, Bool.or_true, Bool.or_false, if_true, if_false, up1_s, n_31, Int32.lt_irrefl, m174_223, h173k, m174_226, j5, h171, m174_237, h172k, m174_240, hbp.2, h173, m174_263, j6, hs, n3, n7]
              rw [DL hD] at hq2
              rw [if_pos hq2]
              exact x1
            · rw [m174_215_1, j5, h171]
              simp (disch := omega) only [rt_c, b_some, List.cons_append, List.nil_append, Bool.cond_not, cond_true, cond_false, Bool.cond_decide, nI_add, nI_clamp, xin_n, dle_e, dlt_e, deq_e, xb_0, xb_1, decide_true, decide_false, Bool.not_true, Bool.not_false, Bool.and_true, Bool.true_and, Bool.and_false, Bool.false_and, Bool.true_or, Bool.false_or, Bool.or_true, Bool.or_false, if_true, if_false, up1_s, n_31, Int32.lt_irrefl, m174_223_1, h173k, m174_226_1, j5, h171, m174_237_1, h172k, m174_240_1, hbp.2, h173, m174_263, j6, hs, n3, n7]
              rw [DL hD] at hq2
              rw [if_pos hq2]
              exact x1
          | false =>
            have hq2 : ¬ x_b (isLt (b (r + i))) = x_b lf := of_decide_eq_false hlf
            have hq1 : ¬ isLt (b (r + i)) = lf := fun h => hq2 (by rw [h])
            obtain ⟨g2, J2, w2, x1, x2, x4, x3⟩ := ih (i + 1) false (up1 J 5 (nI (r + i + 1))) (((nI 27).toInt64 * w + (nI (b (r + i))).toInt64 - (nI 96).toInt64)) (some (.int (nI (b (r + i))))) (Or.inr ⟨_, rfl⟩) (by omega) (by rw [up1_n (by decide)]; exact j3) (up1_s) (by rw [up1_n (by decide)]; exact j6) ⟨hgood false ⟨fun h => (by cases h), fun h => absurd h.2 hq1⟩, hw1, fun _ h => by omega⟩
            rw [xb_f] at x1
            refine ⟨g2, J2, w2, ?_, x2, x4, fun k k1 k2 => by rw [x3 k k1 k2, up1_n k1]⟩
            rcases ho with rfl | ⟨v, rfl⟩
            · rw [m174_215, j5, h171]
              simp (disch := omega) only [rt_c, b_some, List.cons_append, List.nil_append, Bool.cond_not, cond_true, cond_false, Bool.cond_decide, nI_add, nI_clamp, xin_n, dle_e, dlt_e, deq_e, xb_0, xb_1, decide_true, decide_false, Bool.not_true, Bool.not_false, Bool.and_true, Bool.true_and, Bool.and_false, Bool.false_and, Bool.true_or, Bool.false_or, Bool.or_true, Bool.or_false, if_true, if_false, up1_s, n_31, Int32.lt_irrefl, m174_223, h173k, m174_226, j5, h171, m174_237, h172k, m174_240, hbp.2, h173, m174_263, j6, hs, n3, n7]
              rw [DL hD] at hq2
              rw [if_neg hq2]
              exact x1
            · rw [m174_215_1, j5, h171]
              simp (disch := omega) only [rt_c, b_some, List.cons_append, List.nil_append, Bool.cond_not, cond_true, cond_false, Bool.cond_decide, nI_add, nI_clamp, xin_n, dle_e, dlt_e, deq_e, xb_0, xb_1, decide_true, decide_false, Bool.not_true, Bool.not_false, Bool.and_true, Bool.true_and, Bool.and_false, Bool.false_and, Bool.true_or, Bool.false_or, Bool.or_true, Bool.or_false, if_true, if_false, up1_s, n_31, Int32.lt_irrefl, m174_223_1, h173k, m174_226_1, j5, h171, m174_237_1, h172k, m174_240_1, hbp.2, h173, m174_263, j6, hs, n3, n7]
              rw [DL hD] at hq2
              rw [if_neg hq2]
              exact x1
        | false =>
          obtain ⟨g2, J2, w2, x1, x2, x4, x3⟩ := ih (i + 1) false (up1 J 5 (nI (r + i + 1))) (((nI 27).toInt64 * w + (nI (b (r + i))).toInt64 - (nI 96).toInt64)) (some (.int (nI (b (r + i))))) (Or.inr ⟨_, rfl⟩) (by omega) (by rw [up1_n (by decide)]; exact j3) (up1_s) (by rw [up1_n (by decide)]; exact j6) ⟨hgood false ⟨fun h => (by cases h), fun h => (by cases h.1)⟩, hw1, fun _ h => by omega⟩
          rw [xb_f] at x1
          refine ⟨g2, J2, w2, ?_, x2, x4, fun k k1 k2 => by rw [x3 k k1 k2, up1_n k1]⟩
          rcases ho with rfl | ⟨v, rfl⟩
          · rw [m174_215, j5, h171]
            simp (disch := omega) only [rt_c, b_some, List.cons_append, List.nil_append, Bool.cond_not, cond_true, cond_false, Bool.cond_decide, nI_add, nI_clamp, xin_n, dle_e, dlt_e, deq_e, xb_0, xb_1, decide_true, decide_false, Bool.not_true, Bool.not_false, Bool.and_true, Bool.true_and, Bool.and_false, Bool.false_and, Bool.true_or, Bool.false_or, Bool.or_true, Bool.or_false, if_true, if_false, up1_s, n_31, Int32.lt_irrefl, m174_223, h173k, m174_226, j5, h171, m174_237, h172k, m174_240, hbp.2, j6, hs, n3, n7]
            exact x1
          · rw [m174_215_1, j5, h171]
            simp (disch := omega) only [rt_c, b_some, List.cons_append, List.nil_append, Bool.cond_not, cond_true, cond_false, Bool.cond_decide, nI_add, nI_clamp, xin_n, dle_e, dlt_e, deq_e, xb_0, xb_1, decide_true, decide_false, Bool.not_true, Bool.not_false, Bool.and_true, Bool.true_and, Bool.and_false, Bool.false_and, Bool.true_or, Bool.false_or, Bool.or_true, Bool.or_false, if_true, if_false, up1_s, n_31, Int32.lt_irrefl, m174_223_1, h173k, m174_226_1, j5, h171, m174_237_1, h172k, m174_240_1, hbp.2, j6, hs, n3, n7]
            exact x1
      · have n3 : 3 ≤ i := by omega
        have n7 : 7 ≤ i := by omega
        cases good with
        | true =>
          cases hlf : (decide (x_b (isLt (b (r + i))) = x_b lf)) with
          | true =>
            have hq2 : x_b (isLt (b (r + i))) = x_b lf := of_decide_eq_true hlf
            have hq1 : isLt (b (r + i)) = lf := by cases h1 : isLt (b (r + i)) <;> cases lf <;> first | rfl | (rw [h1] at hq2; exact absurd hq2 (by decide))
            obtain ⟨g2, J2, w2, x1, x2, x4, x3⟩ := ih (i + 1) true (up1 J 5 (nI (r + i + 1))) (w) (some (.int (nI (b (r + i))))) (Or.inr ⟨_, rfl⟩) (by omega) (by rw [up1_n (by decide)]; exact j3) (up1_s) (by rw [up1_n (by decide)]; exact j6) ⟨hgood true ⟨fun _ => ⟨rfl, hq1⟩, fun _ => rfl⟩, fun _ h => by omega, fun _ h => by omega⟩
            rw [xb_t] at x1
            refine ⟨g2, J2, w2, ?_, x2, x4, fun k k1 k2 => by rw [x3 k k1 k2, up1_n k1]⟩
            rcases ho with rfl | ⟨v, rfl⟩
            · rw [m174_215, j5, h171]
              simp (disch := omega) only [rt_c, b_some, List.cons_append, List.nil_append, Bool.cond_not, cond_true, cond_false, Bool.cond_decide, nI_add, nI_clamp, xin_n, dle_e, dlt_e, deq_e, xb_0, xb_1, decide_true, decide_false, Bool.not_true, Bool.not_false, Bool.and_true, Bool.true_and, Bool.and_false, Bool.false_and, Bool.true_or, Bool.false_or, Bool.or_true, Bool.or_false, if_true, if_false, up1_s, n_31, Int32.lt_irrefl, m174_223, h173k, m174_226, j5, h171, m174_237, h172k, m174_240, hbp.2, h173, m174_263, j6, hs, n3, n7]
              rw [DL hD] at hq2
              rw [if_pos hq2]
              exact x1
            · rw [m174_215_1, j5, h171]
              simp (disch := omega) only [rt_c, b_some, List.cons_append, List.nil_append, Bool.cond_not, cond_true, cond_false, Bool.cond_decide, nI_add, nI_clamp, xin_n, dle_e, dlt_e, deq_e, xb_0, xb_1, decide_true, decide_false, Bool.not_true, Bool.not_false, Bool.and_true, Bool.true_and, Bool.and_false, Bool.false_and, Bool.true_or, Bool.false_or, Bool.or_true, Bool.or_false, if_true, if_false, up1_s, n_31, Int32.lt_irrefl, m174_223_1, h173k, m174_226_1, j5, h171, m174_237_1, h172k, m174_240_1, hbp.2, h173, m174_263, j6, hs, n3, n7]
              rw [DL hD] at hq2
              rw [if_pos hq2]
              exact x1
          | false =>
            have hq2 : ¬ x_b (isLt (b (r + i))) = x_b lf := of_decide_eq_false hlf
            have hq1 : ¬ isLt (b (r + i)) = lf := fun h => hq2 (by rw [h])
            obtain ⟨g2, J2, w2, x1, x2, x4, x3⟩ := ih (i + 1) false (up1 J 5 (nI (r + i + 1))) (w) (some (.int (nI (b (r + i))))) (Or.inr ⟨_, rfl⟩) (by omega) (by rw [up1_n (by decide)]; exact j3) (up1_s) (by rw [up1_n (by decide)]; exact j6) ⟨hgood false ⟨fun h => (by cases h), fun h => absurd h.2 hq1⟩, fun _ h => by omega, fun _ h => by omega⟩
            rw [xb_f] at x1
            refine ⟨g2, J2, w2, ?_, x2, x4, fun k k1 k2 => by rw [x3 k k1 k2, up1_n k1]⟩
            rcases ho with rfl | ⟨v, rfl⟩
            · rw [m174_215, j5, h171]
              simp (disch := omega) only [rt_c, b_some, List.cons_append, List.nil_append, Bool.cond_not, cond_true, cond_false, Bool.cond_decide, nI_add, nI_clamp, xin_n, dle_e, dlt_e, deq_e, xb_0, xb_1, decide_true, decide_false, Bool.not_true, Bool.not_false, Bool.and_true, Bool.true_and, Bool.and_false, Bool.false_and, Bool.true_or, Bool.false_or, Bool.or_true, Bool.or_false, if_true, if_false, up1_s, n_31, Int32.lt_irrefl, m174_223, h173k, m174_226, j5, h171, m174_237, h172k, m174_240, hbp.2, h173, m174_263, j6, hs, n3, n7]
              rw [DL hD] at hq2
              rw [if_neg hq2]
              exact x1
            · rw [m174_215_1, j5, h171]
              simp (disch := omega) only [rt_c, b_some, List.cons_append, List.nil_append, Bool.cond_not, cond_true, cond_false, Bool.cond_decide, nI_add, nI_clamp, xin_n, dle_e, dlt_e, deq_e, xb_0, xb_1, decide_true, decide_false, Bool.not_true, Bool.not_false, Bool.and_true, Bool.true_and, Bool.and_false, Bool.false_and, Bool.true_or, Bool.false_or, Bool.or_true, Bool.or_false, if_true, if_false, up1_s, n_31, Int32.lt_irrefl, m174_223_1, h173k, m174_226_1, j5, h171, m174_237_1, h172k, m174_240_1, hbp.2, h173, m174_263, j6, hs, n3, n7]
              rw [DL hD] at hq2
              rw [if_neg hq2]
              exact x1
        | false =>
          obtain ⟨g2, J2, w2, x1, x2, x4, x3⟩ := ih (i + 1) false (up1 J 5 (nI (r + i + 1))) (w) (some (.int (nI (b (r + i))))) (Or.inr ⟨_, rfl⟩) (by omega) (by rw [up1_n (by decide)]; exact j3) (up1_s) (by rw [up1_n (by decide)]; exact j6) ⟨hgood false ⟨fun h => (by cases h), fun h => (by cases h.1)⟩, fun _ h => by omega, fun _ h => by omega⟩
          rw [xb_f] at x1
          refine ⟨g2, J2, w2, ?_, x2, x4, fun k k1 k2 => by rw [x3 k k1 k2, up1_n k1]⟩
          rcases ho with rfl | ⟨v, rfl⟩
          · rw [m174_215, j5, h171]
            simp (disch := omega) only [rt_c, b_some, List.cons_append, List.nil_append, Bool.cond_not, cond_true, cond_false, Bool.cond_decide, nI_add, nI_clamp, xin_n, dle_e, dlt_e, deq_e, xb_0, xb_1, decide_true, decide_false, Bool.not_true, Bool.not_false, Bool.and_true, Bool.true_and, Bool.and_false, Bool.false_and, Bool.true_or, Bool.false_or, Bool.or_true, Bool.or_false, if_true, if_false, up1_s, n_31, Int32.lt_irrefl, m174_223, h173k, m174_226, j5, h171, m174_237, h172k, m174_240, hbp.2, j6, hs, n3, n7]
            exact x1
          · rw [m174_215_1, j5, h171]
            simp (disch := omega) only [rt_c, b_some, List.cons_append, List.nil_append, Bool.cond_not, cond_true, cond_false, Bool.cond_decide, nI_add, nI_clamp, xin_n, dle_e, dlt_e, deq_e, xb_0, xb_1, decide_true, decide_false, Bool.not_true, Bool.not_false, Bool.and_true, Bool.true_and, Bool.and_false, Bool.false_and, Bool.true_or, Bool.false_or, Bool.or_true, Bool.or_false, if_true, if_false, up1_s, n_31, Int32.lt_irrefl, m174_223_1, h173k, m174_226_1, j5, h171, m174_237_1, h172k, m174_240_1, hbp.2, j6, hs, n3, n7]
            exact x1
end RFT
