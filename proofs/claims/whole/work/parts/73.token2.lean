/-! TOKENS: the class's and the reference's runs -/
theorem lg0 (x y : Int64) : (lg_cmp x y = nI 0) = (x = y) := by
  apply propext
  unfold lg_cmp
  by_cases h1 : x > y
  · rw [if_pos h1]
    constructor
    · intro h; exact absurd h (by decide)
    · rintro rfl; exact absurd h1 (by simp)
  · rw [if_neg h1]
    by_cases h2 : x = y
    · rw [if_pos h2]
      exact ⟨fun _ => h2, fun _ => rfl⟩
    · rw [if_neg h2]
      constructor
      · intro h; exact absurd h (by decide)
      · intro h; exact absurd h h2
theorem isw_n {k : Nat} (hk : k ≤ 20) : x_isw (1000000 + k) = true := by
  unfold x_isw
  rw [Bool.and_eq_true]
  exact ⟨Nat.ble_eq_true_of_le (by omega), Nat.ble_eq_true_of_le (by omega)⟩
/-- what a run of i bytes from r on has come to -/
def InvC (b : Nat → Nat) (r i lc dc : Nat) (f : Nat → Int32) (lt : Int64) : Prop := lc + dc = i ∧ (dc = 0 ↔ allL b r i) ∧ (lc = 0 ↔ allD b r i) ∧ (allL b r i → i ≤ 7 → lt = lN (p256 (sgs b r i))) ∧ (allD b r i → i ≤ 3 → f 8 = nI (dvl b r i))
theorem LD {c : Nat} (h : isLt c = true) : isDg c = false := by
  have := isLt_t.mp h
  cases hd : isDg c with
  | false => rfl
  | true => have := isDg_t.mp hd; omega
theorem DL {c : Nat} (h : isDg c = true) : isLt c = false := by
  have := isDg_t.mp h
  cases hd : isLt c with
  | false => rfl
  | true => have := isLt_t.mp hd; omega
section CLT2
variable (d sl : Nat) (I : Nat → Nat → Int32) (A : Nat → Nat → Int32) (N : Nat → Nat → Int64) (V : Nat → Nat → Option Nat) (lt : Int64) (tw : Option Nat) (sp sr : Nat) (X : List AC) {t : Nat} (b : Nat → Nat)
theorem q3 (hX : Nat.ble X.length 1 = true) {s : List Nat} (hs : Lts s) : (∃ k, k ≤ 20 ∧ s = wl k ∧ C d 3 [.long (lN (p256 s))] sl (CH I A N V lt tw sp sr X) = some ([.ref (1000000 + k)], sl, CH I A N V lt tw sp sr X)) ∨ ((∀ k, k ≤ 20 → s ≠ wl k) ∧ C d 3 [.long (lN (p256 s))] sl (CH I A N V lt tw sp sr X) = some ([.null], sl, CH I A N V lt tw sp sr X)) := by
  have key : ∀ (q i : Nat), i + q = 21 → (∀ j, j < i → s ≠ wl j) → (∃ k, k ≤ 20 ∧ s = wl k ∧ rt 3 (R d 3 (2, [some (.long (lN (p256 s))), none, some (.int (nI i))], [], sl, CH I A N V lt tw sp sr X)) = some ([.ref (1000000 + k)], sl, CH I A N V lt tw sp sr X)) ∨ ((∀ k, k ≤ 20 → s ≠ wl k) ∧ rt 3 (R d 3 (2, [some (.long (lN (p256 s))), none, some (.int (nI i))], [], sl, CH I A N V lt tw sp sr X)) = some ([.null], sl, CH I A N V lt tw sp sr X)) := by
    intro q
    induction q with
    | zero =>
      intro i hi hno
      have h1 : 21 ≤ i := by omega
      right
      refine ⟨fun k hk => hno k (by omega), ?_⟩
      rw [k3_2 _ _ _ _ _ _ _ _ _ _ _ hX]
      simp (disch := omega) only [rt_c, b_some, List.cons_append, List.nil_append, Bool.cond_not, cond_true, cond_false, Bool.cond_decide, nI_add, nI_clamp, xin_n, dle_e, dlt_e, deq_e, xb_0, xb_1, decide_true, decide_false, Bool.not_true, Bool.not_false, Bool.and_true, Bool.true_and, Bool.and_false, Bool.false_and, Bool.true_or, Bool.false_or, Bool.or_true, Bool.or_false, if_true, if_false, up1_s, n_31, Int32.lt_irrefl, h1, t3_28, t3_28_n, t3_36, t3_36_n]
    | succ q ih =>
      intro i hi hno
      have h1 : ¬ 21 ≤ i := by omega
      have hw := isw_n (show i ≤ 20 by omega)
      have hsub : 1000000 + i - 1000000 = i := by omega
      have hx := wl_x (show i ≤ 20 by omega)
      by_cases he : s = wl i
      · left
        refine ⟨i, by omega, he, ?_⟩
        have hl : lN (p256 (wl i)) = lN (p256 s) := by rw [he]
        rw [k3_2 _ _ _ _ _ _ _ _ _ _ _ hX]
        simp (disch := omega) only [rt_c, b_some, List.cons_append, List.nil_append, Bool.cond_not, cond_true, cond_false, Bool.cond_decide, nI_add, nI_clamp, xin_n, dle_e, dlt_e, deq_e, xb_0, xb_1, decide_true, decide_false, Bool.not_true, Bool.not_false, Bool.and_true, Bool.true_and, Bool.and_false, Bool.false_and, Bool.true_or, Bool.false_or, Bool.or_true, Bool.or_false, if_true, if_false, up1_s, n_31, Int32.lt_irrefl, h1, k3_15 _ _ _ _ _ _ _ _ _ _ _ _ _ _ hw, hsub, hx, k3_18 _ _ _ _ _ _ _ _ _ _ _ hX, lg0, hl, t3_28, t3_28_n, t3_36, t3_36_n]
      · have hne : ¬ lN (p256 (wl i)) = lN (p256 s) := fun h => he ((lN256 (wl_L (by omega)) hs).mp h).symm
        have := ih (i + 1) (by omega) (fun j hj => by
          by_cases hji : j = i
          · rw [hji]; exact he
          · exact hno j (by omega))
        have hst : rt 3 (R d 3 (2, [some (.long (lN (p256 s))), none, some (.int (nI i))], [], sl, CH I A N V lt tw sp sr X)) = rt 3 (R d 3 (2, [some (.long (lN (p256 s))), none, some (.int (nI (i + 1)))], [], sl, CH I A N V lt tw sp sr X)) := by
          rw [k3_2 _ _ _ _ _ _ _ _ _ _ _ hX]
          simp (disch := omega) only [rt_c, b_some, List.cons_append, List.nil_append, Bool.cond_not, cond_true, cond_false, Bool.cond_decide, nI_add, nI_clamp, xin_n, dle_e, dlt_e, deq_e, xb_0, xb_1, decide_true, decide_false, Bool.not_true, Bool.not_false, Bool.and_true, Bool.true_and, Bool.and_false, Bool.false_and, Bool.true_or, Bool.false_or, Bool.or_true, Bool.or_false, if_true, if_false, up1_s, n_31, Int32.lt_irrefl, h1, k3_15 _ _ _ _ _ _ _ _ _ _ _ _ _ _ hw, hsub, hx, k3_18 _ _ _ _ _ _ _ _ _ _ _ hX, lg0, hne]
        rw [hst]
        exact this
  rw [e3, k3_0]
  exact key 21 0 (by omega) (fun j hj => by omega)
theorem q92_loop {r e : Nat} (he : e ≤ t) (ht : t ≤ 940) (hb : ∀ k, k < t → b k < 256 ∧ A 2 k = by8 (b k)) (hrun : ∀ k, r ≤ k → k < e → isLt (b k) = true ∨ isDg (b k) = true) (hend : e < t → isLt (b e) = false ∧ isDg (b e) = false) : ∀ (q i lc dc : Nat) (f : Nat → Int32) (lt : Int64) (o : Option Value), (o = none ∨ ∃ v, o = some (.int v)) → r + i + q = e → f 1 = nI t → f 3 = nI (r + i) → InvC b r i lc dc f lt → ∃ lc' dc' f' lt', rt 92 (R d 92 (14, [some (.ref 1), some (.int (nI lc)), some (.int (nI dc)), o], [], sl, CH (up1 I 1 f) A N V lt tw sp sr X)) = some ([.int (x_b (decide (0 < lc' + dc')))], sl, CH (up1 I 1 (up1 f' 4 (nI (srtN lc' dc')))) A N V lt' tw sp sr X) ∧ f' 3 = nI e ∧ InvC b r (e - r) lc' dc' f' lt' ∧ ∀ k, k ≠ 3 → k ≠ 8 → f' k = f k := by
  intro q
  induction q with
  | zero =>
    intro i lc dc f lt o ho hq hf1 hf3 hinv
    have hlc : lc + dc ≤ 1000 := by have := hinv.1; omega
    have hri : r + i = e := by omega
    refine ⟨lc, dc, f, lt, q92_end d sl I A N V lt tw sp sr X b f (p := r + i) (by omega) ht hlc hf1 hf3 (fun h => by
      rw [hri] at h ⊢
      have := hb e h
      have h2 := hend h
      exact ⟨this.1, this.2, h2.1, h2.2⟩) o ho, by rw [hf3, hri], ?_, fun _ _ _ => rfl⟩
    rw [show e - r = i by omega]
    exact hinv
  | succ q ih =>
    intro i lc dc f lt o ho hq hf1 hf3 hinv
    obtain ⟨i1, i2, i3, i4, i5⟩ := hinv
    have hp : ¬ t ≤ r + i := by omega
    have hbp := hb (r + i) (by omega)
    have hlc : lc < 2 ^ 31 ∧ dc < 2 ^ 31 := by omega
    rcases hrun (r + i) (by omega) (by omega) with hL | hD
    · have hc := isLt_t.mp hL
      have hA : A 2 (r + i) = nI (b (r + i)) := by rw [hbp.2, by8_n (by omega)]
      have c1 : ¬ b (r + i) < 97 := by omega
      have c2 : ¬ 122 < b (r + i) := by omega
      have hall : allL b r (i + 1) ↔ allL b r i := ⟨fun h j hj => h j (by omega), fun h j hj => by
        by_cases hji : j = i
        · rw [hji]; exact hL
        · exact h j (by omega)⟩
      have hnd : ¬ allD b r (i + 1) := fun h => by
        have := h i (by omega)
        rw [LD hL] at this
        cases this
      obtain ⟨lc', dc', f', lt', e1, e2, e3, e4⟩ := ih (i + 1) (lc + 1) dc (up1 f 3 (nI (r + i + 1))) ((lt <<< ((nI 8).toInt64 &&& 63)) ||| (nI (b (r + i))).toInt64) (some (.int (nI (b (r + i))))) (Or.inr ⟨_, rfl⟩) (by omega) (by rw [up1_n (by decide)]; exact hf1) up1_s ⟨by omega, by rw [hall]; exact i2, ⟨fun h => by omega, fun h => absurd h hnd⟩, fun h1 h2 => by
        have hh := hall.mp h1
        rw [i4 hh (by omega), sgs, p256_s]
        have hlt := p256_sgs hh
        have hpw : 256 ^ i ≤ 256 ^ 6 := Nat.pow_le_pow_right (by decide) (by omega)
        exact sh_or (by omega) (by omega), fun h => absurd h hnd⟩
      refine ⟨lc', dc', f', lt', ?_, e2, e3, fun k k1 k2 => by rw [e4 k k1 k2, up1_n k1]⟩
      rcases ho with rfl | ⟨v, rfl⟩
      · rw [k92_r1_14]
        simp (disch := omega) only [rt_c, b_some, List.cons_append, List.nil_append, Bool.cond_not, cond_true, cond_false, Bool.cond_decide, nI_add, nI_clamp, xin_n, dle_e, dlt_e, deq_e, xb_0, xb_1, decide_true, decide_false, Bool.not_true, Bool.not_false, Bool.and_true, Bool.true_and, Bool.and_false, Bool.false_and, Bool.true_or, Bool.false_or, Bool.or_true, Bool.or_false, if_true, if_false, up1_s, n_31, Int32.lt_irrefl, hf1, hf3, hp, hA, c1, c2, up1_up, e1]
      · rw [k92_r1_14_1]
        simp (disch := omega) only [rt_c, b_some, List.cons_append, List.nil_append, Bool.cond_not, cond_true, cond_false, Bool.cond_decide, nI_add, nI_clamp, xin_n, dle_e, dlt_e, deq_e, xb_0, xb_1, decide_true, decide_false, Bool.not_true, Bool.not_false, Bool.and_true, Bool.true_and, Bool.and_false, Bool.false_and, Bool.true_or, Bool.false_or, Bool.or_true, Bool.or_false, if_true, if_false, up1_s, n_31, Int32.lt_irrefl, hf1, hf3, hp, hA, c1, c2, up1_up, e1]
    · have hc := isDg_t.mp hD
      have hA : A 2 (r + i) = nI (b (r + i)) := by rw [hbp.2, by8_n (by omega)]
      have c1 : b (r + i) < 97 := by omega
      have c2 : ¬ b (r + i) < 48 := by omega
      have c3 : ¬ 57 < b (r + i) := by omega
      have hall : allD b r (i + 1) ↔ allD b r i := ⟨fun h j hj => h j (by omega), fun h j hj => by
        by_cases hji : j = i
        · rw [hji]; exact hD
        · exact h j (by omega)⟩
      have hnl : ¬ allL b r (i + 1) := fun h => by
        have := h i (by omega)
        rw [DL hD] at this
        cases this
      obtain ⟨lc', dc', f', lt', e1, e2, e3, e4⟩ := ih (i + 1) lc (dc + 1) (up1 (up1 f 3 (nI (r + i + 1))) 8 (f 8 * nI 10 + nI (b (r + i)) - nI 48)) lt (some (.int (nI (b (r + i))))) (Or.inr ⟨_, rfl⟩) (by omega) (by rw [up1_n (by decide), up1_n (by decide)]; exact hf1) (by rw [up1_n (by decide), up1_s]; rfl) ⟨by omega, ⟨fun h => by omega, fun h => absurd h hnl⟩, by rw [hall]; exact i3, fun h => absurd h hnl, fun h1 h2 => by
        have hh := hall.mp h1
        rw [up1_s, i5 hh (by omega), dvl]
        exact n10 hc.1⟩
      refine ⟨lc', dc', f', lt', ?_, e2, e3, fun k k1 k2 => by rw [e4 k k1 k2, up1_n k2, up1_n k1]⟩
      rcases ho with rfl | ⟨v, rfl⟩
      · rw [k92_r1_14]
        simp (disch := omega) only [rt_c, b_some, List.cons_append, List.nil_append, Bool.cond_not, cond_true, cond_false, Bool.cond_decide, nI_add, nI_clamp, xin_n, dle_e, dlt_e, deq_e, xb_0, xb_1, decide_true, decide_false, Bool.not_true, Bool.not_false, Bool.and_true, Bool.true_and, Bool.and_false, Bool.false_and, Bool.true_or, Bool.false_or, Bool.or_true, Bool.or_false, if_true, if_false, up1_s, n_31, Int32.lt_irrefl, hf1, hf3, hp, hA, c1, c2, c3, up1_up, e1]
      · rw [k92_r1_14_1]
        simp (disch := omega) only [rt_c, b_some, List.cons_append, List.nil_append, Bool.cond_not, cond_true, cond_false, Bool.cond_decide, nI_add, nI_clamp, xin_n, dle_e, dlt_e, deq_e, xb_0, xb_1, decide_true, decide_false, Bool.not_true, Bool.not_false, Bool.and_true, Bool.true_and, Bool.and_false, Bool.false_and, Bool.true_or, Bool.false_or, Bool.or_true, Bool.or_false, if_true, if_false, up1_s, n_31, Int32.lt_irrefl, hf1, hf3, hp, hA, c1, c2, c3, up1_up, e1]
theorem q92 {r e : Nat} (hre : r ≤ e) (he : e ≤ t) (ht : t ≤ 940) (hb : ∀ k, k < t → b k < 256 ∧ A 2 k = by8 (b k)) (hrun : ∀ k, r ≤ k → k < e → isLt (b k) = true ∨ isDg (b k) = true) (hend : e < t → isLt (b e) = false ∧ isDg (b e) = false) (f : Nat → Int32) (hf1 : f 1 = nI t) (hf3 : f 3 = nI r) : ∃ f' lt', C d 92 [.ref 1] sl (CH (up1 I 1 f) A N V lt tw sp sr X) = some ([.int (x_b (decide (r < e)))], sl, CH (up1 I 1 f') A N V lt' tw sp sr X) ∧ f' 3 = nI e ∧ (∀ k, k ≠ 3 → k ≠ 4 → k ≠ 8 → f' k = f k) ∧
    (allL b r (e - r) → e - r ≤ 7 → f' 4 = nI 3 ∧ lt' = lN (p256 (sgs b r (e - r)))) ∧ (allD b r (e - r) → r < e → e - r ≤ 3 → f' 4 = nI 4 ∧ f' 8 = nI (dvl b r (e - r))) ∧ (¬ (allL b r (e - r) ∧ e - r ≤ 7) → ¬ (allD b r (e - r) ∧ e - r ≤ 3) → f' 4 = nI 1) := by
  obtain ⟨lc, dc, f', lt', e1, e2, ⟨i1, i2, i3, i4, i5⟩, e4⟩ := q92_loop d sl I A N V tw sp sr X b (r := r) he ht hb hrun hend (e - r) 0 0 0 (up1 f 8 (nI 0)) (Int64.ofNat 0) none (Or.inl rfl) (by omega) (by rw [up1_n (by decide)]; exact hf1) (by rw [up1_n (by decide)]; exact hf3) ⟨rfl, ⟨fun _ j hj => by omega, fun _ => rfl⟩, ⟨fun _ j hj => by omega, fun _ => rfl⟩, fun _ _ => rfl, fun _ _ => up1_s⟩
  refine ⟨up1 f' 4 (nI (srtN lc dc)), lt', ?_, by rw [up1_n (by decide)]; exact e2, fun k k1 k2 k3 => by rw [up1_n k2, e4 k k1 k3, up1_n k3], fun h1 h2 => ?_, fun h1 h2 h3 => ?_, fun h1 h2 => ?_⟩
  · rw [e92, k92_r1_0]
    simp (disch := omega) only [rt_c, b_some, List.cons_append, List.nil_append, Bool.cond_not, cond_true, cond_false, Bool.cond_decide, nI_add, nI_clamp, xin_n, dle_e, dlt_e, deq_e, xb_0, xb_1, decide_true, decide_false, Bool.not_true, Bool.not_false, Bool.and_true, Bool.true_and, Bool.and_false, Bool.false_and, Bool.true_or, Bool.false_or, Bool.or_true, Bool.or_false, if_true, if_false, up1_s, n_31, Int32.lt_irrefl, up1_up]
    have hd : decide (r < e) = decide (0 < lc + dc) := by
      by_cases h : r < e
      · rw [decide_eq_true h]; symm; exact decide_eq_true (by omega)
      · rw [decide_eq_false h]; symm; exact decide_eq_false (by omega)
    rw [hd]
    exact e1
  · have hdc := i2.mpr h1
    refine ⟨?_, i4 h1 h2⟩
    rw [up1_s]
    unfold srtN
    rw [if_pos ⟨hdc, by omega⟩]
  · have hlc := i3.mpr h1
    refine ⟨?_, by rw [up1_n (by decide)]; exact i5 h1 h3⟩
    rw [up1_s]
    unfold srtN
    rw [if_neg (by omega), if_pos ⟨hlc, by omega⟩]
  · rw [up1_s]
    unfold srtN
    rw [if_neg (fun h => h1 ⟨i2.mp h.1, by omega⟩), if_neg (fun h => h2 ⟨i3.mp h.1, by omega⟩)]
/-- is a byte one of the marks -/
def isMk (c : Nat) : Bool := decide (c = 59) || (decide (c = 40) || (decide (c = 41) || (decide (60 ≤ c) && decide (c ≤ 62))))
theorem isMk_t {c : Nat} : isMk c = true ↔ c = 59 ∨ c = 40 ∨ c = 41 ∨ (60 ≤ c ∧ c ≤ 62) := by
  unfold isMk
  simp
theorem q93 {p : Nat} (hp : p < t) (ht : t ≤ 940) (f : Nat → Int32) (hf1 : f 1 = nI t) (hf3 : f 3 = nI p) (hb : b p < 256 ∧ A 2 p = by8 (b p)) : ∃ f', C d 93 [.ref 1] sl (CH (up1 I 1 f) A N V lt tw sp sr X) = some ([], sl, CH (up1 I 1 f') A N V lt tw sp sr X) ∧ f' 3 = nI (p + 1) ∧ f' 4 = nI (cond (isMk (b p)) 5 1) ∧ f' 8 = by8 (b p) ∧ ∀ k, k ≠ 3 → k ≠ 4 → k ≠ 8 → f' k = f k := by
  have hpt : ¬ t ≤ p := by omega
  refine ⟨up1 (up1 (up1 f 3 (nI (p + 1))) 4 (nI (cond (isMk (b p)) 5 1))) 8 (by8 (b p)), ?_, by rw [up1_n (by decide), up1_n (by decide), up1_s], by rw [up1_n (by decide), up1_s], up1_s, fun k k1 k2 k3 => by rw [up1_n k3, up1_n k2, up1_n k1]⟩
  rw [e93, k93_r1_0]
  obtain ⟨b1, b2⟩ := hb
  have x59 := by8_eq b1 (show 59 < 128 by decide)
  have x40 := by8_eq b1 (show 40 < 128 by decide)
  have x41 := by8_eq b1 (show 41 < 128 by decide)
  have x60 := by8_lt b1 (show 60 < 128 by decide)
  have x62 := by8_gt b1 (show 62 < 128 by decide)
  cases hm : isMk (b p) with
  | true =>
    rcases isMk_t.mp hm with h | h | h | ⟨h1, h2⟩
    · simp (disch := omega) only [rt_c, b_some, List.cons_append, List.nil_append, Bool.cond_not, cond_true, cond_false, Bool.cond_decide, nI_add, nI_clamp, xin_n, dle_e, dlt_e, deq_e, xb_0, xb_1, decide_true, decide_false, Bool.not_true, Bool.not_false, Bool.and_true, Bool.true_and, Bool.and_false, Bool.false_and, Bool.true_or, Bool.false_or, Bool.or_true, Bool.or_false, if_true, if_false, up1_s, n_31, Int32.lt_irrefl, hf1, hf3, hpt, b2, x59]
      simp (disch := omega) only [rt_c, b_some, List.cons_append, List.nil_append, Bool.cond_not, cond_true, cond_false, Bool.cond_decide, nI_add, nI_clamp, xin_n, dle_e, dlt_e, deq_e, xb_0, xb_1, decide_true, decide_false, Bool.not_true, Bool.not_false, Bool.and_true, Bool.true_and, Bool.and_false, Bool.false_and, Bool.true_or, Bool.false_or, Bool.or_true, Bool.or_false, if_true, if_false, up1_s, n_31, Int32.lt_irrefl, h, up1_up, t93_89]
    · have n1 : ¬ b p = 59 := by omega
      simp (disch := omega) only [rt_c, b_some, List.cons_append, List.nil_append, Bool.cond_not, cond_true, cond_false, Bool.cond_decide, nI_add, nI_clamp, xin_n, dle_e, dlt_e, deq_e, xb_0, xb_1, decide_true, decide_false, Bool.not_true, Bool.not_false, Bool.and_true, Bool.true_and, Bool.and_false, Bool.false_and, Bool.true_or, Bool.false_or, Bool.or_true, Bool.or_false, if_true, if_false, up1_s, n_31, Int32.lt_irrefl, hf1, hf3, hpt, b2, x59, x40, n1]
      simp (disch := omega) only [rt_c, b_some, List.cons_append, List.nil_append, Bool.cond_not, cond_true, cond_false, Bool.cond_decide, nI_add, nI_clamp, xin_n, dle_e, dlt_e, deq_e, xb_0, xb_1, decide_true, decide_false, Bool.not_true, Bool.not_false, Bool.and_true, Bool.true_and, Bool.and_false, Bool.false_and, Bool.true_or, Bool.false_or, Bool.or_true, Bool.or_false, if_true, if_false, up1_s, n_31, Int32.lt_irrefl, h, up1_up, t93_89]
    · have n1 : ¬ b p = 59 := by omega
      have n2 : ¬ b p = 40 := by omega
      simp (disch := omega) only [rt_c, b_some, List.cons_append, List.nil_append, Bool.cond_not, cond_true, cond_false, Bool.cond_decide, nI_add, nI_clamp, xin_n, dle_e, dlt_e, deq_e, xb_0, xb_1, decide_true, decide_false, Bool.not_true, Bool.not_false, Bool.and_true, Bool.true_and, Bool.and_false, Bool.false_and, Bool.true_or, Bool.false_or, Bool.or_true, Bool.or_false, if_true, if_false, up1_s, n_31, Int32.lt_irrefl, hf1, hf3, hpt, b2, x59, x40, x41, n1, n2]
      simp (disch := omega) only [rt_c, b_some, List.cons_append, List.nil_append, Bool.cond_not, cond_true, cond_false, Bool.cond_decide, nI_add, nI_clamp, xin_n, dle_e, dlt_e, deq_e, xb_0, xb_1, decide_true, decide_false, Bool.not_true, Bool.not_false, Bool.and_true, Bool.true_and, Bool.and_false, Bool.false_and, Bool.true_or, Bool.false_or, Bool.or_true, Bool.or_false, if_true, if_false, up1_s, n_31, Int32.lt_irrefl, h, up1_up, t93_89]
    · have n1 : ¬ b p = 59 := by omega
      have n2 : ¬ b p = 40 := by omega
      have n3 : ¬ b p = 41 := by omega
      have n4 : ¬ (b p < 60 ∨ 128 ≤ b p) := by omega
      have n5 : ¬ (62 < b p ∧ b p < 128) := by omega
      simp (disch := omega) only [rt_c, b_some, List.cons_append, List.nil_append, Bool.cond_not, cond_true, cond_false, Bool.cond_decide, nI_add, nI_clamp, xin_n, dle_e, dlt_e, deq_e, xb_0, xb_1, decide_true, decide_false, Bool.not_true, Bool.not_false, Bool.and_true, Bool.true_and, Bool.and_false, Bool.false_and, Bool.true_or, Bool.false_or, Bool.or_true, Bool.or_false, if_true, if_false, up1_s, n_31, Int32.lt_irrefl, hf1, hf3, hpt, b2, x59, x40, x41, x60, x62, n1, n2, n3, n4, n5, up1_up, t93_89]
  | false =>
    have hn : ¬ (b p = 59 ∨ b p = 40 ∨ b p = 41 ∨ (60 ≤ b p ∧ b p ≤ 62)) := fun h => by rw [isMk_t.mpr h] at hm; cases hm
    have n1 : ¬ b p = 59 := by omega
    have n2 : ¬ b p = 40 := by omega
    have n3 : ¬ b p = 41 := by omega
    by_cases n4 : b p < 60 ∨ 128 ≤ b p
    · simp (disch := omega) only [rt_c, b_some, List.cons_append, List.nil_append, Bool.cond_not, cond_true, cond_false, Bool.cond_decide, nI_add, nI_clamp, xin_n, dle_e, dlt_e, deq_e, xb_0, xb_1, decide_true, decide_false, Bool.not_true, Bool.not_false, Bool.and_true, Bool.true_and, Bool.and_false, Bool.false_and, Bool.true_or, Bool.false_or, Bool.or_true, Bool.or_false, if_true, if_false, up1_s, n_31, Int32.lt_irrefl, hf1, hf3, hpt, b2, x59, x40, x41, x60, n1, n2, n3, n4, up1_up, t93_89]
    · have n5 : 62 < b p ∧ b p < 128 := by omega
      simp (disch := omega) only [rt_c, b_some, List.cons_append, List.nil_append, Bool.cond_not, cond_true, cond_false, Bool.cond_decide, nI_add, nI_clamp, xin_n, dle_e, dlt_e, deq_e, xb_0, xb_1, decide_true, decide_false, Bool.not_true, Bool.not_false, Bool.and_true, Bool.true_and, Bool.and_false, Bool.false_and, Bool.true_or, Bool.false_or, Bool.or_true, Bool.or_false, if_true, if_false, up1_s, n_31, Int32.lt_irrefl, hf1, hf3, hpt, b2, x59, x40, x41, x60, x62, n1, n2, n3, n4, n5, and_self, up1_up, t93_89]
end CLT2
