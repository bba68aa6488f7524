/-! TOKENS: bytes and runs -/
def isLt (c : Nat) : Bool := decide (97 ≤ c) && decide (c ≤ 122)
def isDg (c : Nat) : Bool := decide (48 ≤ c) && decide (c ≤ 57)
theorem isLt_t {c : Nat} : isLt c = true ↔ 97 ≤ c ∧ c ≤ 122 := by unfold isLt; simp
theorem isDg_t {c : Nat} : isDg c = true ↔ 48 ≤ c ∧ c ≤ 57 := by unfold isDg; simp
theorem by8_toInt {b : Nat} (hb : b < 256) : (by8 b).toInt = if b < 128 then (b : Int) else (b : Int) - 256 := by
  have : ∀ b : Fin 256, (by8 b.val).toInt = if b.val < 128 then (b.val : Int) else (b.val : Int) - 256 := by decide +kernel
  exact this ⟨b, hb⟩
theorem by8_eq {b c : Nat} (hb : b < 256) (hc : c < 128) : (by8 b = nI c) = (b = c) := by
  apply propext
  have h1 := by8_toInt hb
  have h2 := nI_toInt (n := c) (by omega)
  constructor
  · intro e
    rw [e, h2] at h1
    split at h1 <;> omega
  · rintro rfl
    unfold by8
    rw [if_pos hc]
theorem by8_lt {b c : Nat} (hb : b < 256) (hc : c < 128) : (by8 b < nI c) = (b < c ∨ 128 ≤ b) := by
  apply propext
  have h1 := by8_toInt hb
  have h2 := nI_toInt (n := c) (by omega)
  rw [Int32.lt_iff_toInt_lt, h1, h2]
  split <;> omega
theorem by8_gt {b c : Nat} (hb : b < 256) (hc : c < 128) : (nI c < by8 b) = (c < b ∧ b < 128) := by
  apply propext
  have h1 := by8_toInt hb
  have h2 := nI_toInt (n := c) (by omega)
  rw [Int32.lt_iff_toInt_lt, h1, h2]
  split <;> omega
theorem by8_n {b : Nat} (hb : b < 128) : by8 b = nI b := by unfold by8; rw [if_pos hb]
/-- the bytes from r on, so many -/
def sgs (b : Nat → Nat) (r : Nat) : Nat → List Nat
  | 0 => []
  | i + 1 => sgs b r i ++ [b (r + i)]
def dvl (b : Nat → Nat) (r : Nat) : Nat → Nat
  | 0 => 0
  | i + 1 => dvl b r i * 10 + (b (r + i) - 48)
theorem sgs_len (b : Nat → Nat) (r : Nat) : ∀ i, (sgs b r i).length = i
  | 0 => rfl
  | i + 1 => by rw [sgs, List.length_append, sgs_len b r i]; rfl
theorem p256_s (s : List Nat) (c : Nat) : p256 (s ++ [c]) = p256 s * 256 + c := by unfold p256; rw [List.foldl_append]; rfl
theorem p27_s (s : List Nat) (c : Nat) : p27 (s ++ [c]) = p27 s * 27 + (c - 96) := by unfold p27; rw [List.foldl_append]; rfl
def allL (b : Nat → Nat) (r i : Nat) : Prop := ∀ j, j < i → isLt (b (r + j)) = true
def allD (b : Nat → Nat) (r i : Nat) : Prop := ∀ j, j < i → isDg (b (r + j)) = true
theorem sgs_Ltr {b : Nat → Nat} {r : Nat} : ∀ {i : Nat}, allL b r i → ∀ c ∈ sgs b r i, 97 ≤ c ∧ c ≤ 122
  | 0, _, c, hc => by cases hc
  | i + 1, h, c, hc => by
    rw [sgs, List.mem_append] at hc
    rcases hc with hc | hc
    · exact sgs_Ltr (fun j hj => h j (by omega)) c hc
    · rw [List.mem_singleton] at hc
      rw [hc]
      exact isLt_t.mp (h i (by omega))
theorem sgs_Lts {b : Nat → Nat} {r i : Nat} (h : allL b r i) (h1 : 1 ≤ i) (h7 : i ≤ 7) : Lts (sgs b r i) := ⟨by rw [sgs_len]; exact h1, by rw [sgs_len]; exact h7, sgs_Ltr h⟩
theorem p256_sgs {b : Nat → Nat} {r : Nat} : ∀ {i : Nat}, allL b r i → p256 (sgs b r i) < 256 ^ i
  | 0, _ => Nat.one_pos
  | i + 1, h => by
    have h1 := p256_sgs (i := i) (fun j hj => h j (by omega))
    have h2 := isLt_t.mp (h i (by omega))
    rw [sgs, p256_s, Nat.pow_succ]
    omega
theorem p27_sgs {b : Nat → Nat} {r : Nat} : ∀ {i : Nat}, allL b r i → p27 (sgs b r i) < 27 ^ i
  | 0, _ => Nat.one_pos
  | i + 1, h => by
    have h1 := p27_sgs (i := i) (fun j hj => h j (by omega))
    have h2 := isLt_t.mp (h i (by omega))
    rw [sgs, p27_s, Nat.pow_succ]
    omega
theorem dvl_lt {b : Nat → Nat} {r : Nat} : ∀ {i : Nat}, allD b r i → dvl b r i < 10 ^ i
  | 0, _ => Nat.one_pos
  | i + 1, h => by
    have h1 := dvl_lt (i := i) (fun j hj => h j (by omega))
    have h2 := isDg_t.mp (h i (by omega))
    rw [dvl, Nat.pow_succ]
    omega
/-- one letter more, packed -/
theorem sh_or {a c : Nat} (ha : a < 2 ^ 48) (hc : c < 128) : (lN a <<< ((nI 8).toInt64 &&& 63)) ||| (nI c).toInt64 = lN (a * 256 + c) := by
  rw [wb_shl a (by decide), nI_l (by omega), wb_or (by omega) (by omega)]
  congr 1
  have h : a * 2 ^ 8 = 2 ^ 8 * a := Nat.mul_comm _ _
  rw [h, ← Nat.two_pow_add_eq_or_of_lt (show c < 2 ^ 8 by omega)]
theorem w27 {a c : Nat} (ha : a < 2 ^ 48) (h1 : 97 ≤ c) (h2 : c ≤ 122) : (nI 27).toInt64 * lN a + (nI c).toInt64 - (nI 96).toInt64 = lN (a * 27 + (c - 96)) := by
  rw [nI_l (by omega), nI_l (by omega), nI_l (by omega), lN_mul, lN_add, lN_sub (by omega)]
  congr 1
  omega
theorem n10 {a c : Nat} (h1 : 48 ≤ c) : nI a * nI 10 + nI c - nI 48 = nI (a * 10 + (c - 48)) := by
  rw [show nI a * nI 10 = nI (a * 10) from pk_mul a 10, nI_add, nI_sub (by omega)]
  congr 1
  omega
theorem n10' {a c : Nat} (h1 : 48 ≤ c) : nI 10 * nI a + nI c - nI 48 = nI (a * 10 + (c - 48)) := by
  rw [show nI 10 * nI a = nI (10 * a) from pk_mul 10 a, nI_add, nI_sub (by omega)]
  congr 1
  omega
/-- behind the blanks -/
theorem skip_ex (b : Nat → Nat) (t : Nat) : ∀ (n q : Nat), q + n = t → ∃ r, q ≤ r ∧ r ≤ t ∧ (∀ k, q ≤ k → k < r → b k = 32 ∨ b k = 10) ∧ (r < t → b r ≠ 32 ∧ b r ≠ 10) := by
  intro n
  induction n with
  | zero => intro q h; exact ⟨q, Nat.le_refl _, by omega, fun k h1 h2 => by omega, fun h => by omega⟩
  | succ n ih =>
    intro q h
    by_cases hb : b q = 32 ∨ b q = 10
    · obtain ⟨r, h1, h2, h3, h4⟩ := ih (q + 1) (by omega)
      refine ⟨r, by omega, h2, fun k k1 k2 => ?_, h4⟩
      by_cases hk : k = q
      · rw [hk]; exact hb
      · exact h3 k (by omega) k2
    · exact ⟨q, Nat.le_refl _, by omega, fun k h1 h2 => by omega, fun _ => ⟨fun e => hb (Or.inl e), fun e => hb (Or.inr e)⟩⟩
/-- as far as letters and digits go -/
theorem run_ex (b : Nat → Nat) (t : Nat) : ∀ (n q : Nat), q + n = t → ∃ e, q ≤ e ∧ e ≤ t ∧ (∀ k, q ≤ k → k < e → isLt (b k) = true ∨ isDg (b k) = true) ∧ (e < t → isLt (b e) = false ∧ isDg (b e) = false) := by
  intro n
  induction n with
  | zero => intro q h; exact ⟨q, Nat.le_refl _, by omega, fun k h1 h2 => by omega, fun h => by omega⟩
  | succ n ih =>
    intro q h
    by_cases hb : isLt (b q) = true ∨ isDg (b q) = true
    · obtain ⟨e, h1, h2, h3, h4⟩ := ih (q + 1) (by omega)
      refine ⟨e, by omega, h2, fun k k1 k2 => ?_, h4⟩
      by_cases hk : k = q
      · rw [hk]; exact hb
      · exact h3 k (by omega) k2
    · refine ⟨q, Nat.le_refl _, by omega, fun k h1 h2 => by omega, fun _ => ⟨?_, ?_⟩⟩
      · cases hx : isLt (b q) with
        | false => rfl
        | true => exact absurd (Or.inl hx) hb
      · cases hx : isDg (b q) with
        | false => rfl
        | true => exact absurd (Or.inr hx) hb
def srtN (lc dc : Nat) : Nat := if dc = 0 ∧ lc ≤ 7 then 3 else if lc = 0 ∧ dc ≤ 3 then 4 else 1
section CLT
variable (d sl : Nat) (I : Nat → Nat → Int32) (A : Nat → Nat → Int32) (N : Nat → Nat → Int64) (V : Nat → Nat → Option Nat) (lt : Int64) (tw : Option Nat) (sp sr : Nat) (X : List AC) {t : Nat} (b : Nat → Nat)
theorem q91 (ht : t ≤ 940) (hb : ∀ k, k < t → b k < 256 ∧ A 2 k = by8 (b k)) (h11 : I 1 1 = nI t) {r : Nat} (hr : r ≤ t) (h2 : r < t → b r ≠ 32 ∧ b r ≠ 10) : ∀ (n q : Nat) (f : Nat → Int32), q + n = r → f 1 = nI t → f 3 = nI q → (∀ k, q ≤ k → k < r → b k = 32 ∨ b k = 10) → ∃ f', rt 91 (R d 91 (0, [some (.ref 1)], [], sl, CH (up1 I 1 f) A N V lt tw sp sr X)) = some ([], sl, CH (up1 I 1 f') A N V lt tw sp sr X) ∧ f' 3 = nI r ∧ ∀ k, k ≠ 3 → f' k = f k := by
  intro n
  induction n with
  | zero =>
    intro q f hq hf1 hf3 hbl
    have hqr : q = r := by omega
    subst hqr
    refine ⟨f, ?_, hf3, fun _ _ => rfl⟩
    rw [k91_r1_0]
    by_cases hqt : t ≤ q
    · simp (disch := omega) only [rt_c, b_some, List.cons_append, List.nil_append, Bool.cond_not, cond_true, cond_false, Bool.cond_decide, nI_add, nI_clamp, xin_n, dle_e, dlt_e, deq_e, xb_0, xb_1, decide_true, decide_false, Bool.not_true, Bool.not_false, Bool.and_true, Bool.true_and, Bool.and_false, Bool.false_and, Bool.true_or, Bool.false_or, Bool.or_true, Bool.or_false, if_true, if_false, up1_s, n_31, Int32.lt_irrefl, hf1, hf3, hqt, t91_52]
    · have hbq := hb q (by omega)
      have hne := h2 (by omega)
      have e1 : ¬ by8 (b q) = nI 32 := by rw [by8_eq hbq.1 (by decide)]; exact hne.1
      have e2 : ¬ by8 (b q) = nI 10 := by rw [by8_eq hbq.1 (by decide)]; exact hne.2
      simp (disch := omega) only [rt_c, b_some, List.cons_append, List.nil_append, Bool.cond_not, cond_true, cond_false, Bool.cond_decide, nI_add, nI_clamp, xin_n, dle_e, dlt_e, deq_e, xb_0, xb_1, decide_true, decide_false, Bool.not_true, Bool.not_false, Bool.and_true, Bool.true_and, Bool.and_false, Bool.false_and, Bool.true_or, Bool.false_or, Bool.or_true, Bool.or_false, if_true, if_false, up1_s, n_31, Int32.lt_irrefl, hf1, hf3, hqt, hbq.2, e1, e2, t91_52]
  | succ n ih =>
    intro q f hq hf1 hf3 hbl
    have hqt : ¬ t ≤ q := by omega
    have hbq := hb q (by omega)
    obtain ⟨f', e1, e2, e3⟩ := ih (q + 1) (up1 f 3 (nI (q + 1))) (by omega) (by rw [up1_n (by decide)]; exact hf1) up1_s (fun k k1 k2 => hbl k (by omega) k2)
    refine ⟨f', ?_, e2, fun k hk => by rw [e3 k hk, up1_n hk]⟩
    rw [k91_r1_0]
    rcases hbl q (Nat.le_refl q) (by omega) with hc | hc
    · have x1 : by8 (b q) = nI 32 := by rw [by8_eq hbq.1 (by decide)]; exact hc
      simp (disch := omega) only [rt_c, b_some, List.cons_append, List.nil_append, Bool.cond_not, cond_true, cond_false, Bool.cond_decide, nI_add, nI_clamp, xin_n, dle_e, dlt_e, deq_e, xb_0, xb_1, decide_true, decide_false, Bool.not_true, Bool.not_false, Bool.and_true, Bool.true_and, Bool.and_false, Bool.false_and, Bool.true_or, Bool.false_or, Bool.or_true, Bool.or_false, if_true, if_false, up1_s, n_31, Int32.lt_irrefl, hf1, hf3, hqt, hbq.2, x1, up1_up, e1]
    · have x2 : by8 (b q) = nI 10 := by rw [by8_eq hbq.1 (by decide)]; exact hc
      simp (disch := omega) only [rt_c, b_some, List.cons_append, List.nil_append, Bool.cond_not, cond_true, cond_false, Bool.cond_decide, nI_add, nI_clamp, xin_n, dle_e, dlt_e, deq_e, xb_0, xb_1, decide_true, decide_false, Bool.not_true, Bool.not_false, Bool.and_true, Bool.true_and, Bool.and_false, Bool.false_and, Bool.true_or, Bool.false_or, Bool.or_true, Bool.or_false, if_true, if_false, up1_s, n_31, Int32.lt_irrefl, hf1, hf3, hqt, hbq.2, x2, Nat.reduceEqDiff, up1_up, e1]
theorem q92_end {p lc dc : Nat} (f : Nat → Int32) (hp : p ≤ t) (ht : t ≤ 940) (hlc : lc + dc ≤ 1000) (hf1 : f 1 = nI t) (hf3 : f 3 = nI p) (hb : p < t → b p < 256 ∧ A 2 p = by8 (b p) ∧ isLt (b p) = false ∧ isDg (b p) = false) (o : Option Value) (ho : o = none ∨ ∃ v, o = some (.int v)) : rt 92 (R d 92 (14, [some (.ref 1), some (.int (nI lc)), some (.int (nI dc)), o], [], sl, CH (up1 I 1 f) A N V lt tw sp sr X)) = some ([.int (x_b (decide (0 < lc + dc)))], sl, CH (up1 I 1 (up1 f 4 (nI (srtN lc dc)))) A N V lt tw sp sr X) := by
  have hfacts : (lc + dc ≤ 0 ∧ lc = 0 ∧ dc = 0 ∧ srtN lc dc = 3 ∧ decide (0 < lc + dc) = false) ∨ (¬ lc + dc ≤ 0 ∧ decide (0 < lc + dc) = true) := by
    by_cases h : lc + dc ≤ 0
    · refine Or.inl ⟨h, by omega, by omega, ?_, by simp; omega⟩
      unfold srtN
      rw [if_pos ⟨by omega, by omega⟩]
    · exact Or.inr ⟨h, by simp; omega⟩
  -- how a run is sorted
  have hsort : (dc = 0 ∧ ¬ 7 < lc ∧ srtN lc dc = 3) ∨ (dc = 0 ∧ 7 < lc ∧ ¬ lc = 0 ∧ srtN lc dc = 1) ∨ (¬ dc = 0 ∧ ¬ lc = 0 ∧ srtN lc dc = 1) ∨ (¬ dc = 0 ∧ lc = 0 ∧ ¬ 3 < dc ∧ srtN lc dc = 4) ∨ (¬ dc = 0 ∧ lc = 0 ∧ 3 < dc ∧ srtN lc dc = 1) := by
    unfold srtN
    by_cases a1 : dc = 0
    · by_cases a2 : 7 < lc
      · right; left
        refine ⟨a1, a2, by omega, ?_⟩
        rw [if_neg (by omega), if_neg (by omega)]
      · left
        refine ⟨a1, a2, ?_⟩
        rw [if_pos (by omega)]
    · by_cases a2 : lc = 0
      · by_cases a3 : 3 < dc
        · right; right; right; right
          refine ⟨a1, a2, a3, ?_⟩
          rw [if_neg (by omega), if_neg (by omega)]
        · right; right; right; left
          refine ⟨a1, a2, a3, ?_⟩
          rw [if_neg (by omega), if_pos (by omega)]
      · right; right; left
        refine ⟨a1, a2, ?_⟩
        rw [if_neg (by omega), if_neg (by omega)]
  by_cases hpt : t ≤ p
  · rcases ho with rfl | ⟨v, rfl⟩
    · rw [k92_r1_14]
      rcases hfacts with ⟨z1, rfl, rfl, z4, z5⟩ | ⟨z1, z5⟩
      · rw [z4, z5]
        have y1 : ¬ 7 < 0 := by omega
        simp (disch := omega) only [rt_c, b_some, List.cons_append, List.nil_append, Bool.cond_not, cond_true, cond_false, Bool.cond_decide, nI_add, nI_clamp, xin_n, dle_e, dlt_e, deq_e, xb_0, xb_1, decide_true, decide_false, Bool.not_true, Bool.not_false, Bool.and_true, Bool.true_and, Bool.and_false, Bool.false_and, Bool.true_or, Bool.false_or, Bool.or_true, Bool.or_false, if_true, if_false, up1_s, n_31, Int32.lt_irrefl, hf1, hf3, hpt, z1, y1, Nat.le_refl, Nat.add_zero, up1_up, t92_162, t92_162_0, t92_162_1]
      · rw [z5]
        rcases hsort with ⟨a1, a2, a3⟩ | ⟨a1, a2, a3, a4⟩ | ⟨a1, a2, a3⟩ | ⟨a1, a2, a3, a4⟩ | ⟨a1, a2, a3, a4⟩
        · rw [a3]
          have z6 : ¬ lc + 0 ≤ 0 := by omega
          simp (disch := omega) only [rt_c, b_some, List.cons_append, List.nil_append, Bool.cond_not, cond_true, cond_false, Bool.cond_decide, nI_add, nI_clamp, xin_n, dle_e, dlt_e, deq_e, xb_0, xb_1, decide_true, decide_false, Bool.not_true, Bool.not_false, Bool.and_true, Bool.true_and, Bool.and_false, Bool.false_and, Bool.true_or, Bool.false_or, Bool.or_true, Bool.or_false, if_true, if_false, up1_s, n_31, Int32.lt_irrefl, hf1, hf3, hpt, z6, a1, a2, up1_up, t92_162, t92_162_0, t92_162_1]
        · rw [a4]
          have z6 : ¬ lc + 0 ≤ 0 := by omega
          simp (disch := omega) only [rt_c, b_some, List.cons_append, List.nil_append, Bool.cond_not, cond_true, cond_false, Bool.cond_decide, nI_add, nI_clamp, xin_n, dle_e, dlt_e, deq_e, xb_0, xb_1, decide_true, decide_false, Bool.not_true, Bool.not_false, Bool.and_true, Bool.true_and, Bool.and_false, Bool.false_and, Bool.true_or, Bool.false_or, Bool.or_true, Bool.or_false, if_true, if_false, up1_s, n_31, Int32.lt_irrefl, hf1, hf3, hpt, z6, a1, a2, a3, up1_up, t92_162, t92_162_0, t92_162_1]
        · rw [a3]
          have z6 : ¬ lc + dc ≤ 0 := by omega
          simp (disch := omega) only [rt_c, b_some, List.cons_append, List.nil_append, Bool.cond_not, cond_true, cond_false, Bool.cond_decide, nI_add, nI_clamp, xin_n, dle_e, dlt_e, deq_e, xb_0, xb_1, decide_true, decide_false, Bool.not_true, Bool.not_false, Bool.and_true, Bool.true_and, Bool.and_false, Bool.false_and, Bool.true_or, Bool.false_or, Bool.or_true, Bool.or_false, if_true, if_false, up1_s, n_31, Int32.lt_irrefl, hf1, hf3, hpt, z6, a1, a2, up1_up, t92_162, t92_162_0, t92_162_1]
        · rw [a4]
          have z6 : ¬ 0 + dc ≤ 0 := by omega
          simp (disch := omega) only [rt_c, b_some, List.cons_append, List.nil_append, Bool.cond_not, cond_true, cond_false, Bool.cond_decide, nI_add, nI_clamp, xin_n, dle_e, dlt_e, deq_e, xb_0, xb_1, decide_true, decide_false, Bool.not_true, Bool.not_false, Bool.and_true, Bool.true_and, Bool.and_false, Bool.false_and, Bool.true_or, Bool.false_or, Bool.or_true, Bool.or_false, if_true, if_false, up1_s, n_31, Int32.lt_irrefl, hf1, hf3, hpt, z6, a1, a2, a3, up1_up, t92_162, t92_162_0, t92_162_1]
        · rw [a4]
          have z6 : ¬ 0 + dc ≤ 0 := by omega
          simp (disch := omega) only [rt_c, b_some, List.cons_append, List.nil_append, Bool.cond_not, cond_true, cond_false, Bool.cond_decide, nI_add, nI_clamp, xin_n, dle_e, dlt_e, deq_e, xb_0, xb_1, decide_true, decide_false, Bool.not_true, Bool.not_false, Bool.and_true, Bool.true_and, Bool.and_false, Bool.false_and, Bool.true_or, Bool.false_or, Bool.or_true, Bool.or_false, if_true, if_false, up1_s, n_31, Int32.lt_irrefl, hf1, hf3, hpt, z6, a1, a2, a3, up1_up, t92_162, t92_162_0, t92_162_1]
    · rw [k92_r1_14_1]
      rcases hfacts with ⟨z1, rfl, rfl, z4, z5⟩ | ⟨z1, z5⟩
      · rw [z4, z5]
        have y1 : ¬ 7 < 0 := by omega
        simp (disch := omega) only [rt_c, b_some, List.cons_append, List.nil_append, Bool.cond_not, cond_true, cond_false, Bool.cond_decide, nI_add, nI_clamp, xin_n, dle_e, dlt_e, deq_e, xb_0, xb_1, decide_true, decide_false, Bool.not_true, Bool.not_false, Bool.and_true, Bool.true_and, Bool.and_false, Bool.false_and, Bool.true_or, Bool.false_or, Bool.or_true, Bool.or_false, if_true, if_false, up1_s, n_31, Int32.lt_irrefl, hf1, hf3, hpt, z1, y1, Nat.le_refl, Nat.add_zero, up1_up, t92_162, t92_162_0, t92_162_1]
      · rw [z5]
        rcases hsort with ⟨a1, a2, a3⟩ | ⟨a1, a2, a3, a4⟩ | ⟨a1, a2, a3⟩ | ⟨a1, a2, a3, a4⟩ | ⟨a1, a2, a3, a4⟩
        · rw [a3]
          have z6 : ¬ lc + 0 ≤ 0 := by omega
          simp (disch := omega) only [rt_c, b_some, List.cons_append, List.nil_append, Bool.cond_not, cond_true, cond_false, Bool.cond_decide, nI_add, nI_clamp, xin_n, dle_e, dlt_e, deq_e, xb_0, xb_1, decide_true, decide_false, Bool.not_true, Bool.not_false, Bool.and_true, Bool.true_and, Bool.and_false, Bool.false_and, Bool.true_or, Bool.false_or, Bool.or_true, Bool.or_false, if_true, if_false, up1_s, n_31, Int32.lt_irrefl, hf1, hf3, hpt, z6, a1, a2, up1_up, t92_162, t92_162_0, t92_162_1]
        · rw [a4]
          have z6 : ¬ lc + 0 ≤ 0 := by omega
          simp (disch := omega) only [rt_c, b_some, List.cons_append, List.nil_append, Bool.cond_not, cond_true, cond_false, Bool.cond_decide, nI_add, nI_clamp, xin_n, dle_e, dlt_e, deq_e, xb_0, xb_1, decide_true, decide_false, Bool.not_true, Bool.not_false, Bool.and_true, Bool.true_and, Bool.and_false, Bool.false_and, Bool.true_or, Bool.false_or, Bool.or_true, Bool.or_false, if_true, if_false, up1_s, n_31, Int32.lt_irrefl, hf1, hf3, hpt, z6, a1, a2, a3, up1_up, t92_162, t92_162_0, t92_162_1]
        · rw [a3]
          have z6 : ¬ lc + dc ≤ 0 := by omega
          simp (disch := omega) only [rt_c, b_some, List.cons_append, List.nil_append, Bool.cond_not, cond_true, cond_false, Bool.cond_decide, nI_add, nI_clamp, xin_n, dle_e, dlt_e, deq_e, xb_0, xb_1, decide_true, decide_false, Bool.not_true, Bool.not_false, Bool.and_true, Bool.true_and, Bool.and_false, Bool.false_and, Bool.true_or, Bool.false_or, Bool.or_true, Bool.or_false, if_true, if_false, up1_s, n_31, Int32.lt_irrefl, hf1, hf3, hpt, z6, a1, a2, up1_up, t92_162, t92_162_0, t92_162_1]
        · rw [a4]
          have z6 : ¬ 0 + dc ≤ 0 := by omega
          simp (disch := omega) only [rt_c, b_some, List.cons_append, List.nil_append, Bool.cond_not, cond_true, cond_false, Bool.cond_decide, nI_add, nI_clamp, xin_n, dle_e, dlt_e, deq_e, xb_0, xb_1, decide_true, decide_false, Bool.not_true, Bool.not_false, Bool.and_true, Bool.true_and, Bool.and_false, Bool.false_and, Bool.true_or, Bool.false_or, Bool.or_true, Bool.or_false, if_true, if_false, up1_s, n_31, Int32.lt_irrefl, hf1, hf3, hpt, z6, a1, a2, a3, up1_up, t92_162, t92_162_0, t92_162_1]
        · rw [a4]
          have z6 : ¬ 0 + dc ≤ 0 := by omega
          simp (disch := omega) only [rt_c, b_some, List.cons_append, List.nil_append, Bool.cond_not, cond_true, cond_false, Bool.cond_decide, nI_add, nI_clamp, xin_n, dle_e, dlt_e, deq_e, xb_0, xb_1, decide_true, decide_false, Bool.not_true, Bool.not_false, Bool.and_true, Bool.true_and, Bool.and_false, Bool.false_and, Bool.true_or, Bool.false_or, Bool.or_true, Bool.or_false, if_true, if_false, up1_s, n_31, Int32.lt_irrefl, hf1, hf3, hpt, z6, a1, a2, a3, up1_up, t92_162, t92_162_0, t92_162_1]
  · obtain ⟨b1, b2, b3, b4⟩ := hb (by omega)
    have hch : (b p < 48 ∨ 128 ≤ b p) ∨ (58 ≤ b p ∧ b p ≤ 96) ∨ (123 ≤ b p ∧ b p ≤ 127) := by
      have n1 : ¬ (97 ≤ b p ∧ b p ≤ 122) := fun h => by rw [isLt_t.mpr h] at b3; cases b3
      have n2 : ¬ (48 ≤ b p ∧ b p ≤ 57) := fun h => by rw [isDg_t.mpr h] at b4; cases b4
      omega
    rcases hch with hc | hc | hc
    · have c0 : by8 (b p) < nI 97 := by rw [by8_lt b1 (by decide)]; omega
      have c1 : by8 (b p) < nI 48 := by rw [by8_lt b1 (by decide)]; omega
      rcases ho with rfl | ⟨v, rfl⟩
      · rw [k92_r1_14]
        rcases hfacts with ⟨z1, rfl, rfl, z4, z5⟩ | ⟨z1, z5⟩
        · rw [z4, z5]
          have y1 : ¬ 7 < 0 := by omega
          simp (disch := omega) only [rt_c, b_some, List.cons_append, List.nil_append, Bool.cond_not, cond_true, cond_false, Bool.cond_decide, nI_add, nI_clamp, xin_n, dle_e, dlt_e, deq_e, xb_0, xb_1, decide_true, decide_false, Bool.not_true, Bool.not_false, Bool.and_true, Bool.true_and, Bool.and_false, Bool.false_and, Bool.true_or, Bool.false_or, Bool.or_true, Bool.or_false, if_true, if_false, up1_s, n_31, Int32.lt_irrefl, hf1, hf3, hpt, b2, c0, c1, z1, y1, Nat.le_refl, Nat.add_zero, up1_up, t92_162, t92_162_0, t92_162_1]
        · rw [z5]
          rcases hsort with ⟨a1, a2, a3⟩ | ⟨a1, a2, a3, a4⟩ | ⟨a1, a2, a3⟩ | ⟨a1, a2, a3, a4⟩ | ⟨a1, a2, a3, a4⟩
          · rw [a3]
            have z6 : ¬ lc + 0 ≤ 0 := by omega
            simp (disch := omega) only [rt_c, b_some, List.cons_append, List.nil_append, Bool.cond_not, cond_true, cond_false, Bool.cond_decide, nI_add, nI_clamp, xin_n, dle_e, dlt_e, deq_e, xb_0, xb_1, decide_true, decide_false, Bool.not_true, Bool.not_false, Bool.and_true, Bool.true_and, Bool.and_false, Bool.false_and, Bool.true_or, Bool.false_or, Bool.or_true, Bool.or_false, if_true, if_false, up1_s, n_31, Int32.lt_irrefl, hf1, hf3, hpt, b2, c0, c1, z6, a1, a2, up1_up, t92_162, t92_162_0, t92_162_1]
          · rw [a4]
            have z6 : ¬ lc + 0 ≤ 0 := by omega
            simp (disch := omega) only [rt_c, b_some, List.cons_append, List.nil_append, Bool.cond_not, cond_true, cond_false, Bool.cond_decide, nI_add, nI_clamp, xin_n, dle_e, dlt_e, deq_e, xb_0, xb_1, decide_true, decide_false, Bool.not_true, Bool.not_false, Bool.and_true, Bool.true_and, Bool.and_false, Bool.false_and, Bool.true_or, Bool.false_or, Bool.or_true, Bool.or_false, if_true, if_false, up1_s, n_31, Int32.lt_irrefl, hf1, hf3, hpt, b2, c0, c1, z6, a1, a2, a3, up1_up, t92_162, t92_162_0, t92_162_1]
          · rw [a3]
            have z6 : ¬ lc + dc ≤ 0 := by omega
            simp (disch := omega) only [rt_c, b_some, List.cons_append, List.nil_append, Bool.cond_not, cond_true, cond_false, Bool.cond_decide, nI_add, nI_clamp, xin_n, dle_e, dlt_e, deq_e, xb_0, xb_1, decide_true, decide_false, Bool.not_true, Bool.not_false, Bool.and_true, Bool.true_and, Bool.and_false, Bool.false_and, Bool.true_or, Bool.false_or, Bool.or_true, Bool.or_false, if_true, if_false, up1_s, n_31, Int32.lt_irrefl, hf1, hf3, hpt, b2, c0, c1, z6, a1, a2, up1_up, t92_162, t92_162_0, t92_162_1]
          · rw [a4]
            have z6 : ¬ 0 + dc ≤ 0 := by omega
            simp (disch := omega) only [rt_c, b_some, List.cons_append, List.nil_append, Bool.cond_not, cond_true, cond_false, Bool.cond_decide, nI_add, nI_clamp, xin_n, dle_e, dlt_e, deq_e, xb_0, xb_1, decide_true, decide_false, Bool.not_true, Bool.not_false, Bool.and_true, Bool.true_and, Bool.and_false, Bool.false_and, Bool.true_or, Bool.false_or, Bool.or_true, Bool.or_false, if_true, if_false, up1_s, n_31, Int32.lt_irrefl, hf1, hf3, hpt, b2, c0, c1, z6, a1, a2, a3, up1_up, t92_162, t92_162_0, t92_162_1]
          · rw [a4]
            have z6 : ¬ 0 + dc ≤ 0 := by omega
            simp (disch := omega) only [rt_c, b_some, List.cons_append, List.nil_append, Bool.cond_not, cond_true, cond_false, Bool.cond_decide, nI_add, nI_clamp, xin_n, dle_e, dlt_e, deq_e, xb_0, xb_1, decide_true, decide_false, Bool.not_true, Bool.not_false, Bool.and_true, Bool.true_and, Bool.and_false, Bool.false_and, Bool.true_or, Bool.false_or, Bool.or_true, Bool.or_false, if_true, if_false, up1_s, n_31, Int32.lt_irrefl, hf1, hf3, hpt, b2, c0, c1, z6, a1, a2, a3, up1_up, t92_162, t92_162_0, t92_162_1]
      · rw [k92_r1_14_1]
        rcases hfacts with ⟨z1, rfl, rfl, z4, z5⟩ | ⟨z1, z5⟩
        · rw [z4, z5]
          have y1 : ¬ 7 < 0 := by omega
          simp (disch := omega) only [rt_c, b_some, List.cons_append, List.nil_append, Bool.cond_not, cond_true, cond_false, Bool.cond_decide, nI_add, nI_clamp, xin_n, dle_e, dlt_e, deq_e, xb_0, xb_1, decide_true, decide_false, Bool.not_true, Bool.not_false, Bool.and_true, Bool.true_and, Bool.and_false, Bool.false_and, Bool.true_or, Bool.false_or, Bool.or_true, Bool.or_false, if_true, if_false, up1_s, n_31, Int32.lt_irrefl, hf1, hf3, hpt, b2, c0, c1, z1, y1, Nat.le_refl, Nat.add_zero, up1_up, t92_162, t92_162_0, t92_162_1]
        · rw [z5]
          rcases hsort with ⟨a1, a2, a3⟩ | ⟨a1, a2, a3, a4⟩ | ⟨a1, a2, a3⟩ | ⟨a1, a2, a3, a4⟩ | ⟨a1, a2, a3, a4⟩
          · rw [a3]
            have z6 : ¬ lc + 0 ≤ 0 := by omega
            simp (disch := omega) only [rt_c, b_some, List.cons_append, List.nil_append, Bool.cond_not, cond_true, cond_false, Bool.cond_decide, nI_add, nI_clamp, xin_n, dle_e, dlt_e, deq_e, xb_0, xb_1, decide_true, decide_false, Bool.not_true, Bool.not_false, Bool.and_true, Bool.true_and, Bool.and_false, Bool.false_and, Bool.true_or, Bool.false_or, Bool.or_true, Bool.or_false, if_true, if_false, up1_s, n_31, Int32.lt_irrefl, hf1, hf3, hpt, b2, c0, c1, z6, a1, a2, up1_up, t92_162, t92_162_0, t92_162_1]
          · rw [a4]
            have z6 : ¬ lc + 0 ≤ 0 := by omega
            simp (disch := omega) only [rt_c, b_some, List.cons_append, List.nil_append, Bool.cond_not, cond_true, cond_false, Bool.cond_decide, nI_add, nI_clamp, xin_n, dle_e, dlt_e, deq_e, xb_0, xb_1, decide_true, decide_false, Bool.not_true, Bool.not_false, Bool.and_true, Bool.true_and, Bool.and_false, Bool.false_and, Bool.true_or, Bool.false_or, Bool.or_true, Bool.or_false, if_true, if_false, up1_s, n_31, Int32.lt_irrefl, hf1, hf3, hpt, b2, c0, c1, z6, a1, a2, a3, up1_up, t92_162, t92_162_0, t92_162_1]
          · rw [a3]
            have z6 : ¬ lc + dc ≤ 0 := by omega
            simp (disch := omega) only [rt_c, b_some, List.cons_append, List.nil_append, Bool.cond_not, cond_true, cond_false, Bool.cond_decide, nI_add, nI_clamp, xin_n, dle_e, dlt_e, deq_e, xb_0, xb_1, decide_true, decide_false, Bool.not_true, Bool.not_false, Bool.and_true, Bool.true_and, Bool.and_false, Bool.false_and, Bool.true_or, Bool.false_or, Bool.or_true, Bool.or_false, if_true, if_false, up1_s, n_31, Int32.lt_irrefl, hf1, hf3, hpt, b2, c0, c1, z6, a1, a2, up1_up, t92_162, t92_162_0, t92_162_1]
          · rw [a4]
            have z6 : ¬ 0 + dc ≤ 0 := by omega
            simp (disch := omega) only [rt_c, b_some, List.cons_append, List.nil_append, Bool.cond_not, cond_true, cond_false, Bool.cond_decide, nI_add, nI_clamp, xin_n, dle_e, dlt_e, deq_e, xb_0, xb_1, decide_true, decide_false, Bool.not_true, Bool.not_false, Bool.and_true, Bool.true_and, Bool.and_false, Bool.false_and, Bool.true_or, Bool.false_or, Bool.or_true, Bool.or_false, if_true, if_false, up1_s, n_31, Int32.lt_irrefl, hf1, hf3, hpt, b2, c0, c1, z6, a1, a2, a3, up1_up, t92_162, t92_162_0, t92_162_1]
          · rw [a4]
            have z6 : ¬ 0 + dc ≤ 0 := by omega
            simp (disch := omega) only [rt_c, b_some, List.cons_append, List.nil_append, Bool.cond_not, cond_true, cond_false, Bool.cond_decide, nI_add, nI_clamp, xin_n, dle_e, dlt_e, deq_e, xb_0, xb_1, decide_true, decide_false, Bool.not_true, Bool.not_false, Bool.and_true, Bool.true_and, Bool.and_false, Bool.false_and, Bool.true_or, Bool.false_or, Bool.or_true, Bool.or_false, if_true, if_false, up1_s, n_31, Int32.lt_irrefl, hf1, hf3, hpt, b2, c0, c1, z6, a1, a2, a3, up1_up, t92_162, t92_162_0, t92_162_1]
    · have c0 : by8 (b p) < nI 97 := by rw [by8_lt b1 (by decide)]; omega
      have c1 : ¬ by8 (b p) < nI 48 := by rw [by8_lt b1 (by decide)]; omega
      have c2 : nI 57 < by8 (b p) := by rw [by8_gt b1 (by decide)]; omega
      rcases ho with rfl | ⟨v, rfl⟩
      · rw [k92_r1_14]
        rcases hfacts with ⟨z1, rfl, rfl, z4, z5⟩ | ⟨z1, z5⟩
        · rw [z4, z5]
          have y1 : ¬ 7 < 0 := by omega
          simp (disch := omega) only [rt_c, b_some, List.cons_append, List.nil_append, Bool.cond_not, cond_true, cond_false, Bool.cond_decide, nI_add, nI_clamp, xin_n, dle_e, dlt_e, deq_e, xb_0, xb_1, decide_true, decide_false, Bool.not_true, Bool.not_false, Bool.and_true, Bool.true_and, Bool.and_false, Bool.false_and, Bool.true_or, Bool.false_or, Bool.or_true, Bool.or_false, if_true, if_false, up1_s, n_31, Int32.lt_irrefl, hf1, hf3, hpt, b2, c0, c1, c2, z1, y1, Nat.le_refl, Nat.add_zero, up1_up, t92_162, t92_162_0, t92_162_1]
        · rw [z5]
          rcases hsort with ⟨a1, a2, a3⟩ | ⟨a1, a2, a3, a4⟩ | ⟨a1, a2, a3⟩ | ⟨a1, a2, a3, a4⟩ | ⟨a1, a2, a3, a4⟩
          · rw [a3]
            have z6 : ¬ lc + 0 ≤ 0 := by omega
            simp (disch := omega) only [rt_c, b_some, List.cons_append, List.nil_append, Bool.cond_not, cond_true, cond_false, Bool.cond_decide, nI_add, nI_clamp, xin_n, dle_e, dlt_e, deq_e, xb_0, xb_1, decide_true, decide_false, Bool.not_true, Bool.not_false, Bool.and_true, Bool.true_and, Bool.and_false, Bool.false_and, Bool.true_or, Bool.false_or, Bool.or_true, Bool.or_false, if_true, if_false, up1_s, n_31, Int32.lt_irrefl, hf1, hf3, hpt, b2, c0, c1, c2, z6, a1, a2, up1_up, t92_162, t92_162_0, t92_162_1]
          · rw [a4]
            have z6 : ¬ lc + 0 ≤ 0 := by omega
            simp (disch := omega) only [rt_c, b_some, List.cons_append, List.nil_append, Bool.cond_not, cond_true, cond_false, Bool.cond_decide, nI_add, nI_clamp, xin_n, dle_e, dlt_e, deq_e, xb_0, xb_1, decide_true, decide_false, Bool.not_true, Bool.not_false, Bool.and_true, Bool.true_and, Bool.and_false, Bool.false_and, Bool.true_or, Bool.false_or, Bool.or_true, Bool.or_false, if_true, if_false, up1_s, n_31, Int32.lt_irrefl, hf1, hf3, hpt, b2, c0, c1, c2, z6, a1, a2, a3, up1_up, t92_162, t92_162_0, t92_162_1]
          · rw [a3]
            have z6 : ¬ lc + dc ≤ 0 := by omega
            simp (disch := omega) only [rt_c, b_some, List.cons_append, List.nil_append, Bool.cond_not, cond_true, cond_false, Bool.cond_decide, nI_add, nI_clamp, xin_n, dle_e, dlt_e, deq_e, xb_0, xb_1, decide_true, decide_false, Bool.not_true, Bool.not_false, Bool.and_true, Bool.true_and, Bool.and_false, Bool.false_and, Bool.true_or, Bool.false_or, Bool.or_true, Bool.or_false, if_true, if_false, up1_s, n_31, Int32.lt_irrefl, hf1, hf3, hpt, b2, c0, c1, c2, z6, a1, a2, up1_up, t92_162, t92_162_0, t92_162_1]
          · rw [a4]
            have z6 : ¬ 0 + dc ≤ 0 := by omega
            simp (disch := omega) only [rt_c, b_some, List.cons_append, List.nil_append, Bool.cond_not, cond_true, cond_false, Bool.cond_decide, nI_add, nI_clamp, xin_n, dle_e, dlt_e, deq_e, xb_0, xb_1, decide_true, decide_false, Bool.not_true, Bool.not_false, Bool.and_true, Bool.true_and, Bool.and_false, Bool.false_and, Bool.true_or, Bool.false_or, Bool.or_true, Bool.or_false, if_true, if_false, up1_s, n_31, Int32.lt_irrefl, hf1, hf3, hpt, b2, c0, c1, c2, z6, a1, a2, a3, up1_up, t92_162, t92_162_0, t92_162_1]
          · rw [a4]
            have z6 : ¬ 0 + dc ≤ 0 := by omega
            simp (disch := omega) only [rt_c, b_some, List.cons_append, List.nil_append, Bool.cond_not, cond_true, cond_false, Bool.cond_decide, nI_add, nI_clamp, xin_n, dle_e, dlt_e, deq_e, xb_0, xb_1, decide_true, decide_false, Bool.not_true, Bool.not_false, Bool.and_true, Bool.true_and, Bool.and_false, Bool.false_and, Bool.true_or, Bool.false_or, Bool.or_true, Bool.or_false, if_true, if_false, up1_s, n_31, Int32.lt_irrefl, hf1, hf3, hpt, b2, c0, c1, c2, z6, a1, a2, a3, up1_up, t92_162, t92_162_0, t92_162_1]
      · rw [k92_r1_14_1]
        rcases hfacts with ⟨z1, rfl, rfl, z4, z5⟩ | ⟨z1, z5⟩
        · rw [z4, z5]
          have y1 : ¬ 7 < 0 := by omega
          simp (disch := omega) only [rt_c, b_some, List.cons_append, List.nil_append, Bool.cond_not, cond_true, cond_false, Bool.cond_decide, nI_add, nI_clamp, xin_n, dle_e, dlt_e, deq_e, xb_0, xb_1, decide_true, decide_false, Bool.not_true, Bool.not_false, Bool.and_true, Bool.true_and, Bool.and_false, Bool.false_and, Bool.true_or, Bool.false_or, Bool.or_true, Bool.or_false, if_true, if_false, up1_s, n_31, Int32.lt_irrefl, hf1, hf3, hpt, b2, c0, c1, c2, z1, y1, Nat.le_refl, Nat.add_zero, up1_up, t92_162, t92_162_0, t92_162_1]
        · rw [z5]
          rcases hsort with ⟨a1, a2, a3⟩ | ⟨a1, a2, a3, a4⟩ | ⟨a1, a2, a3⟩ | ⟨a1, a2, a3, a4⟩ | ⟨a1, a2, a3, a4⟩
          · rw [a3]
            have z6 : ¬ lc + 0 ≤ 0 := by omega
            simp (disch := omega) only [rt_c, b_some, List.cons_append, List.nil_append, Bool.cond_not, cond_true, cond_false, Bool.cond_decide, nI_add, nI_clamp, xin_n, dle_e, dlt_e, deq_e, xb_0, xb_1, decide_true, decide_false, Bool.not_true, Bool.not_false, Bool.and_true, Bool.true_and, Bool.and_false, Bool.false_and, Bool.true_or, Bool.false_or, Bool.or_true, Bool.or_false, if_true, if_false, up1_s, n_31, Int32.lt_irrefl, hf1, hf3, hpt, b2, c0, c1, c2, z6, a1, a2, up1_up, t92_162, t92_162_0, t92_162_1]
          · rw [a4]
            have z6 : ¬ lc + 0 ≤ 0 := by omega
            simp (disch := omega) only [rt_c, b_some, List.cons_append, List.nil_append, Bool.cond_not, cond_true, cond_false, Bool.cond_decide, nI_add, nI_clamp, xin_n, dle_e, dlt_e, deq_e, xb_0, xb_1, decide_true, decide_false, Bool.not_true, Bool.not_false, Bool.and_true, Bool.true_and, Bool.and_false, Bool.false_and, Bool.true_or, Bool.false_or, Bool.or_true, Bool.or_false, if_true, if_false, up1_s, n_31, Int32.lt_irrefl, hf1, hf3, hpt, b2, c0, c1, c2, z6, a1, a2, a3, up1_up, t92_162, t92_162_0, t92_162_1]
          · rw [a3]
            have z6 : ¬ lc + dc ≤ 0 := by omega
            simp (disch := omega) only [rt_c, b_some, List.cons_append, List.nil_append, Bool.cond_not, cond_true, cond_false, Bool.cond_decide, nI_add, nI_clamp, xin_n, dle_e, dlt_e, deq_e, xb_0, xb_1, decide_true, decide_false, Bool.not_true, Bool.not_false, Bool.and_true, Bool.true_and, Bool.and_false, Bool.false_and, Bool.true_or, Bool.false_or, Bool.or_true, Bool.or_false, if_true, if_false, up1_s, n_31, Int32.lt_irrefl, hf1, hf3, hpt, b2, c0, c1, c2, z6, a1, a2, up1_up, t92_162, t92_162_0, t92_162_1]
          · rw [a4]
            have z6 : ¬ 0 + dc ≤ 0 := by omega
            simp (disch := omega) only [rt_c, b_some, List.cons_append, List.nil_append, Bool.cond_not, cond_true, cond_false, Bool.cond_decide, nI_add, nI_clamp, xin_n, dle_e, dlt_e, deq_e, xb_0, xb_1, decide_true, decide_false, Bool.not_true, Bool.not_false, Bool.and_true, Bool.true_and, Bool.and_false, Bool.false_and, Bool.true_or, Bool.false_or, Bool.or_true, Bool.or_false, if_true, if_false, up1_s, n_31, Int32.lt_irrefl, hf1, hf3, hpt, b2, c0, c1, c2, z6, a1, a2, a3, up1_up, t92_162, t92_162_0, t92_162_1]
          · rw [a4]
            have z6 : ¬ 0 + dc ≤ 0 := by omega
            simp (disch := omega) only [rt_c, b_some, List.cons_append, List.nil_append, Bool.cond_not, cond_true, cond_false, Bool.cond_decide, nI_add, nI_clamp, xin_n, dle_e, dlt_e, deq_e, xb_0, xb_1, decide_true, decide_false, Bool.not_true, Bool.not_false, Bool.and_true, Bool.true_and, Bool.and_false, Bool.false_and, Bool.true_or, Bool.false_or, Bool.or_true, Bool.or_false, if_true, if_false, up1_s, n_31, Int32.lt_irrefl, hf1, hf3, hpt, b2, c0, c1, c2, z6, a1, a2, a3, up1_up, t92_162, t92_162_0, t92_162_1]
    · have c0 : ¬ by8 (b p) < nI 97 := by rw [by8_lt b1 (by decide)]; omega
      have c1 : nI 122 < by8 (b p) := by rw [by8_gt b1 (by decide)]; omega
      have c2 : ¬ by8 (b p) < nI 48 := by rw [by8_lt b1 (by decide)]; omega
      have c3 : nI 57 < by8 (b p) := by rw [by8_gt b1 (by decide)]; omega
      rcases ho with rfl | ⟨v, rfl⟩
      · rw [k92_r1_14]
        rcases hfacts with ⟨z1, rfl, rfl, z4, z5⟩ | ⟨z1, z5⟩
        · rw [z4, z5]
          have y1 : ¬ 7 < 0 := by omega
          simp (disch := omega) only [rt_c, b_some, List.cons_append, List.nil_append, Bool.cond_not, cond_true, cond_false, Bool.cond_decide, nI_add, nI_clamp, xin_n, dle_e, dlt_e, deq_e, xb_0, xb_1, decide_true, decide_false, Bool.not_true, Bool.not_false, Bool.and_true, Bool.true_and, Bool.and_false, Bool.false_and, Bool.true_or, Bool.false_or, Bool.or_true, Bool.or_false, if_true, if_false, up1_s, n_31, Int32.lt_irrefl, hf1, hf3, hpt, b2, c0, c1, c2, c3, z1, y1, Nat.le_refl, Nat.add_zero, up1_up, t92_162, t92_162_0, t92_162_1]
        · rw [z5]
          rcases hsort with ⟨a1, a2, a3⟩ | ⟨a1, a2, a3, a4⟩ | ⟨a1, a2, a3⟩ | ⟨a1, a2, a3, a4⟩ | ⟨a1, a2, a3, a4⟩
          · rw [a3]
            have z6 : ¬ lc + 0 ≤ 0 := by omega
            simp (disch := omega) only [rt_c, b_some, List.cons_append, List.nil_append, Bool.cond_not, cond_true, cond_false, Bool.cond_decide, nI_add, nI_clamp, xin_n, dle_e, dlt_e, deq_e, xb_0, xb_1, decide_true, decide_false, Bool.not_true, Bool.not_false, Bool.and_true, Bool.true_and, Bool.and_false, Bool.false_and, Bool.true_or, Bool.false_or, Bool.or_true, Bool.or_false, if_true, if_false, up1_s, n_31, Int32.lt_irrefl, hf1, hf3, hpt, b2, c0, c1, c2, c3, z6, a1, a2, up1_up, t92_162, t92_162_0, t92_162_1]
          · rw [a4]
            have z6 : ¬ lc + 0 ≤ 0 := by omega
            simp (disch := omega) only [rt_c, b_some, List.cons_append, List.nil_append, Bool.cond_not, cond_true, cond_false, Bool.cond_decide, nI_add, nI_clamp, xin_n, dle_e, dlt_e, deq_e, xb_0, xb_1, decide_true, decide_false, Bool.not_true, Bool.not_false, Bool.and_true, Bool.true_and, Bool.and_false, Bool.false_and, Bool.true_or, Bool.false_or, Bool.or_true, Bool.or_false, if_true, if_false, up1_s, n_31, Int32.lt_irrefl, hf1, hf3, hpt, b2, c0, c1, c2, c3, z6, a1, a2, a3, up1_up, t92_162, t92_162_0, t92_162_1]
          · rw [a3]
            have z6 : ¬ lc + dc ≤ 0 := by omega
            simp (disch := omega) only [rt_c, b_some, List.cons_append, List.nil_append, Bool.cond_not, cond_true, cond_false, Bool.cond_decide, nI_add, nI_clamp, xin_n, dle_e, dlt_e, deq_e, xb_0, xb_1, decide_true, decide_false, Bool.not_true, Bool.not_false, Bool.and_true, Bool.true_and, Bool.and_false, Bool.false_and, Bool.true_or, Bool.false_or, Bool.or_true, Bool.or_false, if_true, if_false, up1_s, n_31, Int32.lt_irrefl, hf1, hf3, hpt, b2, c0, c1, c2, c3, z6, a1, a2, up1_up, t92_162, t92_162_0, t92_162_1]
          · rw [a4]
            have z6 : ¬ 0 + dc ≤ 0 := by omega
            simp (disch := omega) only [rt_c, b_some, List.cons_append, List.nil_append, Bool.cond_not, cond_true, cond_false, Bool.cond_decide, nI_add, nI_clamp, xin_n, dle_e, dlt_e, deq_e, xb_0, xb_1, decide_true, decide_false, Bool.not_true, Bool.not_false, Bool.and_true, Bool.true_and, Bool.and_false, Bool.false_and, Bool.true_or, Bool.false_or, Bool.or_true, Bool.or_false, if_true, if_false, up1_s, n_31, Int32.lt_irrefl, hf1, hf3, hpt, b2, c0, c1, c2, c3, z6, a1, a2, a3, up1_up, t92_162, t92_162_0, t92_162_1]
          · rw [a4]
            have z6 : ¬ 0 + dc ≤ 0 := by omega
            simp (disch := omega) only [rt_c, b_some, List.cons_append, List.nil_append, Bool.cond_not, cond_true, cond_false, Bool.cond_decide, nI_add, nI_clamp, xin_n, dle_e, dlt_e, deq_e, xb_0, xb_1, decide_true, decide_false, Bool.not_true, Bool.not_false, Bool.and_true, Bool.true_and, Bool.and_false, Bool.false_and, Bool.true_or, Bool.false_or, Bool.or_true, Bool.or_false, if_true, if_false, up1_s, n_31, Int32.lt_irrefl, hf1, hf3, hpt, b2, c0, c1, c2, c3, z6, a1, a2, a3, up1_up, t92_162, t92_162_0, t92_162_1]
      · rw [k92_r1_14_1]
        rcases hfacts with ⟨z1, rfl, rfl, z4, z5⟩ | ⟨z1, z5⟩
        · rw [z4, z5]
          have y1 : ¬ 7 < 0 := by omega
          simp (disch := omega) only [rt_c, b_some, List.cons_append, List.nil_append, Bool.cond_not, cond_true, cond_false, Bool.cond_decide, nI_add, nI_clamp, xin_n, dle_e, dlt_e, deq_e, xb_0, xb_1, decide_true, decide_false, Bool.not_true, Bool.not_false, Bool.and_true, Bool.true_and, Bool.and_false, Bool.false_and, Bool.true_or, Bool.false_or, Bool.or_true, Bool.or_false, if_true, if_false, up1_s, n_31, Int32.lt_irrefl, hf1, hf3, hpt, b2, c0, c1, c2, c3, z1, y1, Nat.le_refl, Nat.add_zero, up1_up, t92_162, t92_162_0, t92_162_1]
        · rw [z5]
          rcases hsort with ⟨a1, a2, a3⟩ | ⟨a1, a2, a3, a4⟩ | ⟨a1, a2, a3⟩ | ⟨a1, a2, a3, a4⟩ | ⟨a1, a2, a3, a4⟩
          · rw [a3]
            have z6 : ¬ lc + 0 ≤ 0 := by omega
            simp (disch := omega) only [rt_c, b_some, List.cons_append, List.nil_append, Bool.cond_not, cond_true, cond_false, Bool.cond_decide, nI_add, nI_clamp, xin_n, dle_e, dlt_e, deq_e, xb_0, xb_1, decide_true, decide_false, Bool.not_true, Bool.not_false, Bool.and_true, Bool.true_and, Bool.and_false, Bool.false_and, Bool.true_or, Bool.false_or, Bool.or_true, Bool.or_false, if_true, if_false, up1_s, n_31, Int32.lt_irrefl, hf1, hf3, hpt, b2, c0, c1, c2, c3, z6, a1, a2, up1_up, t92_162, t92_162_0, t92_162_1]
          · rw [a4]
            have z6 : ¬ lc + 0 ≤ 0 := by omega
            simp (disch := omega) only [rt_c, b_some, List.cons_append, List.nil_append, Bool.cond_not, cond_true, cond_false, Bool.cond_decide, nI_add, nI_clamp, xin_n, dle_e, dlt_e, deq_e, xb_0, xb_1, decide_true, decide_false, Bool.not_true, Bool.not_false, Bool.and_true, Bool.true_and, Bool.and_false, Bool.false_and, Bool.true_or, Bool.false_or, Bool.or_true, Bool.or_false, if_true, if_false, up1_s, n_31, Int32.lt_irrefl, hf1, hf3, hpt, b2, c0, c1, c2, c3, z6, a1, a2, a3, up1_up, t92_162, t92_162_0, t92_162_1]
          · rw [a3]
            have z6 : ¬ lc + dc ≤ 0 := by omega
            simp (disch := omega) only [rt_c, b_some, List.cons_append, List.nil_append, Bool.cond_not, cond_true, cond_false, Bool.cond_decide, nI_add, nI_clamp, xin_n, dle_e, dlt_e, deq_e, xb_0, xb_1, decide_true, decide_false, Bool.not_true, Bool.not_false, Bool.and_true, Bool.true_and, Bool.and_false, Bool.false_and, Bool.true_or, Bool.false_or, Bool.or_true, Bool.or_false, if_true, if_false, up1_s, n_31, Int32.lt_irrefl, hf1, hf3, hpt, b2, c0, c1, c2, c3, z6, a1, a2, up1_up, t92_162, t92_162_0, t92_162_1]
          · rw [a4]
            have z6 : ¬ 0 + dc ≤ 0 := by omega
            simp (disch := omega) only [rt_c, b_some, List.cons_append, List.nil_append, Bool.cond_not, cond_true, cond_false, Bool.cond_decide, nI_add, nI_clamp, xin_n, dle_e, dlt_e, deq_e, xb_0, xb_1, decide_true, decide_false, Bool.not_true, Bool.not_false, Bool.and_true, Bool.true_and, Bool.and_false, Bool.false_and, Bool.true_or, Bool.false_or, Bool.or_true, Bool.or_false, if_true, if_false, up1_s, n_31, Int32.lt_irrefl, hf1, hf3, hpt, b2, c0, c1, c2, c3, z6, a1, a2, a3, up1_up, t92_162, t92_162_0, t92_162_1]
          · rw [a4]
            have z6 : ¬ 0 + dc ≤ 0 := by omega
            simp (disch := omega) only [rt_c, b_some, List.cons_append, List.nil_append, Bool.cond_not, cond_true, cond_false, Bool.cond_decide, nI_add, nI_clamp, xin_n, dle_e, dlt_e, deq_e, xb_0, xb_1, decide_true, decide_false, Bool.not_true, Bool.not_false, Bool.and_true, Bool.true_and, Bool.and_false, Bool.false_and, Bool.true_or, Bool.false_or, Bool.or_true, Bool.or_false, if_true, if_false, up1_s, n_31, Int32.lt_irrefl, hf1, hf3, hpt, b2, c0, c1, c2, c3, z6, a1, a2, a3, up1_up, t92_162, t92_162_0, t92_162_1]
end CLT
