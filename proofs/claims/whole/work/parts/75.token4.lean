/-! ONE TOKEN ON BOTH SIDES -/
/-- sort κ of the class (0 end, 1 none, 2 word v, 3 name s, 4 number v, 5 mark v) -/
def TkK (κ v : Nat) (s : List Nat) (f : Nat → Int32) (lt : Int64) (tw : Option Nat) (J : Nat → Int32) (w : Int64) : Prop := f 4 = nI κ ∧
  ((κ = 0 ∧ tw = none ∧ J 7 = nI 0) ∨ (κ = 1 ∧ tw = none ∧ J 7 = nI 1) ∨ (κ = 2 ∧ tw = some (1000000 + v) ∧ J 7 = nI 2 ∧ v ≤ 20 ∧ w = lN (p27 (wl v))) ∨ (κ = 3 ∧ tw = none ∧ J 7 = nI 2 ∧ Lts s ∧ (∀ k, k ≤ 20 → s ≠ wl k) ∧ lt = lN (p256 s) ∧ w = lN (p27 s)) ∨ (κ = 4 ∧ tw = none ∧ J 7 = nI 3 ∧ v < 1000 ∧ f 8 = nI v ∧ J 8 = nI v) ∨ (κ = 5 ∧ tw = none ∧ J 7 = nI 4 ∧ isMk v = true ∧ v < 128 ∧ f 8 = nI v ∧ J 9 = nI v))
def Tk (t L n κ v : Nat) (s : List Nat) (f : Nat → Int32) (lt : Int64) (tw : Option Nat) (J : Nat → Int32) (w : Int64) : Prop :=
  ∃ p q, p ≤ q ∧ q ≤ t ∧ f 1 = nI t ∧ J 3 = nI t ∧ f 2 = nI L ∧ J 4 = nI L ∧ f 3 = nI q ∧ J 5 = nI q ∧ f 5 = nI p ∧ J 6 = nI p ∧ (κ = 1 ∨ n ≤ p) ∧ (1 < κ → p < q) ∧ TkK κ v s f lt tw J w
section RFU
variable (d sl : Nat) (I : Nat → Int32) (w : Int64) (A : Nat → Nat → Int32) (N : Nat → Nat → Int64) {t L : Nat} (b : Nat → Nat)
theorem c174_skip (ht : t ≤ 940) (hb : ∀ k, k < t → b k < 256 ∧ A 1 k = nI (b k)) {r : Nat} (hr : r ≤ t) : ∀ (n q : Nat) (J : Nat → Int32), q + n = r → J 3 = nI t → J 5 = nI q → (∀ k, q ≤ k → k < r → b k = 32 ∨ b k = 10) → ∃ J', rt 174 (R (d + 1) 174 (0, [some (.ref 0), none, none, none, none], [], sl, RH J w A N)) = rt 174 (R (d + 1) 174 (0, [some (.ref 0), none, none, none, none], [], sl, RH J' w A N)) ∧ J' 5 = nI r ∧ ∀ k, k ≠ 5 → J' k = J k := by
  intro n
  induction n with
  | zero => exact fun q J hq j3 j5 _ => ⟨J, rfl, by rw [j5]; congr 1, fun _ _ => rfl⟩
  | succ n ih =>
    intro q J hq j3 j5 hbl
    obtain ⟨J', x1, x2, x3⟩ := ih (q + 1) (up1 J 5 (nI (q + 1))) (by omega) (by rw [up1_n (by decide)]; exact j3) up1_s (fun k k1 k2 => hbl k (by omega) k2)
    refine ⟨J', ?_, x2, fun k k1 => by rw [x3 k k1, up1_n k1]⟩
    rw [← x1, m174_0]
    have hbq := hb q (by omega)
    have h1 : ¬ t ≤ q := by omega
    rcases hbl q (by omega) (by omega) with h | h
    · have hA : A 1 q = nI 32 := by rw [hbq.2, h]
      simp (disch := omega) only [rt_c, b_some, List.cons_append, List.nil_append, Bool.cond_not, cond_true, cond_false, Bool.cond_decide, nI_add, nI_clamp, xin_n, dle_e, dlt_e, deq_e, xb_0, xb_1, decide_true, decide_false, Bool.not_true, Bool.not_false, Bool.and_true, Bool.true_and, Bool.and_false, Bool.false_and, Bool.true_or, Bool.false_or, Bool.or_true, Bool.or_false, if_true, if_false, up1_s, n_31, Int32.lt_irrefl, j3, j5, h1, hA]
    · have hA : A 1 q = nI 10 := by rw [hbq.2, h]
      simp (disch := omega) only [rt_c, b_some, List.cons_append, List.nil_append, Bool.cond_not, cond_true, cond_false, Bool.cond_decide, nI_add, nI_clamp, xin_n, dle_e, dlt_e, deq_e, xb_0, xb_1, decide_true, decide_false, Bool.not_true, Bool.not_false, Bool.and_true, Bool.true_and, Bool.and_false, Bool.false_and, Bool.true_or, Bool.false_or, Bool.or_true, Bool.or_false, if_true, if_false, up1_s, n_31, Int32.lt_irrefl, j3, j5, h1, hA, Nat.reduceEqDiff]
theorem c174_lim {r : Nat} (ht : t ≤ 940) (hL : L ≤ 940) (hb : ∀ k, k < t → b k < 256 ∧ A 1 k = nI (b k)) (hr : r ≤ t) (hnb : r < t → b r ≠ 32 ∧ b r ≠ 10) (J : Nat → Int32) (j3 : J 3 = nI t) (j4 : J 4 = nI L) (j5 : J 5 = nI r) (h1 : L < t) (h2 : L ≤ r) : rt 174 (R (d + 1) 174 (0, [some (.ref 0), none, none, none, none], [], sl, RH J w A N)) = some ([], sl, RH (up1 (up1 J 6 (nI L)) 7 (nI 1)) w A N) := by
  have g1 : ¬ t ≤ L := by omega
  have g2 : ¬ r < L := by omega
  rw [m174_0]
  by_cases hp : r < t
  · have hbq := hb r hp
    have hbc := hbq.1
    have h3 : ¬ t ≤ r := by omega
    have h4 := (hnb hp).1
    have h5 := (hnb hp).2
    simp (disch := omega) only [rt_c, b_some, List.cons_append, List.nil_append, Bool.cond_not, cond_true, cond_false, Bool.cond_decide, nI_add, nI_clamp, xin_n, dle_e, dlt_e, deq_e, xb_0, xb_1, decide_true, decide_false, Bool.not_true, Bool.not_false, Bool.and_true, Bool.true_and, Bool.and_false, Bool.false_and, Bool.true_or, Bool.false_or, Bool.or_true, Bool.or_false, if_true, if_false, up1_s, n_31, Int32.lt_irrefl, j3, j4, j5, g1, g2, h3, h4, h5, hbq.2, t174_95, t174_112, t174_197, t174_393]
  · have h3 : t ≤ r := by omega
    simp (disch := omega) only [rt_c, b_some, List.cons_append, List.nil_append, Bool.cond_not, cond_true, cond_false, Bool.cond_decide, nI_add, nI_clamp, xin_n, dle_e, dlt_e, deq_e, xb_0, xb_1, decide_true, decide_false, Bool.not_true, Bool.not_false, Bool.and_true, Bool.true_and, Bool.and_false, Bool.false_and, Bool.true_or, Bool.false_or, Bool.or_true, Bool.or_false, if_true, if_false, up1_s, n_31, Int32.lt_irrefl, j3, j4, j5, g1, g2, h3, t174_95, t174_112, t174_197, t174_393]
theorem c174_fin (ht : t ≤ 940) (hL : L ≤ 940) (J : Nat → Int32) (j3 : J 3 = nI t) (j4 : J 4 = nI L) (j5 : J 5 = nI t) (h1 : t ≤ L) : rt 174 (R (d + 1) 174 (0, [some (.ref 0), none, none, none, none], [], sl, RH J w A N)) = some ([], sl, RH (up1 (up1 J 6 (nI t)) 7 (nI 0)) w A N) := by
  rw [m174_0]
  simp (disch := omega) only [rt_c, b_some, List.cons_append, List.nil_append, Bool.cond_not, cond_true, cond_false, Bool.cond_decide, nI_add, nI_clamp, xin_n, dle_e, dlt_e, deq_e, xb_0, xb_1, decide_true, decide_false, Bool.not_true, Bool.not_false, Bool.and_true, Bool.true_and, Bool.and_false, Bool.false_and, Bool.true_or, Bool.false_or, Bool.or_true, Bool.or_false, if_true, if_false, up1_s, n_31, Int32.lt_irrefl, j3, j4, j5, Nat.le_refl, Nat.lt_irrefl, h1, t174_95, t174_112, t174_197, t174_393]
/-- at a byte that is no blank -/
theorem c174_at {r : Nat} (ht : t ≤ 940) (hL : L ≤ 940) (hb : ∀ k, k < t → b k < 256 ∧ A 1 k = nI (b k)) (hr : r < t) (hnb : b r ≠ 32 ∧ b r ≠ 10) (J : Nat → Int32) (j3 : J 3 = nI t) (j4 : J 4 = nI L) (j5 : J 5 = nI r) (h1 : t ≤ L ∨ r < L) : rt 174 (R (d + 1) 174 (0, [some (.ref 0), none, none, none, none], [], sl, RH J w A N)) = rt 174 (R (d + 1) 174 (127, [some (.ref 0), some (.int (nI (b r))), none, none, none], [.int (x_b (isLt (b r)))], sl, RH (up1 J 6 (nI r)) w A N)) := by
  have hbq := hb r hr
  have hbc := hbq.1
  have h3 : ¬ t ≤ r := by omega
  have h4 := hnb.1
  have h5 := hnb.2
  have h173 := c173 d sl (up1 J 6 (nI r)) w A N hbq.1
  rw [m174_0]
  by_cases hT : t ≤ L
  · simp (disch := omega) only [rt_c, b_some, List.cons_append, List.nil_append, Bool.cond_not, cond_true, cond_false, Bool.cond_decide, nI_add, nI_clamp, xin_n, dle_e, dlt_e, deq_e, xb_0, xb_1, decide_true, decide_false, Bool.not_true, Bool.not_false, Bool.and_true, Bool.true_and, Bool.and_false, Bool.false_and, Bool.true_or, Bool.false_or, Bool.or_true, Bool.or_false, if_true, if_false, up1_s, n_31, Int32.lt_irrefl, j3, j4, j5, hT, hr, h3, h4, h5, hbq.2, h173]
  · have h6 : r < L := by omega
    simp (disch := omega) only [rt_c, b_some, List.cons_append, List.nil_append, Bool.cond_not, cond_true, cond_false, Bool.cond_decide, nI_add, nI_clamp, xin_n, dle_e, dlt_e, deq_e, xb_0, xb_1, decide_true, decide_false, Bool.not_true, Bool.not_false, Bool.and_true, Bool.true_and, Bool.and_false, Bool.false_and, Bool.true_or, Bool.false_or, Bool.or_true, Bool.or_false, if_true, if_false, up1_s, n_31, Int32.lt_irrefl, j3, j4, j5, hT, h6, hr, h3, h4, h5, hbq.2, h173]
theorem c174_run {r e : Nat} (hre : r < e) (he : e ≤ t) (ht : t ≤ 940) (hL : L ≤ 940) (hb : ∀ k, k < t → b k < 256 ∧ A 1 k = nI (b k)) (hrun : ∀ k, r ≤ k → k < e → isLt (b k) = true ∨ isDg (b k) = true) (hend : e < t → isLt (b e) = false ∧ isDg (b e) = false) (J : Nat → Int32) (j3 : J 3 = nI t) (j4 : J 4 = nI L) (j5 : J 5 = nI r) (h1 : t ≤ L ∨ r < L) : ∃ good J' w', rt 174 (R (d + 1) 174 (0, [some (.ref 0), none, none, none, none], [], sl, RH J w A N)) = some ([], sl, RH (up1 J' 7 (nI (kndN (isLt (b r)) good (e - r)))) w' A N) ∧ J' 5 = nI e ∧ J' 6 = nI r ∧ InvR b r (e - r) (isLt (b r)) good J' w' ∧ ∀ k, k ≠ 5 → k ≠ 6 → k ≠ 8 → J' k = J k := by
  have hk := hrun r (by omega) hre
  have hnb : b r ≠ 32 ∧ b r ≠ 10 := by
    rcases hk with h | h
    · have := isLt_t.mp h; omega
    · have := isDg_t.mp h; omega
  have hbc := (hb r (by omega)).1
  obtain ⟨good, J', w', x1, x2, x3, x4⟩ := c174_loop d sl A N b (r := r) (e := e) he ht hb hrun hend (nI (b r)) (isLt (b r)) (e - r) 0 true (up1 (up1 J 6 (nI r)) 8 (nI 0)) (Int64.ofNat 0) none (Or.inl rfl) (by omega) (by rw [up1_n (by decide), up1_n (by decide)]; exact j3) (by rw [up1_n (by decide), up1_n (by decide)]; exact j5) (by rw [up1_n (by decide), up1_s]) ⟨⟨fun _ j hj => by omega, fun _ => rfl⟩, fun _ _ => rfl, fun _ _ => up1_s⟩
  refine ⟨good, J', w', ?_, x2, by rw [x4 6 (by decide) (by decide), up1_n (by decide), up1_s], x3, fun k k1 k2 k3 => by rw [x4 k k1 k3, up1_n k3, up1_n k2]⟩
  rw [c174_at d sl w A N b ht hL hb (by omega) hnb J j3 j4 j5 h1, ← x1]
  have h173 := c173 d sl (up1 J 6 (nI r)) w A N hbc
  have h172 := c172 d sl (up1 J 6 (nI r)) w A N hbc
  rw [m174_127]
  cases hl : isLt (b r) with
  | true =>
    rw [hl] at h173
    simp (disch := omega) only [rt_c, b_some, List.cons_append, List.nil_append, Bool.cond_not, cond_true, cond_false, Bool.cond_decide, nI_add, nI_clamp, xin_n, dle_e, dlt_e, deq_e, xb_0, xb_1, decide_true, decide_false, Bool.not_true, Bool.not_false, Bool.and_true, Bool.true_and, Bool.and_false, Bool.false_and, Bool.true_or, Bool.false_or, Bool.or_true, Bool.or_false, if_true, if_false, up1_s, n_31, Int32.lt_irrefl, xb_t, Nat.one_ne_zero, h173, m174_202]
  | false =>
    rw [hl] at h173
    have hd : isDg (b r) = true := by
      rcases hk with h | h
      · rw [hl] at h; cases h
      · exact h
    rw [hd] at h172
    simp (disch := omega) only [rt_c, b_some, List.cons_append, List.nil_append, Bool.cond_not, cond_true, cond_false, Bool.cond_decide, nI_add, nI_clamp, xin_n, dle_e, dlt_e, deq_e, xb_0, xb_1, decide_true, decide_false, Bool.not_true, Bool.not_false, Bool.and_true, Bool.true_and, Bool.and_false, Bool.false_and, Bool.true_or, Bool.false_or, Bool.or_true, Bool.or_false, if_true, if_false, up1_s, n_31, Int32.lt_irrefl, xb_t, xb_f, Nat.one_ne_zero, h172, m174_134, h173, m174_202]
theorem c174_mark {r : Nat} (hr : r < t) (ht : t ≤ 940) (hL : L ≤ 940) (hb : ∀ k, k < t → b k < 256 ∧ A 1 k = nI (b k)) (hnb : b r ≠ 32 ∧ b r ≠ 10) (n1 : isLt (b r) = false) (n2 : isDg (b r) = false) (J : Nat → Int32) (j3 : J 3 = nI t) (j4 : J 4 = nI L) (j5 : J 5 = nI r) (h1 : t ≤ L ∨ r < L) : rt 174 (R (d + 1) 174 (0, [some (.ref 0), none, none, none, none], [], sl, RH J w A N)) = some ([], sl, RH (up1 (up1 (up1 (up1 J 6 (nI r)) 5 (nI (r + 1))) 7 (nI (cond (isMk (b r)) 4 1))) 9 (nI (b r))) w A N) := by
  have hbc := (hb r (by omega)).1
  have j5' : up1 J 6 (nI r) 5 = nI r := by rw [up1_n (by decide)]; exact j5
  have h172 := c172 d sl (up1 J 6 (nI r)) w A N hbc
  rw [n2] at h172
  rw [c174_at d sl w A N b ht hL hb (by omega) hnb J j3 j4 j5 h1, n1, m174_127]
  simp (disch := omega) only [rt_c, b_some, List.cons_append, List.nil_append, Bool.cond_not, cond_true, cond_false, Bool.cond_decide, nI_add, nI_clamp, xin_n, dle_e, dlt_e, deq_e, xb_0, xb_1, decide_true, decide_false, Bool.not_true, Bool.not_false, Bool.and_true, Bool.true_and, Bool.and_false, Bool.false_and, Bool.true_or, Bool.false_or, Bool.or_true, Bool.or_false, if_true, if_false, up1_s, n_31, Int32.lt_irrefl, xb_f, h172, m174_134, j5']
  rcases (show b r = 59 ∨ b r = 60 ∨ b r = 61 ∨ b r = 62 ∨ b r = 40 ∨ b r = 41 ∨ (b r ≠ 59 ∧ b r ≠ 60 ∧ b r ≠ 61 ∧ b r ≠ 62 ∧ b r ≠ 40 ∧ b r ≠ 41) by omega) with h | h | h | h | h | h | ⟨a1, a2, a3, a4, a5, a6⟩
  · rw [h, show isMk _ = true by decide]
    simp (disch := omega) only [rt_c, b_some, List.cons_append, List.nil_append, Bool.cond_not, cond_true, cond_false, Bool.cond_decide, nI_add, nI_clamp, xin_n, dle_e, dlt_e, deq_e, xb_0, xb_1, decide_true, decide_false, Bool.not_true, Bool.not_false, Bool.and_true, Bool.true_and, Bool.and_false, Bool.false_and, Bool.true_or, Bool.false_or, Bool.or_true, Bool.or_false, if_true, if_false, up1_s, n_31, Int32.lt_irrefl, Nat.reduceEqDiff, t174_95, t174_112, t174_197, t174_393]
  · rw [h, show isMk _ = true by decide]
    simp (disch := omega) only [rt_c, b_some, List.cons_append, List.nil_append, Bool.cond_not, cond_true, cond_false, Bool.cond_decide, nI_add, nI_clamp, xin_n, dle_e, dlt_e, deq_e, xb_0, xb_1, decide_true, decide_false, Bool.not_true, Bool.not_false, Bool.and_true, Bool.true_and, Bool.and_false, Bool.false_and, Bool.true_or, Bool.false_or, Bool.or_true, Bool.or_false, if_true, if_false, up1_s, n_31, Int32.lt_irrefl, Nat.reduceEqDiff, t174_95, t174_112, t174_197, t174_393]
  · rw [h, show isMk _ = true by decide]
    simp (disch := omega) only [rt_c, b_some, List.cons_append, List.nil_append, Bool.cond_not, cond_true, cond_false, Bool.cond_decide, nI_add, nI_clamp, xin_n, dle_e, dlt_e, deq_e, xb_0, xb_1, decide_true, decide_false, Bool.not_true, Bool.not_false, Bool.and_true, Bool.true_and, Bool.and_false, Bool.false_and, Bool.true_or, Bool.false_or, Bool.or_true, Bool.or_false, if_true, if_false, up1_s, n_31, Int32.lt_irrefl, Nat.reduceEqDiff, t174_95, t174_112, t174_197, t174_393]
  · rw [h, show isMk _ = true by decide]
    simp (disch := omega) only [rt_c, b_some, List.cons_append, List.nil_append, Bool.cond_not, cond_true, cond_false, Bool.cond_decide, nI_add, nI_clamp, xin_n, dle_e, dlt_e, deq_e, xb_0, xb_1, decide_true, decide_false, Bool.not_true, Bool.not_false, Bool.and_true, Bool.true_and, Bool.and_false, Bool.false_and, Bool.true_or, Bool.false_or, Bool.or_true, Bool.or_false, if_true, if_false, up1_s, n_31, Int32.lt_irrefl, Nat.reduceEqDiff, t174_95, t174_112, t174_197, t174_393]
  · rw [h, show isMk _ = true by decide]
    simp (disch := omega) only [rt_c, b_some, List.cons_append, List.nil_append, Bool.cond_not, cond_true, cond_false, Bool.cond_decide, nI_add, nI_clamp, xin_n, dle_e, dlt_e, deq_e, xb_0, xb_1, decide_true, decide_false, Bool.not_true, Bool.not_false, Bool.and_true, Bool.true_and, Bool.and_false, Bool.false_and, Bool.true_or, Bool.false_or, Bool.or_true, Bool.or_false, if_true, if_false, up1_s, n_31, Int32.lt_irrefl, Nat.reduceEqDiff, t174_95, t174_112, t174_197, t174_393]
  · rw [h, show isMk _ = true by decide]
    simp (disch := omega) only [rt_c, b_some, List.cons_append, List.nil_append, Bool.cond_not, cond_true, cond_false, Bool.cond_decide, nI_add, nI_clamp, xin_n, dle_e, dlt_e, deq_e, xb_0, xb_1, decide_true, decide_false, Bool.not_true, Bool.not_false, Bool.and_true, Bool.true_and, Bool.and_false, Bool.false_and, Bool.true_or, Bool.false_or, Bool.or_true, Bool.or_false, if_true, if_false, up1_s, n_31, Int32.lt_irrefl, Nat.reduceEqDiff, t174_95, t174_112, t174_197, t174_393]
  · have hm : isMk (b r) = false := by
      cases hh : isMk (b r) with
      | false => rfl
      | true => have := isMk_t.mp hh; omega
    simp (disch := omega) only [rt_c, b_some, List.cons_append, List.nil_append, Bool.cond_not, cond_true, cond_false, Bool.cond_decide, nI_add, nI_clamp, xin_n, dle_e, dlt_e, deq_e, xb_0, xb_1, decide_true, decide_false, Bool.not_true, Bool.not_false, Bool.and_true, Bool.true_and, Bool.and_false, Bool.false_and, Bool.true_or, Bool.false_or, Bool.or_true, Bool.or_false, if_true, if_false, up1_s, n_31, Int32.lt_irrefl, a1, a2, a3, a4, a5, a6, hm, t174_95, t174_112, t174_197, t174_393]
end RFU
