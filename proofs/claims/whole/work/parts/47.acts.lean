/-! ACTS: rows before and behind -/
theorem upd_s {f : Nat → Int32} {k : Nat} {x : Int32} : upd f k x k = x := by simp [upd]
theorem upd_n {f : Nat → Int32} {k j : Nat} {x : Int32} (h : j ≠ k) : upd f k x j = f j := by simp [upd, h]
/-- what a row of a shire must be -/
def Vd (n : Nat → Int32) (H m : Nat) : Prop :=
  (n 0 = nI H ∧ n 72 = nI m ∧ H ≤ 6 ∧ m ≤ 12) ∧ (∃ g, g ≤ 9 ∧ n 2 = nI g) ∧ (∃ y, 1 ≤ y ∧ y ≤ 30 ∧ n 3 = nI y) ∧
  (∀ h, h < H → ∃ c, c ≤ 6 ∧ n (16 + h) = nI c) ∧ (∀ k, k < m → ∃ a, a < H ∧ n (79 + k) = nI a) ∧ (∀ k, k < m → ∃ b, b < H ∧ n (91 + k) = nI b) ∧
  (∀ k, k < m → n (79 + k) ≠ n (91 + k)) ∧ (∀ k, k < m → ∃ l, l ≤ 9999 ∧ n (103 + k) = nI l) ∧ (∀ k, k < m → ∃ g, g ≤ 999 ∧ n (115 + k) = nI g) ∧
  (∀ k, m ≤ k → k < 12 → n (103 + k) = nI 0) ∧ (∀ h, H ≤ h → h < 6 → n (73 + h) = nI 0)
def wh (n : Nat → Int32) (k : Nat) : Nat := (n (79 + k)).toNatClampNeg
def wm (n : Nat → Int32) (k : Nat) : Nat := (n (91 + k)).toNatClampNeg
theorem Vd_wh {n : Nat → Int32} {H m k : Nat} (h : Vd n H m) (hk : k < m) : n (79 + k) = nI (wh n k) ∧ wh n k < H := by
  obtain ⟨⟨-, -, h6, -⟩, -, -, -, h1, -⟩ := h
  obtain ⟨a, ha, e⟩ := h1 k hk
  unfold wh
  rw [e, nI_clamp (by omega)]
  exact ⟨rfl, ha⟩
theorem Vd_wm {n : Nat → Int32} {H m k : Nat} (h : Vd n H m) (hk : k < m) : n (91 + k) = nI (wm n k) ∧ wm n k < H := by
  obtain ⟨⟨-, -, h6, -⟩, -, -, -, -, h1, -⟩ := h
  obtain ⟨a, ha, e⟩ := h1 k hk
  unfold wm
  rw [e, nI_clamp (by omega)]
  exact ⟨rfl, ha⟩
def mv (n : Nat → Int32) (a b : Nat) (v : Int32) : Nat → Int32 := upd (upd n (73 + a) (n (73 + a) - v)) (73 + b) (upd n (73 + a) (n (73 + a) - v) (73 + b) + v)
def payW (n : Nat → Int32) (k : Nat) (y : Int32) : Int32 := cond (op_ n k) (if y ≤ n (103 + k) then (if y ≤ n (73 + wh n k) then nI 0 else nI 3) else nI 2) (nI 1)
def payN (n : Nat → Int32) (k : Nat) (y : Int32) : Nat → Int32 := upd (upd (mv n (wh n k) (wm n k) y) (103 + k) (mv n (wh n k) (wm n k) y (103 + k) - y)) 71 (upd (mv n (wh n k) (wm n k) y) (103 + k) (mv n (wh n k) (wm n k) y (103 + k) - y) 71 + y)
def borW (n : Nat → Int32) (m g : Nat) (v : Int32) : Int32 := if m = 12 then nI 1 else (if v ≤ n (73 + g) then nI 0 else nI 2)
def borN (n : Nat → Int32) (m h g : Nat) (v : Int32) : Nat → Int32 := upd (upd (upd (upd (upd (mv n g h v) (79 + m) (nI h)) (91 + m) (nI g)) (103 + m) v) (115 + m) (nI 0)) 72 (nI (m + 1))
def selW (n : Nat → Int32) (k h : Nat) : Int32 := cond (op_ n k) (if n (91 + k) = nI h then nI 2 else (if n (79 + k) = nI h then nI 3 else (if n (103 + k) ≤ n (73 + h) then nI 0 else nI 4))) (nI 1)
def selN (n : Nat → Int32) (k h : Nat) : Nat → Int32 := upd (mv n h (wm n k) (n (103 + k))) (91 + k) (nI h)
def forW (n : Nat → Int32) (k : Nat) : Int32 := cond (op_ n k) (nI 0) (nI 1)
def forN (n : Nat → Int32) (k : Nat) : Nat → Int32 := upd n (103 + k) (nI 0)
def clrW (n : Nat → Int32) (j k : Nat) : Int32 := cond (op_ n j && op_ n k) (if n (79 + j) = n (91 + k) then (if n (91 + j) = n (79 + k) then nI 0 else nI 2) else nI 2) (nI 1)
def clrN (n : Nat → Int32) (j k : Nat) : Nat → Int32 := upd (upd n (103 + j) (n (103 + j) - x_min (n (103 + j)) (n (103 + k)))) (103 + k) (upd n (103 + j) (n (103 + j) - x_min (n (103 + j)) (n (103 + k))) (103 + k) - x_min (n (103 + j)) (n (103 + k)))
theorem ite_b {p : Prop} [Decidable p] {α : Type} (x y : α) : (if p then x else y) = cond (decide p) x y := by by_cases h : p <;> simp [h]
section RF4
variable (d sl : Nat) (I : Nat → Int32) (w : Int64) (A : Nat → Nat → Int32) (N : Nat → Nat → Int64)
theorem c220 {a b : Nat} (ha : a < 6) (hb : b < 6) (v : Int32) : C d 220 [.ref 0, .int (nI a), .int (nI b), .int v] sl (RH I w A N) = some ([], sl, RH I w (up1 A 2 (mv (A 2) a b v)) N) := by
  rw [e220]
  simp (disch := omega) only [rt_c, b_some, List.cons_append, List.nil_append, Bool.cond_not, cond_true, cond_false, Bool.cond_decide, nI_add, nI_clamp, xin_n, dle_e, dlt_e, deq_e, xb_0, xb_1, decide_true, decide_false, Bool.not_true, Bool.not_false, Bool.and_true, Bool.true_and, Bool.and_false, Bool.false_and, Bool.true_or, Bool.false_or, Bool.or_true, Bool.or_false, if_true, if_false, up1_s, n_31, Int32.lt_irrefl, m220_0, t220_26]
  rfl
theorem c218 {k h : Nat} (hk : k < 12) (hh : h < 6) : C (d + 1) 218 [.ref 0, .int (nI k), .int (nI h)] sl (RH I w A N) = some ([.int (selW (A 2) k h)], sl, RH I w A N) := by
  rw [e218]
  simp (disch := omega) only [rt_c, b_some, List.cons_append, List.nil_append, Bool.cond_not, cond_true, cond_false, Bool.cond_decide, nI_add, nI_clamp, xin_n, dle_e, dlt_e, deq_e, xb_0, xb_1, decide_true, decide_false, Bool.not_true, Bool.not_false, Bool.and_true, Bool.true_and, Bool.and_false, Bool.false_and, Bool.true_or, Bool.false_or, Bool.or_true, Bool.or_false, if_true, if_false, up1_s, n_31, Int32.lt_irrefl, m218_0, m218_5, c198]
  unfold selW
  cases op_ (A 2) k
  · simp (disch := omega) only [rt_c, b_some, List.cons_append, List.nil_append, Bool.cond_not, cond_true, cond_false, Bool.cond_decide, nI_add, nI_clamp, xin_n, dle_e, dlt_e, deq_e, xb_0, xb_1, decide_true, decide_false, Bool.not_true, Bool.not_false, Bool.and_true, Bool.true_and, Bool.and_false, Bool.false_and, Bool.true_or, Bool.false_or, Bool.or_true, Bool.or_false, if_true, if_false, up1_s, n_31, Int32.lt_irrefl, t218_9, t218_70]
  · simp (disch := omega) only [rt_c, b_some, List.cons_append, List.nil_append, Bool.cond_not, cond_true, cond_false, Bool.cond_decide, nI_add, nI_clamp, xin_n, dle_e, dlt_e, deq_e, xb_0, xb_1, decide_true, decide_false, Bool.not_true, Bool.not_false, Bool.and_true, Bool.true_and, Bool.and_false, Bool.false_and, Bool.true_or, Bool.false_or, Bool.or_true, Bool.or_false, if_true, if_false, up1_s, n_31, Int32.lt_irrefl]
    (repeat' split) <;> first | rfl | contradiction | simp (disch := omega) only [rt_c, b_some, List.cons_append, List.nil_append, Bool.cond_not, cond_true, cond_false, Bool.cond_decide, nI_add, nI_clamp, xin_n, dle_e, dlt_e, deq_e, xb_0, xb_1, decide_true, decide_false, Bool.not_true, Bool.not_false, Bool.and_true, Bool.true_and, Bool.and_false, Bool.false_and, Bool.true_or, Bool.false_or, Bool.or_true, Bool.or_false, if_true, if_false, up1_s, n_31, Int32.lt_irrefl, t218_9, t218_70, *]
theorem c219_0 {H m k : Nat} (hV : Vd (A 2) H m) (hk : k < m) (y z : Int32) : C (d + 2) 219 [.ref 0, .int (nI 0), .int (nI k), .int y, .int z] sl (RH I w A N) = some ([.int (payW (A 2) k y)], sl, RH I w A N) := by
  have h1 := Vd_wh hV hk
  have h6 := hV.1.2.2.1
  have h7 := hV.1.2.2.2
  rw [e219]
  simp (disch := omega) only [rt_c, b_some, List.cons_append, List.nil_append, Bool.cond_not, cond_true, cond_false, Bool.cond_decide, nI_add, nI_clamp, xin_n, dle_e, dlt_e, deq_e, xb_0, xb_1, decide_true, decide_false, Bool.not_true, Bool.not_false, Bool.and_true, Bool.true_and, Bool.and_false, Bool.false_and, Bool.true_or, Bool.false_or, Bool.or_true, Bool.or_false, if_true, if_false, up1_s, n_31, Int32.lt_irrefl, m219_0, m219_1_c0, m219_1_c1, m219_1_c2, m219_1_c3, m219_145, m219_32, m219_88, m219_124, m219_131, m219_150, m219_37, m219_130, m219_136, m219_158, c198]
  unfold payW
  cases op_ (A 2) k
  · simp (disch := omega) only [rt_c, b_some, List.cons_append, List.nil_append, Bool.cond_not, cond_true, cond_false, Bool.cond_decide, nI_add, nI_clamp, xin_n, dle_e, dlt_e, deq_e, xb_0, xb_1, decide_true, decide_false, Bool.not_true, Bool.not_false, Bool.and_true, Bool.true_and, Bool.and_false, Bool.false_and, Bool.true_or, Bool.false_or, Bool.or_true, Bool.or_false, if_true, if_false, up1_s, n_31, Int32.lt_irrefl, t219_87, t219_123, t219_130, t219_144, t219_212]
  · simp (disch := omega) only [rt_c, b_some, List.cons_append, List.nil_append, Bool.cond_not, cond_true, cond_false, Bool.cond_decide, nI_add, nI_clamp, xin_n, dle_e, dlt_e, deq_e, xb_0, xb_1, decide_true, decide_false, Bool.not_true, Bool.not_false, Bool.and_true, Bool.true_and, Bool.and_false, Bool.false_and, Bool.true_or, Bool.false_or, Bool.or_true, Bool.or_false, if_true, if_false, up1_s, n_31, Int32.lt_irrefl, h1.1]
    (repeat' split) <;> first | rfl | contradiction | simp (disch := omega) only [rt_c, b_some, List.cons_append, List.nil_append, Bool.cond_not, cond_true, cond_false, Bool.cond_decide, nI_add, nI_clamp, xin_n, dle_e, dlt_e, deq_e, xb_0, xb_1, decide_true, decide_false, Bool.not_true, Bool.not_false, Bool.and_true, Bool.true_and, Bool.and_false, Bool.false_and, Bool.true_or, Bool.false_or, Bool.or_true, Bool.or_false, if_true, if_false, up1_s, n_31, Int32.lt_irrefl, t219_87, t219_123, t219_130, t219_144, t219_212, *]
theorem c219_1 {m g : Nat} (hm : m ≤ 12) (hD : A 2 72 = nI m) (hg : g < 6) (x z : Int32) : C (d + 2) 219 [.ref 0, .int (nI 1), .int x, .int (nI g), .int z] sl (RH I w A N) = some ([.int (borW (A 2) m g z)], sl, RH I w A N) := by
  rw [e219]
  unfold borW
  simp (disch := omega) only [rt_c, b_some, List.cons_append, List.nil_append, Bool.cond_not, cond_true, cond_false, Bool.cond_decide, nI_add, nI_clamp, xin_n, dle_e, dlt_e, deq_e, xb_0, xb_1, decide_true, decide_false, Bool.not_true, Bool.not_false, Bool.and_true, Bool.true_and, Bool.and_false, Bool.false_and, Bool.true_or, Bool.false_or, Bool.or_true, Bool.or_false, if_true, if_false, up1_s, n_31, Int32.lt_irrefl, m219_0, m219_1_c0, m219_1_c1, m219_1_c2, m219_1_c3, m219_145, m219_32, m219_88, m219_124, m219_131, m219_150, m219_37, m219_130, m219_136, m219_158, hD]
  (repeat' split) <;> first | rfl | contradiction | simp (disch := omega) only [rt_c, b_some, List.cons_append, List.nil_append, Bool.cond_not, cond_true, cond_false, Bool.cond_decide, nI_add, nI_clamp, xin_n, dle_e, dlt_e, deq_e, xb_0, xb_1, decide_true, decide_false, Bool.not_true, Bool.not_false, Bool.and_true, Bool.true_and, Bool.and_false, Bool.false_and, Bool.true_or, Bool.false_or, Bool.or_true, Bool.or_false, if_true, if_false, up1_s, n_31, Int32.lt_irrefl, t219_87, t219_123, t219_130, t219_144, t219_212, *]
theorem c219_2 {k h : Nat} (hk : k < 12) (hh : h < 6) (z : Int32) : C (d + 2) 219 [.ref 0, .int (nI 2), .int (nI k), .int (nI h), .int z] sl (RH I w A N) = some ([.int (selW (A 2) k h)], sl, RH I w A N) := by
  rw [e219]
  simp (disch := omega) only [rt_c, b_some, List.cons_append, List.nil_append, Bool.cond_not, cond_true, cond_false, Bool.cond_decide, nI_add, nI_clamp, xin_n, dle_e, dlt_e, deq_e, xb_0, xb_1, decide_true, decide_false, Bool.not_true, Bool.not_false, Bool.and_true, Bool.true_and, Bool.and_false, Bool.false_and, Bool.true_or, Bool.false_or, Bool.or_true, Bool.or_false, if_true, if_false, up1_s, n_31, Int32.lt_irrefl, m219_0, m219_1_c0, m219_1_c1, m219_1_c2, m219_1_c3, m219_145, m219_32, m219_88, m219_124, m219_131, m219_150, m219_37, m219_130, m219_136, m219_158, c218, t219_87, t219_123, t219_130, t219_144, t219_212]
theorem c219_3 {k : Nat} (hk : k < 12) (y z : Int32) : C (d + 2) 219 [.ref 0, .int (nI 3), .int (nI k), .int y, .int z] sl (RH I w A N) = some ([.int (forW (A 2) k)], sl, RH I w A N) := by
  rw [e219]
  simp (disch := omega) only [rt_c, b_some, List.cons_append, List.nil_append, Bool.cond_not, cond_true, cond_false, Bool.cond_decide, nI_add, nI_clamp, xin_n, dle_e, dlt_e, deq_e, xb_0, xb_1, decide_true, decide_false, Bool.not_true, Bool.not_false, Bool.and_true, Bool.true_and, Bool.and_false, Bool.false_and, Bool.true_or, Bool.false_or, Bool.or_true, Bool.or_false, if_true, if_false, up1_s, n_31, Int32.lt_irrefl, m219_0, m219_1_c0, m219_1_c1, m219_1_c2, m219_1_c3, m219_145, m219_32, m219_88, m219_124, m219_131, m219_150, m219_37, m219_130, m219_136, m219_158, c198]
  unfold forW
  cases op_ (A 2) k <;> simp (disch := omega) only [rt_c, b_some, List.cons_append, List.nil_append, Bool.cond_not, cond_true, cond_false, Bool.cond_decide, nI_add, nI_clamp, xin_n, dle_e, dlt_e, deq_e, xb_0, xb_1, decide_true, decide_false, Bool.not_true, Bool.not_false, Bool.and_true, Bool.true_and, Bool.and_false, Bool.false_and, Bool.true_or, Bool.false_or, Bool.or_true, Bool.or_false, if_true, if_false, up1_s, n_31, Int32.lt_irrefl, t219_87, t219_123, t219_130, t219_144, t219_212]
theorem c219_4 {j k : Nat} (hj : j < 12) (hk : k < 12) (z : Int32) : C (d + 2) 219 [.ref 0, .int (nI 4), .int (nI j), .int (nI k), .int z] sl (RH I w A N) = some ([.int (clrW (A 2) j k)], sl, RH I w A N) := by
  rw [e219, m219_0, m219_1_out _ _ _ _ _ _ _ _ _ _ _ (by decide)]
  simp (disch := omega) only [rt_c, b_some, List.cons_append, List.nil_append, Bool.cond_not, cond_true, cond_false, Bool.cond_decide, nI_add, nI_clamp, xin_n, dle_e, dlt_e, deq_e, xb_0, xb_1, decide_true, decide_false, Bool.not_true, Bool.not_false, Bool.and_true, Bool.true_and, Bool.and_false, Bool.false_and, Bool.true_or, Bool.false_or, Bool.or_true, Bool.or_false, if_true, if_false, up1_s, n_31, Int32.lt_irrefl, m219_0, m219_1_c0, m219_1_c1, m219_1_c2, m219_1_c3, m219_145, m219_32, m219_88, m219_124, m219_131, m219_150, m219_37, m219_130, m219_136, m219_158, c198]
  unfold clrW
  cases op_ (A 2) j
  · simp (disch := omega) only [rt_c, b_some, List.cons_append, List.nil_append, Bool.cond_not, cond_true, cond_false, Bool.cond_decide, nI_add, nI_clamp, xin_n, dle_e, dlt_e, deq_e, xb_0, xb_1, decide_true, decide_false, Bool.not_true, Bool.not_false, Bool.and_true, Bool.true_and, Bool.and_false, Bool.false_and, Bool.true_or, Bool.false_or, Bool.or_true, Bool.or_false, if_true, if_false, up1_s, n_31, Int32.lt_irrefl, t219_87, t219_123, t219_130, t219_144, t219_212]
  · simp (disch := omega) only [rt_c, b_some, List.cons_append, List.nil_append, Bool.cond_not, cond_true, cond_false, Bool.cond_decide, nI_add, nI_clamp, xin_n, dle_e, dlt_e, deq_e, xb_0, xb_1, decide_true, decide_false, Bool.not_true, Bool.not_false, Bool.and_true, Bool.true_and, Bool.and_false, Bool.false_and, Bool.true_or, Bool.false_or, Bool.or_true, Bool.or_false, if_true, if_false, up1_s, n_31, Int32.lt_irrefl]
    cases op_ (A 2) k
    · simp (disch := omega) only [rt_c, b_some, List.cons_append, List.nil_append, Bool.cond_not, cond_true, cond_false, Bool.cond_decide, nI_add, nI_clamp, xin_n, dle_e, dlt_e, deq_e, xb_0, xb_1, decide_true, decide_false, Bool.not_true, Bool.not_false, Bool.and_true, Bool.true_and, Bool.and_false, Bool.false_and, Bool.true_or, Bool.false_or, Bool.or_true, Bool.or_false, if_true, if_false, up1_s, n_31, Int32.lt_irrefl, t219_87, t219_123, t219_130, t219_144, t219_212]
    · simp (disch := omega) only [rt_c, b_some, List.cons_append, List.nil_append, Bool.cond_not, cond_true, cond_false, Bool.cond_decide, nI_add, nI_clamp, xin_n, dle_e, dlt_e, deq_e, xb_0, xb_1, decide_true, decide_false, Bool.not_true, Bool.not_false, Bool.and_true, Bool.true_and, Bool.and_false, Bool.false_and, Bool.true_or, Bool.false_or, Bool.or_true, Bool.or_false, if_true, if_false, up1_s, n_31, Int32.lt_irrefl]
      (repeat' split) <;> first | rfl | contradiction | simp (disch := omega) only [rt_c, b_some, List.cons_append, List.nil_append, Bool.cond_not, cond_true, cond_false, Bool.cond_decide, nI_add, nI_clamp, xin_n, dle_e, dlt_e, deq_e, xb_0, xb_1, decide_true, decide_false, Bool.not_true, Bool.not_false, Bool.and_true, Bool.true_and, Bool.and_false, Bool.false_and, Bool.true_or, Bool.false_or, Bool.or_true, Bool.or_false, if_true, if_false, up1_s, n_31, Int32.lt_irrefl, t219_87, t219_123, t219_130, t219_144, t219_212, *]
theorem c221_0 {H m k : Nat} (hV : Vd (A 2) H m) (hk : k < m) (y z : Int32) : C (d + 1) 221 [.ref 0, .int (nI 0), .int (nI k), .int y, .int z] sl (RH I w A N) = some ([], sl, RH I w (up1 A 2 (payN (A 2) k y)) N) := by
  have h1 := Vd_wh hV hk
  have h2 := Vd_wm hV hk
  have h6 := hV.1.2.2.1
  have h7 := hV.1.2.2.2
  rw [e221]
  simp (disch := omega) only [rt_c, b_some, List.cons_append, List.nil_append, Bool.cond_not, cond_true, cond_false, Bool.cond_decide, nI_add, nI_clamp, xin_n, dle_e, dlt_e, deq_e, xb_0, xb_1, decide_true, decide_false, Bool.not_true, Bool.not_false, Bool.and_true, Bool.true_and, Bool.and_false, Bool.false_and, Bool.true_or, Bool.false_or, Bool.or_true, Bool.or_false, if_true, if_false, up1_s, n_31, Int32.lt_irrefl, m221_0, m221_1_c0, m221_1_c1, m221_1_c2, m221_1_c3, m221_199, m221_32, m221_80, m221_154, m221_188, m221_220, m221_55, m221_97, m221_177, h1.1, h2.1, c220 d sl I w A N (show wh (A 2) k < 6 by omega) (show wm (A 2) k < 6 by omega) y, t221_79, t221_153, t221_187, t221_198, t221_250, up1_up]
  rfl
theorem c221_1 {m h g : Nat} (hm : m < 12) (hD : A 2 72 = nI m) (hh : h < 6) (hg : g < 6) (z : Int32) : C (d + 1) 221 [.ref 0, .int (nI 1), .int (nI h), .int (nI g), .int z] sl (RH I w A N) = some ([], sl, RH I w (up1 A 2 (borN (A 2) m h g z)) N) := by
  rw [e221]
  simp (disch := omega) only [rt_c, b_some, List.cons_append, List.nil_append, Bool.cond_not, cond_true, cond_false, Bool.cond_decide, nI_add, nI_clamp, xin_n, dle_e, dlt_e, deq_e, xb_0, xb_1, decide_true, decide_false, Bool.not_true, Bool.not_false, Bool.and_true, Bool.true_and, Bool.and_false, Bool.false_and, Bool.true_or, Bool.false_or, Bool.or_true, Bool.or_false, if_true, if_false, up1_s, n_31, Int32.lt_irrefl, m221_0, m221_1_c0, m221_1_c1, m221_1_c2, m221_1_c3, m221_199, m221_32, m221_80, m221_154, m221_188, m221_220, m221_55, m221_97, m221_177, c220 d sl I w A N hg hh z, hD, t221_79, t221_153, t221_187, t221_198, t221_250, up1_up]
  unfold borN
  have h1 : upd (upd (upd (upd (mv (A 2) g h z) (79 + m) (nI h)) (91 + m) (nI g)) (103 + m) z) (115 + m) (nI 0) 72 = nI m := by
    rw [upd_n (by omega), upd_n (by omega), upd_n (by omega), upd_n (by omega)]
    unfold mv
    rw [upd_n (by omega), upd_n (by omega), hD]
  rw [h1, nI_add]
theorem c221_2 {H m k h : Nat} (hV : Vd (A 2) H m) (hk : k < m) (hh : h < 6) (z : Int32) : C (d + 1) 221 [.ref 0, .int (nI 2), .int (nI k), .int (nI h), .int z] sl (RH I w A N) = some ([], sl, RH I w (up1 A 2 (selN (A 2) k h)) N) := by
  have h2 := Vd_wm hV hk
  have h6 := hV.1.2.2.1
  have h7 := hV.1.2.2.2
  rw [e221]
  simp (disch := omega) only [rt_c, b_some, List.cons_append, List.nil_append, Bool.cond_not, cond_true, cond_false, Bool.cond_decide, nI_add, nI_clamp, xin_n, dle_e, dlt_e, deq_e, xb_0, xb_1, decide_true, decide_false, Bool.not_true, Bool.not_false, Bool.and_true, Bool.true_and, Bool.and_false, Bool.false_and, Bool.true_or, Bool.false_or, Bool.or_true, Bool.or_false, if_true, if_false, up1_s, n_31, Int32.lt_irrefl, m221_0, m221_1_c0, m221_1_c1, m221_1_c2, m221_1_c3, m221_199, m221_32, m221_80, m221_154, m221_188, m221_220, m221_55, m221_97, m221_177, h2.1, c220 d sl I w A N hh (show wm (A 2) k < 6 by omega) (A 2 (103 + k)), t221_79, t221_153, t221_187, t221_198, t221_250, up1_up]
  rfl
theorem c221_3 {k : Nat} (hk : k < 12) (y z : Int32) : C (d + 1) 221 [.ref 0, .int (nI 3), .int (nI k), .int y, .int z] sl (RH I w A N) = some ([], sl, RH I w (up1 A 2 (forN (A 2) k)) N) := by
  rw [e221]
  simp (disch := omega) only [rt_c, b_some, List.cons_append, List.nil_append, Bool.cond_not, cond_true, cond_false, Bool.cond_decide, nI_add, nI_clamp, xin_n, dle_e, dlt_e, deq_e, xb_0, xb_1, decide_true, decide_false, Bool.not_true, Bool.not_false, Bool.and_true, Bool.true_and, Bool.and_false, Bool.false_and, Bool.true_or, Bool.false_or, Bool.or_true, Bool.or_false, if_true, if_false, up1_s, n_31, Int32.lt_irrefl, m221_0, m221_1_c0, m221_1_c1, m221_1_c2, m221_1_c3, m221_199, m221_32, m221_80, m221_154, m221_188, m221_220, m221_55, m221_97, m221_177, t221_79, t221_153, t221_187, t221_198, t221_250]
  rfl
theorem c221_4 {j k : Nat} (hj : j < 12) (hk : k < 12) (z : Int32) : C (d + 1) 221 [.ref 0, .int (nI 4), .int (nI j), .int (nI k), .int z] sl (RH I w A N) = some ([], sl, RH I w (up1 A 2 (clrN (A 2) j k)) N) := by
  rw [e221, m221_0, m221_1_out _ _ _ _ _ _ _ _ _ _ _ (by decide)]
  simp (disch := omega) only [rt_c, b_some, List.cons_append, List.nil_append, Bool.cond_not, cond_true, cond_false, Bool.cond_decide, nI_add, nI_clamp, xin_n, dle_e, dlt_e, deq_e, xb_0, xb_1, decide_true, decide_false, Bool.not_true, Bool.not_false, Bool.and_true, Bool.true_and, Bool.and_false, Bool.false_and, Bool.true_or, Bool.false_or, Bool.or_true, Bool.or_false, if_true, if_false, up1_s, n_31, Int32.lt_irrefl, m221_0, m221_1_c0, m221_1_c1, m221_1_c2, m221_1_c3, m221_199, m221_32, m221_80, m221_154, m221_188, m221_220, m221_55, m221_97, m221_177, c169, t221_79, t221_153, t221_187, t221_198, t221_250]
  rfl
end RF4
/-- nothing but the shire at a is otherwise -/
def Fr (a : Nat) (I : Nat → Nat → Int32) (A : Nat → Nat → Int32) (I' : Nat → Nat → Int32) (A' : Nat → Nat → Int32) : Prop := (∀ p, p ≠ a → I' p = I p) ∧ (∀ q, (q < a + 2 ∨ a + 8 < q) → A' q = A q)
theorem Fr_rf {a : Nat} {I : Nat → Nat → Int32} {A : Nat → Nat → Int32} : Fr a I A I A := ⟨fun _ _ => rfl, fun _ _ => rfl⟩
theorem Fr_tr {a : Nat} {I I1 I2 : Nat → Nat → Int32} {A A1 A2 : Nat → Nat → Int32} (h : Fr a I A I1 A1) (h2 : Fr a I1 A1 I2 A2) : Fr a I A I2 A2 := ⟨fun p hp => (h2.1 p hp).trans (h.1 p hp), fun q hq => (h2.2 q hq).trans (h.2 q hq)⟩
section CL4
variable (d sl : Nat) (I : Nat → Nat → Int32) (A : Nat → Nat → Int32) (N : Nat → Nat → Int64) (V : Nat → Nat → Option Nat) (lt : Int64) (tw : Option Nat) (sp sr : Nat) (X : List AC) {n : Nat → Int32} {H m : Nat}
theorem q75_3 {p q : Nat} (hp : p < 6) (hq : q < 6) (v : Int32) : C d 75 [.ref 3, .int (nI p), .int (nI q), .int v] sl (CH I A N V lt tw sp sr X) = some ([], sl, CH I (up1 A 5 (upd (upd (A 5) p (A 5 p - v)) q (upd (A 5) p (A 5 p - v) q + v))) N V lt tw sp sr X) := by
  rw [e75]
  simp (disch := omega) only [rt_c, b_some, List.cons_append, List.nil_append, Bool.cond_not, cond_true, cond_false, Bool.cond_decide, nI_add, nI_clamp, xin_n, dle_e, dlt_e, deq_e, xb_0, xb_1, decide_true, decide_false, Bool.not_true, Bool.not_false, Bool.and_true, Bool.true_and, Bool.and_false, Bool.false_and, Bool.true_or, Bool.false_or, Bool.or_true, Bool.or_false, if_true, if_false, up1_s, n_31, Int32.lt_irrefl, k75_r3_0, t75_20]
theorem q49_3 {m : Nat} (hm : m < 12) (hD : I 3 9 = nI m) (x y z v : Int32) : C d 49 [.ref 3, .int x, .int y, .int z, .int v] sl (CH I A N V lt tw sp sr X) = some ([], sl, CH (up1 I 3 (up1 (I 3) 9 (nI (m + 1)))) (up1 (up1 (up1 (up1 A 8 (upd (A 8) m x)) 9 (upd (A 9) m y)) 10 (upd (A 10) m z)) 11 (upd (A 11) m v)) N V lt tw sp sr X) := by
  have h1 : ¬ 12 ≤ m := by omega
  rw [e49]
  simp (disch := omega) only [rt_c, b_some, List.cons_append, List.nil_append, Bool.cond_not, cond_true, cond_false, Bool.cond_decide, nI_add, nI_clamp, xin_n, dle_e, dlt_e, deq_e, xb_0, xb_1, decide_true, decide_false, Bool.not_true, Bool.not_false, Bool.and_true, Bool.true_and, Bool.and_false, Bool.false_and, Bool.true_or, Bool.false_or, Bool.or_true, Bool.or_false, if_true, if_false, up1_s, n_31, Int32.lt_irrefl, k49_r3_0, hD, h1, t49_60]
theorem q70_3 (hS : Sh I A 3 n H m) (hV : Vd n H m) {k : Nat} (hk : k < m) (y : Int32) : ∃ I' A', C (d + 2) 70 [.ref 3, .int (nI k), .int y] sl (CH I A N V lt tw sp sr X) = some ([.int (payW n k y)], sl, CH I' A' N V lt tw sp sr X) ∧ Sh I' A' 3 (if payW n k y = nI 0 then payN n k y else n) H m ∧ Fr 3 I A I' A' := by
  have h50 := q50_3 (d + 1) sl I A N V lt tw sp sr X hS hk
  have h1 := Vd_wh hV hk
  have h2 := Vd_wm hV hk
  have h1' := h1.2
  have h2' := h2.2
  have hS0 := hS
  obtain ⟨⟨hH, hD, hH6, hm⟩, ⟨hg1, hg2, hy, hp⟩, hC, hIn, hCh, hW, hT, hL, hG⟩ := sh_3 hS
  rw [e70, k70_r3_0, h50]
  simp (disch := omega) only [rt_c, b_some, List.cons_append, List.nil_append, Bool.cond_not, cond_true, cond_false, Bool.cond_decide, nI_add, nI_clamp, xin_n, dle_e, dlt_e, deq_e, xb_0, xb_1, decide_true, decide_false, Bool.not_true, Bool.not_false, Bool.and_true, Bool.true_and, Bool.and_false, Bool.false_and, Bool.true_or, Bool.false_or, Bool.or_true, Bool.or_false, if_true, if_false, up1_s, n_31, Int32.lt_irrefl, k70_r3_5]
  cases ho : op_ n k with
  | false =>
    have h3 : payW n k y = nI 1 := by unfold payW; rw [ho]; rfl
    exact ⟨I, A, by rw [h3]; simp (disch := omega) only [rt_c, b_some, List.cons_append, List.nil_append, Bool.cond_not, cond_true, cond_false, Bool.cond_decide, nI_add, nI_clamp, xin_n, dle_e, dlt_e, deq_e, xb_0, xb_1, decide_true, decide_false, Bool.not_true, Bool.not_false, Bool.and_true, Bool.true_and, Bool.and_false, Bool.false_and, Bool.true_or, Bool.false_or, Bool.or_true, Bool.or_false, if_true, if_false, up1_s, n_31, Int32.lt_irrefl, t70_9, t70_21, t70_38, t70_77], by rw [h3, if_neg (by decide)]; exact hS0, Fr_rf⟩
  | true =>
    simp (disch := omega) only [rt_c, b_some, List.cons_append, List.nil_append, Bool.cond_not, cond_true, cond_false, Bool.cond_decide, nI_add, nI_clamp, xin_n, dle_e, dlt_e, deq_e, xb_0, xb_1, decide_true, decide_false, Bool.not_true, Bool.not_false, Bool.and_true, Bool.true_and, Bool.and_false, Bool.false_and, Bool.true_or, Bool.false_or, Bool.or_true, Bool.or_false, if_true, if_false, up1_s, n_31, Int32.lt_irrefl, hL, hW, hT, h1.1, h2.1, hC]
    by_cases h4 : y ≤ n (103 + k)
    · by_cases h5 : y ≤ n (73 + wh n k)
      · have h3 : payW n k y = nI 0 := by unfold payW; rw [ho, if_pos h4, if_pos h5]; rfl
        rw [h3, if_pos rfl]
        refine ⟨up1 I 3 (up1 (I 3) 13 (I 3 13 + y)), up1 (up1 A 10 (upd (A 10) k (A 10 k - y))) 5 (upd (upd (A 5) (wh n k) (A 5 (wh n k) - y)) (wm n k) (upd (A 5) (wh n k) (A 5 (wh n k) - y) (wm n k) + y)), ?_, ?_, ?_⟩
        · simp (disch := omega) only [rt_c, b_some, List.cons_append, List.nil_append, Bool.cond_not, cond_true, cond_false, Bool.cond_decide, nI_add, nI_clamp, xin_n, dle_e, dlt_e, deq_e, xb_0, xb_1, decide_true, decide_false, Bool.not_true, Bool.not_false, Bool.and_true, Bool.true_and, Bool.and_false, Bool.false_and, Bool.true_or, Bool.false_or, Bool.or_true, Bool.or_false, if_true, if_false, up1_s, n_31, Int32.lt_irrefl, h4, h5, q75_3 _ _ _ _ _ _ _ _ _ _ _ (show wh n k < 6 by omega) (show wm n k < 6 by omega) y, k70_r3_66, t70_9, t70_21, t70_38, t70_77, hL, hC, up1_n]
        · refine ⟨⟨?_, ?_, hH6, hm⟩, ⟨?_, ?_, ?_, ?_⟩, ?_, ?_, ?_, ?_, ?_, ?_, ?_⟩
          all_goals (try intro h hh)
          all_goals simp (disch := omega) only [up1, upd, Nat.add_left_cancel_iff, if_neg, if_pos, if_true, if_false, payN, mv, hH, hD, hg1, hg2, hy, hp, hC, hIn, hCh, hW, hT, hL, hG]
        · refine ⟨fun p hp => ?_, fun q hq => ?_⟩ <;> simp (disch := omega) only [up1, upd, Nat.add_left_cancel_iff, if_neg, if_pos, if_true, if_false]
      · have h3 : payW n k y = nI 3 := by unfold payW; rw [ho, if_pos h4, if_neg h5]; rfl
        exact ⟨I, A, by rw [h3]; simp (disch := omega) only [rt_c, b_some, List.cons_append, List.nil_append, Bool.cond_not, cond_true, cond_false, Bool.cond_decide, nI_add, nI_clamp, xin_n, dle_e, dlt_e, deq_e, xb_0, xb_1, decide_true, decide_false, Bool.not_true, Bool.not_false, Bool.and_true, Bool.true_and, Bool.and_false, Bool.false_and, Bool.true_or, Bool.false_or, Bool.or_true, Bool.or_false, if_true, if_false, up1_s, n_31, Int32.lt_irrefl, h4, h5, t70_9, t70_21, t70_38, t70_77], by rw [h3, if_neg (by decide)]; exact hS0, Fr_rf⟩
    · have h3 : payW n k y = nI 2 := by unfold payW; rw [ho, if_neg h4]; rfl
      exact ⟨I, A, by rw [h3]; simp (disch := omega) only [rt_c, b_some, List.cons_append, List.nil_append, Bool.cond_not, cond_true, cond_false, Bool.cond_decide, nI_add, nI_clamp, xin_n, dle_e, dlt_e, deq_e, xb_0, xb_1, decide_true, decide_false, Bool.not_true, Bool.not_false, Bool.and_true, Bool.true_and, Bool.and_false, Bool.false_and, Bool.true_or, Bool.false_or, Bool.or_true, Bool.or_false, if_true, if_false, up1_s, n_31, Int32.lt_irrefl, h4, t70_9, t70_21, t70_38, t70_77], by rw [h3, if_neg (by decide)]; exact hS0, Fr_rf⟩
theorem q71_3 (hS : Sh I A 3 n H m) {h g : Nat} (hh : h < H) (hg : g < H) (v : Int32) : ∃ I' A', C (d + 2) 71 [.ref 3, .int (nI h), .int (nI g), .int v] sl (CH I A N V lt tw sp sr X) = some ([.int (borW n m g v)], sl, CH I' A' N V lt tw sp sr X) ∧ Sh I' A' 3 (if borW n m g v = nI 0 then borN n m h g v else n) H (if borW n m g v = nI 0 then m + 1 else m) ∧ Fr 3 I A I' A' := by
  have hS0 := hS
  obtain ⟨⟨hH, hD, hH6, hm⟩, ⟨hg1, hg2, hy, hp⟩, hC, hIn, hCh, hW, hT, hL, hG⟩ := sh_3 hS
  rw [e71, k71_r3_0, hD]
  by_cases h12 : m = 12
  · have h3 : borW n m g v = nI 1 := by unfold borW; rw [if_pos h12]
    have h13 : ¬ m < 12 := by omega
    exact ⟨I, A, by rw [h3]; simp (disch := omega) only [rt_c, b_some, List.cons_append, List.nil_append, Bool.cond_not, cond_true, cond_false, Bool.cond_decide, nI_add, nI_clamp, xin_n, dle_e, dlt_e, deq_e, xb_0, xb_1, decide_true, decide_false, Bool.not_true, Bool.not_false, Bool.and_true, Bool.true_and, Bool.and_false, Bool.false_and, Bool.true_or, Bool.false_or, Bool.or_true, Bool.or_false, if_true, if_false, up1_s, n_31, Int32.lt_irrefl, h13, t71_10, t71_22, t71_39], by rw [h3, if_neg (by decide), if_neg (by decide)]; exact hS0, Fr_rf⟩
  · have h13 : m < 12 := by omega
    by_cases h4 : v ≤ n (73 + g)
    · have h3 : borW n m g v = nI 0 := by unfold borW; rw [if_neg h12, if_pos h4]
      rw [h3, if_pos rfl, if_pos rfl]
      refine ⟨up1 I 3 (up1 (I 3) 9 (nI (m + 1))), up1 (up1 (up1 (up1 (up1 A 5 (upd (upd (A 5) g (A 5 g - v)) h (upd (A 5) g (A 5 g - v) h + v))) 8 (upd (A 8) m (nI h))) 9 (upd (A 9) m (nI g))) 10 (upd (A 10) m v)) 11 (upd (A 11) m (nI 0)), ?_, ?_, ?_⟩
      · simp (disch := omega) only [rt_c, b_some, List.cons_append, List.nil_append, Bool.cond_not, cond_true, cond_false, Bool.cond_decide, nI_add, nI_clamp, xin_n, dle_e, dlt_e, deq_e, xb_0, xb_1, decide_true, decide_false, Bool.not_true, Bool.not_false, Bool.and_true, Bool.true_and, Bool.and_false, Bool.false_and, Bool.true_or, Bool.false_or, Bool.or_true, Bool.or_false, if_true, if_false, up1_s, n_31, Int32.lt_irrefl, h13, hC, h4, q75_3 _ _ _ _ _ _ _ _ _ _ _ (show g < 6 by omega) (show h < 6 by omega) v, k71_r3_30, q49_3 _ _ _ _ _ _ _ _ _ _ _ h13 hD, k71_r3_38, t71_10, t71_22, t71_39, up1_n]
      · refine ⟨⟨?_, ?_, hH6, h13⟩, ⟨?_, ?_, ?_, ?_⟩, fun k hk => ?_, fun k hk => ?_, fun k hk => ?_, fun k hk => ?_, fun k hk => ?_, fun k hk => ?_, fun k hk => ?_⟩
        · simp (disch := omega) only [up1, upd, Nat.add_left_cancel_iff, if_neg, if_pos, if_true, if_false, hH]
        · simp (disch := omega) only [up1, upd, Nat.add_left_cancel_iff, if_neg, if_pos, if_true, if_false]
        · simp (disch := omega) only [up1, upd, Nat.add_left_cancel_iff, if_neg, if_pos, if_true, if_false, borN, mv, hg1]
        · simp (disch := omega) only [up1, upd, Nat.add_left_cancel_iff, if_neg, if_pos, if_true, if_false, borN, mv, hg2]
        · simp (disch := omega) only [up1, upd, Nat.add_left_cancel_iff, if_neg, if_pos, if_true, if_false, borN, mv, hy]
        · simp (disch := omega) only [up1, upd, Nat.add_left_cancel_iff, if_neg, if_pos, if_true, if_false, borN, mv, hp]
        · simp (disch := omega) only [up1, upd, Nat.add_left_cancel_iff, if_neg, if_pos, if_true, if_false, borN, mv, hC]
        · simp (disch := omega) only [up1, upd, Nat.add_left_cancel_iff, if_neg, if_pos, if_true, if_false, borN, mv, hIn]
        · simp (disch := omega) only [up1, upd, Nat.add_left_cancel_iff, if_neg, if_pos, if_true, if_false, borN, mv, hCh]
        · simp (disch := omega) only [up1, upd, Nat.add_left_cancel_iff, if_neg, if_pos, if_true, if_false, borN, mv]
          by_cases h9 : k = m
          · rw [if_pos h9, if_pos h9]
          · rw [if_neg h9, if_neg h9, hW k (by omega)]
        · simp (disch := omega) only [up1, upd, Nat.add_left_cancel_iff, if_neg, if_pos, if_true, if_false, borN, mv]
          by_cases h9 : k = m
          · rw [if_pos h9, if_pos h9]
          · rw [if_neg h9, if_neg h9, hT k (by omega)]
        · simp (disch := omega) only [up1, upd, Nat.add_left_cancel_iff, if_neg, if_pos, if_true, if_false, borN, mv]
          by_cases h9 : k = m
          · rw [if_pos h9, if_pos h9]
          · rw [if_neg h9, if_neg h9, hL k (by omega)]
        · simp (disch := omega) only [up1, upd, Nat.add_left_cancel_iff, if_neg, if_pos, if_true, if_false, borN, mv]
          by_cases h9 : k = m
          · rw [if_pos h9, if_pos h9]
          · rw [if_neg h9, if_neg h9, hG k (by omega)]
      · refine ⟨fun p hp => ?_, fun q hq => ?_⟩ <;> simp (disch := omega) only [up1, upd, Nat.add_left_cancel_iff, if_neg, if_pos, if_true, if_false]
    · have h3 : borW n m g v = nI 2 := by unfold borW; rw [if_neg h12, if_neg h4]
      exact ⟨I, A, by rw [h3]; simp (disch := omega) only [rt_c, b_some, List.cons_append, List.nil_append, Bool.cond_not, cond_true, cond_false, Bool.cond_decide, nI_add, nI_clamp, xin_n, dle_e, dlt_e, deq_e, xb_0, xb_1, decide_true, decide_false, Bool.not_true, Bool.not_false, Bool.and_true, Bool.true_and, Bool.and_false, Bool.false_and, Bool.true_or, Bool.false_or, Bool.or_true, Bool.or_false, if_true, if_false, up1_s, n_31, Int32.lt_irrefl, h13, hC, h4, t71_10, t71_22, t71_39], by rw [h3, if_neg (by decide), if_neg (by decide)]; exact hS0, Fr_rf⟩
theorem q72_3 (hS : Sh I A 3 n H m) (hV : Vd n H m) {k h : Nat} (hk : k < m) (hh : h < H) : ∃ I' A', C (d + 2) 72 [.ref 3, .int (nI k), .int (nI h)] sl (CH I A N V lt tw sp sr X) = some ([.int (selW n k h)], sl, CH I' A' N V lt tw sp sr X) ∧ Sh I' A' 3 (if selW n k h = nI 0 then selN n k h else n) H m ∧ Fr 3 I A I' A' := by
  have h50 := q50_3 (d + 1) sl I A N V lt tw sp sr X hS hk
  have h2 := Vd_wm hV hk
  have h2' := h2.2
  have hS0 := hS
  obtain ⟨⟨hH, hD, hH6, hm⟩, ⟨hg1, hg2, hy, hp⟩, hC, hIn, hCh, hW, hT, hL, hG⟩ := sh_3 hS
  rw [e72, k72_r3_0, h50]
  simp (disch := omega) only [rt_c, b_some, List.cons_append, List.nil_append, Bool.cond_not, cond_true, cond_false, Bool.cond_decide, nI_add, nI_clamp, xin_n, dle_e, dlt_e, deq_e, xb_0, xb_1, decide_true, decide_false, Bool.not_true, Bool.not_false, Bool.and_true, Bool.true_and, Bool.and_false, Bool.false_and, Bool.true_or, Bool.false_or, Bool.or_true, Bool.or_false, if_true, if_false, up1_s, n_31, Int32.lt_irrefl, k72_r3_5]
  cases ho : op_ n k with
  | false =>
    have h3 : selW n k h = nI 1 := by unfold selW; rw [ho]; rfl
    exact ⟨I, A, by rw [h3]; simp (disch := omega) only [rt_c, b_some, List.cons_append, List.nil_append, Bool.cond_not, cond_true, cond_false, Bool.cond_decide, nI_add, nI_clamp, xin_n, dle_e, dlt_e, deq_e, xb_0, xb_1, decide_true, decide_false, Bool.not_true, Bool.not_false, Bool.and_true, Bool.true_and, Bool.and_false, Bool.false_and, Bool.true_or, Bool.false_or, Bool.or_true, Bool.or_false, if_true, if_false, up1_s, n_31, Int32.lt_irrefl, t72_9, t72_21, t72_33, t72_50, t72_76], by rw [h3, if_neg (by decide)]; exact hS0, Fr_rf⟩
  | true =>
    by_cases h4 : n (91 + k) = nI h
    · have h3 : selW n k h = nI 2 := by unfold selW; rw [ho, if_pos h4]; rfl
      exact ⟨I, A, by rw [h3]; simp (disch := omega) only [rt_c, b_some, List.cons_append, List.nil_append, Bool.cond_not, cond_true, cond_false, Bool.cond_decide, nI_add, nI_clamp, xin_n, dle_e, dlt_e, deq_e, xb_0, xb_1, decide_true, decide_false, Bool.not_true, Bool.not_false, Bool.and_true, Bool.true_and, Bool.and_false, Bool.false_and, Bool.true_or, Bool.false_or, Bool.or_true, Bool.or_false, if_true, if_false, up1_s, n_31, Int32.lt_irrefl, hT, h4, t72_9, t72_21, t72_33, t72_50, t72_76], by rw [h3, if_neg (by decide)]; exact hS0, Fr_rf⟩
    · by_cases h5 : n (79 + k) = nI h
      · have h3 : selW n k h = nI 3 := by unfold selW; rw [ho, if_neg h4, if_pos h5]; rfl
        exact ⟨I, A, by rw [h3]; simp (disch := omega) only [rt_c, b_some, List.cons_append, List.nil_append, Bool.cond_not, cond_true, cond_false, Bool.cond_decide, nI_add, nI_clamp, xin_n, dle_e, dlt_e, deq_e, xb_0, xb_1, decide_true, decide_false, Bool.not_true, Bool.not_false, Bool.and_true, Bool.true_and, Bool.and_false, Bool.false_and, Bool.true_or, Bool.false_or, Bool.or_true, Bool.or_false, if_true, if_false, up1_s, n_31, Int32.lt_irrefl, hT, h4, hW, h5, t72_9, t72_21, t72_33, t72_50, t72_76], by rw [h3, if_neg (by decide)]; exact hS0, Fr_rf⟩
      · by_cases h6 : n (103 + k) ≤ n (73 + h)
        · have h3 : selW n k h = nI 0 := by unfold selW; rw [ho, if_neg h4, if_neg h5, if_pos h6]; rfl
          rw [h3, if_pos rfl]
          refine ⟨I, up1 (up1 A 5 (upd (upd (A 5) h (A 5 h - n (103 + k))) (wm n k) (upd (A 5) h (A 5 h - n (103 + k)) (wm n k) + n (103 + k)))) 9 (upd (A 9) k (nI h)), ?_, ?_, ?_⟩
          · rw [h2.1] at h4
            simp (disch := omega) only [rt_c, b_some, List.cons_append, List.nil_append, Bool.cond_not, cond_true, cond_false, Bool.cond_decide, nI_add, nI_clamp, xin_n, dle_e, dlt_e, deq_e, xb_0, xb_1, decide_true, decide_false, Bool.not_true, Bool.not_false, Bool.and_true, Bool.true_and, Bool.and_false, Bool.false_and, Bool.true_or, Bool.false_or, Bool.or_true, Bool.or_false, if_true, if_false, up1_s, n_31, Int32.lt_irrefl, hT, h2.1, h4, hW, h5, hL, hC, h6, q75_3 _ _ _ _ _ _ _ _ _ _ _ (show h < 6 by omega) (show wm n k < 6 by omega) (n (103 + k)), k72_r3_68, t72_9, t72_21, t72_33, t72_50, t72_76, up1_n]
          · refine ⟨⟨?_, ?_, hH6, hm⟩, ⟨?_, ?_, ?_, ?_⟩, ?_, ?_, ?_, ?_, ?_, ?_, ?_⟩
            all_goals (try intro h hh)
            all_goals simp (disch := omega) only [up1, upd, Nat.add_left_cancel_iff, if_neg, if_pos, if_true, if_false, selN, mv, hH, hD, hg1, hg2, hy, hp, hC, hIn, hCh, hW, hT, hL, hG]
          · refine ⟨fun p hp => rfl, fun q hq => ?_⟩
            simp (disch := omega) only [up1, upd, Nat.add_left_cancel_iff, if_neg, if_pos, if_true, if_false]
        · have h3 : selW n k h = nI 4 := by unfold selW; rw [ho, if_neg h4, if_neg h5, if_neg h6]; rfl
          exact ⟨I, A, by rw [h3]; simp (disch := omega) only [rt_c, b_some, List.cons_append, List.nil_append, Bool.cond_not, cond_true, cond_false, Bool.cond_decide, nI_add, nI_clamp, xin_n, dle_e, dlt_e, deq_e, xb_0, xb_1, decide_true, decide_false, Bool.not_true, Bool.not_false, Bool.and_true, Bool.true_and, Bool.and_false, Bool.false_and, Bool.true_or, Bool.false_or, Bool.or_true, Bool.or_false, if_true, if_false, up1_s, n_31, Int32.lt_irrefl, hT, h4, hW, h5, hL, hC, h6, t72_9, t72_21, t72_33, t72_50, t72_76], by rw [h3, if_neg (by decide)]; exact hS0, Fr_rf⟩
theorem q73_3 (hS : Sh I A 3 n H m) {k : Nat} (hk : k < m) : ∃ I' A', C (d + 2) 73 [.ref 3, .int (nI k)] sl (CH I A N V lt tw sp sr X) = some ([.int (forW n k)], sl, CH I' A' N V lt tw sp sr X) ∧ Sh I' A' 3 (if forW n k = nI 0 then forN n k else n) H m ∧ Fr 3 I A I' A' := by
  have h50 := q50_3 (d + 1) sl I A N V lt tw sp sr X hS hk
  have hS0 := hS
  obtain ⟨⟨hH, hD, hH6, hm⟩, ⟨hg1, hg2, hy, hp⟩, hC, hIn, hCh, hW, hT, hL, hG⟩ := sh_3 hS
  rw [e73, k73_r3_0, h50]
  simp (disch := omega) only [rt_c, b_some, List.cons_append, List.nil_append, Bool.cond_not, cond_true, cond_false, Bool.cond_decide, nI_add, nI_clamp, xin_n, dle_e, dlt_e, deq_e, xb_0, xb_1, decide_true, decide_false, Bool.not_true, Bool.not_false, Bool.and_true, Bool.true_and, Bool.and_false, Bool.false_and, Bool.true_or, Bool.false_or, Bool.or_true, Bool.or_false, if_true, if_false, up1_s, n_31, Int32.lt_irrefl, k73_r3_5]
  cases ho : op_ n k with
  | false =>
    have h3 : forW n k = nI 1 := by unfold forW; rw [ho]; rfl
    exact ⟨I, A, by rw [h3]; simp (disch := omega) only [rt_c, b_some, List.cons_append, List.nil_append, Bool.cond_not, cond_true, cond_false, Bool.cond_decide, nI_add, nI_clamp, xin_n, dle_e, dlt_e, deq_e, xb_0, xb_1, decide_true, decide_false, Bool.not_true, Bool.not_false, Bool.and_true, Bool.true_and, Bool.and_false, Bool.false_and, Bool.true_or, Bool.false_or, Bool.or_true, Bool.or_false, if_true, if_false, up1_s, n_31, Int32.lt_irrefl, t73_9, t73_18], by rw [h3, if_neg (by decide)]; exact hS0, Fr_rf⟩
  | true =>
    have h3 : forW n k = nI 0 := by unfold forW; rw [ho]; rfl
    rw [h3, if_pos rfl]
    refine ⟨I, up1 A 10 (upd (A 10) k (nI 0)), ?_, ?_, ?_⟩
    · simp (disch := omega) only [rt_c, b_some, List.cons_append, List.nil_append, Bool.cond_not, cond_true, cond_false, Bool.cond_decide, nI_add, nI_clamp, xin_n, dle_e, dlt_e, deq_e, xb_0, xb_1, decide_true, decide_false, Bool.not_true, Bool.not_false, Bool.and_true, Bool.true_and, Bool.and_false, Bool.false_and, Bool.true_or, Bool.false_or, Bool.or_true, Bool.or_false, if_true, if_false, up1_s, n_31, Int32.lt_irrefl, t73_9, t73_18]
    · refine ⟨⟨?_, ?_, hH6, hm⟩, ⟨?_, ?_, ?_, ?_⟩, ?_, ?_, ?_, ?_, ?_, ?_, ?_⟩
      all_goals (try intro h hh)
      all_goals simp (disch := omega) only [up1, upd, Nat.add_left_cancel_iff, if_neg, if_pos, if_true, if_false, forN, hH, hD, hg1, hg2, hy, hp, hC, hIn, hCh, hW, hT, hL, hG]
    · refine ⟨fun p hp => rfl, fun q hq => ?_⟩
      simp (disch := omega) only [up1, upd, Nat.add_left_cancel_iff, if_neg, if_pos, if_true, if_false]
theorem q74_3 (hS : Sh I A 3 n H m) {j k : Nat} (hj : j < m) (hk : k < m) : ∃ I' A', C (d + 2) 74 [.ref 3, .int (nI j), .int (nI k)] sl (CH I A N V lt tw sp sr X) = some ([.int (clrW n j k)], sl, CH I' A' N V lt tw sp sr X) ∧ Sh I' A' 3 (if clrW n j k = nI 0 then clrN n j k else n) H m ∧ Fr 3 I A I' A' := by
  have h50 := q50_3 (d + 1) sl I A N V lt tw sp sr X hS hj
  have h50' := q50_3 (d + 1) sl I A N V lt tw sp sr X hS hk
  have hS0 := hS
  obtain ⟨⟨hH, hD, hH6, hm⟩, ⟨hg1, hg2, hy, hp⟩, hC, hIn, hCh, hW, hT, hL, hG⟩ := sh_3 hS
  rw [e74, k74_r3_0, h50]
  simp (disch := omega) only [rt_c, b_some, List.cons_append, List.nil_append, Bool.cond_not, cond_true, cond_false, Bool.cond_decide, nI_add, nI_clamp, xin_n, dle_e, dlt_e, deq_e, xb_0, xb_1, decide_true, decide_false, Bool.not_true, Bool.not_false, Bool.and_true, Bool.true_and, Bool.and_false, Bool.false_and, Bool.true_or, Bool.false_or, Bool.or_true, Bool.or_false, if_true, if_false, up1_s, n_31, Int32.lt_irrefl, k74_r3_5]
  cases ho : op_ n j with
  | false =>
    have h3 : clrW n j k = nI 1 := by unfold clrW; rw [ho]; rfl
    exact ⟨I, A, by rw [h3]; simp (disch := omega) only [rt_c, b_some, List.cons_append, List.nil_append, Bool.cond_not, cond_true, cond_false, Bool.cond_decide, nI_add, nI_clamp, xin_n, dle_e, dlt_e, deq_e, xb_0, xb_1, decide_true, decide_false, Bool.not_true, Bool.not_false, Bool.and_true, Bool.true_and, Bool.and_false, Bool.false_and, Bool.true_or, Bool.false_or, Bool.or_true, Bool.or_false, if_true, if_false, up1_s, n_31, Int32.lt_irrefl, t74_17, t74_49, t74_87], by rw [h3, if_neg (by decide)]; exact hS0, Fr_rf⟩
  | true =>
    simp (disch := omega) only [rt_c, b_some, List.cons_append, List.nil_append, Bool.cond_not, cond_true, cond_false, Bool.cond_decide, nI_add, nI_clamp, xin_n, dle_e, dlt_e, deq_e, xb_0, xb_1, decide_true, decide_false, Bool.not_true, Bool.not_false, Bool.and_true, Bool.true_and, Bool.and_false, Bool.false_and, Bool.true_or, Bool.false_or, Bool.or_true, Bool.or_false, if_true, if_false, up1_s, n_31, Int32.lt_irrefl, h50', k74_r3_13]
    cases ho' : op_ n k with
    | false =>
      have h3 : clrW n j k = nI 1 := by unfold clrW; rw [ho, ho']; rfl
      exact ⟨I, A, by rw [h3]; simp (disch := omega) only [rt_c, b_some, List.cons_append, List.nil_append, Bool.cond_not, cond_true, cond_false, Bool.cond_decide, nI_add, nI_clamp, xin_n, dle_e, dlt_e, deq_e, xb_0, xb_1, decide_true, decide_false, Bool.not_true, Bool.not_false, Bool.and_true, Bool.true_and, Bool.and_false, Bool.false_and, Bool.true_or, Bool.false_or, Bool.or_true, Bool.or_false, if_true, if_false, up1_s, n_31, Int32.lt_irrefl, t74_17, t74_49, t74_87], by rw [h3, if_neg (by decide)]; exact hS0, Fr_rf⟩
    | true =>
      simp (disch := omega) only [rt_c, b_some, List.cons_append, List.nil_append, Bool.cond_not, cond_true, cond_false, Bool.cond_decide, nI_add, nI_clamp, xin_n, dle_e, dlt_e, deq_e, xb_0, xb_1, decide_true, decide_false, Bool.not_true, Bool.not_false, Bool.and_true, Bool.true_and, Bool.and_false, Bool.false_and, Bool.true_or, Bool.false_or, Bool.or_true, Bool.or_false, if_true, if_false, up1_s, n_31, Int32.lt_irrefl, hW, hT]
      by_cases h4 : n (79 + j) = n (91 + k)
      · by_cases h5 : n (91 + j) = n (79 + k)
        · have h3 : clrW n j k = nI 0 := by unfold clrW; rw [ho, ho', if_pos h4, if_pos h5]; rfl
          rw [h3, if_pos rfl]
          have h5' := h5.symm
          refine ⟨I, up1 A 10 (upd (upd (A 10) j (n (103 + j) - x_min (n (103 + j)) (n (103 + k)))) k (upd (A 10) j (n (103 + j) - x_min (n (103 + j)) (n (103 + k))) k - x_min (n (103 + j)) (n (103 + k)))), ?_, ?_, ?_⟩
          · simp (disch := omega) only [rt_c, b_some, List.cons_append, List.nil_append, Bool.cond_not, cond_true, cond_false, Bool.cond_decide, nI_add, nI_clamp, xin_n, dle_e, dlt_e, deq_e, xb_0, xb_1, decide_true, decide_false, Bool.not_true, Bool.not_false, Bool.and_true, Bool.true_and, Bool.and_false, Bool.false_and, Bool.true_or, Bool.false_or, Bool.or_true, Bool.or_false, if_true, if_false, up1_s, n_31, Int32.lt_irrefl, h4, h5', hL, t74_17, t74_49, t74_87]
          · refine ⟨⟨?_, ?_, hH6, hm⟩, ⟨?_, ?_, ?_, ?_⟩, ?_, ?_, ?_, ?_, ?_, ?_, ?_⟩
            all_goals (try intro h hh)
            all_goals simp (disch := omega) only [up1, upd, Nat.add_left_cancel_iff, if_neg, if_pos, if_true, if_false, clrN, hH, hD, hg1, hg2, hy, hp, hC, hIn, hCh, hW, hT, hL, hG]
          · refine ⟨fun p hp => rfl, fun q hq => ?_⟩
            simp (disch := omega) only [up1, upd, Nat.add_left_cancel_iff, if_neg, if_pos, if_true, if_false]
        · have h3 : clrW n j k = nI 2 := by unfold clrW; rw [ho, ho', if_pos h4, if_neg h5]; rfl
          have h5' : ¬ n (79 + k) = n (91 + j) := fun e => h5 e.symm
          exact ⟨I, A, by rw [h3]; simp (disch := omega) only [rt_c, b_some, List.cons_append, List.nil_append, Bool.cond_not, cond_true, cond_false, Bool.cond_decide, nI_add, nI_clamp, xin_n, dle_e, dlt_e, deq_e, xb_0, xb_1, decide_true, decide_false, Bool.not_true, Bool.not_false, Bool.and_true, Bool.true_and, Bool.and_false, Bool.false_and, Bool.true_or, Bool.false_or, Bool.or_true, Bool.or_false, if_true, if_false, up1_s, n_31, Int32.lt_irrefl, h4, h5', t74_17, t74_49, t74_87], by rw [h3, if_neg (by decide)]; exact hS0, Fr_rf⟩
      · have h3 : clrW n j k = nI 2 := by unfold clrW; rw [ho, ho', if_neg h4]; rfl
        exact ⟨I, A, by rw [h3]; simp (disch := omega) only [rt_c, b_some, List.cons_append, List.nil_append, Bool.cond_not, cond_true, cond_false, Bool.cond_decide, nI_add, nI_clamp, xin_n, dle_e, dlt_e, deq_e, xb_0, xb_1, decide_true, decide_false, Bool.not_true, Bool.not_false, Bool.and_true, Bool.true_and, Bool.and_false, Bool.false_and, Bool.true_or, Bool.false_or, Bool.or_true, Bool.or_false, if_true, if_false, up1_s, n_31, Int32.lt_irrefl, h4, t74_17, t74_49, t74_87], by rw [h3, if_neg (by decide)]; exact hS0, Fr_rf⟩
theorem q76_3 (hS : Sh I A 3 n H m) : C d 76 [.ref 3] sl (CH I A N V lt tw sp sr X) = some ([.int (x_max (nI 0) (nI 400 - n 70))], sl, CH I A N V lt tw sp sr X) := by
  obtain ⟨⟨hH, hD, hH6, hm⟩, ⟨hg1, hg2, hy, hp⟩, -⟩ := sh_3 hS
  rw [e76]
  simp (disch := omega) only [rt_c, b_some, List.cons_append, List.nil_append, Bool.cond_not, cond_true, cond_false, Bool.cond_decide, nI_add, nI_clamp, xin_n, dle_e, dlt_e, deq_e, xb_0, xb_1, decide_true, decide_false, Bool.not_true, Bool.not_false, Bool.and_true, Bool.true_and, Bool.and_false, Bool.false_and, Bool.true_or, Bool.false_or, Bool.or_true, Bool.or_false, if_true, if_false, up1_s, n_31, Int32.lt_irrefl, k76_r3_0, hy, t76_12]
theorem q75_12 {p q : Nat} (hp : p < 6) (hq : q < 6) (v : Int32) : C d 75 [.ref 12, .int (nI p), .int (nI q), .int v] sl (CH I A N V lt tw sp sr X) = some ([], sl, CH I (up1 A 14 (upd (upd (A 14) p (A 14 p - v)) q (upd (A 14) p (A 14 p - v) q + v))) N V lt tw sp sr X) := by
  rw [e75]
  simp (disch := omega) only [rt_c, b_some, List.cons_append, List.nil_append, Bool.cond_not, cond_true, cond_false, Bool.cond_decide, nI_add, nI_clamp, xin_n, dle_e, dlt_e, deq_e, xb_0, xb_1, decide_true, decide_false, Bool.not_true, Bool.not_false, Bool.and_true, Bool.true_and, Bool.and_false, Bool.false_and, Bool.true_or, Bool.false_or, Bool.or_true, Bool.or_false, if_true, if_false, up1_s, n_31, Int32.lt_irrefl, k75_r12_0, t75_20]
theorem q49_12 {m : Nat} (hm : m < 12) (hD : I 12 9 = nI m) (x y z v : Int32) : C d 49 [.ref 12, .int x, .int y, .int z, .int v] sl (CH I A N V lt tw sp sr X) = some ([], sl, CH (up1 I 12 (up1 (I 12) 9 (nI (m + 1)))) (up1 (up1 (up1 (up1 A 17 (upd (A 17) m x)) 18 (upd (A 18) m y)) 19 (upd (A 19) m z)) 20 (upd (A 20) m v)) N V lt tw sp sr X) := by
  have h1 : ¬ 12 ≤ m := by omega
  rw [e49]
  simp (disch := omega) only [rt_c, b_some, List.cons_append, List.nil_append, Bool.cond_not, cond_true, cond_false, Bool.cond_decide, nI_add, nI_clamp, xin_n, dle_e, dlt_e, deq_e, xb_0, xb_1, decide_true, decide_false, Bool.not_true, Bool.not_false, Bool.and_true, Bool.true_and, Bool.and_false, Bool.false_and, Bool.true_or, Bool.false_or, Bool.or_true, Bool.or_false, if_true, if_false, up1_s, n_31, Int32.lt_irrefl, k49_r12_0, hD, h1, t49_60]
theorem q70_12 (hS : Sh I A 12 n H m) (hV : Vd n H m) {k : Nat} (hk : k < m) (y : Int32) : ∃ I' A', C (d + 2) 70 [.ref 12, .int (nI k), .int y] sl (CH I A N V lt tw sp sr X) = some ([.int (payW n k y)], sl, CH I' A' N V lt tw sp sr X) ∧ Sh I' A' 12 (if payW n k y = nI 0 then payN n k y else n) H m ∧ Fr 12 I A I' A' := by
  have h50 := q50_12 (d + 1) sl I A N V lt tw sp sr X hS hk
  have h1 := Vd_wh hV hk
  have h2 := Vd_wm hV hk
  have h1' := h1.2
  have h2' := h2.2
  have hS0 := hS
  obtain ⟨⟨hH, hD, hH6, hm⟩, ⟨hg1, hg2, hy, hp⟩, hC, hIn, hCh, hW, hT, hL, hG⟩ := sh_12 hS
  rw [e70, k70_r12_0, h50]
  simp (disch := omega) only [rt_c, b_some, List.cons_append, List.nil_append, Bool.cond_not, cond_true, cond_false, Bool.cond_decide, nI_add, nI_clamp, xin_n, dle_e, dlt_e, deq_e, xb_0, xb_1, decide_true, decide_false, Bool.not_true, Bool.not_false, Bool.and_true, Bool.true_and, Bool.and_false, Bool.false_and, Bool.true_or, Bool.false_or, Bool.or_true, Bool.or_false, if_true, if_false, up1_s, n_31, Int32.lt_irrefl, k70_r12_5]
  cases ho : op_ n k with
  | false =>
    have h3 : payW n k y = nI 1 := by unfold payW; rw [ho]; rfl
    exact ⟨I, A, by rw [h3]; simp (disch := omega) only [rt_c, b_some, List.cons_append, List.nil_append, Bool.cond_not, cond_true, cond_false, Bool.cond_decide, nI_add, nI_clamp, xin_n, dle_e, dlt_e, deq_e, xb_0, xb_1, decide_true, decide_false, Bool.not_true, Bool.not_false, Bool.and_true, Bool.true_and, Bool.and_false, Bool.false_and, Bool.true_or, Bool.false_or, Bool.or_true, Bool.or_false, if_true, if_false, up1_s, n_31, Int32.lt_irrefl, t70_9, t70_21, t70_38, t70_77], by rw [h3, if_neg (by decide)]; exact hS0, Fr_rf⟩
  | true =>
    simp (disch := omega) only [rt_c, b_some, List.cons_append, List.nil_append, Bool.cond_not, cond_true, cond_false, Bool.cond_decide, nI_add, nI_clamp, xin_n, dle_e, dlt_e, deq_e, xb_0, xb_1, decide_true, decide_false, Bool.not_true, Bool.not_false, Bool.and_true, Bool.true_and, Bool.and_false, Bool.false_and, Bool.true_or, Bool.false_or, Bool.or_true, Bool.or_false, if_true, if_false, up1_s, n_31, Int32.lt_irrefl, hL, hW, hT, h1.1, h2.1, hC]
    by_cases h4 : y ≤ n (103 + k)
    · by_cases h5 : y ≤ n (73 + wh n k)
      · have h3 : payW n k y = nI 0 := by unfold payW; rw [ho, if_pos h4, if_pos h5]; rfl
        rw [h3, if_pos rfl]
        refine ⟨up1 I 12 (up1 (I 12) 13 (I 12 13 + y)), up1 (up1 A 19 (upd (A 19) k (A 19 k - y))) 14 (upd (upd (A 14) (wh n k) (A 14 (wh n k) - y)) (wm n k) (upd (A 14) (wh n k) (A 14 (wh n k) - y) (wm n k) + y)), ?_, ?_, ?_⟩
        · simp (disch := omega) only [rt_c, b_some, List.cons_append, List.nil_append, Bool.cond_not, cond_true, cond_false, Bool.cond_decide, nI_add, nI_clamp, xin_n, dle_e, dlt_e, deq_e, xb_0, xb_1, decide_true, decide_false, Bool.not_true, Bool.not_false, Bool.and_true, Bool.true_and, Bool.and_false, Bool.false_and, Bool.true_or, Bool.false_or, Bool.or_true, Bool.or_false, if_true, if_false, up1_s, n_31, Int32.lt_irrefl, h4, h5, q75_12 _ _ _ _ _ _ _ _ _ _ _ (show wh n k < 6 by omega) (show wm n k < 6 by omega) y, k70_r12_66, t70_9, t70_21, t70_38, t70_77, hL, hC, up1_n]
        · refine ⟨⟨?_, ?_, hH6, hm⟩, ⟨?_, ?_, ?_, ?_⟩, ?_, ?_, ?_, ?_, ?_, ?_, ?_⟩
          all_goals (try intro h hh)
          all_goals simp (disch := omega) only [up1, upd, Nat.add_left_cancel_iff, if_neg, if_pos, if_true, if_false, payN, mv, hH, hD, hg1, hg2, hy, hp, hC, hIn, hCh, hW, hT, hL, hG]
        · refine ⟨fun p hp => ?_, fun q hq => ?_⟩ <;> simp (disch := omega) only [up1, upd, Nat.add_left_cancel_iff, if_neg, if_pos, if_true, if_false]
      · have h3 : payW n k y = nI 3 := by unfold payW; rw [ho, if_pos h4, if_neg h5]; rfl
        exact ⟨I, A, by rw [h3]; simp (disch := omega) only [rt_c, b_some, List.cons_append, List.nil_append, Bool.cond_not, cond_true, cond_false, Bool.cond_decide, nI_add, nI_clamp, xin_n, dle_e, dlt_e, deq_e, xb_0, xb_1, decide_true, decide_false, Bool.not_true, Bool.not_false, Bool.and_true, Bool.true_and, Bool.and_false, Bool.false_and, Bool.true_or, Bool.false_or, Bool.or_true, Bool.or_false, if_true, if_false, up1_s, n_31, Int32.lt_irrefl, h4, h5, t70_9, t70_21, t70_38, t70_77], by rw [h3, if_neg (by decide)]; exact hS0, Fr_rf⟩
    · have h3 : payW n k y = nI 2 := by unfold payW; rw [ho, if_neg h4]; rfl
      exact ⟨I, A, by rw [h3]; simp (disch := omega) only [rt_c, b_some, List.cons_append, List.nil_append, Bool.cond_not, cond_true, cond_false, Bool.cond_decide, nI_add, nI_clamp, xin_n, dle_e, dlt_e, deq_e, xb_0, xb_1, decide_true, decide_false, Bool.not_true, Bool.not_false, Bool.and_true, Bool.true_and, Bool.and_false, Bool.false_and, Bool.true_or, Bool.false_or, Bool.or_true, Bool.or_false, if_true, if_false, up1_s, n_31, Int32.lt_irrefl, h4, t70_9, t70_21, t70_38, t70_77], by rw [h3, if_neg (by decide)]; exact hS0, Fr_rf⟩
theorem q71_12 (hS : Sh I A 12 n H m) {h g : Nat} (hh : h < H) (hg : g < H) (v : Int32) : ∃ I' A', C (d + 2) 71 [.ref 12, .int (nI h), .int (nI g), .int v] sl (CH I A N V lt tw sp sr X) = some ([.int (borW n m g v)], sl, CH I' A' N V lt tw sp sr X) ∧ Sh I' A' 12 (if borW n m g v = nI 0 then borN n m h g v else n) H (if borW n m g v = nI 0 then m + 1 else m) ∧ Fr 12 I A I' A' := by
  have hS0 := hS
  obtain ⟨⟨hH, hD, hH6, hm⟩, ⟨hg1, hg2, hy, hp⟩, hC, hIn, hCh, hW, hT, hL, hG⟩ := sh_12 hS
  rw [e71, k71_r12_0, hD]
  by_cases h12 : m = 12
  · have h3 : borW n m g v = nI 1 := by unfold borW; rw [if_pos h12]
    have h13 : ¬ m < 12 := by omega
    exact ⟨I, A, by rw [h3]; simp (disch := omega) only [rt_c, b_some, List.cons_append, List.nil_append, Bool.cond_not, cond_true, cond_false, Bool.cond_decide, nI_add, nI_clamp, xin_n, dle_e, dlt_e, deq_e, xb_0, xb_1, decide_true, decide_false, Bool.not_true, Bool.not_false, Bool.and_true, Bool.true_and, Bool.and_false, Bool.false_and, Bool.true_or, Bool.false_or, Bool.or_true, Bool.or_false, if_true, if_false, up1_s, n_31, Int32.lt_irrefl, h13, t71_10, t71_22, t71_39], by rw [h3, if_neg (by decide), if_neg (by decide)]; exact hS0, Fr_rf⟩
  · have h13 : m < 12 := by omega
    by_cases h4 : v ≤ n (73 + g)
    · have h3 : borW n m g v = nI 0 := by unfold borW; rw [if_neg h12, if_pos h4]
      rw [h3, if_pos rfl, if_pos rfl]
      refine ⟨up1 I 12 (up1 (I 12) 9 (nI (m + 1))), up1 (up1 (up1 (up1 (up1 A 14 (upd (upd (A 14) g (A 14 g - v)) h (upd (A 14) g (A 14 g - v) h + v))) 17 (upd (A 17) m (nI h))) 18 (upd (A 18) m (nI g))) 19 (upd (A 19) m v)) 20 (upd (A 20) m (nI 0)), ?_, ?_, ?_⟩
      · simp (disch := omega) only [rt_c, b_some, List.cons_append, List.nil_append, Bool.cond_not, cond_true, cond_false, Bool.cond_decide, nI_add, nI_clamp, xin_n, dle_e, dlt_e, deq_e, xb_0, xb_1, decide_true, decide_false, Bool.not_true, Bool.not_false, Bool.and_true, Bool.true_and, Bool.and_false, Bool.false_and, Bool.true_or, Bool.false_or, Bool.or_true, Bool.or_false, if_true, if_false, up1_s, n_31, Int32.lt_irrefl, h13, hC, h4, q75_12 _ _ _ _ _ _ _ _ _ _ _ (show g < 6 by omega) (show h < 6 by omega) v, k71_r12_30, q49_12 _ _ _ _ _ _ _ _ _ _ _ h13 hD, k71_r12_38, t71_10, t71_22, t71_39, up1_n]
      · refine ⟨⟨?_, ?_, hH6, h13⟩, ⟨?_, ?_, ?_, ?_⟩, fun k hk => ?_, fun k hk => ?_, fun k hk => ?_, fun k hk => ?_, fun k hk => ?_, fun k hk => ?_, fun k hk => ?_⟩
        · simp (disch := omega) only [up1, upd, Nat.add_left_cancel_iff, if_neg, if_pos, if_true, if_false, hH]
        · simp (disch := omega) only [up1, upd, Nat.add_left_cancel_iff, if_neg, if_pos, if_true, if_false]
        · simp (disch := omega) only [up1, upd, Nat.add_left_cancel_iff, if_neg, if_pos, if_true, if_false, borN, mv, hg1]
        · simp (disch := omega) only [up1, upd, Nat.add_left_cancel_iff, if_neg, if_pos, if_true, if_false, borN, mv, hg2]
        · simp (disch := omega) only [up1, upd, Nat.add_left_cancel_iff, if_neg, if_pos, if_true, if_false, borN, mv, hy]
        · simp (disch := omega) only [up1, upd, Nat.add_left_cancel_iff, if_neg, if_pos, if_true, if_false, borN, mv, hp]
        · simp (disch := omega) only [up1, upd, Nat.add_left_cancel_iff, if_neg, if_pos, if_true, if_false, borN, mv, hC]
        · simp (disch := omega) only [up1, upd, Nat.add_left_cancel_iff, if_neg, if_pos, if_true, if_false, borN, mv, hIn]
        · simp (disch := omega) only [up1, upd, Nat.add_left_cancel_iff, if_neg, if_pos, if_true, if_false, borN, mv, hCh]
        · simp (disch := omega) only [up1, upd, Nat.add_left_cancel_iff, if_neg, if_pos, if_true, if_false, borN, mv]
          by_cases h9 : k = m
          · rw [if_pos h9, if_pos h9]
          · rw [if_neg h9, if_neg h9, hW k (by omega)]
        · simp (disch := omega) only [up1, upd, Nat.add_left_cancel_iff, if_neg, if_pos, if_true, if_false, borN, mv]
          by_cases h9 : k = m
          · rw [if_pos h9, if_pos h9]
          · rw [if_neg h9, if_neg h9, hT k (by omega)]
        · simp (disch := omega) only [up1, upd, Nat.add_left_cancel_iff, if_neg, if_pos, if_true, if_false, borN, mv]
          by_cases h9 : k = m
          · rw [if_pos h9, if_pos h9]
          · rw [if_neg h9, if_neg h9, hL k (by omega)]
        · simp (disch := omega) only [up1, upd, Nat.add_left_cancel_iff, if_neg, if_pos, if_true, if_false, borN, mv]
          by_cases h9 : k = m
          · rw [if_pos h9, if_pos h9]
          · rw [if_neg h9, if_neg h9, hG k (by omega)]
      · refine ⟨fun p hp => ?_, fun q hq => ?_⟩ <;> simp (disch := omega) only [up1, upd, Nat.add_left_cancel_iff, if_neg, if_pos, if_true, if_false]
    · have h3 : borW n m g v = nI 2 := by unfold borW; rw [if_neg h12, if_neg h4]
      exact ⟨I, A, by rw [h3]; simp (disch := omega) only [rt_c, b_some, List.cons_append, List.nil_append, Bool.cond_not, cond_true, cond_false, Bool.cond_decide, nI_add, nI_clamp, xin_n, dle_e, dlt_e, deq_e, xb_0, xb_1, decide_true, decide_false, Bool.not_true, Bool.not_false, Bool.and_true, Bool.true_and, Bool.and_false, Bool.false_and, Bool.true_or, Bool.false_or, Bool.or_true, Bool.or_false, if_true, if_false, up1_s, n_31, Int32.lt_irrefl, h13, hC, h4, t71_10, t71_22, t71_39], by rw [h3, if_neg (by decide), if_neg (by decide)]; exact hS0, Fr_rf⟩
theorem q72_12 (hS : Sh I A 12 n H m) (hV : Vd n H m) {k h : Nat} (hk : k < m) (hh : h < H) : ∃ I' A', C (d + 2) 72 [.ref 12, .int (nI k), .int (nI h)] sl (CH I A N V lt tw sp sr X) = some ([.int (selW n k h)], sl, CH I' A' N V lt tw sp sr X) ∧ Sh I' A' 12 (if selW n k h = nI 0 then selN n k h else n) H m ∧ Fr 12 I A I' A' := by
  have h50 := q50_12 (d + 1) sl I A N V lt tw sp sr X hS hk
  have h2 := Vd_wm hV hk
  have h2' := h2.2
  have hS0 := hS
  obtain ⟨⟨hH, hD, hH6, hm⟩, ⟨hg1, hg2, hy, hp⟩, hC, hIn, hCh, hW, hT, hL, hG⟩ := sh_12 hS
  rw [e72, k72_r12_0, h50]
  simp (disch := omega) only [rt_c, b_some, List.cons_append, List.nil_append, Bool.cond_not, cond_true, cond_false, Bool.cond_decide, nI_add, nI_clamp, xin_n, dle_e, dlt_e, deq_e, xb_0, xb_1, decide_true, decide_false, Bool.not_true, Bool.not_false, Bool.and_true, Bool.true_and, Bool.and_false, Bool.false_and, Bool.true_or, Bool.false_or, Bool.or_true, Bool.or_false, if_true, if_false, up1_s, n_31, Int32.lt_irrefl, k72_r12_5]
  cases ho : op_ n k with
  | false =>
    have h3 : selW n k h = nI 1 := by unfold selW; rw [ho]; rfl
    exact ⟨I, A, by rw [h3]; simp (disch := omega) only [rt_c, b_some, List.cons_append, List.nil_append, Bool.cond_not, cond_true, cond_false, Bool.cond_decide, nI_add, nI_clamp, xin_n, dle_e, dlt_e, deq_e, xb_0, xb_1, decide_true, decide_false, Bool.not_true, Bool.not_false, Bool.and_true, Bool.true_and, Bool.and_false, Bool.false_and, Bool.true_or, Bool.false_or, Bool.or_true, Bool.or_false, if_true, if_false, up1_s, n_31, Int32.lt_irrefl, t72_9, t72_21, t72_33, t72_50, t72_76], by rw [h3, if_neg (by decide)]; exact hS0, Fr_rf⟩
  | true =>
    by_cases h4 : n (91 + k) = nI h
    · have h3 : selW n k h = nI 2 := by unfold selW; rw [ho, if_pos h4]; rfl
      exact ⟨I, A, by rw [h3]; simp (disch := omega) only [rt_c, b_some, List.cons_append, List.nil_append, Bool.cond_not, cond_true, cond_false, Bool.cond_decide, nI_add, nI_clamp, xin_n, dle_e, dlt_e, deq_e, xb_0, xb_1, decide_true, decide_false, Bool.not_true, Bool.not_false, Bool.and_true, Bool.true_and, Bool.and_false, Bool.false_and, Bool.true_or, Bool.false_or, Bool.or_true, Bool.or_false, if_true, if_false, up1_s, n_31, Int32.lt_irrefl, hT, h4, t72_9, t72_21, t72_33, t72_50, t72_76], by rw [h3, if_neg (by decide)]; exact hS0, Fr_rf⟩
    · by_cases h5 : n (79 + k) = nI h
      · have h3 : selW n k h = nI 3 := by unfold selW; rw [ho, if_neg h4, if_pos h5]; rfl
        exact ⟨I, A, by rw [h3]; simp (disch := omega) only [rt_c, b_some, List.cons_append, List.nil_append, Bool.cond_not, cond_true, cond_false, Bool.cond_decide, nI_add, nI_clamp, xin_n, dle_e, dlt_e, deq_e, xb_0, xb_1, decide_true, decide_false, Bool.not_true, Bool.not_false, Bool.and_true, Bool.true_and, Bool.and_false, Bool.false_and, Bool.true_or, Bool.false_or, Bool.or_true, Bool.or_false, if_true, if_false, up1_s, n_31, Int32.lt_irrefl, hT, h4, hW, h5, t72_9, t72_21, t72_33, t72_50, t72_76], by rw [h3, if_neg (by decide)]; exact hS0, Fr_rf⟩
      · by_cases h6 : n (103 + k) ≤ n (73 + h)
        · have h3 : selW n k h = nI 0 := by unfold selW; rw [ho, if_neg h4, if_neg h5, if_pos h6]; rfl
          rw [h3, if_pos rfl]
          refine ⟨I, up1 (up1 A 14 (upd (upd (A 14) h (A 14 h - n (103 + k))) (wm n k) (upd (A 14) h (A 14 h - n (103 + k)) (wm n k) + n (103 + k)))) 18 (upd (A 18) k (nI h)), ?_, ?_, ?_⟩
          · rw [h2.1] at h4
            simp (disch := omega) only [rt_c, b_some, List.cons_append, List.nil_append, Bool.cond_not, cond_true, cond_false, Bool.cond_decide, nI_add, nI_clamp, xin_n, dle_e, dlt_e, deq_e, xb_0, xb_1, decide_true, decide_false, Bool.not_true, Bool.not_false, Bool.and_true, Bool.true_and, Bool.and_false, Bool.false_and, Bool.true_or, Bool.false_or, Bool.or_true, Bool.or_false, if_true, if_false, up1_s, n_31, Int32.lt_irrefl, hT, h2.1, h4, hW, h5, hL, hC, h6, q75_12 _ _ _ _ _ _ _ _ _ _ _ (show h < 6 by omega) (show wm n k < 6 by omega) (n (103 + k)), k72_r12_68, t72_9, t72_21, t72_33, t72_50, t72_76, up1_n]
          · refine ⟨⟨?_, ?_, hH6, hm⟩, ⟨?_, ?_, ?_, ?_⟩, ?_, ?_, ?_, ?_, ?_, ?_, ?_⟩
            all_goals (try intro h hh)
            all_goals simp (disch := omega) only [up1, upd, Nat.add_left_cancel_iff, if_neg, if_pos, if_true, if_false, selN, mv, hH, hD, hg1, hg2, hy, hp, hC, hIn, hCh, hW, hT, hL, hG]
          · refine ⟨fun p hp => rfl, fun q hq => ?_⟩
            simp (disch := omega) only [up1, upd, Nat.add_left_cancel_iff, if_neg, if_pos, if_true, if_false]
        · have h3 : selW n k h = nI 4 := by unfold selW; rw [ho, if_neg h4, if_neg h5, if_neg h6]; rfl
          exact ⟨I, A, by rw [h3]; simp (disch := omega) only [rt_c, b_some, List.cons_append, List.nil_append, Bool.cond_not, cond_true, cond_false, Bool.cond_decide, nI_add, nI_clamp, xin_n, dle_e, dlt_e, deq_e, xb_0, xb_1, decide_true, decide_false, Bool.not_true, Bool.not_false, Bool.and_true, Bool.true_and, Bool.and_false, Bool.false_and, Bool.true_or, Bool.false_or, Bool.or_true, Bool.or_false, if_true, if_false, up1_s, n_31, Int32.lt_irrefl, hT, h4, hW, h5, hL, hC, h6, t72_9, t72_21, t72_33, t72_50, t72_76], by rw [h3, if_neg (by decide)]; exact hS0, Fr_rf⟩
theorem q73_12 (hS : Sh I A 12 n H m) {k : Nat} (hk : k < m) : ∃ I' A', C (d + 2) 73 [.ref 12, .int (nI k)] sl (CH I A N V lt tw sp sr X) = some ([.int (forW n k)], sl, CH I' A' N V lt tw sp sr X) ∧ Sh I' A' 12 (if forW n k = nI 0 then forN n k else n) H m ∧ Fr 12 I A I' A' := by
  have h50 := q50_12 (d + 1) sl I A N V lt tw sp sr X hS hk
  have hS0 := hS
  obtain ⟨⟨hH, hD, hH6, hm⟩, ⟨hg1, hg2, hy, hp⟩, hC, hIn, hCh, hW, hT, hL, hG⟩ := sh_12 hS
  rw [e73, k73_r12_0, h50]
  simp (disch := omega) only [rt_c, b_some, List.cons_append, List.nil_append, Bool.cond_not, cond_true, cond_false, Bool.cond_decide, nI_add, nI_clamp, xin_n, dle_e, dlt_e, deq_e, xb_0, xb_1, decide_true, decide_false, Bool.not_true, Bool.not_false, Bool.and_true, Bool.true_and, Bool.and_false, Bool.false_and, Bool.true_or, Bool.false_or, Bool.or_true, Bool.or_false, if_true, if_false, up1_s, n_31, Int32.lt_irrefl, k73_r12_5]
  cases ho : op_ n k with
  | false =>
    have h3 : forW n k = nI 1 := by unfold forW; rw [ho]; rfl
    exact ⟨I, A, by rw [h3]; simp (disch := omega) only [rt_c, b_some, List.cons_append, List.nil_append, Bool.cond_not, cond_true, cond_false, Bool.cond_decide, nI_add, nI_clamp, xin_n, dle_e, dlt_e, deq_e, xb_0, xb_1, decide_true, decide_false, Bool.not_true, Bool.not_false, Bool.and_true, Bool.true_and, Bool.and_false, Bool.false_and, Bool.true_or, Bool.false_or, Bool.or_true, Bool.or_false, if_true, if_false, up1_s, n_31, Int32.lt_irrefl, t73_9, t73_18], by rw [h3, if_neg (by decide)]; exact hS0, Fr_rf⟩
  | true =>
    have h3 : forW n k = nI 0 := by unfold forW; rw [ho]; rfl
    rw [h3, if_pos rfl]
    refine ⟨I, up1 A 19 (upd (A 19) k (nI 0)), ?_, ?_, ?_⟩
    · simp (disch := omega) only [rt_c, b_some, List.cons_append, List.nil_append, Bool.cond_not, cond_true, cond_false, Bool.cond_decide, nI_add, nI_clamp, xin_n, dle_e, dlt_e, deq_e, xb_0, xb_1, decide_true, decide_false, Bool.not_true, Bool.not_false, Bool.and_true, Bool.true_and, Bool.and_false, Bool.false_and, Bool.true_or, Bool.false_or, Bool.or_true, Bool.or_false, if_true, if_false, up1_s, n_31, Int32.lt_irrefl, t73_9, t73_18]
    · refine ⟨⟨?_, ?_, hH6, hm⟩, ⟨?_, ?_, ?_, ?_⟩, ?_, ?_, ?_, ?_, ?_, ?_, ?_⟩
      all_goals (try intro h hh)
      all_goals simp (disch := omega) only [up1, upd, Nat.add_left_cancel_iff, if_neg, if_pos, if_true, if_false, forN, hH, hD, hg1, hg2, hy, hp, hC, hIn, hCh, hW, hT, hL, hG]
    · refine ⟨fun p hp => rfl, fun q hq => ?_⟩
      simp (disch := omega) only [up1, upd, Nat.add_left_cancel_iff, if_neg, if_pos, if_true, if_false]
theorem q74_12 (hS : Sh I A 12 n H m) {j k : Nat} (hj : j < m) (hk : k < m) : ∃ I' A', C (d + 2) 74 [.ref 12, .int (nI j), .int (nI k)] sl (CH I A N V lt tw sp sr X) = some ([.int (clrW n j k)], sl, CH I' A' N V lt tw sp sr X) ∧ Sh I' A' 12 (if clrW n j k = nI 0 then clrN n j k else n) H m ∧ Fr 12 I A I' A' := by
  have h50 := q50_12 (d + 1) sl I A N V lt tw sp sr X hS hj
  have h50' := q50_12 (d + 1) sl I A N V lt tw sp sr X hS hk
  have hS0 := hS
  obtain ⟨⟨hH, hD, hH6, hm⟩, ⟨hg1, hg2, hy, hp⟩, hC, hIn, hCh, hW, hT, hL, hG⟩ := sh_12 hS
  rw [e74, k74_r12_0, h50]
  simp (disch := omega) only [rt_c, b_some, List.cons_append, List.nil_append, Bool.cond_not, cond_true, cond_false, Bool.cond_decide, nI_add, nI_clamp, xin_n, dle_e, dlt_e, deq_e, xb_0, xb_1, decide_true, decide_false, Bool.not_true, Bool.not_false, Bool.and_true, Bool.true_and, Bool.and_false, Bool.false_and, Bool.true_or, Bool.false_or, Bool.or_true, Bool.or_false, if_true, if_false, up1_s, n_31, Int32.lt_irrefl, k74_r12_5]
  cases ho : op_ n j with
  | false =>
    have h3 : clrW n j k = nI 1 := by unfold clrW; rw [ho]; rfl
    exact ⟨I, A, by rw [h3]; simp (disch := omega) only [rt_c, b_some, List.cons_append, List.nil_append, Bool.cond_not, cond_true, cond_false, Bool.cond_decide, nI_add, nI_clamp, xin_n, dle_e, dlt_e, deq_e, xb_0, xb_1, decide_true, decide_false, Bool.not_true, Bool.not_false, Bool.and_true, Bool.true_and, Bool.and_false, Bool.false_and, Bool.true_or, Bool.false_or, Bool.or_true, Bool.or_false, if_true, if_false, up1_s, n_31, Int32.lt_irrefl, t74_17, t74_49, t74_87], by rw [h3, if_neg (by decide)]; exact hS0, Fr_rf⟩
  | true =>
    simp (disch := omega) only [rt_c, b_some, List.cons_append, List.nil_append, Bool.cond_not, cond_true, cond_false, Bool.cond_decide, nI_add, nI_clamp, xin_n, dle_e, dlt_e, deq_e, xb_0, xb_1, decide_true, decide_false, Bool.not_true, Bool.not_false, Bool.and_true, Bool.true_and, Bool.and_false, Bool.false_and, Bool.true_or, Bool.false_or, Bool.or_true, Bool.or_false, if_true, if_false, up1_s, n_31, Int32.lt_irrefl, h50', k74_r12_13]
    cases ho' : op_ n k with
    | false =>
      have h3 : clrW n j k = nI 1 := by unfold clrW; rw [ho, ho']; rfl
      exact ⟨I, A, by rw [h3]; simp (disch := omega) only [rt_c, b_some, List.cons_append, List.nil_append, Bool.cond_not, cond_true, cond_false, Bool.cond_decide, nI_add, nI_clamp, xin_n, dle_e, dlt_e, deq_e, xb_0, xb_1, decide_true, decide_false, Bool.not_true, Bool.not_false, Bool.and_true, Bool.true_and, Bool.and_false, Bool.false_and, Bool.true_or, Bool.false_or, Bool.or_true, Bool.or_false, if_true, if_false, up1_s, n_31, Int32.lt_irrefl, t74_17, t74_49, t74_87], by rw [h3, if_neg (by decide)]; exact hS0, Fr_rf⟩
    | true =>
      simp (disch := omega) only [rt_c, b_some, List.cons_append, List.nil_append, Bool.cond_not, cond_true, cond_false, Bool.cond_decide, nI_add, nI_clamp, xin_n, dle_e, dlt_e, deq_e, xb_0, xb_1, decide_true, decide_false, Bool.not_true, Bool.not_false, Bool.and_true, Bool.true_and, Bool.and_false, Bool.false_and, Bool.true_or, Bool.false_or, Bool.or_true, Bool.or_false, if_true, if_false, up1_s, n_31, Int32.lt_irrefl, hW, hT]
      by_cases h4 : n (79 + j) = n (91 + k)
      · by_cases h5 : n (91 + j) = n (79 + k)
        · have h3 : clrW n j k = nI 0 := by unfold clrW; rw [ho, ho', if_pos h4, if_pos h5]; rfl
          rw [h3, if_pos rfl]
          have h5' := h5.symm
          refine ⟨I, up1 A 19 (upd (upd (A 19) j (n (103 + j) - x_min (n (103 + j)) (n (103 + k)))) k (upd (A 19) j (n (103 + j) - x_min (n (103 + j)) (n (103 + k))) k - x_min (n (103 + j)) (n (103 + k)))), ?_, ?_, ?_⟩
          · simp (disch := omega) only [rt_c, b_some, List.cons_append, List.nil_append, Bool.cond_not, cond_true, cond_false, Bool.cond_decide, nI_add, nI_clamp, xin_n, dle_e, dlt_e, deq_e, xb_0, xb_1, decide_true, decide_false, Bool.not_true, Bool.not_false, Bool.and_true, Bool.true_and, Bool.and_false, Bool.false_and, Bool.true_or, Bool.false_or, Bool.or_true, Bool.or_false, if_true, if_false, up1_s, n_31, Int32.lt_irrefl, h4, h5', hL, t74_17, t74_49, t74_87]
          · refine ⟨⟨?_, ?_, hH6, hm⟩, ⟨?_, ?_, ?_, ?_⟩, ?_, ?_, ?_, ?_, ?_, ?_, ?_⟩
            all_goals (try intro h hh)
            all_goals simp (disch := omega) only [up1, upd, Nat.add_left_cancel_iff, if_neg, if_pos, if_true, if_false, clrN, hH, hD, hg1, hg2, hy, hp, hC, hIn, hCh, hW, hT, hL, hG]
          · refine ⟨fun p hp => rfl, fun q hq => ?_⟩
            simp (disch := omega) only [up1, upd, Nat.add_left_cancel_iff, if_neg, if_pos, if_true, if_false]
        · have h3 : clrW n j k = nI 2 := by unfold clrW; rw [ho, ho', if_pos h4, if_neg h5]; rfl
          have h5' : ¬ n (79 + k) = n (91 + j) := fun e => h5 e.symm
          exact ⟨I, A, by rw [h3]; simp (disch := omega) only [rt_c, b_some, List.cons_append, List.nil_append, Bool.cond_not, cond_true, cond_false, Bool.cond_decide, nI_add, nI_clamp, xin_n, dle_e, dlt_e, deq_e, xb_0, xb_1, decide_true, decide_false, Bool.not_true, Bool.not_false, Bool.and_true, Bool.true_and, Bool.and_false, Bool.false_and, Bool.true_or, Bool.false_or, Bool.or_true, Bool.or_false, if_true, if_false, up1_s, n_31, Int32.lt_irrefl, h4, h5', t74_17, t74_49, t74_87], by rw [h3, if_neg (by decide)]; exact hS0, Fr_rf⟩
      · have h3 : clrW n j k = nI 2 := by unfold clrW; rw [ho, ho', if_neg h4]; rfl
        exact ⟨I, A, by rw [h3]; simp (disch := omega) only [rt_c, b_some, List.cons_append, List.nil_append, Bool.cond_not, cond_true, cond_false, Bool.cond_decide, nI_add, nI_clamp, xin_n, dle_e, dlt_e, deq_e, xb_0, xb_1, decide_true, decide_false, Bool.not_true, Bool.not_false, Bool.and_true, Bool.true_and, Bool.and_false, Bool.false_and, Bool.true_or, Bool.false_or, Bool.or_true, Bool.or_false, if_true, if_false, up1_s, n_31, Int32.lt_irrefl, h4, t74_17, t74_49, t74_87], by rw [h3, if_neg (by decide)]; exact hS0, Fr_rf⟩
theorem q76_12 (hS : Sh I A 12 n H m) : C d 76 [.ref 12] sl (CH I A N V lt tw sp sr X) = some ([.int (x_max (nI 0) (nI 400 - n 70))], sl, CH I A N V lt tw sp sr X) := by
  obtain ⟨⟨hH, hD, hH6, hm⟩, ⟨hg1, hg2, hy, hp⟩, -⟩ := sh_12 hS
  rw [e76]
  simp (disch := omega) only [rt_c, b_some, List.cons_append, List.nil_append, Bool.cond_not, cond_true, cond_false, Bool.cond_decide, nI_add, nI_clamp, xin_n, dle_e, dlt_e, deq_e, xb_0, xb_1, decide_true, decide_false, Bool.not_true, Bool.not_false, Bool.and_true, Bool.true_and, Bool.and_false, Bool.false_and, Bool.true_or, Bool.false_or, Bool.or_true, Bool.or_false, if_true, if_false, up1_s, n_31, Int32.lt_irrefl, k76_r12_0, hy, t76_12]
end CL4
