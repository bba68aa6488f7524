/-! SAID: a sentence, node by node -/
section SAH
variable (d sl : Nat) (I : Nat → Int32) (w : Int64) (A : Nat → Nat → Int32) (N : Nat → Nat → Int64)
theorem c277_not {k x : Nat} (hk : k < 40) (p : Int32) (hn : A 2 (129 + 4 * k) = nI 1) (hx : A 2 (130 + 4 * k) = nI x) {b : Bool} {A' : Nat → Nat → Int32} (hc : C d 277 [.ref 0, .int (nI x), .int p] sl (RH I w A N) = some ([.int (x_b b)], sl, RH I w A' N)) : C (d + 1) 277 [.ref 0, .int (nI k), .int p] sl (RH I w A N) = some ([.int (x_b (!b))], sl, RH I w A' N) := by
  rw [c277_h _ _ _ _ _ _ hk, hn, hx, m277_34_c1, m277_108, hc]
  cases b
  · simp (disch := omega) only [rt_c, b_some, List.cons_append, List.nil_append, Bool.cond_not, cond_true, cond_false, Bool.cond_decide, nI_add, nI_clamp, xin_n, dle_e, dlt_e, deq_e, xb_0, xb_1, decide_true, decide_false, Bool.not_true, Bool.not_false, Bool.and_true, Bool.true_and, Bool.and_false, Bool.false_and, Bool.true_or, Bool.false_or, Bool.or_true, Bool.or_false, if_true, if_false, up1_s, n_31, Int32.lt_irrefl, m277_115, xb_f, xb_t, t277_123, t277_123_0, t277_123_1, t277_149, t277_149_0, t277_149_1, t277_175, t277_175_0, t277_175_1, t277_189, t277_189_0, t277_189_1, t277_195, t277_195_0, t277_195_1, t277_221, t277_221_0, t277_221_1, t277_227, t277_227_0, t277_227_1, t277_235, t277_235_0, t277_235_1, t277_374, t277_374_0, t277_374_1]
  · simp (disch := omega) only [rt_c, b_some, List.cons_append, List.nil_append, Bool.cond_not, cond_true, cond_false, Bool.cond_decide, nI_add, nI_clamp, xin_n, dle_e, dlt_e, deq_e, xb_0, xb_1, decide_true, decide_false, Bool.not_true, Bool.not_false, Bool.and_true, Bool.true_and, Bool.and_false, Bool.false_and, Bool.true_or, Bool.false_or, Bool.or_true, Bool.or_false, if_true, if_false, up1_s, n_31, Int32.lt_irrefl, m277_115, xb_f, xb_t, Nat.one_ne_zero, t277_123, t277_123_0, t277_123_1, t277_149, t277_149_0, t277_149_1, t277_175, t277_175_0, t277_175_1, t277_189, t277_189_0, t277_189_1, t277_195, t277_195_0, t277_195_1, t277_221, t277_221_0, t277_221_1, t277_227, t277_227_0, t277_227_1, t277_235, t277_235_0, t277_235_1, t277_374, t277_374_0, t277_374_1]
theorem c277_and {k x y : Nat} (hk : k < 40) (p : Int32) (hn : A 2 (129 + 4 * k) = nI 2) (hx : A 2 (130 + 4 * k) = nI x) (hy : A 2 (131 + 4 * k) = nI y) {b c : Bool} {A' A2 : Nat → Nat → Int32} (hc : C d 277 [.ref 0, .int (nI x), .int p] sl (RH I w A N) = some ([.int (x_b b)], sl, RH I w A' N)) (hc2 : C d 277 [.ref 0, .int (nI y), .int p] sl (RH I w A' N) = some ([.int (x_b c)], sl, RH I w A2 N)) : C (d + 1) 277 [.ref 0, .int (nI k), .int p] sl (RH I w A N) = some ([.int (x_b (b && c))], sl, RH I w (cond b A2 A') N) := by
  rw [c277_h _ _ _ _ _ _ hk, hn, hx, hy, m277_34_c2, m277_124, hc]
  cases b
  · simp (disch := omega) only [rt_c, b_some, List.cons_append, List.nil_append, Bool.cond_not, cond_true, cond_false, Bool.cond_decide, nI_add, nI_clamp, xin_n, dle_e, dlt_e, deq_e, xb_0, xb_1, decide_true, decide_false, Bool.not_true, Bool.not_false, Bool.and_true, Bool.true_and, Bool.and_false, Bool.false_and, Bool.true_or, Bool.false_or, Bool.or_true, Bool.or_false, if_true, if_false, up1_s, n_31, Int32.lt_irrefl, m277_131, xb_f, t277_123, t277_123_0, t277_123_1, t277_149, t277_149_0, t277_149_1, t277_175, t277_175_0, t277_175_1, t277_189, t277_189_0, t277_189_1, t277_195, t277_195_0, t277_195_1, t277_221, t277_221_0, t277_221_1, t277_227, t277_227_0, t277_227_1, t277_235, t277_235_0, t277_235_1, t277_374, t277_374_0, t277_374_1]
  · simp (disch := omega) only [rt_c, b_some, List.cons_append, List.nil_append, Bool.cond_not, cond_true, cond_false, Bool.cond_decide, nI_add, nI_clamp, xin_n, dle_e, dlt_e, deq_e, xb_0, xb_1, decide_true, decide_false, Bool.not_true, Bool.not_false, Bool.and_true, Bool.true_and, Bool.and_false, Bool.false_and, Bool.true_or, Bool.false_or, Bool.or_true, Bool.or_false, if_true, if_false, up1_s, n_31, Int32.lt_irrefl, m277_131, xb_t, Nat.one_ne_zero, hc2]
    cases c
    · simp (disch := omega) only [rt_c, b_some, List.cons_append, List.nil_append, Bool.cond_not, cond_true, cond_false, Bool.cond_decide, nI_add, nI_clamp, xin_n, dle_e, dlt_e, deq_e, xb_0, xb_1, decide_true, decide_false, Bool.not_true, Bool.not_false, Bool.and_true, Bool.true_and, Bool.and_false, Bool.false_and, Bool.true_or, Bool.false_or, Bool.or_true, Bool.or_false, if_true, if_false, up1_s, n_31, Int32.lt_irrefl, m277_141, xb_f, t277_123, t277_123_0, t277_123_1, t277_149, t277_149_0, t277_149_1, t277_175, t277_175_0, t277_175_1, t277_189, t277_189_0, t277_189_1, t277_195, t277_195_0, t277_195_1, t277_221, t277_221_0, t277_221_1, t277_227, t277_227_0, t277_227_1, t277_235, t277_235_0, t277_235_1, t277_374, t277_374_0, t277_374_1]
    · simp (disch := omega) only [rt_c, b_some, List.cons_append, List.nil_append, Bool.cond_not, cond_true, cond_false, Bool.cond_decide, nI_add, nI_clamp, xin_n, dle_e, dlt_e, deq_e, xb_0, xb_1, decide_true, decide_false, Bool.not_true, Bool.not_false, Bool.and_true, Bool.true_and, Bool.and_false, Bool.false_and, Bool.true_or, Bool.false_or, Bool.or_true, Bool.or_false, if_true, if_false, up1_s, n_31, Int32.lt_irrefl, m277_141, xb_t, Nat.one_ne_zero, t277_123, t277_123_0, t277_123_1, t277_149, t277_149_0, t277_149_1, t277_175, t277_175_0, t277_175_1, t277_189, t277_189_0, t277_189_1, t277_195, t277_195_0, t277_195_1, t277_221, t277_221_0, t277_221_1, t277_227, t277_227_0, t277_227_1, t277_235, t277_235_0, t277_235_1, t277_374, t277_374_0, t277_374_1]
theorem c277_or {k x y : Nat} (hk : k < 40) (p : Int32) (hn : A 2 (129 + 4 * k) = nI 3) (hx : A 2 (130 + 4 * k) = nI x) (hy : A 2 (131 + 4 * k) = nI y) {b c : Bool} {A' A2 : Nat → Nat → Int32} (hc : C d 277 [.ref 0, .int (nI x), .int p] sl (RH I w A N) = some ([.int (x_b b)], sl, RH I w A' N)) (hc2 : C d 277 [.ref 0, .int (nI y), .int p] sl (RH I w A' N) = some ([.int (x_b c)], sl, RH I w A2 N)) : C (d + 1) 277 [.ref 0, .int (nI k), .int p] sl (RH I w A N) = some ([.int (x_b (b || c))], sl, RH I w (cond b A' A2) N) := by
  rw [c277_h _ _ _ _ _ _ hk, hn, hx, hy, m277_34_c3, m277_150, hc]
  cases b
  · simp (disch := omega) only [rt_c, b_some, List.cons_append, List.nil_append, Bool.cond_not, cond_true, cond_false, Bool.cond_decide, nI_add, nI_clamp, xin_n, dle_e, dlt_e, deq_e, xb_0, xb_1, decide_true, decide_false, Bool.not_true, Bool.not_false, Bool.and_true, Bool.true_and, Bool.and_false, Bool.false_and, Bool.true_or, Bool.false_or, Bool.or_true, Bool.or_false, if_true, if_false, up1_s, n_31, Int32.lt_irrefl, m277_157, xb_f, hc2]
    cases c
    · simp (disch := omega) only [rt_c, b_some, List.cons_append, List.nil_append, Bool.cond_not, cond_true, cond_false, Bool.cond_decide, nI_add, nI_clamp, xin_n, dle_e, dlt_e, deq_e, xb_0, xb_1, decide_true, decide_false, Bool.not_true, Bool.not_false, Bool.and_true, Bool.true_and, Bool.and_false, Bool.false_and, Bool.true_or, Bool.false_or, Bool.or_true, Bool.or_false, if_true, if_false, up1_s, n_31, Int32.lt_irrefl, m277_167, xb_f, t277_123, t277_123_0, t277_123_1, t277_149, t277_149_0, t277_149_1, t277_175, t277_175_0, t277_175_1, t277_189, t277_189_0, t277_189_1, t277_195, t277_195_0, t277_195_1, t277_221, t277_221_0, t277_221_1, t277_227, t277_227_0, t277_227_1, t277_235, t277_235_0, t277_235_1, t277_374, t277_374_0, t277_374_1]
    · simp (disch := omega) only [rt_c, b_some, List.cons_append, List.nil_append, Bool.cond_not, cond_true, cond_false, Bool.cond_decide, nI_add, nI_clamp, xin_n, dle_e, dlt_e, deq_e, xb_0, xb_1, decide_true, decide_false, Bool.not_true, Bool.not_false, Bool.and_true, Bool.true_and, Bool.and_false, Bool.false_and, Bool.true_or, Bool.false_or, Bool.or_true, Bool.or_false, if_true, if_false, up1_s, n_31, Int32.lt_irrefl, m277_167, xb_t, Nat.one_ne_zero, t277_123, t277_123_0, t277_123_1, t277_149, t277_149_0, t277_149_1, t277_175, t277_175_0, t277_175_1, t277_189, t277_189_0, t277_189_1, t277_195, t277_195_0, t277_195_1, t277_221, t277_221_0, t277_221_1, t277_227, t277_227_0, t277_227_1, t277_235, t277_235_0, t277_235_1, t277_374, t277_374_0, t277_374_1]
  · simp (disch := omega) only [rt_c, b_some, List.cons_append, List.nil_append, Bool.cond_not, cond_true, cond_false, Bool.cond_decide, nI_add, nI_clamp, xin_n, dle_e, dlt_e, deq_e, xb_0, xb_1, decide_true, decide_false, Bool.not_true, Bool.not_false, Bool.and_true, Bool.true_and, Bool.and_false, Bool.false_and, Bool.true_or, Bool.false_or, Bool.or_true, Bool.or_false, if_true, if_false, up1_s, n_31, Int32.lt_irrefl, m277_157, xb_t, Nat.one_ne_zero, t277_123, t277_123_0, t277_123_1, t277_149, t277_149_0, t277_149_1, t277_175, t277_175_0, t277_175_1, t277_189, t277_189_0, t277_189_1, t277_195, t277_195_0, t277_195_1, t277_221, t277_221_0, t277_221_1, t277_227, t277_227_0, t277_227_1, t277_235, t277_235_0, t277_235_1, t277_374, t277_374_0, t277_374_1]
end SAH
theorem up1_up1 {α : Type} (f : Nat → α) (k : Nat) (u v : α) : up1 (up1 f k u) k v = up1 f k v := by
  funext j
  by_cases h : j = k
  · subst h; rw [up1_s, up1_s]
  · rw [up1_n h, up1_n h, up1_n h]
theorem cm_le {W : Nat → Option Nat} {S T n : Nat → Int32} : ∀ (f i k : Nat), Cm W S T n f i k → True ∧ i ≤ k ∧ True := by
  intro f
  induction f with
  | zero => intro i k h; exact absurd h (by simp [Cm])
  | succ f ih =>
    intro i k hc
    rcases hc with ⟨a, h1, h2, h3, h4, h5, h6, h7⟩ | ⟨x, h1, h2, h3, h4, h5⟩ | ⟨x, y, h1, h2, h3, h4, h5, h6, h7⟩ | ⟨x, y, h1, h2, h3, h4, h5, h6, h7⟩
    · exact ⟨trivial, by omega, trivial⟩
    · have := (ih i x h5).2.1
      exact ⟨trivial, by omega, trivial⟩
    · have q1 := (ih i x h6).2.1
      have q2 := (ih (x + 1) y h7).2.1
      exact ⟨trivial, by omega, trivial⟩
    · have q1 := (ih i x h6).2.1
      have q2 := (ih (x + 1) y h7).2.1
      exact ⟨trivial, by omega, trivial⟩
theorem one_eq {n : Nat → Int32} {m H p a : Nat} {x x' y y' s s' : Int32} (h1 : a = 16 → x = x') (h2 : 17 ≤ a → y = y' ∧ s = s') (ha : a ≤ 20) (ha2 : 12 ≤ a) : one_ n m H p x y s a = one_ n m H p x' y' s' a := by
  by_cases h3 : a = 16
  · have := h1 h3
    subst this; subst h3
    simp only [one_]
  · by_cases h4 : 17 ≤ a
    · obtain ⟨rfl, rfl⟩ := h2 h4
      rcases (show a = 17 ∨ a = 18 ∨ a = 19 ∨ a = 20 by omega) with rfl | rfl | rfl | rfl <;> simp only [one_]
    · rcases (show a = 12 ∨ a = 13 ∨ a = 14 ∨ a = 15 by omega) with rfl | rfl | rfl | rfl <;> simp only [one_]
theorem pw_le {x e e' : Nat} (h : (x + 1) * 2 ^ e ≤ 2 ^ 31) (he : e' ≤ e) : (x + 1) * 2 ^ e' ≤ 2 ^ 31 := Nat.le_trans (Nat.mul_le_mul_left _ (Nat.pow_le_pow_right (by decide) he)) h
theorem pw_2 {x a c : Nat} (b : Bool) (h : (x + 1) * 2 ^ (1 + c) ≤ 2 ^ 31) : (2 * x + b.toNat + 1) * 2 ^ c ≤ 2 ^ 31 := by
  have hb : b.toNat ≤ 1 := Bool.toNat_le b
  refine Nat.le_trans (Nat.mul_le_mul_right (2 ^ c) (show 2 * x + b.toNat + 1 ≤ (x + 1) * 2 by omega)) ?_
  rw [Nat.mul_assoc, ← Nat.pow_succ']
  rw [Nat.add_comm 1 c] at h
  exact h
theorem pw_1 {x e : Nat} (h : (x + 1) * 2 ^ (e + 1) ≤ 2 ^ 31) : x < 2 ^ 30 := by
  have := pw_le h (show 1 ≤ e + 1 by omega)
  omega
theorem pw_0 {x e : Nat} (h : (x + 1) * 2 ^ (e + 2) ≤ 2 ^ 31) : x < 2 ^ 29 := by
  have := pw_le h (show 2 ≤ e + 2 by omega)
  omega
section SAI
variable (d sl : Nat) (I : Nat → Nat → Int32) (A : Nat → Nat → Int32) (N : Nat → Nat → Int64) (V : Nat → Nat → Option Nat) (lt : Int64) (tw : Option Nat) (sp sr : Nat) (X : List AC)
variable {H m : Nat} (J : Nat → Int32) (w : Int64) (B : Nat → Nat → Int32) (M : Nat → Nat → Int64)
theorem cm_run_108 (hX : Nat.ble X.length 1 = true) (hS : Sh I A 3 (B 2) H m) (hV : Vd (B 2) H m) {p : Nat} (hp : p < H) {L : Nat} (hL : L ≤ 40) (hl : I 108 3 = nI L) (rb : Int32) (hrb : (rb >>> nI p) &&& nI 1 = nI (rg_ (B 2) m H p).toNat) : ∀ (f i k : Nat), Cm (V 109) (A 110) (A 111) (B 2) f i k → k < L → ∃ b : Bool, i ≤ k ∧
    (∀ (d' sl' : Nat) (g : Nat → Int32), ∃ g', C (d' + k + 4) 277 [.ref 0, .int (nI k), .int (nI p)] sl' (RH J w (up1 B 11 g) M) = some ([.int (x_b b)], sl', RH J w (up1 B 11 g') M)) ∧
    (∀ (x : Nat) (o : Option Value), (x + 1) * 2 ^ ((k - i) / 2 + 1) ≤ 2 ^ 31 → (o = none ∨ ∃ v, o = some (.int v)) → ∃ v, rt 33 (R (d + 4) 33 (6, [some (.ref 108), some (.ref 3), some (.int (nI p)), some (.int rb), some (.int (nI x)), some (.int (nI i)), o], [], sl, CH I A N V lt tw sp sr X)) = rt 33 (R (d + 4) 33 (6, [some (.ref 108), some (.ref 3), some (.int (nI p)), some (.int rb), some (.int (nI (2 * x + b.toNat))), some (.int (nI (k + 1))), some (.int v)], [], sl, CH I A N V lt tw sp sr X))) := by
  intro f
  have h2g : ∀ g, up1 B 11 g 2 = B 2 := fun g => up1_n (by decide)
  induction f with
  | zero => intro i k h; exact absurd h (by simp [Cm])
  | succ f ih =>
    intro i k hc hk
    rcases hc with ⟨a, h1, h2, h3, h4, h5, h6, h7⟩ | ⟨x', h1, h2, h3, h4, h5⟩ | ⟨x', y, h1, h2, h3, h4, h5, h6, h7⟩ | ⟨x', y, h1, h2, h3, h4, h5, h6, h7⟩
    · subst h3
      refine ⟨one_ (B 2) m H p (B 2 (130 + 4 * i)) (B 2 (131 + 4 * i)) (B 2 (132 + 4 * i)) a, Nat.le_refl _, ?_, ?_⟩
      · intro d' sl' g
        obtain ⟨g', e⟩ := c277_leaf (d' + i) sl' J w (up1 B 11 g) M (k := i) (p := p) (a := a) (by rw [h2g]; exact hV) (by omega) hp h2 h1 (by rw [h2g]; exact h4)
        rw [h2g] at e
        refine ⟨g', e.trans ?_⟩
        rw [up1_up1]
      · intro x o hx ho
        rw [one_eq (x' := A 111 i) (y' := A 111 i) (s' := A 110 i) h6 h7 h2 h1]
        exact q33_leaf_108 d sl I A N V lt tw sp sr X hX hS hp hL hl hk h2 h1 h5 (pw_1 hx) rb hrb o ho
    · obtain ⟨b, hik, e1, e2⟩ := ih i x' h5 (by omega)
      refine ⟨!b, by omega, ?_, ?_⟩
      · intro d' sl' g
        obtain ⟨g', e⟩ := e1 d' sl' g
        refine ⟨g', ?_⟩
        subst h1
        exact c277_not (d' + x' + 4) sl' J w (up1 B 11 g) M (k := x' + 1) (x := x') (by omega) (nI p) (by rw [h2g]; exact h2) (by rw [h2g]; exact h3) e
      · intro x o hx ho
        obtain ⟨v, e⟩ := e2 x o (pw_le hx (by omega)) ho
        subst h1
        refine ⟨nI (2 * x + b.toNat) &&& nI 1, ?_⟩
        · rw [e, q33_not_108 (d + 3) sl I A N V lt tw sp sr X hL hl hk h4 (nI p) rb (nI (2 * x + b.toNat)) (some (.int v)) (Or.inr ⟨v, rfl⟩), bit_not (pw_1 hx) b]
    · obtain ⟨b, hik, e1, e2⟩ := ih i x' h6 (by
        obtain ⟨-, h9, -⟩ := cm_le f (x' + 1) y h7
        omega)
      obtain ⟨c, hxy, e3, e4⟩ := ih (x' + 1) y h7 (by omega)
      refine ⟨b && c, by omega, ?_, ?_⟩
      · intro d' sl' g
        obtain ⟨g1, f1⟩ := e1 (d' + (y - x')) sl' g
        obtain ⟨g2, f2⟩ := e3 d' sl' g1
        subst h1
        rw [show d' + (y - x') + x' + 4 = d' + y + 4 by omega] at f1
        have := c277_and (d' + y + 4) sl' J w (up1 B 11 g) M (k := y + 1) (x := x') (y := y) (by omega) (nI p) (by rw [h2g]; exact h2) (by rw [h2g]; exact h3) (by rw [h2g]; exact h4) f1 f2
        cases b
        · exact ⟨g1, this⟩
        · exact ⟨g2, this⟩
      · intro x o hx ho
        subst h1
        obtain ⟨v, e⟩ := e2 x o (pw_le hx (by omega)) ho
        obtain ⟨v2, e'⟩ := e4 (2 * x + b.toNat) (some (.int v)) (pw_2 (a := 0) b (pw_le hx (by omega))) (Or.inr ⟨v, rfl⟩)
        refine ⟨nI c.toNat, ?_⟩
        · rw [e, e', q33_and_108 (d + 3) sl I A N V lt tw sp sr X hL hl hk h5 (nI p) rb (nI (2 * (2 * x + b.toNat) + c.toNat)) (some (.int v2)) (Or.inr ⟨v2, rfl⟩), bit_low (by have := pw_0 (e := 0) (pw_le hx (by omega)); have := Bool.toNat_le b; omega) c, bit_and (pw_0 (e := 0) (pw_le hx (by omega))) b c]
    · obtain ⟨b, hik, e1, e2⟩ := ih i x' h6 (by
        obtain ⟨-, h9, -⟩ := cm_le f (x' + 1) y h7
        omega)
      obtain ⟨c, hxy, e3, e4⟩ := ih (x' + 1) y h7 (by omega)
      refine ⟨b || c, by omega, ?_, ?_⟩
      · intro d' sl' g
        obtain ⟨g1, f1⟩ := e1 (d' + (y - x')) sl' g
        obtain ⟨g2, f2⟩ := e3 d' sl' g1
        subst h1
        rw [show d' + (y - x') + x' + 4 = d' + y + 4 by omega] at f1
        have := c277_or (d' + y + 4) sl' J w (up1 B 11 g) M (k := y + 1) (x := x') (y := y) (by omega) (nI p) (by rw [h2g]; exact h2) (by rw [h2g]; exact h3) (by rw [h2g]; exact h4) f1 f2
        cases b
        · exact ⟨g2, this⟩
        · exact ⟨g1, this⟩
      · intro x o hx ho
        subst h1
        obtain ⟨v, e⟩ := e2 x o (pw_le hx (by omega)) ho
        obtain ⟨v2, e'⟩ := e4 (2 * x + b.toNat) (some (.int v)) (pw_2 (a := 0) b (pw_le hx (by omega))) (Or.inr ⟨v, rfl⟩)
        refine ⟨nI c.toNat, ?_⟩
        · rw [e, e', q33_or_108 (d + 3) sl I A N V lt tw sp sr X hL hl hk h5 (nI p) rb (nI (2 * (2 * x + b.toNat) + c.toNat)) (some (.int v2)) (Or.inr ⟨v2, rfl⟩), bit_low (by have := pw_0 (e := 0) (pw_le hx (by omega)); have := Bool.toNat_le b; omega) c, bit_or (pw_0 (e := 0) (pw_le hx (by omega))) b c]
theorem cm_run_112 (hX : Nat.ble X.length 1 = true) (hS : Sh I A 3 (B 2) H m) (hV : Vd (B 2) H m) {p : Nat} (hp : p < H) {L : Nat} (hL : L ≤ 40) (hl : I 112 3 = nI L) (rb : Int32) (hrb : (rb >>> nI p) &&& nI 1 = nI (rg_ (B 2) m H p).toNat) : ∀ (f i k : Nat), Cm (V 113) (A 114) (A 115) (B 2) f i k → k < L → ∃ b : Bool, i ≤ k ∧
    (∀ (d' sl' : Nat) (g : Nat → Int32), ∃ g', C (d' + k + 4) 277 [.ref 0, .int (nI k), .int (nI p)] sl' (RH J w (up1 B 11 g) M) = some ([.int (x_b b)], sl', RH J w (up1 B 11 g') M)) ∧
    (∀ (x : Nat) (o : Option Value), (x + 1) * 2 ^ ((k - i) / 2 + 1) ≤ 2 ^ 31 → (o = none ∨ ∃ v, o = some (.int v)) → ∃ v, rt 33 (R (d + 4) 33 (6, [some (.ref 112), some (.ref 3), some (.int (nI p)), some (.int rb), some (.int (nI x)), some (.int (nI i)), o], [], sl, CH I A N V lt tw sp sr X)) = rt 33 (R (d + 4) 33 (6, [some (.ref 112), some (.ref 3), some (.int (nI p)), some (.int rb), some (.int (nI (2 * x + b.toNat))), some (.int (nI (k + 1))), some (.int v)], [], sl, CH I A N V lt tw sp sr X))) := by
  intro f
  have h2g : ∀ g, up1 B 11 g 2 = B 2 := fun g => up1_n (by decide)
  induction f with
  | zero => intro i k h; exact absurd h (by simp [Cm])
  | succ f ih =>
    intro i k hc hk
    rcases hc with ⟨a, h1, h2, h3, h4, h5, h6, h7⟩ | ⟨x', h1, h2, h3, h4, h5⟩ | ⟨x', y, h1, h2, h3, h4, h5, h6, h7⟩ | ⟨x', y, h1, h2, h3, h4, h5, h6, h7⟩
    · subst h3
      refine ⟨one_ (B 2) m H p (B 2 (130 + 4 * i)) (B 2 (131 + 4 * i)) (B 2 (132 + 4 * i)) a, Nat.le_refl _, ?_, ?_⟩
      · intro d' sl' g
        obtain ⟨g', e⟩ := c277_leaf (d' + i) sl' J w (up1 B 11 g) M (k := i) (p := p) (a := a) (by rw [h2g]; exact hV) (by omega) hp h2 h1 (by rw [h2g]; exact h4)
        rw [h2g] at e
        refine ⟨g', e.trans ?_⟩
        rw [up1_up1]
      · intro x o hx ho
        rw [one_eq (x' := A 115 i) (y' := A 115 i) (s' := A 114 i) h6 h7 h2 h1]
        exact q33_leaf_112 d sl I A N V lt tw sp sr X hX hS hp hL hl hk h2 h1 h5 (pw_1 hx) rb hrb o ho
    · obtain ⟨b, hik, e1, e2⟩ := ih i x' h5 (by omega)
      refine ⟨!b, by omega, ?_, ?_⟩
      · intro d' sl' g
        obtain ⟨g', e⟩ := e1 d' sl' g
        refine ⟨g', ?_⟩
        subst h1
        exact c277_not (d' + x' + 4) sl' J w (up1 B 11 g) M (k := x' + 1) (x := x') (by omega) (nI p) (by rw [h2g]; exact h2) (by rw [h2g]; exact h3) e
      · intro x o hx ho
        obtain ⟨v, e⟩ := e2 x o (pw_le hx (by omega)) ho
        subst h1
        refine ⟨nI (2 * x + b.toNat) &&& nI 1, ?_⟩
        · rw [e, q33_not_112 (d + 3) sl I A N V lt tw sp sr X hL hl hk h4 (nI p) rb (nI (2 * x + b.toNat)) (some (.int v)) (Or.inr ⟨v, rfl⟩), bit_not (pw_1 hx) b]
    · obtain ⟨b, hik, e1, e2⟩ := ih i x' h6 (by
        obtain ⟨-, h9, -⟩ := cm_le f (x' + 1) y h7
        omega)
      obtain ⟨c, hxy, e3, e4⟩ := ih (x' + 1) y h7 (by omega)
      refine ⟨b && c, by omega, ?_, ?_⟩
      · intro d' sl' g
        obtain ⟨g1, f1⟩ := e1 (d' + (y - x')) sl' g
        obtain ⟨g2, f2⟩ := e3 d' sl' g1
        subst h1
        rw [show d' + (y - x') + x' + 4 = d' + y + 4 by omega] at f1
        have := c277_and (d' + y + 4) sl' J w (up1 B 11 g) M (k := y + 1) (x := x') (y := y) (by omega) (nI p) (by rw [h2g]; exact h2) (by rw [h2g]; exact h3) (by rw [h2g]; exact h4) f1 f2
        cases b
        · exact ⟨g1, this⟩
        · exact ⟨g2, this⟩
      · intro x o hx ho
        subst h1
        obtain ⟨v, e⟩ := e2 x o (pw_le hx (by omega)) ho
        obtain ⟨v2, e'⟩ := e4 (2 * x + b.toNat) (some (.int v)) (pw_2 (a := 0) b (pw_le hx (by omega))) (Or.inr ⟨v, rfl⟩)
        refine ⟨nI c.toNat, ?_⟩
        · rw [e, e', q33_and_112 (d + 3) sl I A N V lt tw sp sr X hL hl hk h5 (nI p) rb (nI (2 * (2 * x + b.toNat) + c.toNat)) (some (.int v2)) (Or.inr ⟨v2, rfl⟩), bit_low (by have := pw_0 (e := 0) (pw_le hx (by omega)); have := Bool.toNat_le b; omega) c, bit_and (pw_0 (e := 0) (pw_le hx (by omega))) b c]
    · obtain ⟨b, hik, e1, e2⟩ := ih i x' h6 (by
        obtain ⟨-, h9, -⟩ := cm_le f (x' + 1) y h7
        omega)
      obtain ⟨c, hxy, e3, e4⟩ := ih (x' + 1) y h7 (by omega)
      refine ⟨b || c, by omega, ?_, ?_⟩
      · intro d' sl' g
        obtain ⟨g1, f1⟩ := e1 (d' + (y - x')) sl' g
        obtain ⟨g2, f2⟩ := e3 d' sl' g1
        subst h1
        rw [show d' + (y - x') + x' + 4 = d' + y + 4 by omega] at f1
        have := c277_or (d' + y + 4) sl' J w (up1 B 11 g) M (k := y + 1) (x := x') (y := y) (by omega) (nI p) (by rw [h2g]; exact h2) (by rw [h2g]; exact h3) (by rw [h2g]; exact h4) f1 f2
        cases b
        · exact ⟨g2, this⟩
        · exact ⟨g1, this⟩
      · intro x o hx ho
        subst h1
        obtain ⟨v, e⟩ := e2 x o (pw_le hx (by omega)) ho
        obtain ⟨v2, e'⟩ := e4 (2 * x + b.toNat) (some (.int v)) (pw_2 (a := 0) b (pw_le hx (by omega))) (Or.inr ⟨v, rfl⟩)
        refine ⟨nI c.toNat, ?_⟩
        · rw [e, e', q33_or_112 (d + 3) sl I A N V lt tw sp sr X hL hl hk h5 (nI p) rb (nI (2 * (2 * x + b.toNat) + c.toNat)) (some (.int v2)) (Or.inr ⟨v2, rfl⟩), bit_low (by have := pw_0 (e := 0) (pw_le hx (by omega)); have := Bool.toNat_le b; omega) c, bit_or (pw_0 (e := 0) (pw_le hx (by omega))) b c]
end SAI
