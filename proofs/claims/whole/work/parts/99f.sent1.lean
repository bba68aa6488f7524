/-! SENTENCES: what is read so far -/
def nd (g : Nat → Int32) : Nat → Int32 := fun j => g (j - 129)
theorem nd_0 (g : Nat → Int32) (k : Nat) : nd g (129 + 4 * k) = g (4 * k) := congrArg g (by omega)
theorem nd_1 (g : Nat → Int32) (k : Nat) : nd g (130 + 4 * k) = g (4 * k + 1) := congrArg g (by omega)
theorem nd_2 (g : Nat → Int32) (k : Nat) : nd g (131 + 4 * k) = g (4 * k + 2) := congrArg g (by omega)
theorem nd_3 (g : Nat → Int32) (k : Nat) : nd g (132 + 4 * k) = g (4 * k + 3) := congrArg g (by omega)
theorem Cm_x {W W' : Nat → Option Nat} {S S' T T' n n' : Nat → Int32} : ∀ (f i k : Nat), Cm W S T n f i k → (∀ j, i ≤ j → j ≤ k → W' j = W j ∧ S' j = S j ∧ T' j = T j ∧ n' (129 + 4 * j) = n (129 + 4 * j) ∧ n' (130 + 4 * j) = n (130 + 4 * j) ∧ n' (131 + 4 * j) = n (131 + 4 * j) ∧ n' (132 + 4 * j) = n (132 + 4 * j)) → Cm W' S' T' n' f i k := by
  intro f
  induction f with
  | zero => intro i k h; exact absurd h (by simp [Cm])
  | succ f ih =>
    intro i k hc ha
    have hik := (cm_le _ _ _ hc).2.1
    obtain ⟨b1, b2, b3, b4, b5, b6, b7⟩ := ha k hik (Nat.le_refl _)
    rcases hc with ⟨a, h1, h2, h3, h4, h5, h6, h7⟩ | ⟨x, h1, h2, h3, h4, h5⟩ | ⟨x, y, h1, h2, h3, h4, h5, h6, h7⟩ | ⟨x, y, h1, h2, h3, h4, h5, h6, h7⟩
    · refine Or.inl ⟨a, h1, h2, h3, by rw [b4]; exact h4, by rw [b1]; exact h5, fun e => by rw [b5, b3]; exact h6 e, fun e => by rw [b6, b7, b3, b2]; exact h7 e⟩
    · have q1 := (cm_le _ _ _ h5).2.1
      exact Or.inr (Or.inl ⟨x, h1, by rw [b4]; exact h2, by rw [b5]; exact h3, by rw [b1]; exact h4, ih _ _ h5 (fun j j1 j2 => ha j j1 (by omega))⟩)
    · have q1 := (cm_le _ _ _ h6).2.1
      have q2 := (cm_le _ _ _ h7).2.1
      exact Or.inr (Or.inr (Or.inl ⟨x, y, h1, by rw [b4]; exact h2, by rw [b5]; exact h3, by rw [b6]; exact h4, by rw [b1]; exact h5, ih _ _ h6 (fun j j1 j2 => ha j j1 (by omega)), ih _ _ h7 (fun j j1 j2 => ha j (by omega) (by omega))⟩))
    · have q1 := (cm_le _ _ _ h6).2.1
      have q2 := (cm_le _ _ _ h7).2.1
      exact Or.inr (Or.inr (Or.inr ⟨x, y, h1, by rw [b4]; exact h2, by rw [b5]; exact h3, by rw [b6]; exact h4, by rw [b1]; exact h5, ih _ _ h6 (fun j j1 j2 => ha j j1 (by omega)), ih _ _ h7 (fun j j1 j2 => ha j (by omega) (by omega))⟩))
theorem Cm_f {W : Nat → Option Nat} {S T n : Nat → Int32} : ∀ (f f' i k : Nat), f ≤ f' → Cm W S T n f i k → Cm W S T n f' i k := by
  intro f
  induction f with
  | zero => intro f' i k _ h; exact absurd h (by simp [Cm])
  | succ f ih =>
    intro f' i k hf hc
    obtain ⟨f2, rfl⟩ : ∃ f2, f' = f2 + 1 := ⟨f' - 1, by omega⟩
    rcases hc with h | ⟨x, h1, h2, h3, h4, h5⟩ | ⟨x, y, h1, h2, h3, h4, h5, h6, h7⟩ | ⟨x, y, h1, h2, h3, h4, h5, h6, h7⟩
    · exact Or.inl h
    · exact Or.inr (Or.inl ⟨x, h1, h2, h3, h4, ih _ _ _ (by omega) h5⟩)
    · exact Or.inr (Or.inr (Or.inl ⟨x, y, h1, h2, h3, h4, h5, ih _ _ _ (by omega) h6, ih _ _ _ (by omega) h7⟩))
    · exact Or.inr (Or.inr (Or.inr ⟨x, y, h1, h2, h3, h4, h5, ih _ _ _ (by omega) h6, ih _ _ _ (by omega) h7⟩))
theorem Tk_c {t L n n' κ v : Nat} {s : List Nat} {f f' : Nat → Int32} {lt : Int64} {tw : Option Nat} {J J' : Nat → Int32} {w : Int64} (h : Tk t L n κ v s f lt tw J w) (hn : n' ≤ n) (hf : ∀ k, k < 9 → f' k = f k) (hJ : ∀ k, k < 10 → J' k = J k) : Tk t L n' κ v s f' lt tw J' w := by
  obtain ⟨p, q, a1, a2, a3, a4, a5, a6, a7, a8, a9, a10, a11, a12, a13, h⟩ := h
  refine ⟨p, q, a1, a2, by rw [hf 1 (by decide)]; exact a3, by rw [hJ 3 (by decide)]; exact a4, by rw [hf 2 (by decide)]; exact a5, by rw [hJ 4 (by decide)]; exact a6, by rw [hf 3 (by decide)]; exact a7, by rw [hJ 5 (by decide)]; exact a8, by rw [hf 5 (by decide)]; exact a9, by rw [hJ 6 (by decide)]; exact a10, by omega, a12, by rw [hf 4 (by decide)]; exact a13, ?_⟩
  rw [hf 8 (by decide), hJ 7 (by decide), hJ 8 (by decide), hJ 9 (by decide)]
  exact h
/-- where both readers stand: o ONES, k steps, u within one another -/
def Sx (S t L o k u : Nat) (I : Nat → Nat → Int32) (lt : Int64) (tw : Option Nat) (J : Nat → Int32) (w : Int64) : Prop := (∃ κ v s, Tk t L 0 κ v s (I 1) lt tw J w) ∧ o ≤ 20 ∧ k ≤ 2 * o ∧ I S 3 = nI k ∧ J 40 = nI k ∧ J 41 = nI o ∧ J 42 = nI u
/-- what stays -/
def Fx (S k : Nat) (I A : Nat → Nat → Int32) (V : Nat → Nat → Option Nat) (J : Nat → Int32) (B : Nat → Nat → Int32) (I' A' : Nat → Nat → Int32) (V' : Nat → Nat → Option Nat) (J' : Nat → Int32) (B' : Nat → Nat → Int32) : Prop :=
  (∀ q, q ≠ 1 → q ≠ S → I' q = I q) ∧ (∀ q, q ≠ S + 2 → q ≠ S + 3 → A' q = A q) ∧ (∀ q, q ≠ S + 1 → V' q = V q) ∧ (∀ j, j < k → V' (S + 1) j = V (S + 1) j ∧ A' (S + 2) j = A (S + 2) j ∧ A' (S + 3) j = A (S + 3) j) ∧ (∀ j, j < 4 * k → B' 18 j = B 18 j) ∧ (∀ q, q ≠ 18 → B' q = B q) ∧ (∀ j, j < 5 ∨ (11 < j ∧ j ≠ 13 ∧ (j < 40 ∨ 43 < j)) → J' j = J j)
theorem Fx_t {S k k' : Nat} {I A I1 A1 I2 A2 : Nat → Nat → Int32} {V V1 V2 : Nat → Nat → Option Nat} {J J1 J2 : Nat → Int32} {B B1 B2 : Nat → Nat → Int32} (h : Fx S k I A V J B I1 A1 V1 J1 B1) (h' : Fx S k' I1 A1 V1 J1 B1 I2 A2 V2 J2 B2) (hk : k ≤ k') : Fx S k I A V J B I2 A2 V2 J2 B2 := by
  obtain ⟨a1, a2, a3, a4, a5, a6, a7⟩ := h
  obtain ⟨b1, b2, b3, b4, b5, b6, b7⟩ := h'
  exact ⟨fun q q1 q2 => (b1 q q1 q2).trans (a1 q q1 q2), fun q q1 q2 => (b2 q q1 q2).trans (a2 q q1 q2), fun q q1 => (b3 q q1).trans (a3 q q1), fun j hj => ⟨(b4 j (by omega)).1.trans (a4 j hj).1, (b4 j (by omega)).2.1.trans (a4 j hj).2.1, (b4 j (by omega)).2.2.trans (a4 j hj).2.2⟩, fun j hj => (b5 j (by omega)).trans (a5 j hj), fun q q1 => (b6 q q1).trans (a6 q q1), fun j hj => (b7 j hj).trans (a7 j hj)⟩
theorem Fx_rf {S k : Nat} {I A : Nat → Nat → Int32} {V : Nat → Nat → Option Nat} {J : Nat → Int32} {B : Nat → Nat → Int32} : Fx S k I A V J B I A V J B := ⟨fun _ _ _ => rfl, fun _ _ _ => rfl, fun _ _ => rfl, fun _ _ => ⟨rfl, rfl, rfl⟩, fun _ _ => rfl, fun _ _ => rfl, fun _ _ => rfl⟩
/-- only the token and the numbers of the reference changed -/
theorem Fx_j {S k : Nat} {I I' A : Nat → Nat → Int32} {V : Nat → Nat → Option Nat} {J J' : Nat → Int32} {B : Nat → Nat → Int32} (hI : ∀ q, q ≠ 1 → I' q = I q) (hJ : ∀ j, j < 5 ∨ (11 < j ∧ j ≠ 13 ∧ (j < 40 ∨ 43 < j)) → J' j = J j) : Fx S k I A V J B I' A V J' B := ⟨fun q q1 _ => hI q q1, fun _ _ _ => rfl, fun _ _ => rfl, fun _ _ => ⟨rfl, rfl, rfl⟩, fun _ _ => rfl, fun _ _ => rfl, hJ⟩
def Gx (S t L u o k : Nat) (I A : Nat → Nat → Int32) (V : Nat → Nat → Option Nat) (J : Nat → Int32) (B : Nat → Nat → Int32) (o' k' : Nat) (I' A' : Nat → Nat → Int32) (V' : Nat → Nat → Option Nat) (lt' : Int64) (tw' : Option Nat) (J' : Nat → Int32) (w' : Int64) (B' : Nat → Nat → Int32) : Prop :=
  Sx S t L o' k' u I' lt' tw' J' w' ∧ o < o' ∧ k < k' ∧ k' + 1 + 2 * o ≤ k + 2 * o' ∧ (∃ f, Cm (V' (S + 1)) (A' (S + 2)) (A' (S + 3)) (nd (B' 18)) f k (k' - 1)) ∧ I' 1 10 = I 1 10 ∧ J' 10 = J 10 ∧ Fx S k I A V J B I' A' V' J' B'
def Bx (S k : Nat) (I A : Nat → Nat → Int32) (V : Nat → Nat → Option Nat) (J : Nat → Int32) (B : Nat → Nat → Int32) (I' A' : Nat → Nat → Int32) (V' : Nat → Nat → Option Nat) (J' : Nat → Int32) (B' : Nat → Nat → Int32) : Prop := Fl (I' 1) J' ∧ Fx S k I A V J B I' A' V' J' B'
/-- both sides came to an end: read, or a fault -/
def Ex (S T t L u o k : Nat) (N M : Nat → Nat → Int64) (sl sl' : Nat) (I A : Nat → Nat → Int32) (V : Nat → Nat → Option Nat) (J : Nat → Int32) (B : Nat → Nat → Int32) (rc rr : Option (List Value × Nat × List AC)) : Prop :=
  (∃ o' k' I' A' V' lt' tw' J' w' B', rc = some ([.int (x_b true)], sl, CH I' A' N V' lt' tw' T S [.inr (5, [.ref 1, .ref 3, .ref S, .int (nI o')])]) ∧ rr = some ([.int (x_b true)], sl', RH J' w' B' M) ∧ Gx S t L u o k I A V J B o' k' I' A' V' lt' tw' J' w' B' ∧ J' 43 = nI (k' - 1)) ∨
  (∃ o' I' A' V' lt' tw' J' w' B', rc = some ([.int (x_b false)], sl, CH I' A' N V' lt' tw' T S [.inr (5, [.ref 1, .ref 3, .ref S, .int (nI o')])]) ∧ rr = some ([.int (x_b false)], sl', RH J' w' B' M) ∧ Bx S k I A V J B I' A' V' J' B')
/-- a reader, on both sides -/
def PO (S T t L H : Nat) (b : Nat → Nat) (N M : Nat → Nat → Int64) (jc jr cd rd e : Nat) : Prop := ∀ (d d' sl sl' : Nat) (I A : Nat → Nat → Int32) (V : Nat → Nat → Option Nat) (lt : Int64) (tw : Option Nat) (J : Nat → Int32) (w : Int64) (B : Nat → Nat → Int32) (o k u : Nat), u + e = 8 → Bt t b A B → I 3 8 = nI H → B 2 0 = nI H → Sx S t L o k u I lt tw J w →
  Ex S T t L u o k N M sl sl' I A V J B (C (d + 4 * e + cd) jc [.ref 146, .int (nI (u + 1))] sl (CH I A N V lt tw T S [.inr (5, [.ref 1, .ref 3, .ref S, .int (nI o)])])) (C (d' + 4 * e + rd) jr [.ref 0] sl' (RH J w B M))
theorem Ex_t {S T t L u o k o1 k1 : Nat} {N M : Nat → Nat → Int64} {sl sl' : Nat} {I A I1 A1 : Nat → Nat → Int32} {V V1 : Nat → Nat → Option Nat} {J J1 : Nat → Int32} {B B1 : Nat → Nat → Int32} {rc rr : Option (List Value × Nat × List AC)} (h : Ex S T t L u o1 k1 N M sl sl' I1 A1 V1 J1 B1 rc rr) (hF : Fx S k I A V J B I1 A1 V1 J1 B1) (hk : k1 = k) (ho : o ≤ o1) (h10 : I1 1 10 = I 1 10) (j10 : J1 10 = J 10) : Ex S T t L u o k N M sl sl' I A V J B rc rr := by
  subst hk
  rcases h with ⟨o', k', I', A', V', lt', tw', J', w', B', a1, a2, ⟨g1, g2, g3, g4, g5, g6, g7, g8⟩, a4⟩ | ⟨o', I', A', V', lt', tw', J', w', B', a1, a2, b1, b2⟩
  · exact Or.inl ⟨o', k', I', A', V', lt', tw', J', w', B', a1, a2, ⟨g1, by omega, g3, by omega, g5, g6.trans h10, g7.trans j10, Fx_t hF g8 (Nat.le_refl _)⟩, a4⟩
  · exact Or.inr ⟨o', I', A', V', lt', tw', J', w', B', a1, a2, b1, Fx_t hF b2 (Nat.le_refl _)⟩
theorem Fx_Bt {S k t : Nat} {b : Nat → Nat} {I A I1 A1 : Nat → Nat → Int32} {V V1 : Nat → Nat → Option Nat} {J J1 : Nat → Int32} {B B1 : Nat → Nat → Int32} (hF : Fx S k I A V J B I1 A1 V1 J1 B1) (hS : 3 < S) (h : Bt t b A B) : Bt t b A1 B1 := Bt_c h (hF.2.1 2 (by omega) (by omega)) (hF.2.2.2.2.2.1 1 (by decide))
section SNA
variable (d d' sl sl' : Nat) (I : Nat → Nat → Int32) (A : Nat → Nat → Int32) (N : Nat → Nat → Int64) (V : Nat → Nat → Option Nat) (lt : Int64) (tw : Option Nat) (sp sr : Nat) (X : List AC) (J : Nat → Int32) (w : Int64) (B : Nat → Nat → Int32) (M : Nat → Nat → Int64)
theorem c268 {k : Nat} (hk : k < 40) (h40 : J 40 = nI k) (x a b r : Int32) : C d' 268 [.ref 0, .int x, .int a, .int b, .int r] sl' (RH J w B M) = some ([.int (nI k)], sl', RH (up1 J 40 (nI (k + 1))) w (up1 B 18 (upd (upd (upd (upd (B 18) (4 * k) x) (4 * k + 1) a) (4 * k + 2) b) (4 * k + 3) r)) M) := by
  have h1 : nI (k + 1) - nI 1 = nI k := by rw [nI_sub (by omega)]; rfl
  rw [e268, m268_0, h40, nI_mul4 (show k ≤ 40 by omega)]
  simp (disch := omega) only [rt_c, b_some, List.cons_append, List.nil_append, Bool.cond_not, cond_true, cond_false, Bool.cond_decide, nI_add, nI_clamp, xin_n, dle_e, dlt_e, deq_e, xb_0, xb_1, decide_true, decide_false, Bool.not_true, Bool.not_false, Bool.and_true, Bool.true_and, Bool.and_false, Bool.false_and, Bool.true_or, Bool.false_or, Bool.or_true, Bool.or_false, if_true, if_false, up1_s, n_31, Int32.lt_irrefl, h1, t268_63]
theorem q31_108 (hX : Nat.ble X.length 1 = true) {k : Nat} (hk : k < 40) (h3 : I 108 3 = nI k) (a1 : Nat) (ha : x_isw a1 = true) (a2 a3 : Int32) : C d 31 [.ref 108, .ref a1, .int a2, .int a3] sl (CH I A N V lt tw sp sr X) = some ([], sl, CH (up1 I 108 (up1 (I 108) 3 (nI (k + 1)))) (up1 (up1 A 110 (upd (A 110) k a2)) 111 (upd (A 111) k a3)) N (up1 V 109 (va_up (V 109) k (some a1))) lt tw sp sr X) := by
  have h40 : ¬ 40 ≤ k := by omega
  rw [e31, k31_r108_0, h3]
  simp (disch := omega) only [rt_c, b_some, List.cons_append, List.nil_append, Bool.cond_not, cond_true, cond_false, Bool.cond_decide, nI_add, nI_clamp, xin_n, dle_e, dlt_e, deq_e, xb_0, xb_1, decide_true, decide_false, Bool.not_true, Bool.not_false, Bool.and_true, Bool.true_and, Bool.and_false, Bool.false_and, Bool.true_or, Bool.false_or, Bool.or_true, Bool.or_false, if_true, if_false, up1_s, n_31, Int32.lt_irrefl, h40]
  rw [k31_r108_18 _ _ _ _ _ _ _ _ _ _ _ _ _ _ _ _ hX ha]
  simp (disch := omega) only [rt_c, b_some, List.cons_append, List.nil_append, Bool.cond_not, cond_true, cond_false, Bool.cond_decide, nI_add, nI_clamp, xin_n, dle_e, dlt_e, deq_e, xb_0, xb_1, decide_true, decide_false, Bool.not_true, Bool.not_false, Bool.and_true, Bool.true_and, Bool.and_false, Bool.false_and, Bool.true_or, Bool.false_or, Bool.or_true, Bool.or_false, if_true, if_false, up1_s, n_31, Int32.lt_irrefl, k31_r108_19, h3, t31_49]
/-- one step more, on both sides -/
theorem add_108 (hX : Nat.ble X.length 1 = true) {k : Nat} (hk : k < 40) (h3 : I 108 3 = nI k) (h40 : J 40 = nI k) (a1 : Nat) (ha : x_isw a1 = true) (a2 a3 x a b r : Int32) : ∃ I' A' V' J' B', C d 31 [.ref 108, .ref a1, .int a2, .int a3] sl (CH I A N V lt tw sp sr X) = some ([], sl, CH I' A' N V' lt tw sp sr X) ∧ C d' 268 [.ref 0, .int x, .int a, .int b, .int r] sl' (RH J w B M) = some ([.int (nI k)], sl', RH J' w B' M) ∧ Fx 108 k I A V J B I' A' V' J' B' ∧ (∀ q, q ≠ 108 → I' q = I q) ∧ (∀ j, j ≠ 40 → J' j = J j) ∧ J' 40 = nI (k + 1) ∧ I' 108 3 = nI (k + 1) ∧ V' (108 + 1) k = some a1 ∧ A' (108 + 2) k = a2 ∧ A' (108 + 3) k = a3 ∧ nd (B' 18) (129 + 4 * k) = x ∧ nd (B' 18) (130 + 4 * k) = a ∧ nd (B' 18) (131 + 4 * k) = b ∧ nd (B' 18) (132 + 4 * k) = r := by
  refine ⟨_, _, _, _, _, q31_108 d sl I A N V lt tw sp sr X hX hk h3 a1 ha a2 a3, c268 d' sl' J w B M hk h40 x a b r, ⟨fun q q1 q2 => up1_n q2, fun q q1 q2 => by rw [up1_n q2, up1_n q1], fun q q1 => up1_n q1, fun j hj => ⟨?_, ?_, ?_⟩, fun j hj => ?_, fun q q1 => up1_n q1, fun j hj => up1_n (by omega)⟩, fun q q1 => up1_n q1, fun j hj => up1_n hj, up1_s, ?_, ?_, ?_, ?_, ?_, ?_, ?_, ?_⟩
  · show up1 V 109 _ 109 j = V 109 j
    rw [up1_s]
    exact va_up_ne _ _ (by omega)
  · show up1 (up1 A 110 _) 111 _ 110 j = A 110 j
    rw [up1_n (by decide), up1_s, upd_n (by omega)]
  · show up1 (up1 A 110 _) 111 _ 111 j = A 111 j
    rw [up1_s, upd_n (by omega)]
  · rw [up1_s, upd_n (by omega), upd_n (by omega), upd_n (by omega), upd_n (by omega)]
  · rw [up1_s, up1_s]
  · show up1 V 109 _ 109 k = _
    rw [up1_s]
    exact va_up_self _ _ _
  · show up1 (up1 A 110 _) 111 _ 110 k = _
    rw [up1_n (by decide), up1_s, upd_s]
  · show up1 (up1 A 110 _) 111 _ 111 k = _
    rw [up1_s, upd_s]
  · rw [nd_0, up1_s, upd_n (by omega), upd_n (by omega), upd_n (by omega), upd_s]
  · rw [nd_1, up1_s, upd_n (by omega), upd_n (by omega), upd_s]
  · rw [nd_2, up1_s, upd_n (by omega), upd_s]
  · rw [nd_3, up1_s, upd_s]
theorem q31_112 (hX : Nat.ble X.length 1 = true) {k : Nat} (hk : k < 40) (h3 : I 112 3 = nI k) (a1 : Nat) (ha : x_isw a1 = true) (a2 a3 : Int32) : C d 31 [.ref 112, .ref a1, .int a2, .int a3] sl (CH I A N V lt tw sp sr X) = some ([], sl, CH (up1 I 112 (up1 (I 112) 3 (nI (k + 1)))) (up1 (up1 A 114 (upd (A 114) k a2)) 115 (upd (A 115) k a3)) N (up1 V 113 (va_up (V 113) k (some a1))) lt tw sp sr X) := by
  have h40 : ¬ 40 ≤ k := by omega
  rw [e31, k31_r112_0, h3]
  simp (disch := omega) only [rt_c, b_some, List.cons_append, List.nil_append, Bool.cond_not, cond_true, cond_false, Bool.cond_decide, nI_add, nI_clamp, xin_n, dle_e, dlt_e, deq_e, xb_0, xb_1, decide_true, decide_false, Bool.not_true, Bool.not_false, Bool.and_true, Bool.true_and, Bool.and_false, Bool.false_and, Bool.true_or, Bool.false_or, Bool.or_true, Bool.or_false, if_true, if_false, up1_s, n_31, Int32.lt_irrefl, h40]
  rw [k31_r112_18 _ _ _ _ _ _ _ _ _ _ _ _ _ _ _ _ hX ha]
  simp (disch := omega) only [rt_c, b_some, List.cons_append, List.nil_append, Bool.cond_not, cond_true, cond_false, Bool.cond_decide, nI_add, nI_clamp, xin_n, dle_e, dlt_e, deq_e, xb_0, xb_1, decide_true, decide_false, Bool.not_true, Bool.not_false, Bool.and_true, Bool.true_and, Bool.and_false, Bool.false_and, Bool.true_or, Bool.false_or, Bool.or_true, Bool.or_false, if_true, if_false, up1_s, n_31, Int32.lt_irrefl, k31_r112_19, h3, t31_49]
/-- one step more, on both sides -/
theorem add_112 (hX : Nat.ble X.length 1 = true) {k : Nat} (hk : k < 40) (h3 : I 112 3 = nI k) (h40 : J 40 = nI k) (a1 : Nat) (ha : x_isw a1 = true) (a2 a3 x a b r : Int32) : ∃ I' A' V' J' B', C d 31 [.ref 112, .ref a1, .int a2, .int a3] sl (CH I A N V lt tw sp sr X) = some ([], sl, CH I' A' N V' lt tw sp sr X) ∧ C d' 268 [.ref 0, .int x, .int a, .int b, .int r] sl' (RH J w B M) = some ([.int (nI k)], sl', RH J' w B' M) ∧ Fx 112 k I A V J B I' A' V' J' B' ∧ (∀ q, q ≠ 112 → I' q = I q) ∧ (∀ j, j ≠ 40 → J' j = J j) ∧ J' 40 = nI (k + 1) ∧ I' 112 3 = nI (k + 1) ∧ V' (112 + 1) k = some a1 ∧ A' (112 + 2) k = a2 ∧ A' (112 + 3) k = a3 ∧ nd (B' 18) (129 + 4 * k) = x ∧ nd (B' 18) (130 + 4 * k) = a ∧ nd (B' 18) (131 + 4 * k) = b ∧ nd (B' 18) (132 + 4 * k) = r := by
  refine ⟨_, _, _, _, _, q31_112 d sl I A N V lt tw sp sr X hX hk h3 a1 ha a2 a3, c268 d' sl' J w B M hk h40 x a b r, ⟨fun q q1 q2 => up1_n q2, fun q q1 q2 => by rw [up1_n q2, up1_n q1], fun q q1 => up1_n q1, fun j hj => ⟨?_, ?_, ?_⟩, fun j hj => ?_, fun q q1 => up1_n q1, fun j hj => up1_n (by omega)⟩, fun q q1 => up1_n q1, fun j hj => up1_n hj, up1_s, ?_, ?_, ?_, ?_, ?_, ?_, ?_, ?_⟩
  · show up1 V 113 _ 113 j = V 113 j
    rw [up1_s]
    exact va_up_ne _ _ (by omega)
  · show up1 (up1 A 114 _) 115 _ 114 j = A 114 j
    rw [up1_n (by decide), up1_s, upd_n (by omega)]
  · show up1 (up1 A 114 _) 115 _ 115 j = A 115 j
    rw [up1_s, upd_n (by omega)]
  · rw [up1_s, upd_n (by omega), upd_n (by omega), upd_n (by omega), upd_n (by omega)]
  · rw [up1_s, up1_s]
  · show up1 V 113 _ 113 k = _
    rw [up1_s]
    exact va_up_self _ _ _
  · show up1 (up1 A 114 _) 115 _ 114 k = _
    rw [up1_n (by decide), up1_s, upd_s]
  · show up1 (up1 A 114 _) 115 _ 115 k = _
    rw [up1_s, upd_s]
  · rw [nd_0, up1_s, upd_n (by omega), upd_n (by omega), upd_n (by omega), upd_s]
  · rw [nd_1, up1_s, upd_n (by omega), upd_n (by omega), upd_s]
  · rw [nd_2, up1_s, upd_n (by omega), upd_s]
  · rw [nd_3, up1_s, upd_s]
end SNA
