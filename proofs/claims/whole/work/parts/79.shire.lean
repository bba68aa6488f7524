/-! READERS: a shire, what is read so far -/
def RR (I A : Nat → Nat → Int32) (N : Nat → Nat → Int64) (B : Nat → Nat → Int32) (M : Nat → Nat → Int64) (H m : Nat) : Prop :=
  (H ≤ 6 ∧ m ≤ 12 ∧ I 12 8 = nI H ∧ B 3 0 = nI H ∧ I 12 9 = nI m ∧ B 3 1 = nI m ∧ I 12 12 = nI 0 ∧ I 12 13 = nI 0) ∧
  (∃ g, g ≤ 9 ∧ I 12 10 = nI g ∧ B 3 2 = nI g) ∧ (∃ y, 1 ≤ y ∧ y ≤ 30 ∧ I 12 11 = nI y ∧ B 3 3 = nI y) ∧
  (∀ h, h < H → A 14 h = B 3 (4 + h) ∧ A 15 h = B 3 (10 + h) ∧ A 16 h = B 3 (16 + h) ∧ ∃ c, c ≤ 6 ∧ B 3 (16 + h) = nI c) ∧
  (∀ j, j < m → A 17 j = B 3 (22 + j) ∧ A 18 j = B 3 (34 + j) ∧ A 19 j = B 3 (46 + j) ∧ A 20 j = B 3 (58 + j) ∧ ∃ a c l g, a < H ∧ c < H ∧ a ≠ c ∧ l ≤ 9999 ∧ g ≤ 999 ∧ B 3 (22 + j) = nI a ∧ B 3 (34 + j) = nI c ∧ B 3 (46 + j) = nI l ∧ B 3 (58 + j) = nI g) ∧
  (∀ h, H ≤ h → h < 6 → B 3 (4 + h) = nI 0) ∧ (∀ j, m ≤ j → j < 12 → B 3 (46 + j) = nI 0) ∧ Nm (N 13) (M 8) H
/-- nothing else is changed by the reading -/
def Fq (I A : Nat → Nat → Int32) (N : Nat → Nat → Int64) (J : Nat → Int32) (B : Nat → Nat → Int32) (M : Nat → Nat → Int64) (I' A' : Nat → Nat → Int32) (N' : Nat → Nat → Int64) (J' : Nat → Int32) (B' : Nat → Nat → Int32) (M' : Nat → Nat → Int64) : Prop :=
  (∀ q, q ≠ 1 → q ≠ 12 → I' q = I q) ∧ (∀ q, q < 14 ∨ 20 < q → A' q = A q) ∧ (∀ q, q ≠ 13 → N' q = N q) ∧ (∀ k, k < 5 ∨ (11 < k ∧ k ≠ 13 ∧ k ≠ 23) → J' k = J k) ∧ (∀ q, q ≠ 3 → B' q = B q) ∧ (∀ q, q ≠ 8 → M' q = M q)
theorem Fq_t {I A : Nat → Nat → Int32} {N : Nat → Nat → Int64} {J : Nat → Int32} {B : Nat → Nat → Int32} {M : Nat → Nat → Int64} {I1 A1 : Nat → Nat → Int32} {N1 : Nat → Nat → Int64} {J1 : Nat → Int32} {B1 : Nat → Nat → Int32} {M1 : Nat → Nat → Int64} {I2 A2 : Nat → Nat → Int32} {N2 : Nat → Nat → Int64} {J2 : Nat → Int32} {B2 : Nat → Nat → Int32} {M2 : Nat → Nat → Int64} (h : Fq I A N J B M I1 A1 N1 J1 B1 M1) (h' : Fq I1 A1 N1 J1 B1 M1 I2 A2 N2 J2 B2 M2) : Fq I A N J B M I2 A2 N2 J2 B2 M2 :=
  ⟨fun q q1 q2 => (h'.1 q q1 q2).trans (h.1 q q1 q2), fun q q1 => (h'.2.1 q q1).trans (h.2.1 q q1), fun q q1 => (h'.2.2.1 q q1).trans (h.2.2.1 q q1), fun q q1 => (h'.2.2.2.1 q q1).trans (h.2.2.2.1 q q1), fun q q1 => (h'.2.2.2.2.1 q q1).trans (h.2.2.2.2.1 q q1), fun q q1 => (h'.2.2.2.2.2 q q1).trans (h.2.2.2.2.2 q q1)⟩
theorem Bt_c {t : Nat} {b : Nat → Nat} {A B A' B' : Nat → Nat → Int32} (h : Bt t b A B) (h1 : A' 2 = A 2) (h2 : B' 1 = B 1) : Bt t b A' B' := ⟨h.1, fun k hk => by rw [h1, h2]; exact h.2 k hk⟩
/-- one step went on; one step ended in a fault -/
def Gd (t L n : Nat) (I I' : Nat → Nat → Int32) (lt' : Int64) (tw' : Option Nat) (J J' : Nat → Int32) (w' : Int64) : Prop := (∀ q, q ≠ 1 → I' q = I q) ∧ Go t L n (I 1) (I' 1) lt' tw' J J' w'
def Bd (I I' : Nat → Nat → Int32) (J J' : Nat → Int32) : Prop := (∀ q, q ≠ 1 → I' q = I q) ∧ No (I 1) (I' 1) J J'
theorem Gd_Fq {t L n : Nat} {I I' A : Nat → Nat → Int32} {N : Nat → Nat → Int64} {lt' : Int64} {tw' : Option Nat} {J J' : Nat → Int32} {w' : Int64} {B : Nat → Nat → Int32} {M : Nat → Nat → Int64} (h : Gd t L n I I' lt' tw' J J' w') : Fq I A N J B M I' A N J' B M :=
  ⟨fun q q1 _ => h.1 q q1, fun _ _ => rfl, fun _ _ => rfl, fun k hk => h.2.2.2 k (by omega), fun _ _ => rfl, fun _ _ => rfl⟩
theorem Bd_Fq {I I' A : Nat → Nat → Int32} {N : Nat → Nat → Int64} {J J' : Nat → Int32} {B : Nat → Nat → Int32} {M : Nat → Nat → Int64} (h : Bd I I' J J') : Fq I A N J B M I' A N J' B M :=
  ⟨fun q q1 _ => h.1 q q1, fun _ _ => rfl, fun _ _ => rfl, fun k hk => h.2.2.2 k (by omega), fun _ _ => rfl, fun _ _ => rfl⟩
theorem Gd_mk {t L n : Nat} {I : Nat → Nat → Int32} {f' : Nat → Int32} {lt' : Int64} {tw' : Option Nat} {J J' : Nat → Int32} {w' : Int64} (h : Go t L n (I 1) f' lt' tw' J J' w') : Gd t L n I (up1 I 1 f') lt' tw' J J' w' := ⟨fun q hq => up1_n hq, by rw [up1_s]; exact h⟩
theorem Bd_mk {I : Nat → Nat → Int32} {f' J J' : Nat → Int32} (h : No (I 1) f' J J') : Bd I (up1 I 1 f') J J' := ⟨fun q hq => up1_n hq, by rw [up1_s]; exact h⟩
section RDG
variable (d d' sl sl' : Nat) (I : Nat → Nat → Int32) (A : Nat → Nat → Int32) (N : Nat → Nat → Int64) (V : Nat → Nat → Option Nat) (lt : Int64) (tw : Option Nat) (sp sr : Nat) (X : List AC) (J : Nat → Int32) (w : Int64) (B : Nat → Nat → Int32) (M : Nat → Nat → Int64) {t L n κ v : Nat} {s : List Nat} {b : Nat → Nat}
theorem gd_adv (hB : Bt t b A B) (hL : L ≤ 940) (hX : Nat.ble X.length 1 = true) (h : Tk t L n κ v s (I 1) lt tw J w) (hκ : 1 < κ) : ∃ I' lt' tw' J' w', C (d + 1) 90 [.ref 1] sl (CH I A N V lt tw sp sr X) = some ([], sl, CH I' A N V lt' tw' sp sr X) ∧ C (d' + 1) 174 [.ref 0] sl' (RH J w B M) = some ([], sl', RH J' w' B M) ∧ Gd t L (n + 1) I I' lt' tw' J J' w' ∧ (∀ k, 8 < k → I' 1 k = I 1 k) ∧ (∀ k, k < 5 ∨ 9 < k → J' k = J k) := by
  obtain ⟨κ', v', s', f', lt', tw', J', w', x1, x2, x3, x4, x5⟩ := adv d d' sl sl' I A N V sp sr X B M hB hL hX h hκ (I 1) J (fun k hk => rfl) (fun k hk => rfl)
  rw [up1_id] at x1
  exact ⟨up1 I 1 f', lt', tw', J', w', x1, x2, Gd_mk ⟨⟨κ', v', s', x3⟩, x4 10 (by decide), fun k hk => x5 k (by omega)⟩, fun k hk => by rw [up1_s]; exact x4 k hk, x5⟩
theorem gd_num {a z : Nat} (hz : z ≤ 999) (ha : a ≤ 999) (hB : Bt t b A B) (hL : L ≤ 940) (hX : Nat.ble X.length 1 = true) (h : Tk t L n κ v s (I 1) lt tw J w) :
    (∃ u I' lt' tw' J' w', a ≤ u ∧ u ≤ z ∧ C (d + 2) 102 [.ref 1, .int (nI a), .int (nI z)] sl (CH I A N V lt tw sp sr X) = some ([.int (x_b true)], sl, CH I' A N V lt' tw' sp sr X) ∧ C (d' + 2) 181 [.ref 0, .int (nI a), .int (nI z)] sl' (RH J w B M) = some ([.int (x_b true)], sl', RH J' w' B M) ∧ Gd t L (n + 1) I I' lt' tw' J J' w' ∧ I' 1 9 = nI u ∧ J' 13 = nI u) ∨
    (∃ I' J', C (d + 2) 102 [.ref 1, .int (nI a), .int (nI z)] sl (CH I A N V lt tw sp sr X) = some ([.int (x_b false)], sl, CH I' A N V lt tw sp sr X) ∧ C (d' + 2) 181 [.ref 0, .int (nI a), .int (nI z)] sl' (RH J w B M) = some ([.int (x_b false)], sl', RH J' w B M) ∧ Bd I I' J J') := by
  rcases rd_num d d' sl sl' I A N V lt tw sp sr X J w B M hz ha hB hL hX h with ⟨u, f', lt', tw', J', w', a1, a2, a3, a4, a5, a6, a7⟩ | ⟨f', J', a1, a2, a3⟩
  · exact Or.inl ⟨u, up1 I 1 f', lt', tw', J', w', a1, a2, a3, a4, Gd_mk a5, by rw [up1_s]; exact a6, a7⟩
  · exact Or.inr ⟨up1 I 1 f', J', a1, a2, Bd_mk a3⟩
theorem gd_end (hB : Bt t b A B) (hL : L ≤ 940) (hX : Nat.ble X.length 1 = true) (h : Tk t L n κ v s (I 1) lt tw J w) :
    (∃ I' lt' tw' J' w', C (d + 2) 98 [.ref 1, .int (nI 59)] sl (CH I A N V lt tw sp sr X) = some ([.int (x_b true)], sl, CH I' A N V lt' tw' sp sr X) ∧ C (d' + 2) 182 [.ref 0] sl' (RH J w B M) = some ([.int (x_b true)], sl', RH J' w' B M) ∧ Gd t L (n + 1) I I' lt' tw' J J' w' ∧ κ = 5) ∨
    (∃ I' J', C (d + 2) 98 [.ref 1, .int (nI 59)] sl (CH I A N V lt tw sp sr X) = some ([.int (x_b false)], sl, CH I' A N V lt tw sp sr X) ∧ C (d' + 2) 182 [.ref 0] sl' (RH J w B M) = some ([.int (x_b false)], sl', RH J' w B M) ∧ Bd I I' J J') := by
  have m1 := q96 (d + 1) sl I A N V lt tw sp sr X (show 59 < 128 by decide) h
  have m2 := c178 (d' + 1) sl' J w B M (show 59 < 128 by decide) h
  by_cases hk : κ = 5 ∧ v = 59
  · rw [decide_eq_true hk] at m1 m2
    obtain ⟨I', lt', tw', J', w', x1, x2, x3, x4, x5⟩ := gd_adv d d' sl sl' I A N V lt tw sp sr X J w B M hB hL hX h (by omega)
    refine Or.inl ⟨I', lt', tw', J', w', ?_, ?_, x3, hk.1⟩
    · rw [e98, k98_r1_0]
      simp (disch := omega) only [rt_c, b_some, List.cons_append, List.nil_append, Bool.cond_not, cond_true, cond_false, Bool.cond_decide, nI_add, nI_clamp, xin_n, dle_e, dlt_e, deq_e, xb_0, xb_1, decide_true, decide_false, Bool.not_true, Bool.not_false, Bool.and_true, Bool.true_and, Bool.and_false, Bool.false_and, Bool.true_or, Bool.false_or, Bool.or_true, Bool.or_false, if_true, if_false, up1_s, n_31, Int32.lt_irrefl, m1, k98_r1_5, xb_t, Nat.one_ne_zero, x1, k98_r1_18, t98_13, t98_13_0, t98_13_1, t98_19, t98_19_0, t98_19_1]
    · rw [e182, m182_0]
      simp (disch := omega) only [rt_c, b_some, List.cons_append, List.nil_append, Bool.cond_not, cond_true, cond_false, Bool.cond_decide, nI_add, nI_clamp, xin_n, dle_e, dlt_e, deq_e, xb_0, xb_1, decide_true, decide_false, Bool.not_true, Bool.not_false, Bool.and_true, Bool.true_and, Bool.and_false, Bool.false_and, Bool.true_or, Bool.false_or, Bool.or_true, Bool.or_false, if_true, if_false, up1_s, n_31, Int32.lt_irrefl, m2, m182_6, xb_t, Nat.one_ne_zero, x2, m182_19, t182_14, t182_14_0, t182_14_1, t182_20, t182_20_0, t182_20_1]
  · rcases rd_end d d' sl sl' I A N V lt tw sp sr X J w B M hB hL hX h with ⟨f', lt', tw', J', w', a1, _⟩ | ⟨f', J', a1, a2, a3⟩
    · rw [decide_eq_false hk] at m1
      have : C (d + 2) 98 [.ref 1, .int (nI 59)] sl (CH I A N V lt tw sp sr X) = some ([.int (x_b false)], sl, CH (up1 I 1 (up1 (up1 (I 1) 10 (nI 1)) 11 (I 1 5))) A N V lt tw sp sr X) := by
        rw [e98, k98_r1_0]
        simp (disch := omega) only [rt_c, b_some, List.cons_append, List.nil_append, Bool.cond_not, cond_true, cond_false, Bool.cond_decide, nI_add, nI_clamp, xin_n, dle_e, dlt_e, deq_e, xb_0, xb_1, decide_true, decide_false, Bool.not_true, Bool.not_false, Bool.and_true, Bool.true_and, Bool.and_false, Bool.false_and, Bool.true_or, Bool.false_or, Bool.or_true, Bool.or_false, if_true, if_false, up1_s, n_31, Int32.lt_irrefl, m1, k98_r1_5, xb_f, q97, k98_r1_13, t98_13, t98_13_0, t98_13_1, t98_19, t98_19_0, t98_19_1]
      rw [this] at a1
      exact absurd (Value.int.inj (List.cons.inj (Prod.mk.inj (Option.some.inj a1)).1).1) (by decide)
    · exact Or.inr ⟨up1 I 1 f', J', a1, a2, Bd_mk a3⟩
theorem gd_house_3 {H : Nat} (hH6 : H ≤ 6) (hH : I 3 8 = nI H) (hN : Nm (N 4) (M 7) H) (x : Int32) (hB : Bt t b A B) (hL : L ≤ 940) (hX : Nat.ble X.length 1 = true) (h : Tk t L n κ v s (I 1) lt tw J w) :
    (∃ u I' lt' tw' J' w', u < H ∧ ¬ nI u = x ∧ C (d + 2) 104 [.ref 1, .ref 3, .int x] sl (CH I A N V lt tw sp sr X) = some ([.int (x_b true)], sl, CH I' A N V lt' tw' sp sr X) ∧ C (d' + 3) 190 [.ref 0, .ref 7, .int (nI H), .int x] sl' (RH J w B M) = some ([.int (x_b true)], sl', RH J' w' B M) ∧ Gd t L (n + 1) I I' lt' tw' J J' w' ∧ I' 1 9 = nI u ∧ J' 13 = nI u) ∨
    (∃ I' J', C (d + 2) 104 [.ref 1, .ref 3, .int x] sl (CH I A N V lt tw sp sr X) = some ([.int (x_b false)], sl, CH I' A N V lt tw sp sr X) ∧ C (d' + 3) 190 [.ref 0, .ref 7, .int (nI H), .int x] sl' (RH J w B M) = some ([.int (x_b false)], sl', RH J' w B M) ∧ Bd I I' J J') := by
  rcases rd_house_3 d d' sl sl' I A N V lt tw sp sr X J w B M hH6 hH hN x hB hL hX h with ⟨u, f', lt', tw', J', w', a1, a2, a3, a4, a5, a6, a7⟩ | ⟨f', J', a1, a2, a3⟩
  · exact Or.inl ⟨u, up1 I 1 f', lt', tw', J', w', a1, a2, a3, a4, Gd_mk a5, by rw [up1_s]; exact a6, a7⟩
  · exact Or.inr ⟨up1 I 1 f', J', a1, a2, Bd_mk a3⟩
theorem gd_house_12 {H : Nat} (hH6 : H ≤ 6) (hH : I 12 8 = nI H) (hN : Nm (N 13) (M 8) H) (x : Int32) (hB : Bt t b A B) (hL : L ≤ 940) (hX : Nat.ble X.length 1 = true) (h : Tk t L n κ v s (I 1) lt tw J w) :
    (∃ u I' lt' tw' J' w', u < H ∧ ¬ nI u = x ∧ C (d + 2) 104 [.ref 1, .ref 12, .int x] sl (CH I A N V lt tw sp sr X) = some ([.int (x_b true)], sl, CH I' A N V lt' tw' sp sr X) ∧ C (d' + 3) 190 [.ref 0, .ref 8, .int (nI H), .int x] sl' (RH J w B M) = some ([.int (x_b true)], sl', RH J' w' B M) ∧ Gd t L (n + 1) I I' lt' tw' J J' w' ∧ I' 1 9 = nI u ∧ J' 13 = nI u) ∨
    (∃ I' J', C (d + 2) 104 [.ref 1, .ref 12, .int x] sl (CH I A N V lt tw sp sr X) = some ([.int (x_b false)], sl, CH I' A N V lt tw sp sr X) ∧ C (d' + 3) 190 [.ref 0, .ref 8, .int (nI H), .int x] sl' (RH J w B M) = some ([.int (x_b false)], sl', RH J' w B M) ∧ Bd I I' J J') := by
  rcases rd_house_12 d d' sl sl' I A N V lt tw sp sr X J w B M hH6 hH hN x hB hL hX h with ⟨u, f', lt', tw', J', w', a1, a2, a3, a4, a5, a6, a7⟩ | ⟨f', J', a1, a2, a3⟩
  · exact Or.inl ⟨u, up1 I 1 f', lt', tw', J', w', a1, a2, a3, a4, Gd_mk a5, by rw [up1_s]; exact a6, a7⟩
  · exact Or.inr ⟨up1 I 1 f', J', a1, a2, Bd_mk a3⟩
/-- both note a fault -/
theorem gd_no {c : Nat} (hc : c ≤ 4) (ht : t ≤ 940) (h : Tk t L n κ v s (I 1) lt tw J w) (hκ : κ ≠ 1 ∨ c = 1) : ∃ I' J', C d 97 [.ref 1, .int (nI c)] sl (CH I A N V lt tw sp sr X) = some ([.int (x_b false)], sl, CH I' A N V lt tw sp sr X) ∧ C d' 180 [.ref 0, .int (nI c)] sl' (RH J w B M) = some ([.int (x_b false)], sl', RH J' w B M) ∧ Bd I I' J J' :=
  ⟨_, _, q97 d sl I A N V lt tw sp sr X, c180 d' sl' J w B M h hκ, Bd_mk (No_mk ht h hc (I 1) J (fun _ _ => rfl) (fun _ _ => rfl))⟩
end RDG
section RFP
variable (d sl : Nat) (I : Nat → Int32) (w : Int64) (A : Nat → Nat → Int32) (N : Nat → Nat → Int64)
theorem c188_t {i : Nat} (hi : i < 70) : C d 188 [.ref 0, .int (nI i), .int (x_b true)] sl (RH I w A N) = some ([.int (x_b true)], sl, RH I w (up1 A 3 (upd (A 3) i (I 13))) N) := by
  rw [e188, m188_0, xb_t]
  simp (disch := omega) only [rt_c, b_some, List.cons_append, List.nil_append, Bool.cond_not, cond_true, cond_false, Bool.cond_decide, nI_add, nI_clamp, xin_n, dle_e, dlt_e, deq_e, xb_0, xb_1, decide_true, decide_false, Bool.not_true, Bool.not_false, Bool.and_true, Bool.true_and, Bool.and_false, Bool.false_and, Bool.true_or, Bool.false_or, Bool.or_true, Bool.or_false, if_true, if_false, up1_s, n_31, Int32.lt_irrefl, Nat.one_ne_zero, t188_15, t188_15_0, t188_15_1, xb_t]
theorem c188_f (i : Int32) : C d 188 [.ref 0, .int i, .int (x_b false)] sl (RH I w A N) = some ([.int (x_b false)], sl, RH I w A N) := by
  rw [e188, m188_0, xb_f]
  simp (disch := omega) only [rt_c, b_some, List.cons_append, List.nil_append, Bool.cond_not, cond_true, cond_false, Bool.cond_decide, nI_add, nI_clamp, xin_n, dle_e, dlt_e, deq_e, xb_0, xb_1, decide_true, decide_false, Bool.not_true, Bool.not_false, Bool.and_true, Bool.true_and, Bool.and_false, Bool.false_and, Bool.true_or, Bool.false_or, Bool.or_true, Bool.or_false, if_true, if_false, up1_s, n_31, Int32.lt_irrefl, t188_15, t188_15_0, t188_15_1, xb_f]
end RFP
