/-! THE REFERENCE'S RINGS -/
def Em (n : Nat → Int32) (m : Nat) (a b : Nat) : Bool := owe_ n m (nI a) (nI b)
def Fm (g : Nat → Int32) (f : Nat → Nat) : Prop := ∀ i, i < 6 → g i = nI (f i) ∧ f i ≤ 100000
def lstP (P : Nat → Bool) (H : Nat) : Nat := (x_fd (fun g => cond (P g) (some g) none) 0 H).getD 0
theorem fd_some {P : Nat → Bool} : ∀ (k i : Nat), (∃ g, i ≤ g ∧ g < i + k ∧ P g = true) → ∃ g, x_fd (fun g => cond (P g) (some g) none) i k = some g ∧ i ≤ g ∧ g < i + k ∧ P g = true ∧ ∀ j, i ≤ j → j < g → P j = false := by
  intro k
  induction k with
  | zero => intro i ⟨g, h1, h2, _⟩; omega
  | succ k ih =>
    intro i hx
    simp only [x_fd]
    cases hp : P i with
    | true => exact ⟨i, rfl, Nat.le_refl _, by omega, hp, fun j h1 h2 => by omega⟩
    | false =>
      obtain ⟨g, h1, h2, h3⟩ := hx
      have hgi : g ≠ i := fun e => by rw [e, hp] at h3; cases h3
      obtain ⟨g', e1, e2, e3, e4, e5⟩ := ih (i + 1) ⟨g, by omega, by omega, h3⟩
      refine ⟨g', e1, by omega, by omega, e4, fun j h4 h5 => ?_⟩
      by_cases hj : j = i
      · rw [hj, hp]
      · exact e5 j (by omega) h5
theorem lstP_ok {P : Nat → Bool} {H : Nat} (hx : ∃ g, g < H ∧ P g = true) : lstP P H < H ∧ P (lstP P H) = true ∧ ∀ j, j < lstP P H → P j = false := by
  obtain ⟨g, h1, h2⟩ := hx
  obtain ⟨g', e1, e2, e3, e4, e5⟩ := fd_some (P := P) H 0 ⟨g, by omega, by omega, h2⟩
  unfold lstP
  rw [e1]
  exact ⟨by simpa using e3, e4, fun j hj => e5 j (by omega) hj⟩
noncomputable def Dd (E : Nat → Nat → Bool) (H h k g : Nat) : Bool := @decide (Ds E H h k g) (Classical.propDecidable _)
theorem Dd_iff {E : Nat → Nat → Bool} {H h k g : Nat} : Dd E H h k g = true ↔ Ds E H h k g := by
  unfold Dd
  exact @decide_eq_true_iff _ (Classical.propDecidable _)
/-- the first ring, house by house -/
noncomputable def vv (E : Nat → Nat → Bool) (H h L : Nat) : Nat → Nat
  | 0 => h
  | i + 1 => lstP (fun g => E (vv E H h L i) g && Dd E H h (L - (i + 1)) g) H
theorem vv_ok {E : Nat → Nat → Bool} {H h L : Nat} (hh : h < H) (hr : RG E H h L) : ∀ i, i + 1 < L → (vv E H h L i < H) ∧ vv E H h L (i + 1) < H ∧ E (vv E H h L i) (vv E H h L (i + 1)) = true ∧ Dd E H h (L - (i + 1)) (vv E H h L (i + 1)) = true ∧ ∀ g, g < vv E H h L (i + 1) → (E (vv E H h L i) g && Dd E H h (L - (i + 1)) g) = false := by
  intro i
  induction i with
  | zero =>
    intro hi
    obtain ⟨L, rfl⟩ : ∃ j, L = j + 1 := ⟨L - 1, by omega⟩
    obtain ⟨b, hb, he, hd⟩ := RG_next hr
    have := lstP_ok (P := fun g => E h g && Dd E H h (L + 1 - (0 + 1)) g) (H := H) ⟨b, hb, by
      show (E h b && Dd E H h (L + 1 - (0 + 1)) b) = true
      rw [he, Bool.true_and]
      exact Dd_iff.mpr hd⟩
    obtain ⟨e1, e2, e3⟩ := this
    rw [Bool.and_eq_true] at e2
    exact ⟨hh, e1, e2.1, e2.2, e3⟩
  | succ i ih =>
    intro hi
    obtain ⟨-, h1, -, h2, -⟩ := ih (by omega)
    have hd := Dd_iff.mp h2
    have hL : L - (i + 1) = (L - (i + 1 + 1)) + 1 := by omega
    rw [hL] at hd
    obtain ⟨b, hb, he, hd'⟩ := Ds_next hd
    have := lstP_ok (P := fun g => E (vv E H h L (i + 1)) g && Dd E H h (L - (i + 1 + 1)) g) (H := H) ⟨b, hb, by
      show (E (vv E H h L (i + 1)) b && Dd E H h (L - (i + 1 + 1)) b) = true
      rw [he, Bool.true_and]
      exact Dd_iff.mpr hd'⟩
    obtain ⟨e1, e2, e3⟩ := this
    rw [Bool.and_eq_true] at e2
    exact ⟨h1, e1, e2.1, e2.2, e3⟩
theorem vv_lt {E : Nat → Nat → Bool} {H h L : Nat} (hh : h < H) (hr : RG E H h L) {i : Nat} (hi : i < L) : vv E H h L i < H := by
  cases i with
  | zero => exact hh
  | succ i => exact (vv_ok hh hr i hi).2.1
/-- far is near, within a ring -/
theorem far_Dd {E : Nat → Nat → Bool} {H h L g j : Nat} (hH : H ≤ 6) (hh : h < H) (hL : farN E H h h = L) (hg : g < H) (h1 : 1 ≤ j) (h2 : j < L) (h3 : L < 100000) : decide (farN E H h g = j) = Dd E H h j g := by
  by_cases hgh : g = h
  · subst hgh
    have e1 : decide (farN E H g g = j) = false := by rw [hL]; simp; omega
    rw [e1]
    cases hd : Dd E H g j g with
    | false => rfl
    | true =>
      exfalso
      exact (Dd_iff.mp hd).2 0 (by omega) rfl
  · have := Fa_Ds (farN_ok (E := E) hH hh hg) hgh hH (k := j) (by omega)
    cases hd : Dd E H h j g with
    | true => exact decide_eq_true (this.mpr (Dd_iff.mp hd))
    | false =>
      apply decide_eq_false
      intro e
      rw [Dd_iff.mpr (this.mp e)] at hd
      cases hd
theorem Fm_up {g : Nat → Int32} {f : Nat → Nat} {a v : Nat} (hf : Fm g f) (hv : v ≤ 100000) : Fm (upd g a (nI v)) (fun i => if i = a then v else f i) := by
  intro i hi
  by_cases h : i = a
  · subst h
    rw [upd_s]
    simp [hv]
  · rw [upd_n h]
    simp only [h, if_false]
    exact hf i hi
section RFR
variable (d sl : Nat) (I : Nat → Int32) (w : Int64) (A : Nat → Nat → Int32) (N : Nat → Nat → Int64)
theorem c210' {m : Nat} (hm : m ≤ 12) (hD : A 2 72 = nI m) (g : Nat → Int32) (a b : Int32) : C (d + 1) 210 [.ref 0, .int a, .int b] sl (RH I w (up1 A 11 g) N) = some ([.int (x_b (owe_ (A 2) m a b))], sl, RH I w (up1 A 11 g) N) := by
  have hA : up1 A 11 g 2 = A 2 := up1_n (by decide)
  have := c210 d sl I w (up1 A 11 g) N hm (by rw [hA]; exact hD) a b
  rwa [hA] at this
theorem c211_58 {H m h a : Nat} (hV : Vd (A 2) H m) (ha : a < H) (r : Int32) : ∀ (q b : Nat) (g : Nat → Int32) (f : Nat → Nat), b + q = H → Fm g f → ∃ g', rt 211 (R (d + 2) 211 (58, [some (.ref 0), some (.int (nI h)), some (.int r), some (.int (nI a)), some (.int (nI b))], [], sl, RH I w (up1 A 11 g) N)) = rt 211 (R (d + 2) 211 (45, [some (.ref 0), some (.int (nI h)), some (.int r), some (.int (nI (a + 1))), some (.int (nI H))], [], sl, RH I w (up1 A 11 g') N)) ∧ Fm g' (x_it (fun b f => rlx (Em (A 2) m) a b f) b q f) := by
  obtain ⟨⟨hH, hD, hH6, hm⟩, -⟩ := hV
  intro q
  induction q with
  | zero =>
    intro b g f hb hf
    have h1 : H ≤ b := by omega
    have h2 : b = H := by omega
    subst h2
    refine ⟨g, ?_, hf⟩
    rw [m211_58]
    simp (disch := omega) only [rt_c, b_some, List.cons_append, List.nil_append, Bool.cond_not, cond_true, cond_false, Bool.cond_decide, nI_add, nI_clamp, xin_n, dle_e, dlt_e, deq_e, xb_0, xb_1, decide_true, decide_false, Bool.not_true, Bool.not_false, Bool.and_true, Bool.true_and, Bool.and_false, Bool.false_and, Bool.true_or, Bool.false_or, Bool.or_true, Bool.or_false, if_true, if_false, up1_s, n_31, Int32.lt_irrefl, up1_n, hH, h1]
  | succ q ih =>
    intro b g f hb hf
    have h1 : ¬ H ≤ b := by omega
    have h210 := c210' d sl I w A N hm hD g (nI a) (nI b)
    have hE : owe_ (A 2) m (nI a) (nI b) = Em (A 2) m a b := rfl
    rw [hE] at h210
    rw [show x_it (fun b f => rlx (Em (A 2) m) a b f) b (q + 1) f = x_it (fun b f => rlx (Em (A 2) m) a b f) (b + 1) q (rlx (Em (A 2) m) a b f) from rfl]
    cases he : Em (A 2) m a b with
    | false =>
      rw [he] at h210
      have hr : rlx (Em (A 2) m) a b f = f := by
        funext i
        unfold rlx
        rw [if_neg (by rw [he]; simp)]
      rw [hr]
      obtain ⟨g', e1, e2⟩ := ih (b + 1) g f (by omega) hf
      refine ⟨g', ?_, e2⟩
      rw [m211_58]
      simp (disch := omega) only [rt_c, b_some, List.cons_append, List.nil_append, Bool.cond_not, cond_true, cond_false, Bool.cond_decide, nI_add, nI_clamp, xin_n, dle_e, dlt_e, deq_e, xb_0, xb_1, decide_true, decide_false, Bool.not_true, Bool.not_false, Bool.and_true, Bool.true_and, Bool.and_false, Bool.false_and, Bool.true_or, Bool.false_or, Bool.or_true, Bool.or_false, if_true, if_false, up1_s, n_31, Int32.lt_irrefl, up1_n, hH, h1, h210, m211_76, e1]
    | true =>
      rw [he] at h210
      have ga := hf a (by omega)
      have gb := hf b (by omega)
      have hr : rlx (Em (A 2) m) a b f = fun i => if i = a then min (f a) (f b + 1) else f i := by
        funext i
        unfold rlx
        rw [he]
        simp
      have hmn : x_min (nI (f a)) (nI (f b + 1)) = nI (min (f a) (f b + 1)) := xmin_nn (by omega) (by omega)
      rw [hr]
      obtain ⟨g', e1, e2⟩ := ih (b + 1) (upd g a (nI (min (f a) (f b + 1)))) _ (by omega) (Fm_up (a := a) hf (show min (f a) (f b + 1) ≤ 100000 by omega))
      refine ⟨g', ?_, e2⟩
      rw [m211_58]
      simp (disch := omega) only [rt_c, b_some, List.cons_append, List.nil_append, Bool.cond_not, cond_true, cond_false, Bool.cond_decide, nI_add, nI_clamp, xin_n, dle_e, dlt_e, deq_e, xb_0, xb_1, decide_true, decide_false, Bool.not_true, Bool.not_false, Bool.and_true, Bool.true_and, Bool.and_false, Bool.false_and, Bool.true_or, Bool.false_or, Bool.or_true, Bool.or_false, if_true, if_false, up1_s, n_31, Int32.lt_irrefl, up1_n, hH, h1, h210, m211_76, c169, m211_102, up1_up, ga.1, gb.1, hmn, e1]
theorem c211_45 {H m h : Nat} (hV : Vd (A 2) H m) (r : Nat) (hr : r < 6) : ∀ (q a : Nat) (g : Nat → Int32) (f : Nat → Nat) (o : Option Value), (o = none ∨ ∃ v, o = some (.int v)) → a + q = H → Fm g f → ∃ g' o', (o' = none ∨ ∃ v, o' = some (.int v)) ∧ rt 211 (R (d + 2) 211 (45, [some (.ref 0), some (.int (nI h)), some (.int (nI r)), some (.int (nI a)), o], [], sl, RH I w (up1 A 11 g) N)) = rt 211 (R (d + 2) 211 (37, [some (.ref 0), some (.int (nI h)), some (.int (nI (r + 1))), some (.int (nI H)), o'], [], sl, RH I w (up1 A 11 g') N)) ∧ Fm g' (x_it (fun a f => x_it (fun b f => rlx (Em (A 2) m) a b f) 0 H f) a q f) := by
  have hV0 := hV
  obtain ⟨⟨hH, hD, hH6, hm⟩, -⟩ := hV
  intro q
  induction q with
  | zero =>
    intro a g f o ho ha hf
    have h1 : H ≤ a := by omega
    have h2 : a = H := by omega
    subst h2
    refine ⟨g, o, ho, ?_, hf⟩
    rcases ho with rfl | ⟨v, rfl⟩
    · rw [m211_45]
      simp (disch := omega) only [rt_c, b_some, List.cons_append, List.nil_append, Bool.cond_not, cond_true, cond_false, Bool.cond_decide, nI_add, nI_clamp, xin_n, dle_e, dlt_e, deq_e, xb_0, xb_1, decide_true, decide_false, Bool.not_true, Bool.not_false, Bool.and_true, Bool.true_and, Bool.and_false, Bool.false_and, Bool.true_or, Bool.false_or, Bool.or_true, Bool.or_false, if_true, if_false, up1_s, n_31, Int32.lt_irrefl, up1_n, hH, h1]
    · rw [m211_45_1]
      simp (disch := omega) only [rt_c, b_some, List.cons_append, List.nil_append, Bool.cond_not, cond_true, cond_false, Bool.cond_decide, nI_add, nI_clamp, xin_n, dle_e, dlt_e, deq_e, xb_0, xb_1, decide_true, decide_false, Bool.not_true, Bool.not_false, Bool.and_true, Bool.true_and, Bool.and_false, Bool.false_and, Bool.true_or, Bool.false_or, Bool.or_true, Bool.or_false, if_true, if_false, up1_s, n_31, Int32.lt_irrefl, up1_n, hH, h1]
  | succ q ih =>
    intro a g f o ho ha hf
    have h1 : ¬ H ≤ a := by omega
    obtain ⟨g1, e1, f1⟩ := c211_58 d sl I w A N (h := h) hV0 (show a < H by omega) (nI r) H 0 g f (by omega) hf
    obtain ⟨g2, o2, ho2, e2, f2⟩ := ih (a + 1) g1 _ (some (.int (nI H))) (Or.inr ⟨_, rfl⟩) (by omega) f1
    refine ⟨g2, o2, ho2, ?_, f2⟩
    rw [← e2, ← e1]
    rcases ho with rfl | ⟨v, rfl⟩
    · rw [m211_45]
      simp (disch := omega) only [rt_c, b_some, List.cons_append, List.nil_append, Bool.cond_not, cond_true, cond_false, Bool.cond_decide, nI_add, nI_clamp, xin_n, dle_e, dlt_e, deq_e, xb_0, xb_1, decide_true, decide_false, Bool.not_true, Bool.not_false, Bool.and_true, Bool.true_and, Bool.and_false, Bool.false_and, Bool.true_or, Bool.false_or, Bool.or_true, Bool.or_false, if_true, if_false, up1_s, n_31, Int32.lt_irrefl, up1_n, hH, h1]
    · rw [m211_45_1]
      simp (disch := omega) only [rt_c, b_some, List.cons_append, List.nil_append, Bool.cond_not, cond_true, cond_false, Bool.cond_decide, nI_add, nI_clamp, xin_n, dle_e, dlt_e, deq_e, xb_0, xb_1, decide_true, decide_false, Bool.not_true, Bool.not_false, Bool.and_true, Bool.true_and, Bool.and_false, Bool.false_and, Bool.true_or, Bool.false_or, Bool.or_true, Bool.or_false, if_true, if_false, up1_s, n_31, Int32.lt_irrefl, up1_n, hH, h1]
theorem c211_37 {H m h : Nat} (hV : Vd (A 2) H m) : ∀ (q r : Nat) (g : Nat → Int32) (f : Nat → Nat) (o3 o4 : Option Value), ((o3 = none ∧ o4 = none) ∨ ((∃ v, o3 = some (.int v)) ∧ (o4 = none ∨ ∃ v, o4 = some (.int v)))) → r + q = 6 → Fm g f → ∃ g', rt 211 (R (d + 2) 211 (37, [some (.ref 0), some (.int (nI h)), some (.int (nI r)), o3, o4], [], sl, RH I w (up1 A 11 g) N)) = some ([], sl, RH I w (up1 A 11 g') N) ∧ Fm g' (x_it (fun (_ : Nat) f => rnd (Em (A 2) m) H f) r q f) := by
  intro q
  induction q with
  | zero =>
    intro r g f o3 o4 ho hr hf
    have h1 : 6 ≤ r := by omega
    refine ⟨g, ?_, hf⟩
    rcases ho with ⟨rfl, rfl⟩ | ⟨⟨v, rfl⟩, rfl | ⟨u, rfl⟩⟩
    · rw [m211_37]
      simp (disch := omega) only [rt_c, b_some, List.cons_append, List.nil_append, Bool.cond_not, cond_true, cond_false, Bool.cond_decide, nI_add, nI_clamp, xin_n, dle_e, dlt_e, deq_e, xb_0, xb_1, decide_true, decide_false, Bool.not_true, Bool.not_false, Bool.and_true, Bool.true_and, Bool.and_false, Bool.false_and, Bool.true_or, Bool.false_or, Bool.or_true, Bool.or_false, if_true, if_false, up1_s, n_31, Int32.lt_irrefl, h1, t211_121]
    · rw [m211_37_1]
      simp (disch := omega) only [rt_c, b_some, List.cons_append, List.nil_append, Bool.cond_not, cond_true, cond_false, Bool.cond_decide, nI_add, nI_clamp, xin_n, dle_e, dlt_e, deq_e, xb_0, xb_1, decide_true, decide_false, Bool.not_true, Bool.not_false, Bool.and_true, Bool.true_and, Bool.and_false, Bool.false_and, Bool.true_or, Bool.false_or, Bool.or_true, Bool.or_false, if_true, if_false, up1_s, n_31, Int32.lt_irrefl, h1, t211_121]
    · rw [m211_37_2]
      simp (disch := omega) only [rt_c, b_some, List.cons_append, List.nil_append, Bool.cond_not, cond_true, cond_false, Bool.cond_decide, nI_add, nI_clamp, xin_n, dle_e, dlt_e, deq_e, xb_0, xb_1, decide_true, decide_false, Bool.not_true, Bool.not_false, Bool.and_true, Bool.true_and, Bool.and_false, Bool.false_and, Bool.true_or, Bool.false_or, Bool.or_true, Bool.or_false, if_true, if_false, up1_s, n_31, Int32.lt_irrefl, h1, t211_121]
  | succ q ih =>
    intro r g f o3 o4 ho hr hf
    have h1 : ¬ 6 ≤ r := by omega
    have key : ∀ o, (o = none ∨ ∃ v, o = some (.int v)) → ∃ g', rt 211 (R (d + 2) 211 (45, [some (.ref 0), some (.int (nI h)), some (.int (nI r)), some (.int (nI 0)), o], [], sl, RH I w (up1 A 11 g) N)) = some ([], sl, RH I w (up1 A 11 g') N) ∧ Fm g' (x_it (fun (_ : Nat) f => rnd (Em (A 2) m) H f) r (q + 1) f) := by
      intro o ho
      obtain ⟨g1, o1, ho1, e1, f1⟩ := c211_45 d sl I w A N (h := h) hV r (by omega) H 0 g f o ho (by omega) hf
      obtain ⟨g2, e2, f2⟩ := ih (r + 1) g1 (rnd (Em (A 2) m) H f) (some (.int (nI H))) o1 (Or.inr ⟨⟨_, rfl⟩, ho1⟩) (by omega) f1
      exact ⟨g2, e1.trans e2, f2⟩
    rcases ho with ⟨rfl, rfl⟩ | ⟨⟨v, rfl⟩, rfl | ⟨u, rfl⟩⟩
    · obtain ⟨g', e1, e2⟩ := key none (Or.inl rfl)
      refine ⟨g', ?_, e2⟩
      rw [m211_37]
      simp (disch := omega) only [rt_c, b_some, List.cons_append, List.nil_append, Bool.cond_not, cond_true, cond_false, Bool.cond_decide, nI_add, nI_clamp, xin_n, dle_e, dlt_e, deq_e, xb_0, xb_1, decide_true, decide_false, Bool.not_true, Bool.not_false, Bool.and_true, Bool.true_and, Bool.and_false, Bool.false_and, Bool.true_or, Bool.false_or, Bool.or_true, Bool.or_false, if_true, if_false, up1_s, n_31, Int32.lt_irrefl, h1, e1]
    · obtain ⟨g', e1, e2⟩ := key none (Or.inl rfl)
      refine ⟨g', ?_, e2⟩
      rw [m211_37_1]
      simp (disch := omega) only [rt_c, b_some, List.cons_append, List.nil_append, Bool.cond_not, cond_true, cond_false, Bool.cond_decide, nI_add, nI_clamp, xin_n, dle_e, dlt_e, deq_e, xb_0, xb_1, decide_true, decide_false, Bool.not_true, Bool.not_false, Bool.and_true, Bool.true_and, Bool.and_false, Bool.false_and, Bool.true_or, Bool.false_or, Bool.or_true, Bool.or_false, if_true, if_false, up1_s, n_31, Int32.lt_irrefl, h1, e1]
    · obtain ⟨g', e1, e2⟩ := key (some (.int u)) (Or.inr ⟨u, rfl⟩)
      refine ⟨g', ?_, e2⟩
      rw [m211_37_2]
      simp (disch := omega) only [rt_c, b_some, List.cons_append, List.nil_append, Bool.cond_not, cond_true, cond_false, Bool.cond_decide, nI_add, nI_clamp, xin_n, dle_e, dlt_e, deq_e, xb_0, xb_1, decide_true, decide_false, Bool.not_true, Bool.not_false, Bool.and_true, Bool.true_and, Bool.and_false, Bool.false_and, Bool.true_or, Bool.false_or, Bool.or_true, Bool.or_false, if_true, if_false, up1_s, n_31, Int32.lt_irrefl, h1, e1]
theorem c211_2 {H m h : Nat} (hV : Vd (A 2) H m) : ∀ (q i : Nat) (g : Nat → Int32), i + q = 6 → (∀ j, j < i → g j = nI (far0 (Em (A 2) m) h j)) → ∃ g', rt 211 (R (d + 2) 211 (2, [some (.ref 0), some (.int (nI h)), some (.int (nI i)), none, none], [], sl, RH I w (up1 A 11 g) N)) = rt 211 (R (d + 2) 211 (37, [some (.ref 0), some (.int (nI h)), some (.int (nI 0)), none, none], [], sl, RH I w (up1 A 11 g') N)) ∧ Fm g' (far0 (Em (A 2) m) h) := by
  obtain ⟨⟨hH, hD, hH6, hm⟩, -⟩ := hV
  intro q
  induction q with
  | zero =>
    intro i g hi hg
    have h1 : 6 ≤ i := by omega
    refine ⟨g, ?_, fun j hj => ⟨hg j (by omega), ?_⟩⟩
    · rw [m211_2]
      simp (disch := omega) only [rt_c, b_some, List.cons_append, List.nil_append, Bool.cond_not, cond_true, cond_false, Bool.cond_decide, nI_add, nI_clamp, xin_n, dle_e, dlt_e, deq_e, xb_0, xb_1, decide_true, decide_false, Bool.not_true, Bool.not_false, Bool.and_true, Bool.true_and, Bool.and_false, Bool.false_and, Bool.true_or, Bool.false_or, Bool.or_true, Bool.or_false, if_true, if_false, up1_s, n_31, Int32.lt_irrefl, h1]
    · unfold far0
      split <;> omega
  | succ q ih =>
    intro i g hi hg
    have h1 : ¬ 6 ≤ i := by omega
    have h210 := c210' d sl I w A N hm hD g (nI i) (nI h)
    have hE : owe_ (A 2) m (nI i) (nI h) = Em (A 2) m i h := rfl
    rw [hE] at h210
    have hx : ∀ v, nI v = nI (far0 (Em (A 2) m) h i) → ∀ j, j < i + 1 → upd g i (nI v) j = nI (far0 (Em (A 2) m) h j) := by
      intro v hv j hj
      by_cases hji : j = i
      · rw [hji, upd_s, hv]
      · rw [upd_n hji]; exact hg j (by omega)
    cases he : Em (A 2) m i h with
    | false =>
      rw [he] at h210
      obtain ⟨g', e1, e2⟩ := ih (i + 1) (upd g i (nI 100000)) (by omega) (hx 100000 (by unfold far0; rw [if_neg (by rw [he]; simp)]))
      refine ⟨g', ?_, e2⟩
      rw [m211_2]
      simp (disch := omega) only [rt_c, b_some, List.cons_append, List.nil_append, Bool.cond_not, cond_true, cond_false, Bool.cond_decide, nI_add, nI_clamp, xin_n, dle_e, dlt_e, deq_e, xb_0, xb_1, decide_true, decide_false, Bool.not_true, Bool.not_false, Bool.and_true, Bool.true_and, Bool.and_false, Bool.false_and, Bool.true_or, Bool.false_or, Bool.or_true, Bool.or_false, if_true, if_false, up1_s, n_31, Int32.lt_irrefl, h1, h210, m211_19, up1_up, e1]
    | true =>
      rw [he] at h210
      obtain ⟨g', e1, e2⟩ := ih (i + 1) (upd g i (nI 1)) (by omega) (hx 1 (by unfold far0; rw [if_pos he]))
      refine ⟨g', ?_, e2⟩
      rw [m211_2]
      simp (disch := omega) only [rt_c, b_some, List.cons_append, List.nil_append, Bool.cond_not, cond_true, cond_false, Bool.cond_decide, nI_add, nI_clamp, xin_n, dle_e, dlt_e, deq_e, xb_0, xb_1, decide_true, decide_false, Bool.not_true, Bool.not_false, Bool.and_true, Bool.true_and, Bool.and_false, Bool.false_and, Bool.true_or, Bool.false_or, Bool.or_true, Bool.or_false, if_true, if_false, up1_s, n_31, Int32.lt_irrefl, h1, h210, m211_19, up1_up, e1]
theorem c211 {H m h : Nat} (hV : Vd (A 2) H m) : ∃ g, C (d + 2) 211 [.ref 0, .int (nI h)] sl (RH I w A N) = some ([], sl, RH I w (up1 A 11 g) N) ∧ Fm g (farN (Em (A 2) m) H h) := by
  obtain ⟨g1, e1, f1⟩ := c211_2 d sl I w A N (h := h) hV 6 0 (A 11) (by omega) (fun j hj => by omega)
  rw [up1_id] at e1
  obtain ⟨g2, e2, f2⟩ := c211_37 d sl I w A N (h := h) hV 6 0 g1 _ none none (Or.inl ⟨rfl, rfl⟩) (by omega) f1
  refine ⟨g2, ?_, f2⟩
  rw [e211, m211_0, e1, e2]
/-- is a house in a ring -/
def rg_ (n : Nat → Int32) (m H h : Nat) : Bool := decide (farN (Em n m) H h h < 100000)
theorem c212 {H m h : Nat} (hV : Vd (A 2) H m) (hh : h < 6) : ∃ g, C (d + 3) 212 [.ref 0, .int (nI h)] sl (RH I w A N) = some ([.int (x_b (rg_ (A 2) m H h))], sl, RH I w (up1 A 11 g) N) ∧ Fm g (farN (Em (A 2) m) H h) := by
  obtain ⟨g, e1, f1⟩ := c211 d sl I w A N (h := h) hV
  refine ⟨g, ?_, f1⟩
  have gh := f1 h hh
  rw [e212, m212_0, e1]
  unfold rg_
  by_cases h1 : farN (Em (A 2) m) H h h < 100000
  · have h2 : ¬ 100000 ≤ farN (Em (A 2) m) H h h := by omega
    simp (disch := omega) only [rt_c, b_some, List.cons_append, List.nil_append, Bool.cond_not, cond_true, cond_false, Bool.cond_decide, nI_add, nI_clamp, xin_n, dle_e, dlt_e, deq_e, xb_0, xb_1, decide_true, decide_false, Bool.not_true, Bool.not_false, Bool.and_true, Bool.true_and, Bool.and_false, Bool.false_and, Bool.true_or, Bool.false_or, Bool.or_true, Bool.or_false, if_true, if_false, up1_s, n_31, Int32.lt_irrefl, m212_5, gh.1, h1, h2, t212_21, t212_21_0, t212_21_1]
  · have h2 : 100000 ≤ farN (Em (A 2) m) H h h := by omega
    simp (disch := omega) only [rt_c, b_some, List.cons_append, List.nil_append, Bool.cond_not, cond_true, cond_false, Bool.cond_decide, nI_add, nI_clamp, xin_n, dle_e, dlt_e, deq_e, xb_0, xb_1, decide_true, decide_false, Bool.not_true, Bool.not_false, Bool.and_true, Bool.true_and, Bool.and_false, Bool.false_and, Bool.true_or, Bool.false_or, Bool.or_true, Bool.or_false, if_true, if_false, up1_s, n_31, Int32.lt_irrefl, m212_5, gh.1, h1, h2, t212_21, t212_21_0, t212_21_1]
/-- the next house of a ring is found -/
theorem c213_55 {H m h L k a b : Nat} (hV : Vd (A 2) H m) (hL6 : L ≤ 6) (hI : I 27 = nI L) (hk : k + 1 < L) (g : Nat → Int32) (f : Nat → Nat) (hf : Fm g f) (hb : b < H) (hE : Em (A 2) m a b = true) (hfb : f b = L - (k + 1)) (hno : ∀ j, j < b → (Em (A 2) m a j && decide (f j = L - (k + 1))) = false) : ∀ (q i : Nat) (G : Nat → Int32), i + q = b → rt 213 (R (d + 2) 213 (55, [some (.ref 0), some (.int (nI h)), some (.int (nI a)), some (.int (nI k)), some (.int (nI i))], [], sl, RH I w (up1 (up1 A 11 g) 12 G) N)) = rt 213 (R (d + 2) 213 (37, [some (.ref 0), some (.int (nI h)), some (.int (nI b)), some (.int (nI (k + 1))), some (.int (nI b))], [], sl, RH I w (up1 (up1 A 11 g) 12 G) N)) := by
  obtain ⟨⟨hH, hD, hH6, hm⟩, -⟩ := hV
  have h210 : ∀ (G : Nat → Int32) (i : Nat), C (d + 1) 210 [.ref 0, .int (nI a), .int (nI i)] sl (RH I w (up1 (up1 A 11 g) 12 G) N) = some ([.int (x_b (Em (A 2) m a i))], sl, RH I w (up1 (up1 A 11 g) 12 G) N) := by
    intro G i
    have hA : up1 (up1 A 11 g) 12 G 2 = A 2 := by rw [up1_n (by decide), up1_n (by decide)]
    have := c210 d sl I w (up1 (up1 A 11 g) 12 G) N hm (by rw [hA]; exact hD) (nI a) (nI i)
    rwa [hA] at this
  have hkL : ¬ L ≤ k + 1 := by omega
  have hsub : nI L - nI k - nI 1 = nI (L - (k + 1)) := by
    rw [nI_sub (by omega), nI_sub (by omega)]
    congr 1
  intro q
  induction q with
  | zero =>
    intro i G hi
    have hib : i = b := by omega
    subst hib
    have gb := (hf i (by omega)).1
    have h2 := h210 G i
    rw [hE] at h2
    rw [m213_55]
    simp (disch := omega) only [rt_c, b_some, List.cons_append, List.nil_append, Bool.cond_not, cond_true, cond_false, Bool.cond_decide, nI_add, nI_clamp, xin_n, dle_e, dlt_e, deq_e, xb_0, xb_1, decide_true, decide_false, Bool.not_true, Bool.not_false, Bool.and_true, Bool.true_and, Bool.and_false, Bool.false_and, Bool.true_or, Bool.false_or, Bool.or_true, Bool.or_false, if_true, if_false, up1_s, n_31, Int32.lt_irrefl, hI, hkL, h2, m213_72, up1_n, gb, hsub, hfb]
  | succ q ih =>
    intro i G hi
    have gi := hf i (by omega)
    have h2 := h210 G i
    have hn := hno i (by omega)
    have h3 := ih (i + 1) G (by omega)
    rw [m213_55]
    cases he : Em (A 2) m a i with
    | false =>
      rw [he] at h2
      simp (disch := omega) only [rt_c, b_some, List.cons_append, List.nil_append, Bool.cond_not, cond_true, cond_false, Bool.cond_decide, nI_add, nI_clamp, xin_n, dle_e, dlt_e, deq_e, xb_0, xb_1, decide_true, decide_false, Bool.not_true, Bool.not_false, Bool.and_true, Bool.true_and, Bool.and_false, Bool.false_and, Bool.true_or, Bool.false_or, Bool.or_true, Bool.or_false, if_true, if_false, up1_s, n_31, Int32.lt_irrefl, hI, hkL, h2, m213_72, h3]
    | true =>
      rw [he, Bool.true_and, decide_eq_false_iff_not] at hn
      rw [he] at h2
      simp (disch := omega) only [rt_c, b_some, List.cons_append, List.nil_append, Bool.cond_not, cond_true, cond_false, Bool.cond_decide, nI_add, nI_clamp, xin_n, dle_e, dlt_e, deq_e, xb_0, xb_1, decide_true, decide_false, Bool.not_true, Bool.not_false, Bool.and_true, Bool.true_and, Bool.and_false, Bool.false_and, Bool.true_or, Bool.false_or, Bool.or_true, Bool.or_false, if_true, if_false, up1_s, n_31, Int32.lt_irrefl, hI, hkL, h2, m213_72, up1_n, gi.1, hsub, hn, h3]
theorem c213_37 {H m h L : Nat} (hV : Vd (A 2) H m) (hh : h < H) (hL6 : L ≤ 6) (hI : I 27 = nI L) (hr : RG (Em (A 2) m) H h L) (hLf : farN (Em (A 2) m) H h h = L) (g : Nat → Int32) (hf : Fm g (farN (Em (A 2) m) H h)) : ∀ (q k : Nat) (G : Nat → Int32) (o : Option Value), (o = none ∨ ∃ v, o = some (.int v)) → k + q = L → (∀ j, j < k → G j = nI (vv (Em (A 2) m) H h L j)) → ∀ (x : Int32), (k < L → x = nI (vv (Em (A 2) m) H h L k)) → ∃ G', rt 213 (R (d + 2) 213 (37, [some (.ref 0), some (.int (nI h)), some (.int x), some (.int (nI k)), o], [], sl, RH I w (up1 (up1 A 11 g) 12 G) N)) = some ([.int (nI L)], sl, RH I w (up1 (up1 A 11 g) 12 G') N) ∧ ∀ j, j < L → G' j = nI (vv (Em (A 2) m) H h L j) := by
  have hH6 := hV.1.2.2.1
  intro q
  induction q with
  | zero =>
    intro k G o ho hk hG x hx
    have h1 : L ≤ k := by omega
    refine ⟨G, ?_, fun j hj => hG j (by omega)⟩
    rcases ho with rfl | ⟨v, rfl⟩
    · rw [m213_37]
      simp (disch := omega) only [rt_c, b_some, List.cons_append, List.nil_append, Bool.cond_not, cond_true, cond_false, Bool.cond_decide, nI_add, nI_clamp, xin_n, dle_e, dlt_e, deq_e, xb_0, xb_1, decide_true, decide_false, Bool.not_true, Bool.not_false, Bool.and_true, Bool.true_and, Bool.and_false, Bool.false_and, Bool.true_or, Bool.false_or, Bool.or_true, Bool.or_false, if_true, if_false, up1_s, n_31, Int32.lt_irrefl, hI, h1, t213_22, t213_112]
    · rw [m213_37_1]
      simp (disch := omega) only [rt_c, b_some, List.cons_append, List.nil_append, Bool.cond_not, cond_true, cond_false, Bool.cond_decide, nI_add, nI_clamp, xin_n, dle_e, dlt_e, deq_e, xb_0, xb_1, decide_true, decide_false, Bool.not_true, Bool.not_false, Bool.and_true, Bool.true_and, Bool.and_false, Bool.false_and, Bool.true_or, Bool.false_or, Bool.or_true, Bool.or_false, if_true, if_false, up1_s, n_31, Int32.lt_irrefl, hI, h1, t213_22, t213_112]
  | succ q ih =>
    intro k G o ho hk hG x hx
    have h1 : ¬ L ≤ k := by omega
    have hx := hx (by omega)
    have hvk := vv_lt hh hr (show k < L by omega)
    have hG' : ∀ j, j < k + 1 → upd G k x j = nI (vv (Em (A 2) m) H h L j) := by
      intro j hj
      by_cases hjk : j = k
      · rw [hjk, upd_s, hx]
      · rw [upd_n hjk]; exact hG j (by omega)
    have key : ∃ x' o', (o' = none ∨ ∃ v, o' = some (.int v)) ∧ (k + 1 < L → x' = nI (vv (Em (A 2) m) H h L (k + 1))) ∧ rt 213 (R (d + 2) 213 (55, [some (.ref 0), some (.int (nI h)), some (.int x), some (.int (nI k)), some (.int (nI 0))], [], sl, RH I w (up1 (up1 A 11 g) 12 (upd G k x)) N)) = rt 213 (R (d + 2) 213 (37, [some (.ref 0), some (.int (nI h)), some (.int x'), some (.int (nI (k + 1))), o'], [], sl, RH I w (up1 (up1 A 11 g) 12 (upd G k x)) N)) := by
      by_cases hkL : k + 1 < L
      · obtain ⟨v1, v2, v3, v4, v5⟩ := vv_ok hh hr k hkL
        have hfd : ∀ j, j < H → decide (farN (Em (A 2) m) H h j = L - (k + 1)) = Dd (Em (A 2) m) H h (L - (k + 1)) j := fun j hj => far_Dd hH6 hh hLf hj (by omega) (by omega) (by omega)
        refine ⟨nI (vv (Em (A 2) m) H h L (k + 1)), some (.int (nI (vv (Em (A 2) m) H h L (k + 1)))), Or.inr ⟨_, rfl⟩, fun _ => rfl, ?_⟩
        rw [hx]
        refine c213_55 d sl I w A N hV hL6 hI hkL g _ hf v2 v3 ?_ ?_ _ 0 _ (Nat.zero_add _)
        · have := hfd _ v2
          rw [v4] at this
          exact of_decide_eq_true this
        · intro j hj
          rw [hfd j (by omega)]
          exact v5 j hj
      · refine ⟨nI 0, some (.int (nI 0)), Or.inr ⟨_, rfl⟩, fun h => absurd h hkL, ?_⟩
        have h2 : L ≤ k + 1 := by omega
        rw [m213_55]
        simp (disch := omega) only [rt_c, b_some, List.cons_append, List.nil_append, Bool.cond_not, cond_true, cond_false, Bool.cond_decide, nI_add, nI_clamp, xin_n, dle_e, dlt_e, deq_e, xb_0, xb_1, decide_true, decide_false, Bool.not_true, Bool.not_false, Bool.and_true, Bool.true_and, Bool.and_false, Bool.false_and, Bool.true_or, Bool.false_or, Bool.or_true, Bool.or_false, if_true, if_false, up1_s, n_31, Int32.lt_irrefl, hI, h2]
    obtain ⟨x', o', ho', hx', e1⟩ := key
    obtain ⟨G2, e2, e3⟩ := ih (k + 1) (upd G k x) o' ho' (by omega) hG' x' hx'
    refine ⟨G2, ?_, e3⟩
    rw [← e2, ← e1]
    rcases ho with rfl | ⟨v, rfl⟩
    · rw [m213_37]
      simp (disch := omega) only [rt_c, b_some, List.cons_append, List.nil_append, Bool.cond_not, cond_true, cond_false, Bool.cond_decide, nI_add, nI_clamp, xin_n, dle_e, dlt_e, deq_e, xb_0, xb_1, decide_true, decide_false, Bool.not_true, Bool.not_false, Bool.and_true, Bool.true_and, Bool.and_false, Bool.false_and, Bool.true_or, Bool.false_or, Bool.or_true, Bool.or_false, if_true, if_false, up1_s, n_31, Int32.lt_irrefl, hI, h1, up1_up]
    · rw [m213_37_1]
      simp (disch := omega) only [rt_c, b_some, List.cons_append, List.nil_append, Bool.cond_not, cond_true, cond_false, Bool.cond_decide, nI_add, nI_clamp, xin_n, dle_e, dlt_e, deq_e, xb_0, xb_1, decide_true, decide_false, Bool.not_true, Bool.not_false, Bool.and_true, Bool.true_and, Bool.and_false, Bool.false_and, Bool.true_or, Bool.false_or, Bool.or_true, Bool.or_false, if_true, if_false, up1_s, n_31, Int32.lt_irrefl, hI, h1, up1_up]
theorem c213_no {H m : Nat} (hV : Vd (A 2) H m) (h : Int32) (hb : isN H h = false) : C (d + 4) 213 [.ref 0, .int h] sl (RH I w A N) = some ([.int (-1)], sl, RH (up1 I 0 (nI 0)) w A N) := by
  obtain ⟨⟨hH, hD, hH6, hm⟩, -⟩ := hV
  rw [e213, m213_0, c196' _ _ _ _ _ _ hH6 hH, hb]
  simp (disch := omega) only [rt_c, b_some, List.cons_append, List.nil_append, Bool.cond_not, cond_true, cond_false, Bool.cond_decide, nI_add, nI_clamp, xin_n, dle_e, dlt_e, deq_e, xb_0, xb_1, decide_true, decide_false, Bool.not_true, Bool.not_false, Bool.and_true, Bool.true_and, Bool.and_false, Bool.false_and, Bool.true_or, Bool.false_or, Bool.or_true, Bool.or_false, if_true, if_false, up1_s, n_31, Int32.lt_irrefl, m213_10, t213_22, t213_112]
theorem c213 {H m h : Nat} (hV : Vd (A 2) H m) (hh : h < H) : (farN (Em (A 2) m) H h h < 100000 ∧ ∃ g G, C (d + 4) 213 [.ref 0, .int (nI h)] sl (RH I w A N) = some ([.int (nI (farN (Em (A 2) m) H h h))], sl, RH (up1 (up1 I 0 (nI 0)) 27 (nI (farN (Em (A 2) m) H h h))) w (up1 (up1 A 11 g) 12 G) N) ∧ ∀ j, j < farN (Em (A 2) m) H h h → G j = nI (vv (Em (A 2) m) H h (farN (Em (A 2) m) H h h) j)) ∨
    (¬ farN (Em (A 2) m) H h h < 100000 ∧ ∃ g, C (d + 4) 213 [.ref 0, .int (nI h)] sl (RH I w A N) = some ([.int (-1)], sl, RH (up1 I 0 (nI 0)) w (up1 A 11 g) N)) := by
  have hV0 := hV
  obtain ⟨⟨hH, hD, hH6, hm⟩, -⟩ := hV
  obtain ⟨g, e1, f1⟩ := c212 d sl (up1 I 0 (nI 0)) w A N hV0 (show h < 6 by omega)
  have hfa := Fa_RG (farN_ok (E := Em (A 2) m) hH6 hh hh) hH6
  by_cases hL : farN (Em (A 2) m) H h h < 100000
  · left
    refine ⟨hL, ?_⟩
    have hrg : rg_ (A 2) m H h = true := decide_eq_true hL
    rw [hrg] at e1
    have hr := hfa.1 hL
    have hle := RG_le hr
    have gh := (f1 h (by omega)).1
    generalize hLL : farN (Em (A 2) m) H h h = L at hL hr hle gh
    obtain ⟨G, e2, e3⟩ := c213_37 (d + 2) sl (up1 (up1 I 0 (nI 0)) 27 (nI L)) w A N hV0 hh (by omega) up1_s hr hLL g f1 L 0 (up1 A 11 g 12) none (Or.inl rfl) (by omega) (fun j hj => by omega) (nI h) (fun _ => rfl)
    rw [up1_id] at e2
    refine ⟨g, G, ?_, e3⟩
    rw [e213, m213_0, c196' _ _ _ _ _ _ hH6 hH, isN_n hh (by omega)]
    simp (disch := omega) only [rt_c, b_some, List.cons_append, List.nil_append, Bool.cond_not, cond_true, cond_false, Bool.cond_decide, nI_add, nI_clamp, xin_n, dle_e, dlt_e, deq_e, xb_0, xb_1, decide_true, decide_false, Bool.not_true, Bool.not_false, Bool.and_true, Bool.true_and, Bool.and_false, Bool.false_and, Bool.true_or, Bool.false_or, Bool.or_true, Bool.or_false, if_true, if_false, up1_s, n_31, Int32.lt_irrefl, m213_10, e1, m213_18, gh, e2]
  · right
    refine ⟨hL, g, ?_⟩
    have hrg : rg_ (A 2) m H h = false := decide_eq_false hL
    rw [hrg] at e1
    rw [e213, m213_0, c196' _ _ _ _ _ _ hH6 hH, isN_n hh (by omega)]
    simp (disch := omega) only [rt_c, b_some, List.cons_append, List.nil_append, Bool.cond_not, cond_true, cond_false, Bool.cond_decide, nI_add, nI_clamp, xin_n, dle_e, dlt_e, deq_e, xb_0, xb_1, decide_true, decide_false, Bool.not_true, Bool.not_false, Bool.and_true, Bool.true_and, Bool.and_false, Bool.false_and, Bool.true_or, Bool.false_or, Bool.or_true, Bool.or_false, if_true, if_false, up1_s, n_31, Int32.lt_irrefl, m213_10, e1, m213_18, t213_22, t213_112]
end RFR
