/-! READERS, step by step on both sides -/
def kR (κ : Nat) : Nat := if κ ≤ 2 then κ else κ - 1
def Fl (f J : Nat → Int32) : Prop := ∃ c p, c ≤ 4 ∧ p ≤ 940 ∧ f 10 = nI c ∧ J 10 = nI c ∧ f 11 = nI p ∧ J 11 = nI p
/-- went on -/
def Go (t L n : Nat) (f f' : Nat → Int32) (lt' : Int64) (tw' : Option Nat) (J J' : Nat → Int32) (w' : Int64) : Prop := (∃ κ v s, Tk t L n κ v s f' lt' tw' J' w') ∧ f' 10 = f 10 ∧ ∀ k, (k < 5 ∨ (9 < k ∧ k ≠ 13)) → J' k = J k
/-- a fault -/
def No (f f' : Nat → Int32) (J J' : Nat → Int32) : Prop := Fl f' J' ∧ f' 1 = f 1 ∧ ∀ k, (k < 5 ∨ (11 < k ∧ k ≠ 13)) → J' k = J k
theorem Tk_all {t L n κ v : Nat} {s : List Nat} {f : Nat → Int32} {lt : Int64} {tw : Option Nat} {J : Nat → Int32} {w : Int64} (h : Tk t L n κ v s f lt tw J w) : κ ≤ 5 ∧ f 4 = nI κ ∧ J 7 = nI (kR κ) ∧ ∃ p, p ≤ t ∧ f 5 = nI p ∧ J 6 = nI p := by
  obtain ⟨p, q, a1, a2, a3, a4, a5, a6, a7, a8, a9, a10, a11, a12, a13, h⟩ := h
  refine ⟨?_, a13, ?_, p, by omega, a9, a10⟩
  · rcases h with ⟨rfl, _⟩ | ⟨rfl, _⟩ | ⟨rfl, _⟩ | ⟨rfl, _⟩ | ⟨rfl, _⟩ | ⟨rfl, _⟩ <;> decide
  · rcases h with ⟨rfl, _, h⟩ | ⟨rfl, _, h⟩ | ⟨rfl, _, h, _⟩ | ⟨rfl, _, h, _⟩ | ⟨rfl, _, h, _⟩ | ⟨rfl, _, h, _⟩ <;> exact h
theorem kR_eq {κ c : Nat} (h : κ ≤ 5) (hc : 4 ≤ c) : kR κ = c - 1 ↔ κ = c := by unfold kR; split <;> omega
theorem kR_1 {κ : Nat} : kR κ = 1 ↔ κ = 1 := by unfold kR; split <;> omega
theorem kR_0 {κ : Nat} : kR κ = 0 ↔ κ = 0 := by unfold kR; split <;> omega
theorem kR_2 {κ : Nat} : kR κ = 2 ↔ κ = 2 ∨ κ = 3 := by unfold kR; split <;> omega
theorem kR_le {κ : Nat} (h : κ ≤ 5) : kR κ ≤ 4 := by unfold kR; split <;> omega
theorem Tk_num {t L n v : Nat} {s : List Nat} {f : Nat → Int32} {lt : Int64} {tw : Option Nat} {J : Nat → Int32} {w : Int64} (h : Tk t L n 4 v s f lt tw J w) : v < 1000 ∧ f 8 = nI v ∧ J 8 = nI v := by
  obtain ⟨p, q, a1, a2, a3, a4, a5, a6, a7, a8, a9, a10, a11, a12, a13, h⟩ := h
  rcases h with ⟨h, _⟩ | ⟨h, _⟩ | ⟨h, _⟩ | ⟨h, _⟩ | ⟨_, _, _, h⟩ | ⟨h, _⟩
  · cases h
  · cases h
  · cases h
  · cases h
  · exact h
  · cases h
theorem Tk_mark {t L n v : Nat} {s : List Nat} {f : Nat → Int32} {lt : Int64} {tw : Option Nat} {J : Nat → Int32} {w : Int64} (h : Tk t L n 5 v s f lt tw J w) : v < 128 ∧ f 8 = nI v ∧ J 9 = nI v ∧ isMk v = true := by
  obtain ⟨p, q, a1, a2, a3, a4, a5, a6, a7, a8, a9, a10, a11, a12, a13, h⟩ := h
  rcases h with ⟨h, _⟩ | ⟨h, _⟩ | ⟨h, _⟩ | ⟨h, _⟩ | ⟨h, _⟩ | ⟨_, _, _, h, h1, h2, h3⟩
  · cases h
  · cases h
  · cases h
  · cases h
  · cases h
  · exact ⟨h1, h2, h3, h⟩
theorem Tk_word {t L n v : Nat} {s : List Nat} {f : Nat → Int32} {lt : Int64} {tw : Option Nat} {J : Nat → Int32} {w : Int64} (h : Tk t L n 2 v s f lt tw J w) : v ≤ 20 ∧ tw = some (1000000 + v) ∧ w = lN (p27 (wl v)) := by
  obtain ⟨p, q, a1, a2, a3, a4, a5, a6, a7, a8, a9, a10, a11, a12, a13, h⟩ := h
  rcases h with ⟨h, _⟩ | ⟨h, _⟩ | ⟨_, h1, _, h2, h3⟩ | ⟨h, _⟩ | ⟨h, _⟩ | ⟨h, _⟩
  · cases h
  · cases h
  · exact ⟨h2, h1, h3⟩
  · cases h
  · cases h
  · cases h
theorem Tk_nw {t L n κ v : Nat} {s : List Nat} {f : Nat → Int32} {lt : Int64} {tw : Option Nat} {J : Nat → Int32} {w : Int64} (h : Tk t L n κ v s f lt tw J w) (hk : κ ≠ 2) : tw = none := by
  obtain ⟨p, q, a1, a2, a3, a4, a5, a6, a7, a8, a9, a10, a11, a12, a13, h⟩ := h
  rcases h with ⟨_, h, _⟩ | ⟨_, h, _⟩ | ⟨h, _⟩ | ⟨_, h, _⟩ | ⟨_, h, _⟩ | ⟨_, h, _⟩
  · exact h
  · exact h
  · exact absurd h hk
  · exact h
  · exact h
  · exact h
theorem Tk_name {t L n v : Nat} {s : List Nat} {f : Nat → Int32} {lt : Int64} {tw : Option Nat} {J : Nat → Int32} {w : Int64} (h : Tk t L n 3 v s f lt tw J w) : Lts s ∧ (∀ k, k ≤ 20 → s ≠ wl k) ∧ lt = lN (p256 s) ∧ w = lN (p27 s) := by
  obtain ⟨p, q, a1, a2, a3, a4, a5, a6, a7, a8, a9, a10, a11, a12, a13, h⟩ := h
  rcases h with ⟨h, _⟩ | ⟨h, _⟩ | ⟨h, _⟩ | ⟨_, _, _, h⟩ | ⟨h, _⟩ | ⟨h, _⟩
  · cases h
  · cases h
  · cases h
  · exact h
  · cases h
  · cases h
theorem Tk_len {t L n κ v : Nat} {s : List Nat} {f : Nat → Int32} {lt : Int64} {tw : Option Nat} {J : Nat → Int32} {w : Int64} (h : Tk t L n κ v s f lt tw J w) : f 1 = nI t := by
  obtain ⟨p, q, a1, a2, a3, h⟩ := h
  exact a3
section RFR
variable (d sl : Nat) (I : Nat → Int32) (w : Int64) (A : Nat → Nat → Int32) (N : Nat → Nat → Int64) {t L n κ v : Nat} {s : List Nat} {f : Nat → Int32} {lt : Int64} {tw : Option Nat}
theorem c180 {c : Nat} (h : Tk t L n κ v s f lt tw I w) (hc : κ ≠ 1 ∨ c = 1) : C d 180 [.ref 0, .int (nI c)] sl (RH I w A N) = some ([.int (x_b false)], sl, RH (up1 (up1 I 10 (nI c)) 11 (I 6)) w A N) := by
  obtain ⟨h1, h2, h3, _⟩ := Tk_all h
  have hk := kR_le h1
  rw [e180, m180_0, h3]
  by_cases hk1 : κ = 1
  · have h4 := kR_1.mpr hk1
    rcases hc with hc | hc
    · exact absurd hk1 hc
    · rw [hc]
      simp (disch := omega) only [rt_c, b_some, List.cons_append, List.nil_append, Bool.cond_not, cond_true, cond_false, Bool.cond_decide, nI_add, nI_clamp, xin_n, dle_e, dlt_e, deq_e, xb_0, xb_1, decide_true, decide_false, Bool.not_true, Bool.not_false, Bool.and_true, Bool.true_and, Bool.and_false, Bool.false_and, Bool.true_or, Bool.false_or, Bool.or_true, Bool.or_false, if_true, if_false, up1_s, n_31, Int32.lt_irrefl, h4, t180_26, t180_26_0, t180_26_1]
  · have h4 : ¬ kR κ = 1 := fun h => hk1 (kR_1.mp h)
    simp (disch := omega) only [rt_c, b_some, List.cons_append, List.nil_append, Bool.cond_not, cond_true, cond_false, Bool.cond_decide, nI_add, nI_clamp, xin_n, dle_e, dlt_e, deq_e, xb_0, xb_1, decide_true, decide_false, Bool.not_true, Bool.not_false, Bool.and_true, Bool.true_and, Bool.and_false, Bool.false_and, Bool.true_or, Bool.false_or, Bool.or_true, Bool.or_false, if_true, if_false, up1_s, n_31, Int32.lt_irrefl, h4, t180_26, t180_26_0, t180_26_1]
theorem c178 {m : Nat} (hm : m < 128) (h : Tk t L n κ v s f lt tw I w) : C d 178 [.ref 0, .int (nI m)] sl (RH I w A N) = some ([.int (x_b (decide (κ = 5 ∧ v = m)))], sl, RH I w A N) := by
  obtain ⟨h1, h2, h3, _⟩ := Tk_all h
  have hk := kR_le h1
  rw [e178, m178_0, h3]
  by_cases hk5 : κ = 5
  · subst hk5
    obtain ⟨m1, m2, m3, _⟩ := Tk_mark h
    have h4 : kR 5 = 4 := by decide
    by_cases hv : v = m
    · rw [decide_eq_true (p := 5 = 5 ∧ v = m) ⟨rfl, hv⟩]
      simp (disch := omega) only [rt_c, b_some, List.cons_append, List.nil_append, Bool.cond_not, cond_true, cond_false, Bool.cond_decide, nI_add, nI_clamp, xin_n, dle_e, dlt_e, deq_e, xb_0, xb_1, decide_true, decide_false, Bool.not_true, Bool.not_false, Bool.and_true, Bool.true_and, Bool.and_false, Bool.false_and, Bool.true_or, Bool.false_or, Bool.or_true, Bool.or_false, if_true, if_false, up1_s, n_31, Int32.lt_irrefl, h4, m3, hv, t178_21, t178_21_0, t178_21_1]
    · rw [decide_eq_false (p := 5 = 5 ∧ v = m) (fun h => hv h.2)]
      simp (disch := omega) only [rt_c, b_some, List.cons_append, List.nil_append, Bool.cond_not, cond_true, cond_false, Bool.cond_decide, nI_add, nI_clamp, xin_n, dle_e, dlt_e, deq_e, xb_0, xb_1, decide_true, decide_false, Bool.not_true, Bool.not_false, Bool.and_true, Bool.true_and, Bool.and_false, Bool.false_and, Bool.true_or, Bool.false_or, Bool.or_true, Bool.or_false, if_true, if_false, up1_s, n_31, Int32.lt_irrefl, h4, m3, hv, t178_21, t178_21_0, t178_21_1]
  · have h4 : ¬ kR κ = 4 := fun h => hk5 ((kR_eq h1 (by decide)).mp h)
    rw [decide_eq_false (p := κ = 5 ∧ v = m) (fun h => hk5 h.1)]
    simp (disch := omega) only [rt_c, b_some, List.cons_append, List.nil_append, Bool.cond_not, cond_true, cond_false, Bool.cond_decide, nI_add, nI_clamp, xin_n, dle_e, dlt_e, deq_e, xb_0, xb_1, decide_true, decide_false, Bool.not_true, Bool.not_false, Bool.and_true, Bool.true_and, Bool.and_false, Bool.false_and, Bool.true_or, Bool.false_or, Bool.or_true, Bool.or_false, if_true, if_false, up1_s, n_31, Int32.lt_irrefl, h4, t178_21, t178_21_0, t178_21_1]
theorem c177 {k : Nat} (hk : k ≤ 20) (h : Tk t L n κ v s f lt tw I w) : C (d + 2) 177 [.ref 0, .int (nI k)] sl (RH I w A N) = some ([.int (x_b (decide (κ = 2 ∧ v = k)))], sl, RH I w A N) := by
  obtain ⟨h1, h2, h3, _⟩ := Tk_all h
  have hkr := kR_le h1
  have h176 := c176 d sl I w A N hk
  rw [e177, m177_0, h3]
  by_cases hk2 : κ = 2
  · subst hk2
    obtain ⟨m1, m2, m3⟩ := Tk_word h
    have h4 : kR 2 = 2 := by decide
    by_cases hv : v = k
    · rw [decide_eq_true (p := 2 = 2 ∧ v = k) ⟨rfl, hv⟩]
      have hw : (w = lN (p27 (wl k))) = True := eq_true (by rw [m3, hv])
      simp (disch := omega) only [rt_c, b_some, List.cons_append, List.nil_append, Bool.cond_not, cond_true, cond_false, Bool.cond_decide, nI_add, nI_clamp, xin_n, dle_e, dlt_e, deq_e, xb_0, xb_1, decide_true, decide_false, Bool.not_true, Bool.not_false, Bool.and_true, Bool.true_and, Bool.and_false, Bool.false_and, Bool.true_or, Bool.false_or, Bool.or_true, Bool.or_false, if_true, if_false, up1_s, n_31, Int32.lt_irrefl, h4, h176, m177_16, lg0, hw, t177_25, t177_25_0, t177_25_1]
    · rw [decide_eq_false (p := 2 = 2 ∧ v = k) (fun h => hv h.2)]
      have hw : ¬ w = lN (p27 (wl k)) := by
        rw [m3, lN27 (wl_L m1) (wl_L hk)]
        exact fun e => hv (wl_inj m1 hk e)
      simp (disch := omega) only [rt_c, b_some, List.cons_append, List.nil_append, Bool.cond_not, cond_true, cond_false, Bool.cond_decide, nI_add, nI_clamp, xin_n, dle_e, dlt_e, deq_e, xb_0, xb_1, decide_true, decide_false, Bool.not_true, Bool.not_false, Bool.and_true, Bool.true_and, Bool.and_false, Bool.false_and, Bool.true_or, Bool.false_or, Bool.or_true, Bool.or_false, if_true, if_false, up1_s, n_31, Int32.lt_irrefl, h4, h176, m177_16, lg0, hw, t177_25, t177_25_0, t177_25_1]
  · rw [decide_eq_false (p := κ = 2 ∧ v = k) (fun h => hk2 h.1)]
    by_cases hk3 : κ = 3
    · subst hk3
      obtain ⟨m1, m2, _, m3⟩ := Tk_name h
      have h4 : kR 3 = 2 := by decide
      have hw : ¬ w = lN (p27 (wl k)) := by
        rw [m3, lN27 m1 (wl_L hk)]
        exact m2 k hk
      simp (disch := omega) only [rt_c, b_some, List.cons_append, List.nil_append, Bool.cond_not, cond_true, cond_false, Bool.cond_decide, nI_add, nI_clamp, xin_n, dle_e, dlt_e, deq_e, xb_0, xb_1, decide_true, decide_false, Bool.not_true, Bool.not_false, Bool.and_true, Bool.true_and, Bool.and_false, Bool.false_and, Bool.true_or, Bool.false_or, Bool.or_true, Bool.or_false, if_true, if_false, up1_s, n_31, Int32.lt_irrefl, h4, h176, m177_16, lg0, hw, t177_25, t177_25_0, t177_25_1]
    · have h4 : ¬ kR κ = 2 := fun h => by rcases kR_2.mp h with h | h <;> contradiction
      simp (disch := omega) only [rt_c, b_some, List.cons_append, List.nil_append, Bool.cond_not, cond_true, cond_false, Bool.cond_decide, nI_add, nI_clamp, xin_n, dle_e, dlt_e, deq_e, xb_0, xb_1, decide_true, decide_false, Bool.not_true, Bool.not_false, Bool.and_true, Bool.true_and, Bool.and_false, Bool.false_and, Bool.true_or, Bool.false_or, Bool.or_true, Bool.or_false, if_true, if_false, up1_s, n_31, Int32.lt_irrefl, h4, t177_25, t177_25_0, t177_25_1]
theorem c179 (h : Tk t L n κ v s f lt tw I w) : C (d + 2) 179 [.ref 0] sl (RH I w A N) = some ([.int (x_b (decide (κ = 3)))], sl, RH I w A N) := by
  obtain ⟨h1, h2, h3, _⟩ := Tk_all h
  have hkr := kR_le h1
  rw [e179, m179_0, h3]
  by_cases hk2 : κ = 2
  · subst hk2
    obtain ⟨m1, m2, m3⟩ := Tk_word h
    have h4 : kR 2 = 2 := by decide
    simp (disch := omega) only [rt_c, b_some, List.cons_append, List.nil_append, Bool.cond_not, cond_true, cond_false, Bool.cond_decide, nI_add, nI_clamp, xin_n, dle_e, dlt_e, deq_e, xb_0, xb_1, decide_true, decide_false, Bool.not_true, Bool.not_false, Bool.and_true, Bool.true_and, Bool.and_false, Bool.false_and, Bool.true_or, Bool.false_or, Bool.or_true, Bool.or_false, if_true, if_false, up1_s, n_31, Int32.lt_irrefl, h4]
    have key : ∀ (q i : Nat), i + q = v → rt 179 (R (d + 2) 179 (12, [some (.ref 0), some (.int (nI i))], [], sl, RH I w A N)) = some ([.int (x_b false)], sl, RH I w A N) := by
      intro q
      induction q with
      | zero =>
        intro i hi
        have hiv : i = v := by omega
        have h20 : ¬ 20 < i := by omega
        have h176 := c176 d sl I w A N (show i ≤ 20 by omega)
        have hw : (w = lN (p27 (wl i))) = True := eq_true (by rw [m3, hiv])
        rw [m179_12]
        simp (disch := omega) only [rt_c, b_some, List.cons_append, List.nil_append, Bool.cond_not, cond_true, cond_false, Bool.cond_decide, nI_add, nI_clamp, xin_n, dle_e, dlt_e, deq_e, xb_0, xb_1, decide_true, decide_false, Bool.not_true, Bool.not_false, Bool.and_true, Bool.true_and, Bool.and_false, Bool.false_and, Bool.true_or, Bool.false_or, Bool.or_true, Bool.or_false, if_true, if_false, up1_s, n_31, Int32.lt_irrefl, h20, h176, m179_26, lg0, hw, t179_9, t179_9_0, t179_9_1, t179_31, t179_31_0, t179_31_1, t179_39, t179_39_0, t179_39_1]
      | succ q ih =>
        intro i hi
        have h20 : ¬ 20 < i := by omega
        have h176 := c176 d sl I w A N (show i ≤ 20 by omega)
        have hw : ¬ w = lN (p27 (wl i)) := by
          rw [m3, lN27 (wl_L m1) (wl_L (by omega))]
          exact fun e => by have := wl_inj m1 (by omega) e; omega
        rw [m179_12]
        simp (disch := omega) only [rt_c, b_some, List.cons_append, List.nil_append, Bool.cond_not, cond_true, cond_false, Bool.cond_decide, nI_add, nI_clamp, xin_n, dle_e, dlt_e, deq_e, xb_0, xb_1, decide_true, decide_false, Bool.not_true, Bool.not_false, Bool.and_true, Bool.true_and, Bool.and_false, Bool.false_and, Bool.true_or, Bool.false_or, Bool.or_true, Bool.or_false, if_true, if_false, up1_s, n_31, Int32.lt_irrefl, h20, h176, m179_26, lg0, hw, ih (i + 1) (by omega)]
    exact key v 0 (by omega)
  · by_cases hk3 : κ = 3
    · subst hk3
      obtain ⟨m1, m2, _, m3⟩ := Tk_name h
      have h4 : kR 3 = 2 := by decide
      simp (disch := omega) only [rt_c, b_some, List.cons_append, List.nil_append, Bool.cond_not, cond_true, cond_false, Bool.cond_decide, nI_add, nI_clamp, xin_n, dle_e, dlt_e, deq_e, xb_0, xb_1, decide_true, decide_false, Bool.not_true, Bool.not_false, Bool.and_true, Bool.true_and, Bool.and_false, Bool.false_and, Bool.true_or, Bool.false_or, Bool.or_true, Bool.or_false, if_true, if_false, up1_s, n_31, Int32.lt_irrefl, h4]
      have key : ∀ (q i : Nat), i + q = 21 → rt 179 (R (d + 2) 179 (12, [some (.ref 0), some (.int (nI i))], [], sl, RH I w A N)) = some ([.int (x_b true)], sl, RH I w A N) := by
        intro q
        induction q with
        | zero =>
          intro i hi
          have h20 : 20 < i := by omega
          rw [m179_12]
          simp (disch := omega) only [rt_c, b_some, List.cons_append, List.nil_append, Bool.cond_not, cond_true, cond_false, Bool.cond_decide, nI_add, nI_clamp, xin_n, dle_e, dlt_e, deq_e, xb_0, xb_1, decide_true, decide_false, Bool.not_true, Bool.not_false, Bool.and_true, Bool.true_and, Bool.and_false, Bool.false_and, Bool.true_or, Bool.false_or, Bool.or_true, Bool.or_false, if_true, if_false, up1_s, n_31, Int32.lt_irrefl, h20, t179_9, t179_9_0, t179_9_1, t179_31, t179_31_0, t179_31_1, t179_39, t179_39_0, t179_39_1]
        | succ q ih =>
          intro i hi
          have h20 : ¬ 20 < i := by omega
          have h176 := c176 d sl I w A N (show i ≤ 20 by omega)
          have hw : ¬ w = lN (p27 (wl i)) := by
            rw [m3, lN27 m1 (wl_L (by omega))]
            exact m2 i (by omega)
          rw [m179_12]
          simp (disch := omega) only [rt_c, b_some, List.cons_append, List.nil_append, Bool.cond_not, cond_true, cond_false, Bool.cond_decide, nI_add, nI_clamp, xin_n, dle_e, dlt_e, deq_e, xb_0, xb_1, decide_true, decide_false, Bool.not_true, Bool.not_false, Bool.and_true, Bool.true_and, Bool.and_false, Bool.false_and, Bool.true_or, Bool.false_or, Bool.or_true, Bool.or_false, if_true, if_false, up1_s, n_31, Int32.lt_irrefl, h20, h176, m179_26, lg0, hw, ih (i + 1) (by omega)]
      exact key 21 0 (by omega)
    · have h4 : ¬ kR κ = 2 := fun h => by rcases kR_2.mp h with h | h <;> contradiction
      rw [decide_eq_false hk3]
      simp (disch := omega) only [rt_c, b_some, List.cons_append, List.nil_append, Bool.cond_not, cond_true, cond_false, Bool.cond_decide, nI_add, nI_clamp, xin_n, dle_e, dlt_e, deq_e, xb_0, xb_1, decide_true, decide_false, Bool.not_true, Bool.not_false, Bool.and_true, Bool.true_and, Bool.and_false, Bool.false_and, Bool.true_or, Bool.false_or, Bool.or_true, Bool.or_false, if_true, if_false, up1_s, n_31, Int32.lt_irrefl, h4, t179_9, t179_9_0, t179_9_1, t179_31, t179_31_0, t179_31_1, t179_39, t179_39_0, t179_39_1]
end RFR
section CLR
variable (d sl : Nat) (I : Nat → Nat → Int32) (A : Nat → Nat → Int32) (N : Nat → Nat → Int64) (V : Nat → Nat → Option Nat) (lt : Int64) (tw : Option Nat) (sp sr : Nat) (X : List AC) {t L n κ v : Nat} {s : List Nat} {J : Nat → Int32} {w : Int64}
theorem q97 {c : Int32} : C d 97 [.ref 1, .int c] sl (CH I A N V lt tw sp sr X) = some ([.int (x_b false)], sl, CH (up1 I 1 (up1 (up1 (I 1) 10 c) 11 (I 1 5))) A N V lt tw sp sr X) := by
  rw [e97, k97_r1_0]
  simp (disch := omega) only [rt_c, b_some, List.cons_append, List.nil_append, Bool.cond_not, cond_true, cond_false, Bool.cond_decide, nI_add, nI_clamp, xin_n, dle_e, dlt_e, deq_e, xb_0, xb_1, decide_true, decide_false, Bool.not_true, Bool.not_false, Bool.and_true, Bool.true_and, Bool.and_false, Bool.false_and, Bool.true_or, Bool.false_or, Bool.or_true, Bool.or_false, if_true, if_false, up1_s, n_31, Int32.lt_irrefl, t97_14, t97_14_0, t97_14_1]
theorem q96 {m : Nat} (hm : m < 128) (h : Tk t L n κ v s (I 1) lt tw J w) : C d 96 [.ref 1, .int (nI m)] sl (CH I A N V lt tw sp sr X) = some ([.int (x_b (decide (κ = 5 ∧ v = m)))], sl, CH I A N V lt tw sp sr X) := by
  obtain ⟨h1, h2, h3, _⟩ := Tk_all h
  rw [e96, k96_r1_0, h2]
  by_cases hk5 : κ = 5
  · subst hk5
    obtain ⟨m1, m2, m3, _⟩ := Tk_mark h
    by_cases hv : v = m
    · rw [decide_eq_true (p := 5 = 5 ∧ v = m) ⟨rfl, hv⟩]
      simp (disch := omega) only [rt_c, b_some, List.cons_append, List.nil_append, Bool.cond_not, cond_true, cond_false, Bool.cond_decide, nI_add, nI_clamp, xin_n, dle_e, dlt_e, deq_e, xb_0, xb_1, decide_true, decide_false, Bool.not_true, Bool.not_false, Bool.and_true, Bool.true_and, Bool.and_false, Bool.false_and, Bool.true_or, Bool.false_or, Bool.or_true, Bool.or_false, if_true, if_false, up1_s, n_31, Int32.lt_irrefl, m2, hv, t96_21, t96_21_0, t96_21_1]
    · rw [decide_eq_false (p := 5 = 5 ∧ v = m) (fun h => hv h.2)]
      simp (disch := omega) only [rt_c, b_some, List.cons_append, List.nil_append, Bool.cond_not, cond_true, cond_false, Bool.cond_decide, nI_add, nI_clamp, xin_n, dle_e, dlt_e, deq_e, xb_0, xb_1, decide_true, decide_false, Bool.not_true, Bool.not_false, Bool.and_true, Bool.true_and, Bool.and_false, Bool.false_and, Bool.true_or, Bool.false_or, Bool.or_true, Bool.or_false, if_true, if_false, up1_s, n_31, Int32.lt_irrefl, m2, hv, t96_21, t96_21_0, t96_21_1]
  · rw [decide_eq_false (p := κ = 5 ∧ v = m) (fun h => hk5 h.1)]
    simp (disch := omega) only [rt_c, b_some, List.cons_append, List.nil_append, Bool.cond_not, cond_true, cond_false, Bool.cond_decide, nI_add, nI_clamp, xin_n, dle_e, dlt_e, deq_e, xb_0, xb_1, decide_true, decide_false, Bool.not_true, Bool.not_false, Bool.and_true, Bool.true_and, Bool.and_false, Bool.false_and, Bool.true_or, Bool.false_or, Bool.or_true, Bool.or_false, if_true, if_false, up1_s, n_31, Int32.lt_irrefl, hk5, t96_21, t96_21_0, t96_21_1]
theorem q95 (h : Tk t L n κ v s (I 1) lt tw J w) : C d 95 [.ref 1] sl (CH I A N V lt tw sp sr X) = some ([.int (x_b (decide (κ = 3)))], sl, CH I A N V lt tw sp sr X) := by
  obtain ⟨h1, h2, h3, _⟩ := Tk_all h
  rw [e95, k95_r1_0, h2]
  by_cases hk : κ = 3
  · rw [decide_eq_true hk]
    simp (disch := omega) only [rt_c, b_some, List.cons_append, List.nil_append, Bool.cond_not, cond_true, cond_false, Bool.cond_decide, nI_add, nI_clamp, xin_n, dle_e, dlt_e, deq_e, xb_0, xb_1, decide_true, decide_false, Bool.not_true, Bool.not_false, Bool.and_true, Bool.true_and, Bool.and_false, Bool.false_and, Bool.true_or, Bool.false_or, Bool.or_true, Bool.or_false, if_true, if_false, up1_s, n_31, Int32.lt_irrefl, hk, t95_13, t95_13_0, t95_13_1]
  · rw [decide_eq_false hk]
    simp (disch := omega) only [rt_c, b_some, List.cons_append, List.nil_append, Bool.cond_not, cond_true, cond_false, Bool.cond_decide, nI_add, nI_clamp, xin_n, dle_e, dlt_e, deq_e, xb_0, xb_1, decide_true, decide_false, Bool.not_true, Bool.not_false, Bool.and_true, Bool.true_and, Bool.and_false, Bool.false_and, Bool.true_or, Bool.false_or, Bool.or_true, Bool.or_false, if_true, if_false, up1_s, n_31, Int32.lt_irrefl, hk, t95_13, t95_13_0, t95_13_1]
theorem q94 (h : Tk t L n κ v s (I 1) lt tw J w) : C d 94 [.ref 1] sl (CH I A N V lt tw sp sr X) = some ([.int (x_b (decide (κ = 0)))], sl, CH I A N V lt tw sp sr X) := by
  obtain ⟨h1, h2, h3, _⟩ := Tk_all h
  rw [e94, k94_r1_0, h2]
  by_cases hk : κ = 0
  · rw [decide_eq_true hk]
    simp (disch := omega) only [rt_c, b_some, List.cons_append, List.nil_append, Bool.cond_not, cond_true, cond_false, Bool.cond_decide, nI_add, nI_clamp, xin_n, dle_e, dlt_e, deq_e, xb_0, xb_1, decide_true, decide_false, Bool.not_true, Bool.not_false, Bool.and_true, Bool.true_and, Bool.and_false, Bool.false_and, Bool.true_or, Bool.false_or, Bool.or_true, Bool.or_false, if_true, if_false, up1_s, n_31, Int32.lt_irrefl, hk, t94_12, t94_12_0, t94_12_1]
  · rw [decide_eq_false hk]
    simp (disch := omega) only [rt_c, b_some, List.cons_append, List.nil_append, Bool.cond_not, cond_true, cond_false, Bool.cond_decide, nI_add, nI_clamp, xin_n, dle_e, dlt_e, deq_e, xb_0, xb_1, decide_true, decide_false, Bool.not_true, Bool.not_false, Bool.and_true, Bool.true_and, Bool.and_false, Bool.false_and, Bool.true_or, Bool.false_or, Bool.or_true, Bool.or_false, if_true, if_false, up1_s, n_31, Int32.lt_irrefl, hk, t94_12, t94_12_0, t94_12_1]
end CLR
/-- both note the fault -/
theorem No_mk {t L n κ v c : Nat} {s : List Nat} {f : Nat → Int32} {lt : Int64} {tw : Option Nat} {J : Nat → Int32} {w : Int64} (ht : t ≤ 940) (h : Tk t L n κ v s f lt tw J w) (hc : c ≤ 4) (f0 J0 : Nat → Int32) (hf : ∀ k, k < 9 → f0 k = f k) (hJ : ∀ k, k ≠ 13 → J0 k = J k) : No f (up1 (up1 f0 10 (nI c)) 11 (f0 5)) J (up1 (up1 J0 10 (nI c)) 11 (J0 6)) := by
  obtain ⟨_, _, _, p, hp, h5, h6⟩ := Tk_all h
  refine ⟨⟨c, p, hc, by omega, ?_, ?_, ?_, ?_⟩, ?_, fun k hk => ?_⟩
  · rw [up1_n (by decide), up1_s]
  · rw [up1_n (by decide), up1_s]
  · rw [up1_s, hf 5 (by decide)]; exact h5
  · rw [up1_s, hJ 6 (by decide)]; exact h6
  · rw [up1_n (by decide), up1_n (by decide), hf 1 (by decide)]
  · rw [up1_n (by omega), up1_n (by omega), hJ k (by omega)]
