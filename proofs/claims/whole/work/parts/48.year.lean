/-! A YEAR -/
def yc (h : Nat) (r : Nat → Int32) : Nat → Int32 := if nI 9999 ≤ r (73 + h) then r else upd r (73 + h) (x_min (nI 9999) (r (73 + h) + r (10 + h)))
def yd (g : Int32) (k : Nat) (r : Nat → Int32) : Nat → Int32 := cond (op_ r k) (upd (upd r (115 + k) (x_min (nI 999) (r (115 + k) + nI 1))) (103 + k) (x_min (nI 9999) (r (103 + k) + g))) r
def yB (n : Nat → Int32) (H : Nat) : Nat → Int32 := upd (x_it yc 0 H n) 70 (n 70 + nI 1)
def yG (n : Nat → Int32) : Int32 := if (n 70 + nI 1) - (n 70 + nI 1) / n 3 * n 3 = nI 0 then n 2 else nI 0
def year_ (n : Nat → Int32) (H m : Nat) : Nat → Int32 := x_it (yd (yG n)) 0 m (yB n H)
theorem yc_o {h : Nat} {r : Nat → Int32} {k : Nat} (hk : k ≠ 73 + h) : yc h r k = r k := by
  unfold yc
  split
  · rfl
  · exact upd_n hk
theorem ycs_o (n : Nat → Int32) (k : Nat) : ∀ (q i : Nat) (r : Nat → Int32), (k < 73 + i ∨ 73 + i + q ≤ k) → x_it yc i q r k = r k
  | 0, _, _, _ => rfl
  | q + 1, i, r, h => by
    simp only [x_it]
    rw [ycs_o n k q (i + 1) (yc i r) (by omega), yc_o (by omega)]
theorem yd_o {g : Int32} {j : Nat} {r : Nat → Int32} {k : Nat} (h1 : k ≠ 103 + j) (h2 : k ≠ 115 + j) : yd g j r k = r k := by
  unfold yd
  cases op_ r j
  · rfl
  · exact (upd_n h1).trans (upd_n h2)
theorem yds_o (g : Int32) (k : Nat) : ∀ (q i : Nat) (r : Nat → Int32), (k < 103 + i ∨ 103 + i + q ≤ k) → (k < 115 + i ∨ 115 + i + q ≤ k) → x_it (yd g) i q r k = r k
  | 0, _, _, _, _ => rfl
  | q + 1, i, r, h1, h2 => by
    simp only [x_it]
    rw [yds_o g k q (i + 1) (yd g i r) (by omega) (by omega), yd_o (by omega) (by omega)]
theorem yds_l (g : Int32) (k : Nat) : ∀ (q i : Nat) (r : Nat → Int32), i ≤ k → k < i + q → i + q ≤ 12 → x_it (yd g) i q r (103 + k) = cond (op_ r k) (x_min (nI 9999) (r (103 + k) + g)) (r (103 + k)) ∧ x_it (yd g) i q r (115 + k) = cond (op_ r k) (x_min (nI 999) (r (115 + k) + nI 1)) (r (115 + k))
  | 0, _, _, _, _, _ => by omega
  | q + 1, i, r, h1, h2, h3 => by
    simp only [x_it]
    by_cases h : i = k
    · subst h
      rw [yds_o g _ q (i + 1) _ (by omega) (by omega), yds_o g _ q (i + 1) _ (by omega) (by omega)]
      unfold yd
      cases op_ r i
      · exact ⟨rfl, rfl⟩
      · refine ⟨upd_s, (upd_n (by omega)).trans upd_s⟩
    · have h4 := yds_l g k q (i + 1) (yd g i r) (by omega) (by omega) (by omega)
      have h5 : yd g i r (103 + k) = r (103 + k) := yd_o (by omega) (by omega)
      have h6 : yd g i r (115 + k) = r (115 + k) := yd_o (by omega) (by omega)
      have h7 : op_ (yd g i r) k = op_ r k := by unfold op_; rw [h5]
      rw [h5, h6, h7] at h4
      exact h4
theorem yB_70 (n : Nat → Int32) (H : Nat) : yB n H 70 = n 70 + nI 1 := upd_s
theorem yB_o (n : Nat → Int32) {H k : Nat} (h1 : k ≠ 70) (h2 : k < 73 ∨ 73 + H ≤ k) : yB n H k = n k := by
  unfold yB
  rw [upd_n h1, ycs_o n k H 0 n (by omega)]
theorem year_o (n : Nat → Int32) {H m k : Nat} (hH : H ≤ 6) (hm : m ≤ 12) (h1 : k ≠ 70) (h2 : k < 73 ∨ (73 + H ≤ k ∧ k < 103) ∨ 127 ≤ k) : year_ n H m k = n k := by
  unfold year_
  rw [yds_o _ k m 0 _ (by omega) (by omega), yB_o n h1 (by omega)]
theorem year_70 (n : Nat → Int32) {H m : Nat} : year_ n H m 70 = n 70 + nI 1 := by
  unfold year_
  rw [yds_o _ 70 m 0 _ (by omega) (by omega), yB_70]
theorem xmin_le {l k : Nat} (hl : l < 2 ^ 31) (hk : k < 2 ^ 31) : ∃ q, q ≤ k ∧ x_min (nI k) (nI l) = nI q := by
  unfold x_min
  by_cases h : l < k
  · rw [if_pos ((nI_ltI hl hk).mpr h)]
    exact ⟨l, by omega, rfl⟩
  · rw [if_neg (fun h2 => h ((nI_ltI hl hk).mp h2))]
    exact ⟨k, by omega, rfl⟩
theorem xmin_id {l k : Nat} (hk : k < 2 ^ 31) (h : l ≤ k) : x_min (nI k) (nI l) = nI l := by
  unfold x_min
  by_cases h2 : l < k
  · rw [if_pos ((nI_ltI (by omega) hk).mpr h2)]
  · rw [if_neg (fun h3 => h2 ((nI_ltI (by omega) hk).mp h3)), show k = l by omega]
theorem yG_le {n : Nat → Int32} {H m : Nat} (hV : Vd n H m) : ∃ g, g ≤ 9 ∧ yG n = nI g := by
  obtain ⟨-, ⟨g, hg, e⟩, -⟩ := hV
  unfold yG
  split
  · exact ⟨g, hg, e⟩
  · exact ⟨0, by omega, rfl⟩
theorem Vd_year {n : Nat → Int32} {H m : Nat} (hV : Vd n H m) : Vd (year_ n H m) H m := by
  obtain ⟨gg, hgg, eg⟩ := yG_le hV
  obtain ⟨⟨h0, h72, hH, hm⟩, hg, hy, hc, ha, hb, hn, hl, hag, hz, hz2⟩ := hV
  have hL : ∀ k, k < m → yB n H (103 + k) = n (103 + k) := fun k hk => yB_o n (by omega) (by omega)
  have hG : ∀ k, k < m → yB n H (115 + k) = n (115 + k) := fun k hk => yB_o n (by omega) (by omega)
  refine ⟨⟨?_, ?_, hH, hm⟩, ?_, ?_, ?_, ?_, ?_, ?_, ?_, ?_, ?_, ?_⟩
  · rw [year_o n hH hm (by omega) (by omega), h0]
  · have : year_ n H m 72 = n 72 := year_o n hH hm (by omega) (by omega)
    rw [this, h72]
  · rw [year_o n hH hm (by omega) (by omega)]; exact hg
  · rw [year_o n hH hm (by omega) (by omega)]; exact hy
  · intro h hh
    rw [year_o n hH hm (by omega) (by omega)]; exact hc h hh
  · intro k hk
    rw [year_o n hH hm (by omega) (by omega)]; exact ha k hk
  · intro k hk
    rw [year_o n hH hm (by omega) (by omega)]; exact hb k hk
  · intro k hk
    rw [year_o n hH hm (by omega) (by omega), year_o n hH hm (by omega) (by omega)]; exact hn k hk
  · intro k hk
    unfold year_
    rw [(yds_l (yG n) k m 0 (yB n H) (by omega) (by omega) (by omega)).1, hL k hk, eg]
    obtain ⟨l, hl1, e⟩ := hl k hk
    rw [e, nI_add]
    cases op_ (yB n H) k
    · exact ⟨l, hl1, rfl⟩
    · exact xmin_le (by omega) (by omega)
  · intro k hk
    unfold year_
    rw [(yds_l (yG n) k m 0 (yB n H) (by omega) (by omega) (by omega)).2, hG k hk]
    obtain ⟨l, hl1, e⟩ := hag k hk
    rw [e, nI_add]
    cases op_ (yB n H) k
    · exact ⟨l, hl1, rfl⟩
    · exact xmin_le (by omega) (by omega)
  · intro k h1 h2
    unfold year_
    rw [yds_o _ (103 + k) m 0 _ (by omega) (by omega), yB_o n (by omega) (by omega)]
    exact hz k h1 h2
  · intro h h1 h2
    rw [year_o n hH hm (by omega) (by omega)]; exact hz2 h h1 h2
section RF5
variable (d sl : Nat) (I : Nat → Int32) (w : Int64) (A : Nat → Nat → Int32) (N : Nat → Nat → Int64)
theorem c229 {H m : Nat} (hV : Vd (A 2) H m) : C (d + 1) 229 [.ref 0] sl (RH I w A N) = some ([], sl, RH I w (up1 A 2 (year_ (A 2) H m)) N) := by
  obtain ⟨⟨h0, h72, hH, hm⟩, hg, ⟨y, hy1, hy2, hy⟩, -⟩ := hV
  have hz : ¬ nI y = nI 0 := by rw [nI_eq (by omega) (by omega)]; omega
  have key2 : ∀ (q i : Nat) (g : Int32) (r : Nat → Int32), i + q = m → r 72 = nI m → rt 229 (R (d + 1) 229 (108, [some (.ref 0), some (.int g), some (.int (nI i))], [], sl, RH I w (up1 A 2 r) N)) = some ([], sl, RH I w (up1 A 2 (x_it (yd g) i q r)) N) := by
    intro q
    induction q with
    | zero =>
      intro i g r hi hr
      have h1 : m ≤ i := by omega
      rw [m229_108]
      simp (disch := omega) only [rt_c, b_some, List.cons_append, List.nil_append, Bool.cond_not, cond_true, cond_false, Bool.cond_decide, nI_add, nI_clamp, xin_n, dle_e, dlt_e, deq_e, xb_0, xb_1, decide_true, decide_false, Bool.not_true, Bool.not_false, Bool.and_true, Bool.true_and, Bool.and_false, Bool.false_and, Bool.true_or, Bool.false_or, Bool.or_true, Bool.or_false, if_true, if_false, up1_s, n_31, Int32.lt_irrefl, hr, h1, t229_188, x_it]
    | succ q ih =>
      intro i g r hi hr
      have h1 : ¬ m ≤ i := by omega
      have h3 := ih (i + 1) g (yd g i r) (by omega) (by rw [yd_o (by omega) (by omega)]; exact hr)
      rw [m229_108, show x_it (yd g) i (q + 1) r = x_it (yd g) (i + 1) q (yd g i r) from rfl]
      simp (disch := omega) only [rt_c, b_some, List.cons_append, List.nil_append, Bool.cond_not, cond_true, cond_false, Bool.cond_decide, nI_add, nI_clamp, xin_n, dle_e, dlt_e, deq_e, xb_0, xb_1, decide_true, decide_false, Bool.not_true, Bool.not_false, Bool.and_true, Bool.true_and, Bool.and_false, Bool.false_and, Bool.true_or, Bool.false_or, Bool.or_true, Bool.or_false, if_true, if_false, up1_s, n_31, Int32.lt_irrefl, hr, h1, c198, m229_124]
      cases ho : op_ r i with
      | false =>
        have h4 : yd g i r = r := by unfold yd; rw [ho]; rfl
        rw [h4] at h3 ⊢
        simp (disch := omega) only [rt_c, b_some, List.cons_append, List.nil_append, Bool.cond_not, cond_true, cond_false, Bool.cond_decide, nI_add, nI_clamp, xin_n, dle_e, dlt_e, deq_e, xb_0, xb_1, decide_true, decide_false, Bool.not_true, Bool.not_false, Bool.and_true, Bool.true_and, Bool.and_false, Bool.false_and, Bool.true_or, Bool.false_or, Bool.or_true, Bool.or_false, if_true, if_false, up1_s, n_31, Int32.lt_irrefl, h3]
      | true =>
        have h4 : yd g i r = upd (upd r (115 + i) (x_min (nI 999) (r (115 + i) + nI 1))) (103 + i) (x_min (nI 9999) (r (103 + i) + g)) := by unfold yd; rw [ho]; rfl
        rw [h4] at h3 ⊢
        simp (disch := omega) only [rt_c, b_some, List.cons_append, List.nil_append, Bool.cond_not, cond_true, cond_false, Bool.cond_decide, nI_add, nI_clamp, xin_n, dle_e, dlt_e, deq_e, xb_0, xb_1, decide_true, decide_false, Bool.not_true, Bool.not_false, Bool.and_true, Bool.true_and, Bool.and_false, Bool.false_and, Bool.true_or, Bool.false_or, Bool.or_true, Bool.or_false, if_true, if_false, up1_s, n_31, Int32.lt_irrefl, c169, m229_155, m229_181, up1_up, upd_n, h3]
  have key1 : ∀ (q i : Nat) (r : Nat → Int32), i + q = H → (∀ k, (k < 73 ∨ 79 ≤ k) → r k = A 2 k) → rt 229 (R (d + 1) 229 (2, [some (.ref 0), some (.int (nI i)), none], [], sl, RH I w (up1 A 2 r) N)) = some ([], sl, RH I w (up1 A 2 (x_it (yd (yG (A 2))) 0 m (upd (x_it yc i q r) 70 (A 2 70 + nI 1)))) N) := by
    intro q
    induction q with
    | zero =>
      intro i r hi hr
      have h1 : H ≤ i := by omega
      have e0 := hr 0 (by omega)
      have e3 := hr 3 (by omega)
      have e70 := hr 70 (by omega)
      have e2 := hr 2 (by omega)
      have e72 := hr 72 (by omega)
      rw [m229_2]
      simp (disch := omega) only [rt_c, b_some, List.cons_append, List.nil_append, Bool.cond_not, cond_true, cond_false, Bool.cond_decide, nI_add, nI_clamp, xin_n, dle_e, dlt_e, deq_e, xb_0, xb_1, decide_true, decide_false, Bool.not_true, Bool.not_false, Bool.and_true, Bool.true_and, Bool.and_false, Bool.false_and, Bool.true_or, Bool.false_or, Bool.or_true, Bool.or_false, if_true, if_false, up1_s, n_31, Int32.lt_irrefl, e0, h0, h1, upd_n, upd_s, e3, hy, hz, e70, e2, up1_up, x_it]
      unfold yG
      rw [hy]
      split
      · exact key2 m 0 _ _ (by omega) (by rw [upd_n (by omega), e72, h72])
      · exact key2 m 0 _ _ (by omega) (by rw [upd_n (by omega), e72, h72])
    | succ q ih =>
      intro i r hi hr
      have h1 : ¬ H ≤ i := by omega
      have e0 := hr 0 (by omega)
      have h3 := ih (i + 1) (yc i r) (by omega) (fun k hk => by rw [yc_o (by omega)]; exact hr k hk)
      rw [m229_2, show x_it yc i (q + 1) r = x_it yc (i + 1) q (yc i r) from rfl]
      simp (disch := omega) only [rt_c, b_some, List.cons_append, List.nil_append, Bool.cond_not, cond_true, cond_false, Bool.cond_decide, nI_add, nI_clamp, xin_n, dle_e, dlt_e, deq_e, xb_0, xb_1, decide_true, decide_false, Bool.not_true, Bool.not_false, Bool.and_true, Bool.true_and, Bool.and_false, Bool.false_and, Bool.true_or, Bool.false_or, Bool.or_true, Bool.or_false, if_true, if_false, up1_s, n_31, Int32.lt_irrefl, e0, h0, h1]
      by_cases h4 : nI 9999 ≤ r (73 + i)
      · have h5 : yc i r = r := by unfold yc; rw [if_pos h4]
        rw [h5] at h3 ⊢
        simp (disch := omega) only [rt_c, b_some, List.cons_append, List.nil_append, Bool.cond_not, cond_true, cond_false, Bool.cond_decide, nI_add, nI_clamp, xin_n, dle_e, dlt_e, deq_e, xb_0, xb_1, decide_true, decide_false, Bool.not_true, Bool.not_false, Bool.and_true, Bool.true_and, Bool.and_false, Bool.false_and, Bool.true_or, Bool.false_or, Bool.or_true, Bool.or_false, if_true, if_false, up1_s, n_31, Int32.lt_irrefl, h4, h3]
      · have h5 : yc i r = upd r (73 + i) (x_min (nI 9999) (r (73 + i) + r (10 + i))) := by unfold yc; rw [if_neg h4]
        rw [h5] at h3 ⊢
        simp (disch := omega) only [rt_c, b_some, List.cons_append, List.nil_append, Bool.cond_not, cond_true, cond_false, Bool.cond_decide, nI_add, nI_clamp, xin_n, dle_e, dlt_e, deq_e, xb_0, xb_1, decide_true, decide_false, Bool.not_true, Bool.not_false, Bool.and_true, Bool.true_and, Bool.and_false, Bool.false_and, Bool.true_or, Bool.false_or, Bool.or_true, Bool.or_false, if_true, if_false, up1_s, n_31, Int32.lt_irrefl, h4, c169, m229_60, up1_up, h3]
  have h9 := key1 H 0 (A 2) (by omega) (fun _ _ => rfl)
  rw [up1_id] at h9
  rw [e229, m229_0, h9]
  rfl
end RF5
section CL5
variable (d sl : Nat) (I : Nat → Nat → Int32) (A : Nat → Nat → Int32) (N : Nat → Nat → Int64) (V : Nat → Nat → Option Nat) (lt : Int64) (tw : Option Nat) (sp sr : Nat) (X : List AC) {n : Nat → Int32} {H m : Nat}
theorem q77_3 (hS : Sh I A 3 n H m) (hV : Vd n H m) : ∃ I' A', C d 77 [.ref 3] sl (CH I A N V lt tw sp sr X) = some ([], sl, CH I' A' N V lt tw sp sr X) ∧ Sh I' A' 3 (year_ n H m) H m ∧ Fr 3 I A I' A' := by
  have hLv : ∀ k, k < m → ∃ l, l ≤ 9999 ∧ n (103 + k) = nI l := hV.2.2.2.2.2.2.2.1
  obtain ⟨y, hy1, hy2, hy⟩ := hV.2.2.1
  have hz : ¬ nI y = nI 0 := by rw [nI_eq (by omega) (by omega)]; omega
  have hz' : ¬ nI y ≤ nI 0 := by rw [nI_leI (by omega) (by omega)]; omega
  -- debts
  have key2 : ∀ (q i : Nat) (b : Bool) (g : Int32) (I A : Nat → Nat → Int32) (r : Nat → Int32), g = cond b (r 2) (nI 0) → i + q = m → Sh I A 3 r H m → (∀ k, i ≤ k → k < m → ∃ l, l ≤ 9999 ∧ r (103 + k) = nI l) → ∃ I' A', rt 77 (R d 77 (90, [some (.ref 3), some (.int (x_b b)), some (.int (nI i))], [], sl, CH I A N V lt tw sp sr X)) = some ([], sl, CH I' A' N V lt tw sp sr X) ∧ Sh I' A' 3 (x_it (yd g) i q r) H m ∧ Fr 3 I A I' A' := by
    intro q
    induction q with
    | zero =>
      intro i b g I A r hgb hi hS hLr
      obtain ⟨⟨hH, hD, hH6, hm⟩, -⟩ := sh_3 hS
      have h1 : m ≤ i := by omega
      refine ⟨I, A, ?_, hS, Fr_rf⟩
      rw [k77_r3_90]
      simp (disch := omega) only [rt_c, b_some, List.cons_append, List.nil_append, Bool.cond_not, cond_true, cond_false, Bool.cond_decide, nI_add, nI_clamp, xin_n, dle_e, dlt_e, deq_e, xb_0, xb_1, decide_true, decide_false, Bool.not_true, Bool.not_false, Bool.and_true, Bool.true_and, Bool.and_false, Bool.false_and, Bool.true_or, Bool.false_or, Bool.or_true, Bool.or_false, if_true, if_false, up1_s, n_31, Int32.lt_irrefl, hD, h1, t77_160]
    | succ q ih =>
      intro i b g I A r hgb hi hS hLr
      have hS0 := hS
      obtain ⟨⟨hH, hD, hH6, hm⟩, ⟨hg1, hg2, hyy, hp⟩, hC, hIn, hCh, hW, hT, hL, hG⟩ := sh_3 hS
      have h1 : ¬ m ≤ i := by omega
      obtain ⟨l, hl1, hl2⟩ := hLr i (by omega) (by omega)
      rw [k77_r3_90, show x_it (yd g) i (q + 1) r = x_it (yd g) (i + 1) q (yd g i r) from rfl]
      have hn2 : yd g i r 2 = r 2 := yd_o (by omega) (by omega)
      have hLr' : ∀ k, i + 1 ≤ k → k < m → ∃ l, l ≤ 9999 ∧ yd g i r (103 + k) = nI l := fun k h1 h2 => by
        rw [yd_o (by omega) (by omega)]; exact hLr k (by omega) h2
      have h1l : i < m := by omega
      simp (disch := omega) only [rt_c, b_some, List.cons_append, List.nil_append, Bool.cond_not, cond_true, cond_false, Bool.cond_decide, nI_add, nI_clamp, xin_n, dle_e, dlt_e, deq_e, xb_0, xb_1, decide_true, decide_false, Bool.not_true, Bool.not_false, Bool.and_true, Bool.true_and, Bool.and_false, Bool.false_and, Bool.true_or, Bool.false_or, Bool.or_true, Bool.or_false, if_true, if_false, up1_s, n_31, Int32.lt_irrefl, hD, h1l, hL, le_nl, decide_not]
      by_cases ho : nI 0 < r (103 + i)
      · have ho' : op_ r i = true := decide_eq_true ho
        have h4 : yd g i r = upd (upd r (115 + i) (x_min (nI 999) (r (115 + i) + nI 1))) (103 + i) (x_min (nI 9999) (r (103 + i) + g)) := by unfold yd; rw [ho']; rfl
        cases b with
        | false =>
          have hg0 : x_min (nI 9999) (r (103 + i) + g) = r (103 + i) := by
            rw [hgb, hl2]
            show x_min (nI 9999) (nI l + nI 0) = nI l
            rw [nI_add]
            exact xmin_id (by omega) (by omega)
          have hS' : Sh I (up1 A 11 (upd (A 11) i (x_min (nI 999) (r (115 + i) + nI 1)))) 3 (yd g i r) H m := by
            rw [h4, hg0]
            refine ⟨⟨?_, ?_, hH6, hm⟩, ⟨?_, ?_, ?_, ?_⟩, ?_, ?_, ?_, ?_, ?_, ?_, ?_⟩
            all_goals (try intro h hh)
            all_goals simp (disch := omega) only [up1, upd, Nat.add_left_cancel_iff, if_neg, if_pos, if_true, if_false, hH, hD, hg1, hg2, hyy, hp, hC, hIn, hCh, hW, hT, hL, hG]
            by_cases h9 : h = i
            · rw [h9, if_pos rfl]
            · rw [if_neg h9]
          obtain ⟨I', A', e1, e2, e3⟩ := ih (i + 1) false g I _ (yd g i r) (by rw [hn2]; exact hgb) (by omega) hS' hLr'
          refine ⟨I', A', ?_, e2, Fr_tr ⟨fun _ _ => rfl, fun q hq => up1_n (by omega)⟩ e3⟩
          simp (disch := omega) only [rt_c, b_some, List.cons_append, List.nil_append, Bool.cond_not, cond_true, cond_false, Bool.cond_decide, nI_add, nI_clamp, xin_n, dle_e, dlt_e, deq_e, xb_0, xb_1, decide_true, decide_false, Bool.not_true, Bool.not_false, Bool.and_true, Bool.true_and, Bool.and_false, Bool.false_and, Bool.true_or, Bool.false_or, Bool.or_true, Bool.or_false, if_true, if_false, up1_s, n_31, Int32.lt_irrefl, ho, hG, show decide (x_b false = nI 0) = true from rfl]
          exact e1
        | true =>
          have hg0 : g = r 2 := hgb
          have hS' : Sh I (up1 (up1 A 10 (upd (A 10) i (x_min (nI 9999) (r (103 + i) + r 2)))) 11 (upd (A 11) i (x_min (nI 999) (r (115 + i) + nI 1)))) 3 (yd g i r) H m := by
            rw [h4, hg0]
            refine ⟨⟨?_, ?_, hH6, hm⟩, ⟨?_, ?_, ?_, ?_⟩, ?_, ?_, ?_, ?_, ?_, ?_, ?_⟩
            all_goals (try intro h hh)
            all_goals simp (disch := omega) only [up1, upd, Nat.add_left_cancel_iff, if_neg, if_pos, if_true, if_false, hH, hD, hg1, hg2, hyy, hp, hC, hIn, hCh, hW, hT, hL, hG]
          obtain ⟨I', A', e1, e2, e3⟩ := ih (i + 1) true g I _ (yd g i r) (by rw [hn2]; exact hgb) (by omega) hS' hLr'
          refine ⟨I', A', ?_, e2, Fr_tr ⟨fun _ _ => rfl, fun q hq => (up1_n (by omega)).trans (up1_n (by omega))⟩ e3⟩
          simp (disch := omega) only [rt_c, b_some, List.cons_append, List.nil_append, Bool.cond_not, cond_true, cond_false, Bool.cond_decide, nI_add, nI_clamp, xin_n, dle_e, dlt_e, deq_e, xb_0, xb_1, decide_true, decide_false, Bool.not_true, Bool.not_false, Bool.and_true, Bool.true_and, Bool.and_false, Bool.false_and, Bool.true_or, Bool.false_or, Bool.or_true, Bool.or_false, if_true, if_false, up1_s, n_31, Int32.lt_irrefl, ho, hL, hG, hg1, show decide (x_b true = nI 0) = false from rfl]
          exact e1
      · have ho' : op_ r i = false := decide_eq_false ho
        have h4 : yd g i r = r := by unfold yd; rw [ho']; rfl
        rw [h4] at hLr' ⊢
        obtain ⟨I', A', e1, e2, e3⟩ := ih (i + 1) b g I A r hgb (by omega) hS0 hLr'
        refine ⟨I', A', ?_, e2, e3⟩
        simp (disch := omega) only [rt_c, b_some, List.cons_append, List.nil_append, Bool.cond_not, cond_true, cond_false, Bool.cond_decide, nI_add, nI_clamp, xin_n, dle_e, dlt_e, deq_e, xb_0, xb_1, decide_true, decide_false, Bool.not_true, Bool.not_false, Bool.and_true, Bool.true_and, Bool.and_false, Bool.false_and, Bool.true_or, Bool.false_or, Bool.or_true, Bool.or_false, if_true, if_false, up1_s, n_31, Int32.lt_irrefl, ho]
        exact e1
  -- houses
  have key1 : ∀ (q i : Nat) (A : Nat → Nat → Int32) (r : Nat → Int32), i + q = H → Sh I A 3 r H m → (∀ k, (k < 73 ∨ 79 ≤ k) → r k = n k) → ∃ I' A', rt 77 (R d 77 (2, [some (.ref 3), some (.int (nI i)), none], [], sl, CH I A N V lt tw sp sr X)) = some ([], sl, CH I' A' N V lt tw sp sr X) ∧ Sh I' A' 3 (x_it (yd (yG n)) 0 m (upd (x_it yc i q r) 70 (n 70 + nI 1))) H m ∧ Fr 3 I A I' A' := by
    intro q
    induction q with
    | zero =>
      intro i A r hi hS hr
      obtain ⟨⟨hH, hD, hH6, hm⟩, ⟨hg1, hg2, hyy, hp⟩, hC, hIn, hCh, hW, hT, hL, hG⟩ := sh_3 hS
      have h1 : H ≤ i := by omega
      rw [hr 3 (by omega), hy] at hg2
      have e70 := hr 70 (by omega)
      have e2 := hr 2 (by omega)
      have hS' : Sh (up1 I 3 (up1 (I 3) 12 (n 70 + nI 1))) A 3 (upd r 70 (n 70 + nI 1)) H m := by
        refine ⟨⟨?_, ?_, hH6, hm⟩, ⟨?_, ?_, ?_, ?_⟩, ?_, ?_, ?_, ?_, ?_, ?_, ?_⟩
        all_goals (try intro h hh)
        all_goals simp (disch := omega) only [up1, upd, Nat.add_left_cancel_iff, if_neg, if_pos, if_true, if_false, hH, hD, hg1, hg2, hyy, hp, hC, hIn, hCh, hW, hT, hL, hG, hr 3 (by omega), hy]
      have hLr : ∀ k, 0 ≤ k → k < m → ∃ l, l ≤ 9999 ∧ upd r 70 (n 70 + nI 1) (103 + k) = nI l := fun k _ hk => by
        rw [upd_n (by omega), hr _ (by omega)]; exact hLv k hk
      have hx : ∀ b, (if (n 70 + nI 1) - (n 70 + nI 1) / nI y * nI y = nI 0 then true else false) = b → ∃ I' A', rt 77 (R d 77 (90, [some (.ref 3), some (.int (x_b b)), some (.int (nI 0))], [], sl, CH (up1 I 3 (up1 (I 3) 12 (n 70 + nI 1))) A N V lt tw sp sr X)) = some ([], sl, CH I' A' N V lt tw sp sr X) ∧ Sh I' A' 3 (x_it (yd (yG n)) 0 m (upd r 70 (n 70 + nI 1))) H m ∧ Fr 3 (up1 I 3 (up1 (I 3) 12 (n 70 + nI 1))) A I' A' := by
        intro b hb
        refine key2 m 0 b (yG n) _ A _ ?_ (by omega) hS' hLr
        unfold yG
        rw [hy, upd_n (by omega), e2]
        rw [← hb]
        split <;> rfl
      rw [k77_r3_2]
      simp (disch := omega) only [rt_c, b_some, List.cons_append, List.nil_append, Bool.cond_not, cond_true, cond_false, Bool.cond_decide, nI_add, nI_clamp, xin_n, dle_e, dlt_e, deq_e, xb_0, xb_1, decide_true, decide_false, Bool.not_true, Bool.not_false, Bool.and_true, Bool.true_and, Bool.and_false, Bool.false_and, Bool.true_or, Bool.false_or, Bool.or_true, Bool.or_false, if_true, if_false, up1_s, n_31, Int32.lt_irrefl, hH, h1, hg2, hz, hz', hyy, e70, x_it]
      split
      · rename_i h5
        obtain ⟨I', A', f1, f2, f3⟩ := hx true (by rw [if_pos h5])
        exact ⟨I', A', f1, f2, Fr_tr ⟨fun p hp => up1_n hp, fun _ _ => rfl⟩ f3⟩
      · rename_i h5
        obtain ⟨I', A', f1, f2, f3⟩ := hx false (by rw [if_neg h5])
        exact ⟨I', A', f1, f2, Fr_tr ⟨fun p hp => up1_n hp, fun _ _ => rfl⟩ f3⟩
    | succ q ih =>
      intro i A r hi hS hr
      have hS0 := hS
      obtain ⟨⟨hH, hD, hH6, hm⟩, ⟨hg1, hg2, hyy, hp⟩, hC, hIn, hCh, hW, hT, hL, hG⟩ := sh_3 hS
      have h1 : ¬ H ≤ i := by omega
      have hr' : ∀ k, (k < 73 ∨ 79 ≤ k) → yc i r k = n k := fun k hk => by rw [yc_o (by omega)]; exact hr k hk
      rw [k77_r3_2, show x_it yc i (q + 1) r = x_it yc (i + 1) q (yc i r) from rfl]
      simp (disch := omega) only [rt_c, b_some, List.cons_append, List.nil_append, Bool.cond_not, cond_true, cond_false, Bool.cond_decide, nI_add, nI_clamp, xin_n, dle_e, dlt_e, deq_e, xb_0, xb_1, decide_true, decide_false, Bool.not_true, Bool.not_false, Bool.and_true, Bool.true_and, Bool.and_false, Bool.false_and, Bool.true_or, Bool.false_or, Bool.or_true, Bool.or_false, if_true, if_false, up1_s, n_31, Int32.lt_irrefl, hH, h1, hC]
      by_cases h4 : nI 9999 ≤ r (73 + i)
      · have h5 : yc i r = r := by unfold yc; rw [if_pos h4]
        rw [h5] at hr' ⊢
        obtain ⟨I', A', e1, e2, e3⟩ := ih (i + 1) A r (by omega) hS0 hr'
        refine ⟨I', A', ?_, e2, e3⟩
        simp (disch := omega) only [rt_c, b_some, List.cons_append, List.nil_append, Bool.cond_not, cond_true, cond_false, Bool.cond_decide, nI_add, nI_clamp, xin_n, dle_e, dlt_e, deq_e, xb_0, xb_1, decide_true, decide_false, Bool.not_true, Bool.not_false, Bool.and_true, Bool.true_and, Bool.and_false, Bool.false_and, Bool.true_or, Bool.false_or, Bool.or_true, Bool.or_false, if_true, if_false, up1_s, n_31, Int32.lt_irrefl, h4]
        exact e1
      · have h5 : yc i r = upd r (73 + i) (x_min (nI 9999) (r (73 + i) + r (10 + i))) := by unfold yc; rw [if_neg h4]
        have hS' : Sh I (up1 A 5 (upd (A 5) i (x_min (nI 9999) (r (73 + i) + r (10 + i))))) 3 (yc i r) H m := by
          rw [h5]
          refine ⟨⟨?_, ?_, hH6, hm⟩, ⟨?_, ?_, ?_, ?_⟩, ?_, ?_, ?_, ?_, ?_, ?_, ?_⟩
          all_goals (try intro h hh)
          all_goals simp (disch := omega) only [up1, upd, Nat.add_left_cancel_iff, if_neg, if_pos, if_true, if_false, hH, hD, hg1, hg2, hyy, hp, hC, hIn, hCh, hW, hT, hL, hG]
        obtain ⟨I', A', e1, e2, e3⟩ := ih (i + 1) _ (yc i r) (by omega) hS' hr'
        refine ⟨I', A', ?_, e2, Fr_tr ⟨fun _ _ => rfl, fun q hq => up1_n (by omega)⟩ e3⟩
        simp (disch := omega) only [rt_c, b_some, List.cons_append, List.nil_append, Bool.cond_not, cond_true, cond_false, Bool.cond_decide, nI_add, nI_clamp, xin_n, dle_e, dlt_e, deq_e, xb_0, xb_1, decide_true, decide_false, Bool.not_true, Bool.not_false, Bool.and_true, Bool.true_and, Bool.and_false, Bool.false_and, Bool.true_or, Bool.false_or, Bool.or_true, Bool.or_false, if_true, if_false, up1_s, n_31, Int32.lt_irrefl, h4, hC, hIn]
        exact e1
  obtain ⟨I', A', e1, e2, e3⟩ := key1 H 0 A n (by omega) hS (fun _ _ => rfl)
  refine ⟨I', A', ?_, e2, e3⟩
  rw [e77, k77_r3_0]
  exact e1
theorem q77_12 (hS : Sh I A 12 n H m) (hV : Vd n H m) : ∃ I' A', C d 77 [.ref 12] sl (CH I A N V lt tw sp sr X) = some ([], sl, CH I' A' N V lt tw sp sr X) ∧ Sh I' A' 12 (year_ n H m) H m ∧ Fr 12 I A I' A' := by
  have hLv : ∀ k, k < m → ∃ l, l ≤ 9999 ∧ n (103 + k) = nI l := hV.2.2.2.2.2.2.2.1
  obtain ⟨y, hy1, hy2, hy⟩ := hV.2.2.1
  have hz : ¬ nI y = nI 0 := by rw [nI_eq (by omega) (by omega)]; omega
  have hz' : ¬ nI y ≤ nI 0 := by rw [nI_leI (by omega) (by omega)]; omega
  -- debts
  have key2 : ∀ (q i : Nat) (b : Bool) (g : Int32) (I A : Nat → Nat → Int32) (r : Nat → Int32), g = cond b (r 2) (nI 0) → i + q = m → Sh I A 12 r H m → (∀ k, i ≤ k → k < m → ∃ l, l ≤ 9999 ∧ r (103 + k) = nI l) → ∃ I' A', rt 77 (R d 77 (90, [some (.ref 12), some (.int (x_b b)), some (.int (nI i))], [], sl, CH I A N V lt tw sp sr X)) = some ([], sl, CH I' A' N V lt tw sp sr X) ∧ Sh I' A' 12 (x_it (yd g) i q r) H m ∧ Fr 12 I A I' A' := by
    intro q
    induction q with
    | zero =>
      intro i b g I A r hgb hi hS hLr
      obtain ⟨⟨hH, hD, hH6, hm⟩, -⟩ := sh_12 hS
      have h1 : m ≤ i := by omega
      refine ⟨I, A, ?_, hS, Fr_rf⟩
      rw [k77_r12_90]
      simp (disch := omega) only [rt_c, b_some, List.cons_append, List.nil_append, Bool.cond_not, cond_true, cond_false, Bool.cond_decide, nI_add, nI_clamp, xin_n, dle_e, dlt_e, deq_e, xb_0, xb_1, decide_true, decide_false, Bool.not_true, Bool.not_false, Bool.and_true, Bool.true_and, Bool.and_false, Bool.false_and, Bool.true_or, Bool.false_or, Bool.or_true, Bool.or_false, if_true, if_false, up1_s, n_31, Int32.lt_irrefl, hD, h1, t77_160]
    | succ q ih =>
      intro i b g I A r hgb hi hS hLr
      have hS0 := hS
      obtain ⟨⟨hH, hD, hH6, hm⟩, ⟨hg1, hg2, hyy, hp⟩, hC, hIn, hCh, hW, hT, hL, hG⟩ := sh_12 hS
      have h1 : ¬ m ≤ i := by omega
      obtain ⟨l, hl1, hl2⟩ := hLr i (by omega) (by omega)
      rw [k77_r12_90, show x_it (yd g) i (q + 1) r = x_it (yd g) (i + 1) q (yd g i r) from rfl]
      have hn2 : yd g i r 2 = r 2 := yd_o (by omega) (by omega)
      have hLr' : ∀ k, i + 1 ≤ k → k < m → ∃ l, l ≤ 9999 ∧ yd g i r (103 + k) = nI l := fun k h1 h2 => by
        rw [yd_o (by omega) (by omega)]; exact hLr k (by omega) h2
      have h1l : i < m := by omega
      simp (disch := omega) only [rt_c, b_some, List.cons_append, List.nil_append, Bool.cond_not, cond_true, cond_false, Bool.cond_decide, nI_add, nI_clamp, xin_n, dle_e, dlt_e, deq_e, xb_0, xb_1, decide_true, decide_false, Bool.not_true, Bool.not_false, Bool.and_true, Bool.true_and, Bool.and_false, Bool.false_and, Bool.true_or, Bool.false_or, Bool.or_true, Bool.or_false, if_true, if_false, up1_s, n_31, Int32.lt_irrefl, hD, h1l, hL, le_nl, decide_not]
      by_cases ho : nI 0 < r (103 + i)
      · have ho' : op_ r i = true := decide_eq_true ho
        have h4 : yd g i r = upd (upd r (115 + i) (x_min (nI 999) (r (115 + i) + nI 1))) (103 + i) (x_min (nI 9999) (r (103 + i) + g)) := by unfold yd; rw [ho']; rfl
        cases b with
        | false =>
          have hg0 : x_min (nI 9999) (r (103 + i) + g) = r (103 + i) := by
            rw [hgb, hl2]
            show x_min (nI 9999) (nI l + nI 0) = nI l
            rw [nI_add]
            exact xmin_id (by omega) (by omega)
          have hS' : Sh I (up1 A 20 (upd (A 20) i (x_min (nI 999) (r (115 + i) + nI 1)))) 12 (yd g i r) H m := by
            rw [h4, hg0]
            refine ⟨⟨?_, ?_, hH6, hm⟩, ⟨?_, ?_, ?_, ?_⟩, ?_, ?_, ?_, ?_, ?_, ?_, ?_⟩
            all_goals (try intro h hh)
            all_goals simp (disch := omega) only [up1, upd, Nat.add_left_cancel_iff, if_neg, if_pos, if_true, if_false, hH, hD, hg1, hg2, hyy, hp, hC, hIn, hCh, hW, hT, hL, hG]
            by_cases h9 : h = i
            · rw [h9, if_pos rfl]
            · rw [if_neg h9]
          obtain ⟨I', A', e1, e2, e3⟩ := ih (i + 1) false g I _ (yd g i r) (by rw [hn2]; exact hgb) (by omega) hS' hLr'
          refine ⟨I', A', ?_, e2, Fr_tr ⟨fun _ _ => rfl, fun q hq => up1_n (by omega)⟩ e3⟩
          simp (disch := omega) only [rt_c, b_some, List.cons_append, List.nil_append, Bool.cond_not, cond_true, cond_false, Bool.cond_decide, nI_add, nI_clamp, xin_n, dle_e, dlt_e, deq_e, xb_0, xb_1, decide_true, decide_false, Bool.not_true, Bool.not_false, Bool.and_true, Bool.true_and, Bool.and_false, Bool.false_and, Bool.true_or, Bool.false_or, Bool.or_true, Bool.or_false, if_true, if_false, up1_s, n_31, Int32.lt_irrefl, ho, hG, show decide (x_b false = nI 0) = true from rfl]
          exact e1
        | true =>
          have hg0 : g = r 2 := hgb
          have hS' : Sh I (up1 (up1 A 19 (upd (A 19) i (x_min (nI 9999) (r (103 + i) + r 2)))) 20 (upd (A 20) i (x_min (nI 999) (r (115 + i) + nI 1)))) 12 (yd g i r) H m := by
            rw [h4, hg0]
            refine ⟨⟨?_, ?_, hH6, hm⟩, ⟨?_, ?_, ?_, ?_⟩, ?_, ?_, ?_, ?_, ?_, ?_, ?_⟩
            all_goals (try intro h hh)
            all_goals simp (disch := omega) only [up1, upd, Nat.add_left_cancel_iff, if_neg, if_pos, if_true, if_false, hH, hD, hg1, hg2, hyy, hp, hC, hIn, hCh, hW, hT, hL, hG]
          obtain ⟨I', A', e1, e2, e3⟩ := ih (i + 1) true g I _ (yd g i r) (by rw [hn2]; exact hgb) (by omega) hS' hLr'
          refine ⟨I', A', ?_, e2, Fr_tr ⟨fun _ _ => rfl, fun q hq => (up1_n (by omega)).trans (up1_n (by omega))⟩ e3⟩
          simp (disch := omega) only [rt_c, b_some, List.cons_append, List.nil_append, Bool.cond_not, cond_true, cond_false, Bool.cond_decide, nI_add, nI_clamp, xin_n, dle_e, dlt_e, deq_e, xb_0, xb_1, decide_true, decide_false, Bool.not_true, Bool.not_false, Bool.and_true, Bool.true_and, Bool.and_false, Bool.false_and, Bool.true_or, Bool.false_or, Bool.or_true, Bool.or_false, if_true, if_false, up1_s, n_31, Int32.lt_irrefl, ho, hL, hG, hg1, show decide (x_b true = nI 0) = false from rfl]
          exact e1
      · have ho' : op_ r i = false := decide_eq_false ho
        have h4 : yd g i r = r := by unfold yd; rw [ho']; rfl
        rw [h4] at hLr' ⊢
        obtain ⟨I', A', e1, e2, e3⟩ := ih (i + 1) b g I A r hgb (by omega) hS0 hLr'
        refine ⟨I', A', ?_, e2, e3⟩
        simp (disch := omega) only [rt_c, b_some, List.cons_append, List.nil_append, Bool.cond_not, cond_true, cond_false, Bool.cond_decide, nI_add, nI_clamp, xin_n, dle_e, dlt_e, deq_e, xb_0, xb_1, decide_true, decide_false, Bool.not_true, Bool.not_false, Bool.and_true, Bool.true_and, Bool.and_false, Bool.false_and, Bool.true_or, Bool.false_or, Bool.or_true, Bool.or_false, if_true, if_false, up1_s, n_31, Int32.lt_irrefl, ho]
        exact e1
  -- houses
  have key1 : ∀ (q i : Nat) (A : Nat → Nat → Int32) (r : Nat → Int32), i + q = H → Sh I A 12 r H m → (∀ k, (k < 73 ∨ 79 ≤ k) → r k = n k) → ∃ I' A', rt 77 (R d 77 (2, [some (.ref 12), some (.int (nI i)), none], [], sl, CH I A N V lt tw sp sr X)) = some ([], sl, CH I' A' N V lt tw sp sr X) ∧ Sh I' A' 12 (x_it (yd (yG n)) 0 m (upd (x_it yc i q r) 70 (n 70 + nI 1))) H m ∧ Fr 12 I A I' A' := by
    intro q
    induction q with
    | zero =>
      intro i A r hi hS hr
      obtain ⟨⟨hH, hD, hH6, hm⟩, ⟨hg1, hg2, hyy, hp⟩, hC, hIn, hCh, hW, hT, hL, hG⟩ := sh_12 hS
      have h1 : H ≤ i := by omega
      rw [hr 3 (by omega), hy] at hg2
      have e70 := hr 70 (by omega)
      have e2 := hr 2 (by omega)
      have hS' : Sh (up1 I 12 (up1 (I 12) 12 (n 70 + nI 1))) A 12 (upd r 70 (n 70 + nI 1)) H m := by
        refine ⟨⟨?_, ?_, hH6, hm⟩, ⟨?_, ?_, ?_, ?_⟩, ?_, ?_, ?_, ?_, ?_, ?_, ?_⟩
        all_goals (try intro h hh)
        all_goals simp (disch := omega) only [up1, upd, Nat.add_left_cancel_iff, if_neg, if_pos, if_true, if_false, hH, hD, hg1, hg2, hyy, hp, hC, hIn, hCh, hW, hT, hL, hG, hr 3 (by omega), hy]
      have hLr : ∀ k, 0 ≤ k → k < m → ∃ l, l ≤ 9999 ∧ upd r 70 (n 70 + nI 1) (103 + k) = nI l := fun k _ hk => by
        rw [upd_n (by omega), hr _ (by omega)]; exact hLv k hk
      have hx : ∀ b, (if (n 70 + nI 1) - (n 70 + nI 1) / nI y * nI y = nI 0 then true else false) = b → ∃ I' A', rt 77 (R d 77 (90, [some (.ref 12), some (.int (x_b b)), some (.int (nI 0))], [], sl, CH (up1 I 12 (up1 (I 12) 12 (n 70 + nI 1))) A N V lt tw sp sr X)) = some ([], sl, CH I' A' N V lt tw sp sr X) ∧ Sh I' A' 12 (x_it (yd (yG n)) 0 m (upd r 70 (n 70 + nI 1))) H m ∧ Fr 12 (up1 I 12 (up1 (I 12) 12 (n 70 + nI 1))) A I' A' := by
        intro b hb
        refine key2 m 0 b (yG n) _ A _ ?_ (by omega) hS' hLr
        unfold yG
        rw [hy, upd_n (by omega), e2]
        rw [← hb]
        split <;> rfl
      rw [k77_r12_2]
      simp (disch := omega) only [rt_c, b_some, List.cons_append, List.nil_append, Bool.cond_not, cond_true, cond_false, Bool.cond_decide, nI_add, nI_clamp, xin_n, dle_e, dlt_e, deq_e, xb_0, xb_1, decide_true, decide_false, Bool.not_true, Bool.not_false, Bool.and_true, Bool.true_and, Bool.and_false, Bool.false_and, Bool.true_or, Bool.false_or, Bool.or_true, Bool.or_false, if_true, if_false, up1_s, n_31, Int32.lt_irrefl, hH, h1, hg2, hz, hz', hyy, e70, x_it]
      split
      · rename_i h5
        obtain ⟨I', A', f1, f2, f3⟩ := hx true (by rw [if_pos h5])
        exact ⟨I', A', f1, f2, Fr_tr ⟨fun p hp => up1_n hp, fun _ _ => rfl⟩ f3⟩
      · rename_i h5
        obtain ⟨I', A', f1, f2, f3⟩ := hx false (by rw [if_neg h5])
        exact ⟨I', A', f1, f2, Fr_tr ⟨fun p hp => up1_n hp, fun _ _ => rfl⟩ f3⟩
    | succ q ih =>
      intro i A r hi hS hr
      have hS0 := hS
      obtain ⟨⟨hH, hD, hH6, hm⟩, ⟨hg1, hg2, hyy, hp⟩, hC, hIn, hCh, hW, hT, hL, hG⟩ := sh_12 hS
      have h1 : ¬ H ≤ i := by omega
      have hr' : ∀ k, (k < 73 ∨ 79 ≤ k) → yc i r k = n k := fun k hk => by rw [yc_o (by omega)]; exact hr k hk
      rw [k77_r12_2, show x_it yc i (q + 1) r = x_it yc (i + 1) q (yc i r) from rfl]
      simp (disch := omega) only [rt_c, b_some, List.cons_append, List.nil_append, Bool.cond_not, cond_true, cond_false, Bool.cond_decide, nI_add, nI_clamp, xin_n, dle_e, dlt_e, deq_e, xb_0, xb_1, decide_true, decide_false, Bool.not_true, Bool.not_false, Bool.and_true, Bool.true_and, Bool.and_false, Bool.false_and, Bool.true_or, Bool.false_or, Bool.or_true, Bool.or_false, if_true, if_false, up1_s, n_31, Int32.lt_irrefl, hH, h1, hC]
      by_cases h4 : nI 9999 ≤ r (73 + i)
      · have h5 : yc i r = r := by unfold yc; rw [if_pos h4]
        rw [h5] at hr' ⊢
        obtain ⟨I', A', e1, e2, e3⟩ := ih (i + 1) A r (by omega) hS0 hr'
        refine ⟨I', A', ?_, e2, e3⟩
        simp (disch := omega) only [rt_c, b_some, List.cons_append, List.nil_append, Bool.cond_not, cond_true, cond_false, Bool.cond_decide, nI_add, nI_clamp, xin_n, dle_e, dlt_e, deq_e, xb_0, xb_1, decide_true, decide_false, Bool.not_true, Bool.not_false, Bool.and_true, Bool.true_and, Bool.and_false, Bool.false_and, Bool.true_or, Bool.false_or, Bool.or_true, Bool.or_false, if_true, if_false, up1_s, n_31, Int32.lt_irrefl, h4]
        exact e1
      · have h5 : yc i r = upd r (73 + i) (x_min (nI 9999) (r (73 + i) + r (10 + i))) := by unfold yc; rw [if_neg h4]
        have hS' : Sh I (up1 A 14 (upd (A 14) i (x_min (nI 9999) (r (73 + i) + r (10 + i))))) 12 (yc i r) H m := by
          rw [h5]
          refine ⟨⟨?_, ?_, hH6, hm⟩, ⟨?_, ?_, ?_, ?_⟩, ?_, ?_, ?_, ?_, ?_, ?_, ?_⟩
          all_goals (try intro h hh)
          all_goals simp (disch := omega) only [up1, upd, Nat.add_left_cancel_iff, if_neg, if_pos, if_true, if_false, hH, hD, hg1, hg2, hyy, hp, hC, hIn, hCh, hW, hT, hL, hG]
        obtain ⟨I', A', e1, e2, e3⟩ := ih (i + 1) _ (yc i r) (by omega) hS' hr'
        refine ⟨I', A', ?_, e2, Fr_tr ⟨fun _ _ => rfl, fun q hq => up1_n (by omega)⟩ e3⟩
        simp (disch := omega) only [rt_c, b_some, List.cons_append, List.nil_append, Bool.cond_not, cond_true, cond_false, Bool.cond_decide, nI_add, nI_clamp, xin_n, dle_e, dlt_e, deq_e, xb_0, xb_1, decide_true, decide_false, Bool.not_true, Bool.not_false, Bool.and_true, Bool.true_and, Bool.and_false, Bool.false_and, Bool.true_or, Bool.false_or, Bool.or_true, Bool.or_false, if_true, if_false, up1_s, n_31, Int32.lt_irrefl, h4, hC, hIn]
        exact e1
  obtain ⟨I', A', e1, e2, e3⟩ := key1 H 0 A n (by omega) hS (fun _ _ => rfl)
  refine ⟨I', A', ?_, e2, e3⟩
  rw [e77, k77_r12_0]
  exact e1
end CL5
