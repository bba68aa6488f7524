/-! THE CLASS'S RINGS -/
theorem fd_succ {ρ : Type} (f : Nat → Option ρ) : ∀ (k i : Nat), x_fd f i (k + 1) = (x_fd f i k).or (f (i + k))
  | 0, i => by
    simp only [x_fd]
    cases f i <;> rfl
  | k + 1, i => by
    have ih := fd_succ f k (i + 1)
    rw [show i + 1 + k = i + (k + 1) by omega] at ih
    show (match f i with | some r => some r | none => x_fd f (i + 1) (k + 1)) = (match f i with | some r => some r | none => x_fd f (i + 1) k).or (f (i + (k + 1)))
    cases f i with
    | some r => rfl
    | none => exact ih
theorem owe_succ (n : Nat → Int32) (i : Nat) (a b : Int32) : owe_ n (i + 1) a b = (owe_ n i a b || (op_ n i && (decide (n (79 + i) = a) && decide (n (91 + i) = b)))) := by
  unfold owe_
  rw [fd_succ, Nat.zero_add]
  have hT : ∀ (k j : Nat) (r : Bool), x_fd (fun k => cond (op_ n k && (decide (n (79 + k) = a) && decide (n (91 + k) = b))) (some true) none) j k = some r → r = true := by
    intro k
    induction k with
    | zero => intro j r h; cases h
    | succ k ih =>
      intro j r h
      simp only [x_fd] at h
      cases hc : (op_ n j && (decide (n (79 + j) = a) && decide (n (91 + j) = b))) with
      | true => rw [hc] at h; cases h; rfl
      | false => rw [hc] at h; exact ih (j + 1) r h
  cases hx : x_fd (fun k => cond (op_ n k && (decide (n (79 + k) = a) && decide (n (91 + k) = b))) (some true) none) 0 i with
  | some r => rw [hT i 0 r hx]; rfl
  | none =>
    cases (op_ n i && (decide (n (79 + i) = a) && decide (n (91 + i) = b))) <;> rfl
theorem mkN_or {P P' : Nat → Bool} {u : Nat} (hu : u < 6) (h : ∀ b, b < 6 → P' b = (P b || decide (u = b))) : mkN P' 6 = mkN P 6 ||| (1 <<< u) := by
  apply Nat.eq_of_testBit_eq
  intro k
  rw [or_bit, mkN_bit, mkN_bit]
  by_cases hk : k < 6
  · rw [h k hk]
    simp [hk]
  · have : u ≠ k := by omega
    simp [hk, this]
theorem mkN_congr {P P' : Nat → Bool} {m : Nat} (h : ∀ b, b < m → P' b = P b) : mkN P' m = mkN P m := by
  apply Nat.eq_of_testBit_eq
  intro k
  rw [mkN_bit, mkN_bit]
  by_cases hk : k < m
  · rw [h k hk]
  · simp [hk]
theorem and_z {P Q : Nat → Bool} {a b : Nat} : mkN P a &&& mkN Q b = 0 ↔ ∀ k, k < a → k < b → (P k && Q k) = false := by
  constructor
  · intro h k h1 h2
    have := congrArg (fun x => x.testBit k) h
    simp only [Nat.testBit_and, mkN_bit, Nat.zero_testBit] at this
    simpa [h1, h2] using this
  · intro h
    apply Nat.eq_of_testBit_eq
    intro k
    rw [Nat.testBit_and, mkN_bit, mkN_bit, Nat.zero_testBit]
    by_cases h1 : k < a
    · by_cases h2 : k < b
      · have := h k h1 h2
        simpa [h1, h2] using this
      · simp [h2]
    · simp [h1]
theorem mkN_z {P : Nat → Bool} {m : Nat} : mkN P m = 0 ↔ ∀ k, k < m → P k = false := by
  have h := and_z (P := P) (Q := P) (a := m) (b := m)
  rw [Nat.and_self] at h
  rw [h]
  constructor
  · intro h k hk
    have := h k hk hk
    rwa [Bool.and_self] at this
  · intro h k hk _
    rw [h k hk]; rfl
theorem mkN_one {H h : Nat} (hh : h < H) {P : Nat → Bool} (hP : ∀ g, g < H → P g = decide (h = g)) : mkN P H = 1 <<< h := by
  apply Nat.eq_of_testBit_eq
  intro k
  rw [mkN_bit, Nat.one_shiftLeft, Nat.testBit_two_pow]
  by_cases hk : k < H
  · rw [hP k hk]; simp [hk]
  · have : h ≠ k := by omega
    simp [hk, this]
/-- owed houses as bits -/
def eo (n : Nat → Int32) (m a : Nat) : Nat := mkN (fun b => Em n m a b) 6
theorem eo_lt (n : Nat → Int32) (m a : Nat) : eo n m a < 64 := mkN_lt _ 6
/-- how near each house is, as far as it is known -/
def StI (E : Nat → Nat → Bool) (H h s : Nat) (st : Nat → Int32) : Prop := ∀ g, g < 6 → (∃ k, k < s ∧ g < H ∧ Ds E H h k g ∧ st g = nI k) ∨ ((∀ k, k < s → g < H → ¬ Ds E H h k g) ∧ st g = -1)
theorem neg1_nn {k : Nat} (hk : k < 2 ^ 31) : ¬ nI k = -1 := fun e => neg1_ne (k := nI k) (by rw [nI_leI (by omega) hk]; omega) e.symm
section CLR
variable (d sl : Nat) (I : Nat → Nat → Int32) (A : Nat → Nat → Int32) (N : Nat → Nat → Int64) (V : Nat → Nat → Option Nat) (lt : Int64) (tw : Option Nat) (sp sr : Nat) (X : List AC) {n : Nat → Int32} {H m : Nat}
theorem q108 (hS : Sh I A 3 n H m) (hV : Vd n H m) : ∃ g, C (d + 1) 108 [.ref 95, .ref 3] sl (CH I A N V lt tw sp sr X) = some ([], sl, CH I (up1 A 96 g) N V lt tw sp sr X) ∧ ∀ a, a < 6 → g a = nI (eo n m a) := by
  obtain ⟨⟨hH, hD, hH6, hm⟩, -, hC, hIn, hCh, hW, hT, hL, hG⟩ := sh_3 hS
  have key2 : ∀ (q i : Nat) (g : Nat → Int32), i + q = m → (∀ a, a < 6 → g a = nI (mkN (fun b => owe_ n i (nI a) (nI b)) 6)) → ∃ g', rt 108 (R (d + 1) 108 (23, [some (.ref 95), some (.ref 3), some (.int (nI i))], [], sl, CH I (up1 A 96 g) N V lt tw sp sr X)) = some ([], sl, CH I (up1 A 96 g') N V lt tw sp sr X) ∧ ∀ a, a < 6 → g' a = nI (eo n m a) := by
    intro q
    induction q with
    | zero =>
      intro i g hi hg
      have h1 : m ≤ i := by omega
      have h2 : i = m := by omega
      subst h2
      refine ⟨g, ?_, hg⟩
      rw [k108_r95_r3_23]
      simp (disch := omega) only [rt_c, b_some, List.cons_append, List.nil_append, Bool.cond_not, cond_true, cond_false, Bool.cond_decide, nI_add, nI_clamp, xin_n, dle_e, dlt_e, deq_e, xb_0, xb_1, decide_true, decide_false, Bool.not_true, Bool.not_false, Bool.and_true, Bool.true_and, Bool.and_false, Bool.false_and, Bool.true_or, Bool.false_or, Bool.or_true, Bool.or_false, if_true, if_false, up1_s, n_31, Int32.lt_irrefl, hD, h1, t108_67]
    | succ q ih =>
      intro i g hi hg
      have h1 : ¬ m ≤ i := by omega
      have hSg : Sh I (up1 A 96 g) 3 n H m := Sh_c hS (fun _ _ => rfl) rfl (fun q _ _ => up1_n (by omega))
      have h50 := q50_3 d sl I (up1 A 96 g) N V lt tw sp sr X hSg (show i < m by omega)
      have hw := Vd_wh hV (show i < m by omega)
      have hu := Vd_wm hV (show i < m by omega)
      cases ho : op_ n i with
      | false =>
        rw [ho] at h50
        obtain ⟨g', e1, e2⟩ := ih (i + 1) g (by omega) (fun a ha => by
          rw [hg a ha]
          congr 1
          apply mkN_congr
          intro b hb
          rw [owe_succ, ho]
          simp)
        refine ⟨g', ?_, e2⟩
        rw [k108_r95_r3_23]
        simp (disch := omega) only [rt_c, b_some, List.cons_append, List.nil_append, Bool.cond_not, cond_true, cond_false, Bool.cond_decide, nI_add, nI_clamp, xin_n, dle_e, dlt_e, deq_e, xb_0, xb_1, decide_true, decide_false, Bool.not_true, Bool.not_false, Bool.and_true, Bool.true_and, Bool.and_false, Bool.false_and, Bool.true_or, Bool.false_or, Bool.or_true, Bool.or_false, if_true, if_false, up1_s, n_31, Int32.lt_irrefl, hD, h1, h50, k108_r95_r3_36, e1]
      | true =>
        rw [ho] at h50
        have hbw := mkN_lt (fun b => owe_ n i (nI (wh n i)) (nI b)) 6
        have hor : nI (mkN (fun b => owe_ n i (nI (wh n i)) (nI b)) 6) ||| (nI 1 <<< nI (wm n i)) = nI (mkN (fun b => owe_ n i (nI (wh n i)) (nI b)) 6 ||| (1 <<< wm n i)) := by
          rw [nI_shl (by omega), nI_or (by omega) (Nat.lt_of_lt_of_le shl_lt (Nat.pow_le_pow_right (by decide) (by omega)))]
        obtain ⟨g', e1, e2⟩ := ih (i + 1) (upd g (wh n i) (nI (mkN (fun b => owe_ n i (nI (wh n i)) (nI b)) 6 ||| (1 <<< wm n i)))) (by omega) (fun a ha => by
          by_cases haw : a = wh n i
          · rw [haw, upd_s]
            congr 1
            symm
            apply mkN_or (by omega)
            intro b hb
            rw [owe_succ, ho, hw.1, hu.1]
            simp only [Bool.true_and, decide_true, deq_n (show wm n i < 2 ^ 31 by omega) (show b < 2 ^ 31 by omega)]
          · rw [upd_n haw, hg a ha]
            congr 1
            apply mkN_congr
            intro b hb
            rw [owe_succ, hw.1, deq_n (show wh n i < 2 ^ 31 by omega) (show a < 2 ^ 31 by omega)]
            have : ¬ wh n i = a := fun e => haw e.symm
            simp [this])
        have hgw := hg (wh n i) (by omega)
        refine ⟨g', ?_, e2⟩
        rw [k108_r95_r3_23]
        simp (disch := omega) only [rt_c, b_some, List.cons_append, List.nil_append, Bool.cond_not, cond_true, cond_false, Bool.cond_decide, nI_add, nI_clamp, xin_n, dle_e, dlt_e, deq_e, xb_0, xb_1, decide_true, decide_false, Bool.not_true, Bool.not_false, Bool.and_true, Bool.true_and, Bool.and_false, Bool.false_and, Bool.true_or, Bool.false_or, Bool.or_true, Bool.or_false, if_true, if_false, up1_s, n_31, Int32.lt_irrefl, hD, h1, h50, k108_r95_r3_36, up1_n, hW, hT, hw.1, hu.1, hgw, hor, up1_up, e1]
  have key1 : ∀ (q i : Nat) (g : Nat → Int32), i + q = 6 → (∀ a, a < i → g a = nI 0) → ∃ g', rt 108 (R (d + 1) 108 (2, [some (.ref 95), some (.ref 3), some (.int (nI i))], [], sl, CH I (up1 A 96 g) N V lt tw sp sr X)) = some ([], sl, CH I (up1 A 96 g') N V lt tw sp sr X) ∧ ∀ a, a < 6 → g' a = nI (eo n m a) := by
    intro q
    induction q with
    | zero =>
      intro i g hi hg
      have h1 : 6 ≤ i := by omega
      obtain ⟨g', e1, e2⟩ := key2 m 0 g (by omega) (fun a ha => by rw [hg a (by omega)]; congr 1)
      refine ⟨g', ?_, e2⟩
      rw [k108_r95_r3_2]
      simp (disch := omega) only [rt_c, b_some, List.cons_append, List.nil_append, Bool.cond_not, cond_true, cond_false, Bool.cond_decide, nI_add, nI_clamp, xin_n, dle_e, dlt_e, deq_e, xb_0, xb_1, decide_true, decide_false, Bool.not_true, Bool.not_false, Bool.and_true, Bool.true_and, Bool.and_false, Bool.false_and, Bool.true_or, Bool.false_or, Bool.or_true, Bool.or_false, if_true, if_false, up1_s, n_31, Int32.lt_irrefl, h1, e1]
    | succ q ih =>
      intro i g hi hg
      have h1 : ¬ 6 ≤ i := by omega
      obtain ⟨g', e1, e2⟩ := ih (i + 1) (upd g i (nI 0)) (by omega) (fun a ha => by
        by_cases hai : a = i
        · rw [hai, upd_s]
        · rw [upd_n hai]; exact hg a (by omega))
      refine ⟨g', ?_, e2⟩
      rw [k108_r95_r3_2]
      simp (disch := omega) only [rt_c, b_some, List.cons_append, List.nil_append, Bool.cond_not, cond_true, cond_false, Bool.cond_decide, nI_add, nI_clamp, xin_n, dle_e, dlt_e, deq_e, xb_0, xb_1, decide_true, decide_false, Bool.not_true, Bool.not_false, Bool.and_true, Bool.true_and, Bool.and_false, Bool.false_and, Bool.true_or, Bool.false_or, Bool.or_true, Bool.or_false, if_true, if_false, up1_s, n_31, Int32.lt_irrefl, h1, up1_up, e1]
  obtain ⟨g', e1, e2⟩ := key1 6 0 (A 96) (by omega) (fun a ha => by omega)
  rw [up1_id] at e1
  refine ⟨g', ?_, e2⟩
  rw [e108, k108_r95_r3_0, e1]
theorem q110 (hS : Sh I A 3 n H m) {h s : Nat} (hO : ∀ a, a < 6 → A 96 a = nI (eo n m a)) (hs : 1 ≤ s) (hs6 : s ≤ 6) (hst : StI (Em n m) H h s (A 97)) : ∃ st, C d 110 [.ref 95, .ref 3, .int (nI (mkN (Dd (Em n m) H h (s - 1)) H)), .int (nI s)] sl (CH I A N V lt tw sp sr X) = some ([.int (nI (mkN (Dd (Em n m) H h s) H))], sl, CH I (up1 A 97 st) N V lt tw sp sr X) ∧ StI (Em n m) H h (s + 1) st := by
  obtain ⟨⟨hH, hD, hH6, hm⟩, -⟩ := sh_3 hS
  have hl := mkN_lt (Dd (Em n m) H h (s - 1)) H
  have h64 : 2 ^ H ≤ 2 ^ 6 := Nat.pow_le_pow_right (by decide) hH6
  have key : ∀ (q i : Nat) (st : Nat → Int32), i + q = H → (∀ g, g < 6 → (g < i → (∃ k, k < s + 1 ∧ g < H ∧ Ds (Em n m) H h k g ∧ st g = nI k) ∨ ((∀ k, k < s + 1 → g < H → ¬ Ds (Em n m) H h k g) ∧ st g = -1)) ∧ (i ≤ g → st g = A 97 g)) → ∃ st', rt 110 (R d 110 (6, [some (.ref 95), some (.ref 3), some (.int (nI (mkN (Dd (Em n m) H h (s - 1)) H))), some (.int (nI s)), some (.int (nI (mkN (Dd (Em n m) H h s) i))), some (.int (nI i))], [], sl, CH I (up1 A 97 st) N V lt tw sp sr X)) = some ([.int (nI (mkN (Dd (Em n m) H h s) H))], sl, CH I (up1 A 97 st') N V lt tw sp sr X) ∧ StI (Em n m) H h (s + 1) st' := by
    intro q
    induction q with
    | zero =>
      intro i st hi hg
      have h1 : H ≤ i := by omega
      have h2 : i = H := by omega
      subst h2
      refine ⟨st, ?_, ?_⟩
      · rw [k110_r95_r3_6]
        simp (disch := omega) only [rt_c, b_some, List.cons_append, List.nil_append, Bool.cond_not, cond_true, cond_false, Bool.cond_decide, nI_add, nI_clamp, xin_n, dle_e, dlt_e, deq_e, xb_0, xb_1, decide_true, decide_false, Bool.not_true, Bool.not_false, Bool.and_true, Bool.true_and, Bool.and_false, Bool.false_and, Bool.true_or, Bool.false_or, Bool.or_true, Bool.or_false, if_true, if_false, up1_s, n_31, Int32.lt_irrefl, hH, h1, t110_63]
      · intro g hg6
        by_cases hgH : g < i
        · exact (hg g hg6).1 hgH
        · right
          refine ⟨fun k _ h => absurd h hgH, ?_⟩
          rw [(hg g hg6).2 (by omega)]
          rcases hst g hg6 with ⟨k, -, h3, -⟩ | ⟨-, h3⟩
          · omega
          · exact h3
    | succ q ih =>
      intro i st hi hg
      have h1 : ¬ H ≤ i := by omega
      have hst_i := (hg i (by omega)).2 (Nat.le_refl i)
      have hO' := hO i (by omega)
      have he := eo_lt n m i
      have hmk := mkN_lt (Dd (Em n m) H h s) i
      have hmi : 2 ^ i ≤ 2 ^ 5 := Nat.pow_le_pow_right (by decide) (by omega)
      have hand : nI (eo n m i) &&& nI (mkN (Dd (Em n m) H h (s - 1)) H) = nI (eo n m i &&& mkN (Dd (Em n m) H h (s - 1)) H) := nI_and (by omega) (by omega)
      have handl : eo n m i &&& mkN (Dd (Em n m) H h (s - 1)) H < 2 ^ 31 := Nat.lt_of_le_of_lt Nat.and_le_left (by omega)
      -- nothing new of house i
      have hskip : Dd (Em n m) H h s i = false → ((∃ k, k < s + 1 ∧ i < H ∧ Ds (Em n m) H h k i ∧ st i = nI k) ∨ ((∀ k, k < s + 1 → i < H → ¬ Ds (Em n m) H h k i) ∧ st i = -1)) → ∃ st', rt 110 (R d 110 (6, [some (.ref 95), some (.ref 3), some (.int (nI (mkN (Dd (Em n m) H h (s - 1)) H))), some (.int (nI s)), some (.int (nI (mkN (Dd (Em n m) H h s) i))), some (.int (nI (i + 1)))], [], sl, CH I (up1 A 97 st) N V lt tw sp sr X)) = some ([.int (nI (mkN (Dd (Em n m) H h s) H))], sl, CH I (up1 A 97 st') N V lt tw sp sr X) ∧ StI (Em n m) H h (s + 1) st' := by
        intro hdf hok
        have hm1 : mkN (Dd (Em n m) H h s) (i + 1) = mkN (Dd (Em n m) H h s) i := by rw [mkN_succ, hdf]; rfl
        have := ih (i + 1) st (by omega) (fun g hg6 => ⟨fun hgi => by
          by_cases hgi' : g = i
          · rw [hgi']; exact hok
          · exact (hg g hg6).1 (by omega), fun hgi => (hg g hg6).2 (by omega)⟩)
        rw [hm1] at this
        exact this
      rcases hst i (by omega) with ⟨k, k1, k2, k3, k4⟩ | ⟨k1, k2⟩
      · -- it is nearer
        have hne : ¬ nI k = -1 := neg1_nn (by omega)
        have hdf : Dd (Em n m) H h s i = false := by
          cases hd : Dd (Em n m) H h s i with
          | false => rfl
          | true =>
            have := Ds_uniq (Dd_iff.mp hd) k3
            omega
        obtain ⟨st', e1, e2⟩ := hskip hdf (Or.inl ⟨k, by omega, k2, k3, by rw [hst_i, k4]⟩)
        refine ⟨st', ?_, e2⟩
        rw [k110_r95_r3_6]
        simp (disch := omega) only [rt_c, b_some, List.cons_append, List.nil_append, Bool.cond_not, cond_true, cond_false, Bool.cond_decide, nI_add, nI_clamp, xin_n, dle_e, dlt_e, deq_e, xb_0, xb_1, decide_true, decide_false, Bool.not_true, Bool.not_false, Bool.and_true, Bool.true_and, Bool.and_false, Bool.false_and, Bool.true_or, Bool.false_or, Bool.or_true, Bool.or_false, if_true, if_false, up1_s, n_31, Int32.lt_irrefl, hH, h1, hst_i, k4, hne, e1]
      · by_cases hz : eo n m i &&& mkN (Dd (Em n m) H h (s - 1)) H = 0
        · have hno := and_z.mp hz
          have hdf : Dd (Em n m) H h s i = false := by
            cases hd : Dd (Em n m) H h s i with
            | false => rfl
            | true =>
              have hd := Dd_iff.mp hd
              rw [show s = (s - 1) + 1 by omega] at hd
              obtain ⟨b, hb, hbe, hbd⟩ := Ds_next hd
              have := hno b (by omega) hb
              rw [hbe, Dd_iff.mpr hbd] at this
              cases this
          obtain ⟨st', e1, e2⟩ := hskip hdf (Or.inr ⟨fun k hk hiH hd => by
            by_cases hks : k = s
            · rw [hks] at hd
              rw [Dd_iff.mpr hd] at hdf
              cases hdf
            · exact k1 k (by omega) hiH hd, by rw [hst_i, k2]⟩)
          refine ⟨st', ?_, e2⟩
          rw [k110_r95_r3_6]
          simp (disch := omega) only [rt_c, b_some, List.cons_append, List.nil_append, Bool.cond_not, cond_true, cond_false, Bool.cond_decide, nI_add, nI_clamp, xin_n, dle_e, dlt_e, deq_e, xb_0, xb_1, decide_true, decide_false, Bool.not_true, Bool.not_false, Bool.and_true, Bool.true_and, Bool.and_false, Bool.false_and, Bool.true_or, Bool.false_or, Bool.or_true, Bool.or_false, if_true, if_false, up1_s, n_31, Int32.lt_irrefl, hH, h1, hst_i, k2, up1_n, hO', hand, hz, e1]
        · have hd : Ds (Em n m) H h s i := by
            have hx : ∃ b, b < 6 ∧ b < H ∧ (Em n m i b && Dd (Em n m) H h (s - 1) b) = true := by
              apply Classical.byContradiction
              intro hno
              apply hz
              apply and_z.mpr
              intro b b1 b2
              cases hb : (Em n m i b && Dd (Em n m) H h (s - 1) b) with
              | false => rfl
              | true => exact absurd ⟨b, b1, b2, hb⟩ hno
            obtain ⟨b, b1, b2, b3⟩ := hx
            rw [Bool.and_eq_true] at b3
            have hbd := (Dd_iff.mp b3.2).1
            have hw : Wk (Em n m) H h (s - 1 + 1) i := ⟨b, b2, b3.1, hbd⟩
            rw [show s - 1 + 1 = s by omega] at hw
            obtain ⟨j, j1, j2⟩ := Ds_ex s hw
            by_cases hjs : j = s
            · rw [← hjs]; exact j2
            · exact absurd j2 (k1 j (by omega) (by omega))
          have hdt := Dd_iff.mpr hd
          have hm1 : mkN (Dd (Em n m) H h s) (i + 1) = mkN (Dd (Em n m) H h s) i ||| (1 <<< i) := by rw [mkN_succ, hdt]; rfl
          have hor : nI (mkN (Dd (Em n m) H h s) i) ||| (nI 1 <<< nI i) = nI (mkN (Dd (Em n m) H h s) i ||| (1 <<< i)) := by
            rw [nI_shl (by omega), nI_or (by omega) (Nat.lt_of_lt_of_le shl_lt (Nat.pow_le_pow_right (by decide) (by omega)))]
          obtain ⟨st', e1, e2⟩ := ih (i + 1) (upd st i (nI s)) (by omega) (fun g hg6 => ⟨fun hgi => by
            by_cases hgi' : g = i
            · subst hgi'
              left
              exact ⟨s, by omega, by omega, hd, upd_s⟩
            · rw [upd_n hgi']
              exact (hg g hg6).1 (by omega), fun hgi => by rw [upd_n (by omega)]; exact (hg g hg6).2 (by omega)⟩)
          rw [hm1] at e1
          refine ⟨st', ?_, e2⟩
          rw [k110_r95_r3_6]
          simp (disch := omega) only [rt_c, b_some, List.cons_append, List.nil_append, Bool.cond_not, cond_true, cond_false, Bool.cond_decide, nI_add, nI_clamp, xin_n, dle_e, dlt_e, deq_e, xb_0, xb_1, decide_true, decide_false, Bool.not_true, Bool.not_false, Bool.and_true, Bool.true_and, Bool.and_false, Bool.false_and, Bool.true_or, Bool.false_or, Bool.or_true, Bool.or_false, if_true, if_false, up1_s, n_31, Int32.lt_irrefl, hH, h1, hst_i, k2, up1_n, hO', hand, hz, hor, up1_up, e1]
  obtain ⟨st', e1, e2⟩ := key H 0 (A 97) (by omega) (fun g hg => ⟨fun h => by omega, fun _ => rfl⟩)
  rw [up1_id] at e1
  refine ⟨st', ?_, e2⟩
  rw [e110, k110_r95_r3_0]
  exact e1
/-- how long a ring is, and how near each house is then -/
theorem q109 (hS : Sh I A 3 n H m) {h : Nat} (hh : h < H) (hO : ∀ a, a < 6 → A 96 a = nI (eo n m a)) : ∃ st, (rg_ n m H h = true ∧ C (d + 1) 109 [.ref 95, .ref 3, .int (nI h)] sl (CH I A N V lt tw sp sr X) = some ([.int (nI (farN (Em n m) H h h))], sl, CH I (up1 A 97 st) N V lt tw sp sr X) ∧ StI (Em n m) H h (farN (Em n m) H h h) st) ∨ (rg_ n m H h = false ∧ C (d + 1) 109 [.ref 95, .ref 3, .int (nI h)] sl (CH I A N V lt tw sp sr X) = some ([.int (nI 0)], sl, CH I (up1 A 97 st) N V lt tw sp sr X)) := by
  obtain ⟨⟨hH, hD, hH6, hm⟩, -⟩ := sh_3 hS
  have hfa := Fa_RG (farN_ok (E := Em n m) hH6 hh hh) hH6
  have hno0 : (∀ k, ¬ RG (Em n m) H h k) → rg_ n m H h = false := by
    intro hno
    apply decide_eq_false
    intro hlt
    exact hno _ (hfa.1 hlt)
  have hyes : ∀ k, RG (Em n m) H h k → rg_ n m H h = true ∧ farN (Em n m) H h h = k := by
    intro k hr
    by_cases hlt : farN (Em n m) H h h < 100000
    · exact ⟨decide_eq_true hlt, RG_uniq (hfa.1 hlt) hr⟩
    · exact absurd hr (hfa.2 hlt k)
  have h64 : 2 ^ H ≤ 2 ^ 6 := Nat.pow_le_pow_right (by decide) hH6
  have key2 : ∀ (q s : Nat) (st : Nat → Int32), s + q = H + 1 → 1 ≤ s → (∀ j, 1 ≤ j → j < s → ¬ Wk (Em n m) H h j h) → StI (Em n m) H h s st → ∃ st', (rg_ n m H h = true ∧ rt 109 (R (d + 1) 109 (35, [some (.ref 95), some (.ref 3), some (.int (nI h)), some (.int (nI (mkN (Dd (Em n m) H h (s - 1)) H))), some (.int (nI s))], [], sl, CH I (up1 A 97 st) N V lt tw sp sr X)) = some ([.int (nI (farN (Em n m) H h h))], sl, CH I (up1 A 97 st') N V lt tw sp sr X) ∧ StI (Em n m) H h (farN (Em n m) H h h) st') ∨ (rg_ n m H h = false ∧ rt 109 (R (d + 1) 109 (35, [some (.ref 95), some (.ref 3), some (.int (nI h)), some (.int (nI (mkN (Dd (Em n m) H h (s - 1)) H))), some (.int (nI s))], [], sl, CH I (up1 A 97 st) N V lt tw sp sr X)) = some ([.int (nI 0)], sl, CH I (up1 A 97 st') N V lt tw sp sr X)) := by
    intro q
    induction q with
    | zero =>
      intro s st hs hs1 hnr hst
      have h1 : H < s := by omega
      refine ⟨st, Or.inr ⟨hno0 (fun k hr => ?_), ?_⟩⟩
      · have := RG_le hr
        exact hnr k hr.1 (by omega) hr.2.1
      · rw [k109_r95_r3_35]
        simp (disch := omega) only [rt_c, b_some, List.cons_append, List.nil_append, Bool.cond_not, cond_true, cond_false, Bool.cond_decide, nI_add, nI_clamp, xin_n, dle_e, dlt_e, deq_e, xb_0, xb_1, decide_true, decide_false, Bool.not_true, Bool.not_false, Bool.and_true, Bool.true_and, Bool.and_false, Bool.false_and, Bool.true_or, Bool.false_or, Bool.or_true, Bool.or_false, if_true, if_false, up1_s, n_31, Int32.lt_irrefl, hH, h1, t109_61, t109_78]
    | succ q ih =>
      intro s st hs hs1 hnr hst
      have h1 : ¬ H < s := by omega
      have hl := mkN_lt (Dd (Em n m) H h (s - 1)) H
      by_cases hz : mkN (Dd (Em n m) H h (s - 1)) H = 0
      · refine ⟨st, Or.inr ⟨hno0 (fun k hr => ?_), ?_⟩⟩
        · have hks : s ≤ k := by
            apply Nat.le_of_not_lt
            intro hlt
            exact hnr k hr.1 hlt hr.2.1
          obtain ⟨k, rfl⟩ : ∃ j, k = j + 1 := ⟨k - 1, by omega⟩
          obtain ⟨b, hb, -, hbd⟩ := RG_next hr
          obtain ⟨v, hv, hvd⟩ := Ds_chain k b hb hbd (s - 1) (by omega)
          have := mkN_z.mp hz v hv
          rw [Dd_iff.mpr hvd] at this
          cases this
        · rw [k109_r95_r3_35]
          simp (disch := omega) only [rt_c, b_some, List.cons_append, List.nil_append, Bool.cond_not, cond_true, cond_false, Bool.cond_decide, nI_add, nI_clamp, xin_n, dle_e, dlt_e, deq_e, xb_0, xb_1, decide_true, decide_false, Bool.not_true, Bool.not_false, Bool.and_true, Bool.true_and, Bool.and_false, Bool.false_and, Bool.true_or, Bool.false_or, Bool.or_true, Bool.or_false, if_true, if_false, up1_s, n_31, Int32.lt_irrefl, hH, h1, hz, t109_61, t109_78]
      · have he := eo_lt n m h
        have hO' := hO h (by omega)
        have hand : nI (eo n m h) &&& nI (mkN (Dd (Em n m) H h (s - 1)) H) = nI (eo n m h &&& mkN (Dd (Em n m) H h (s - 1)) H) := nI_and (by omega) (by omega)
        have handl : eo n m h &&& mkN (Dd (Em n m) H h (s - 1)) H < 2 ^ 31 := Nat.lt_of_le_of_lt Nat.and_le_left (by omega)
        by_cases hz2 : eo n m h &&& mkN (Dd (Em n m) H h (s - 1)) H = 0
        · have hno := and_z.mp hz2
          have hnw : ¬ Wk (Em n m) H h s h := by
            intro hw
            rw [show s = (s - 1) + 1 by omega] at hw
            obtain ⟨b, hb, hbe, hbw⟩ := hw
            obtain ⟨j, j1, j2⟩ := Ds_ex (s - 1) hbw
            by_cases hjs : j = s - 1
            · have := hno b (by omega) hb
              rw [hbe, ← hjs, Dd_iff.mpr j2] at this
              cases this
            · exact hnr (j + 1) (by omega) (by omega) ⟨b, hb, hbe, j2.1⟩
          have hSg : Sh I (up1 A 97 st) 3 n H m := Sh_c hS (fun _ _ => rfl) rfl (fun q _ _ => up1_n (by omega))
          obtain ⟨st1, e1, f1⟩ := q110 d sl I (up1 A 97 st) N V lt tw sp sr X (h := h) hSg (fun a ha => by rw [up1_n (by decide)]; exact hO a ha) hs1 (by omega) (by rw [up1_s]; exact hst)
          rw [up1_up] at e1
          obtain ⟨st2, hx⟩ := ih (s + 1) st1 (by omega) (by omega) (fun j j1 j2 => by
            by_cases hjs : j = s
            · rw [hjs]; exact hnw
            · exact hnr j j1 (by omega)) f1
          rw [show s + 1 - 1 = s by omega] at hx
          refine ⟨st2, ?_⟩
          rw [k109_r95_r3_35]
          simp (disch := omega) only [rt_c, b_some, List.cons_append, List.nil_append, Bool.cond_not, cond_true, cond_false, Bool.cond_decide, nI_add, nI_clamp, xin_n, dle_e, dlt_e, deq_e, xb_0, xb_1, decide_true, decide_false, Bool.not_true, Bool.not_false, Bool.and_true, Bool.true_and, Bool.and_false, Bool.false_and, Bool.true_or, Bool.false_or, Bool.or_true, Bool.or_false, if_true, if_false, up1_s, n_31, Int32.lt_irrefl, hH, h1, hz, up1_n, hO', hand, hz2, e1, k109_r95_r3_70]
          exact hx
        · have hx : ∃ b, b < 6 ∧ b < H ∧ (Em n m h b && Dd (Em n m) H h (s - 1) b) = true := by
            apply Classical.byContradiction
            intro hno
            apply hz2
            apply and_z.mpr
            intro b b1 b2
            cases hb : (Em n m h b && Dd (Em n m) H h (s - 1) b) with
            | false => rfl
            | true => exact absurd ⟨b, b1, b2, hb⟩ hno
          obtain ⟨b, b1, b2, b3⟩ := hx
          rw [Bool.and_eq_true] at b3
          have hw : Wk (Em n m) H h (s - 1 + 1) h := ⟨b, b2, b3.1, (Dd_iff.mp b3.2).1⟩
          rw [show s - 1 + 1 = s by omega] at hw
          obtain ⟨y1, y2⟩ := hyes s ⟨hs1, hw, hnr⟩
          refine ⟨st, Or.inl ⟨y1, ?_, by rw [y2]; exact hst⟩⟩
          rw [k109_r95_r3_35, y2]
          simp (disch := omega) only [rt_c, b_some, List.cons_append, List.nil_append, Bool.cond_not, cond_true, cond_false, Bool.cond_decide, nI_add, nI_clamp, xin_n, dle_e, dlt_e, deq_e, xb_0, xb_1, decide_true, decide_false, Bool.not_true, Bool.not_false, Bool.and_true, Bool.true_and, Bool.and_false, Bool.false_and, Bool.true_or, Bool.false_or, Bool.or_true, Bool.or_false, if_true, if_false, up1_s, n_31, Int32.lt_irrefl, hH, h1, hz, up1_n, hO', hand, hz2, t109_61, t109_78]
  have key1 : ∀ (q i : Nat) (st : Nat → Int32), i + q = 6 → (∀ a, a < i → st a = -1) → ∃ st', (∀ a, a < 6 → st' a = -1) ∧ rt 109 (R (d + 1) 109 (2, [some (.ref 95), some (.ref 3), some (.int (nI h)), some (.int (nI i)), none], [], sl, CH I (up1 A 97 st) N V lt tw sp sr X)) = rt 109 (R (d + 1) 109 (35, [some (.ref 95), some (.ref 3), some (.int (nI h)), some (.int (nI 1 <<< nI h)), some (.int (nI 1))], [], sl, CH I (up1 A 97 (upd st' h (nI 0))) N V lt tw sp sr X)) := by
    intro q
    induction q with
    | zero =>
      intro i st hi hs
      have h1 : 6 ≤ i := by omega
      refine ⟨st, fun a ha => hs a (by omega), ?_⟩
      rw [k109_r95_r3_2]
      simp (disch := omega) only [rt_c, b_some, List.cons_append, List.nil_append, Bool.cond_not, cond_true, cond_false, Bool.cond_decide, nI_add, nI_clamp, xin_n, dle_e, dlt_e, deq_e, xb_0, xb_1, decide_true, decide_false, Bool.not_true, Bool.not_false, Bool.and_true, Bool.true_and, Bool.and_false, Bool.false_and, Bool.true_or, Bool.false_or, Bool.or_true, Bool.or_false, if_true, if_false, up1_s, n_31, Int32.lt_irrefl, h1, up1_up]
    | succ q ih =>
      intro i st hi hs
      have h1 : ¬ 6 ≤ i := by omega
      obtain ⟨st', e1, e2⟩ := ih (i + 1) (upd st i (-1)) (by omega) (fun a ha => by
        by_cases hai : a = i
        · rw [hai, upd_s]
        · rw [upd_n hai]; exact hs a (by omega))
      refine ⟨st', e1, ?_⟩
      rw [k109_r95_r3_2]
      simp (disch := omega) only [rt_c, b_some, List.cons_append, List.nil_append, Bool.cond_not, cond_true, cond_false, Bool.cond_decide, nI_add, nI_clamp, xin_n, dle_e, dlt_e, deq_e, xb_0, xb_1, decide_true, decide_false, Bool.not_true, Bool.not_false, Bool.and_true, Bool.true_and, Bool.and_false, Bool.false_and, Bool.true_or, Bool.false_or, Bool.or_true, Bool.or_false, if_true, if_false, up1_s, n_31, Int32.lt_irrefl, h1, up1_up, e2]
  obtain ⟨st1, e1, e2⟩ := key1 6 0 (A 97) (by omega) (fun a ha => by omega)
  rw [up1_id] at e2
  have hD0 : ∀ g, g < H → Dd (Em n m) H h 0 g = decide (h = g) := by
    intro g hg
    cases hd : Dd (Em n m) H h 0 g with
    | true =>
      have hd' : g = h := (Dd_iff.mp hd).1
      rw [hd']
      simp
    | false =>
      symm
      apply decide_eq_false
      intro e
      have : Ds (Em n m) H h 0 g := ⟨e.symm, fun j hj => by omega⟩
      rw [Dd_iff.mpr this] at hd
      cases hd
  have hm0 : mkN (Dd (Em n m) H h (1 - 1)) H = 1 <<< h := mkN_one hh hD0
  obtain ⟨st2, hx⟩ := key2 H 1 (upd st1 h (nI 0)) (by omega) (by omega) (fun j j1 j2 => by omega) (fun g hg6 => by
    by_cases hgh : g = h
    · left
      refine ⟨0, by omega, by omega, ⟨hgh, fun j hj => by omega⟩, ?_⟩
      rw [hgh, upd_s]
    · right
      refine ⟨fun k hk _ hd => ?_, by rw [upd_n hgh]; exact e1 g hg6⟩
      have : k = 0 := by omega
      subst this
      exact hgh hd.1)
  rw [hm0, ← nI_shl (show h < 31 by omega)] at hx
  refine ⟨st2, ?_⟩
  rw [e109, k109_r95_r3_0, e2]
  exact hx
theorem q106 (hS : Sh I A 3 n H m) (hV : Vd n H m) : ∃ g st, C (d + 2) 106 [.ref 95, .ref 3] sl (CH I A N V lt tw sp sr X) = some ([.int (nI (mkN (rg_ n m H) H))], sl, CH I (up1 (up1 A 96 g) 97 st) N V lt tw sp sr X) := by
  obtain ⟨⟨hH, hD, hH6, hm⟩, -⟩ := sh_3 hS
  obtain ⟨g, e1, hg⟩ := q108 d sl I A N V lt tw sp sr X hS hV
  have key : ∀ (q i : Nat) (st : Nat → Int32), i + q = H → ∃ st', rt 106 (R (d + 2) 106 (9, [some (.ref 95), some (.ref 3), some (.int (nI (mkN (rg_ n m H) i))), some (.int (nI i))], [], sl, CH I (up1 (up1 A 96 g) 97 st) N V lt tw sp sr X)) = some ([.int (nI (mkN (rg_ n m H) H))], sl, CH I (up1 (up1 A 96 g) 97 st') N V lt tw sp sr X) := by
    intro q
    induction q with
    | zero =>
      intro i st hi
      have h1 : H ≤ i := by omega
      have h2 : i = H := by omega
      subst h2
      refine ⟨st, ?_⟩
      rw [k106_r95_r3_9]
      simp (disch := omega) only [rt_c, b_some, List.cons_append, List.nil_append, Bool.cond_not, cond_true, cond_false, Bool.cond_decide, nI_add, nI_clamp, xin_n, dle_e, dlt_e, deq_e, xb_0, xb_1, decide_true, decide_false, Bool.not_true, Bool.not_false, Bool.and_true, Bool.true_and, Bool.and_false, Bool.false_and, Bool.true_or, Bool.false_or, Bool.or_true, Bool.or_false, if_true, if_false, up1_s, n_31, Int32.lt_irrefl, hH, h1, t106_39]
    | succ q ih =>
      intro i st hi
      have h1 : ¬ H ≤ i := by omega
      have hSg : Sh I (up1 (up1 A 96 g) 97 st) 3 n H m := Sh_c hS (fun _ _ => rfl) rfl (fun q _ _ => by rw [up1_n (by omega), up1_n (by omega)])
      have hmk := mkN_lt (rg_ n m H) i
      have hmi : 2 ^ i ≤ 2 ^ 5 := Nat.pow_le_pow_right (by decide) (by omega)
      obtain ⟨st1, hx⟩ := q109 d sl I (up1 (up1 A 96 g) 97 st) N V lt tw sp sr X hSg (show i < H by omega) (fun a ha => by rw [up1_n (by decide), up1_s]; exact hg a ha)
      rw [up1_up] at hx
      obtain ⟨st2, e2⟩ := ih (i + 1) st1 (by omega)
      refine ⟨st2, ?_⟩
      rcases hx with ⟨hr, hx, -⟩ | ⟨hr, hx⟩
      · have hlt : farN (Em n m) H i i < 100000 := of_decide_eq_true hr
        have hRG := (Fa_RG (farN_ok (E := Em n m) hH6 (show i < H by omega) (show i < H by omega)) hH6).1 hlt
        have h2 : ¬ farN (Em n m) H i i ≤ 0 := by have := hRG.1; omega
        have hm1 : mkN (rg_ n m H) (i + 1) = mkN (rg_ n m H) i ||| (1 <<< i) := by rw [mkN_succ, hr]; rfl
        have hor : nI (mkN (rg_ n m H) i) ||| (nI 1 <<< nI i) = nI (mkN (rg_ n m H) i ||| (1 <<< i)) := by
          rw [nI_shl (by omega), nI_or (by omega) (Nat.lt_of_lt_of_le shl_lt (Nat.pow_le_pow_right (by decide) (by omega)))]
        rw [hm1] at e2
        rw [k106_r95_r3_9]
        simp (disch := omega) only [rt_c, b_some, List.cons_append, List.nil_append, Bool.cond_not, cond_true, cond_false, Bool.cond_decide, nI_add, nI_clamp, xin_n, dle_e, dlt_e, deq_e, xb_0, xb_1, decide_true, decide_false, Bool.not_true, Bool.not_false, Bool.and_true, Bool.true_and, Bool.and_false, Bool.false_and, Bool.true_or, Bool.false_or, Bool.or_true, Bool.or_false, if_true, if_false, up1_s, n_31, Int32.lt_irrefl, hH, h1, hx, k106_r95_r3_23, h2, hor, e2]
      · have hm1 : mkN (rg_ n m H) (i + 1) = mkN (rg_ n m H) i := by rw [mkN_succ, hr]; rfl
        rw [hm1] at e2
        rw [k106_r95_r3_9]
        simp (disch := omega) only [rt_c, b_some, List.cons_append, List.nil_append, Bool.cond_not, cond_true, cond_false, Bool.cond_decide, nI_add, nI_clamp, xin_n, dle_e, dlt_e, deq_e, xb_0, xb_1, decide_true, decide_false, Bool.not_true, Bool.not_false, Bool.and_true, Bool.true_and, Bool.and_false, Bool.false_and, Bool.true_or, Bool.false_or, Bool.or_true, Bool.or_false, if_true, if_false, up1_s, n_31, Int32.lt_irrefl, hH, h1, hx, k106_r95_r3_23, Nat.le_refl, e2]
  obtain ⟨st, e2⟩ := key H 0 (up1 A 96 g 97) (by omega)
  rw [up1_id] at e2
  refine ⟨g, st, ?_⟩
  rw [e106, k106_r95_r3_0, e1]
  simp (disch := omega) only [rt_c, b_some, List.cons_append, List.nil_append, Bool.cond_not, cond_true, cond_false, Bool.cond_decide, nI_add, nI_clamp, xin_n, dle_e, dlt_e, deq_e, xb_0, xb_1, decide_true, decide_false, Bool.not_true, Bool.not_false, Bool.and_true, Bool.true_and, Bool.and_false, Bool.false_and, Bool.true_or, Bool.false_or, Bool.or_true, Bool.or_false, if_true, if_false, up1_s, n_31, Int32.lt_irrefl, k106_r95_r3_5]
  exact e2
theorem q111 (hS : Sh I A 3 n H m) {a b j : Nat} (ha : a < 6) (hb : b < H) (hj : j < 100) (hO : A 96 a = nI (eo n m a)) (hE : Em n m a b = true) (hb2 : A 97 b = nI j) (hno : ∀ g, g < b → (Em n m a g && decide (A 97 g = nI j)) = false) : C d 111 [.ref 95, .ref 3, .int (nI a), .int (nI j)] sl (CH I A N V lt tw sp sr X) = some ([.int (nI b)], sl, CH I A N V lt tw sp sr X) := by
  obtain ⟨⟨hH, hD, hH6, hm⟩, -⟩ := sh_3 hS
  have he := eo_lt n m a
  have hbit : ∀ g, g < 6 → (nI (eo n m a) >>> nI g) &&& nI 1 = cond (Em n m a g) (nI 1) (nI 0) := by
    intro g hg
    rw [bit_n (by omega) (by omega)]
    unfold eo
    rw [mkN_bit]
    simp [hg]
  have key : ∀ (q i : Nat), i + q = b → rt 111 (R d 111 (3, [some (.ref 95), some (.ref 3), some (.int (nI a)), some (.int (nI j)), some (.int (nI i))], [], sl, CH I A N V lt tw sp sr X)) = some ([.int (nI b)], sl, CH I A N V lt tw sp sr X) := by
    intro q
    induction q with
    | zero =>
      intro i hi
      have hib : i = b := by omega
      subst hib
      have h1 : ¬ H ≤ i := by omega
      have h2 := hbit i (by omega)
      rw [hE] at h2
      rw [k111_r95_r3_3]
      simp (disch := omega) only [rt_c, b_some, List.cons_append, List.nil_append, Bool.cond_not, cond_true, cond_false, Bool.cond_decide, nI_add, nI_clamp, xin_n, dle_e, dlt_e, deq_e, xb_0, xb_1, decide_true, decide_false, Bool.not_true, Bool.not_false, Bool.and_true, Bool.true_and, Bool.and_false, Bool.false_and, Bool.true_or, Bool.false_or, Bool.or_true, Bool.or_false, if_true, if_false, up1_s, n_31, Int32.lt_irrefl, hH, h1, hO, h2, hb2, t111_40, t111_48]
    | succ q ih =>
      intro i hi
      have h1 : ¬ H ≤ i := by omega
      have h2 := hbit i (by omega)
      have h3 := ih (i + 1) (by omega)
      have hn := hno i (by omega)
      rw [k111_r95_r3_3]
      cases hE2 : Em n m a i with
      | false =>
        rw [hE2] at h2
        simp (disch := omega) only [rt_c, b_some, List.cons_append, List.nil_append, Bool.cond_not, cond_true, cond_false, Bool.cond_decide, nI_add, nI_clamp, xin_n, dle_e, dlt_e, deq_e, xb_0, xb_1, decide_true, decide_false, Bool.not_true, Bool.not_false, Bool.and_true, Bool.true_and, Bool.and_false, Bool.false_and, Bool.true_or, Bool.false_or, Bool.or_true, Bool.or_false, if_true, if_false, up1_s, n_31, Int32.lt_irrefl, hH, h1, hO, h2, Nat.zero_ne_one, h3]
      | true =>
        rw [hE2] at h2
        rw [hE2, Bool.true_and, decide_eq_false_iff_not] at hn
        simp (disch := omega) only [rt_c, b_some, List.cons_append, List.nil_append, Bool.cond_not, cond_true, cond_false, Bool.cond_decide, nI_add, nI_clamp, xin_n, dle_e, dlt_e, deq_e, xb_0, xb_1, decide_true, decide_false, Bool.not_true, Bool.not_false, Bool.and_true, Bool.true_and, Bool.and_false, Bool.false_and, Bool.true_or, Bool.false_or, Bool.or_true, Bool.or_false, if_true, if_false, up1_s, n_31, Int32.lt_irrefl, hH, h1, hO, h2, hn, h3]
  rw [e111, k111_r95_r3_0]
  exact key b 0 (by omega)
theorem q107 (hS : Sh I A 3 n H m) (hV : Vd n H m) {h : Nat} (hh : h < H) : ∃ g st, (rg_ n m H h = true ∧ ∃ F, C (d + 2) 107 [.ref 95, .ref 3, .int (nI h)] sl (CH I A N V lt tw sp sr X) = some ([.int (x_b true)], sl, CH (up1 I 95 (up1 (I 95) 3 (nI (farN (Em n m) H h h)))) (up1 (up1 (up1 A 96 g) 97 st) 98 F) N V lt tw sp sr X) ∧ ∀ j, j < farN (Em n m) H h h → F j = nI (vv (Em n m) H h (farN (Em n m) H h h) j)) ∨ (rg_ n m H h = false ∧ C (d + 2) 107 [.ref 95, .ref 3, .int (nI h)] sl (CH I A N V lt tw sp sr X) = some ([.int (x_b false)], sl, CH I (up1 (up1 A 96 g) 97 st) N V lt tw sp sr X)) := by
  obtain ⟨⟨hH, hD, hH6, hm⟩, -⟩ := sh_3 hS
  obtain ⟨g, e1, hg⟩ := q108 d sl I A N V lt tw sp sr X hS hV
  have hSg : Sh I (up1 A 96 g) 3 n H m := Sh_c hS (fun _ _ => rfl) rfl (fun q _ _ => by rw [up1_n (by omega)])
  obtain ⟨st, hx⟩ := q109 d sl I (up1 A 96 g) N V lt tw sp sr X hSg hh (fun a ha => by rw [up1_s]; exact hg a ha)
  refine ⟨g, st, ?_⟩
  rcases hx with ⟨hr, hx, hst⟩ | ⟨hr, hx⟩
  · left
    refine ⟨hr, ?_⟩
    have hlt : farN (Em n m) H h h < 100000 := of_decide_eq_true hr
    have hRG := (Fa_RG (farN_ok (E := Em n m) hH6 hh hh) hH6).1 hlt
    have hle := RG_le hRG
    generalize farN (Em n m) H h h = L at hlt hRG hle hx hst
    have hL0 : ¬ L = 0 := by have := hRG.1; omega
    have hL6 : L ≤ 6 := by omega
    have key : ∀ (q i : Nat) (F : Nat → Int32), i + q = L → 1 ≤ i → (∀ j, j < i → F j = nI (vv (Em n m) H h L j)) → ∃ F', rt 107 (R (d + 2) 107 (37, [some (.ref 95), some (.ref 3), some (.int (nI h)), some (.int (nI L)), some (.int (nI (vv (Em n m) H h L (i - 1)))), some (.int (nI i))], [], sl, CH I (up1 (up1 (up1 A 96 g) 97 st) 98 F) N V lt tw sp sr X)) = some ([.int (x_b true)], sl, CH (up1 I 95 (up1 (I 95) 3 (nI L))) (up1 (up1 (up1 A 96 g) 97 st) 98 F') N V lt tw sp sr X) ∧ ∀ j, j < L → F' j = nI (vv (Em n m) H h L j) := by
      intro q
      induction q with
      | zero =>
        intro i F hi h1 hF
        have h2 : L ≤ i := by omega
        refine ⟨F, ?_, fun j hj => hF j (by omega)⟩
        rw [k107_r95_r3_37]
        simp (disch := omega) only [rt_c, b_some, List.cons_append, List.nil_append, Bool.cond_not, cond_true, cond_false, Bool.cond_decide, nI_add, nI_clamp, xin_n, dle_e, dlt_e, deq_e, xb_0, xb_1, decide_true, decide_false, Bool.not_true, Bool.not_false, Bool.and_true, Bool.true_and, Bool.and_false, Bool.false_and, Bool.true_or, Bool.false_or, Bool.or_true, Bool.or_false, if_true, if_false, up1_s, n_31, Int32.lt_irrefl, h2, t107_23, t107_23_0, t107_23_1, t107_77, t107_77_0, t107_77_1]
      | succ q ih =>
        intro i F hi h1 hF
        have h2 : ¬ L ≤ i := by omega
        obtain ⟨v1, v2, v3, v4, v5⟩ := vv_ok hh hRG (i - 1) (by omega)
        rw [show i - 1 + 1 = i by omega] at v2 v3 v4 v5
        have hA97 : up1 (up1 (up1 A 96 g) 97 st) 98 F 97 = st := by rw [up1_n (by decide), up1_s]
        have hA96 : up1 (up1 (up1 A 96 g) 97 st) 98 F 96 = g := by rw [up1_n (by decide), up1_n (by decide), up1_s]
        have hSF : Sh I (up1 (up1 (up1 A 96 g) 97 st) 98 F) 3 n H m := Sh_c hS (fun _ _ => rfl) rfl (fun q _ _ => by rw [up1_n (by omega), up1_n (by omega), up1_n (by omega)])
        have hdec : ∀ j, j < H → decide (st j = nI (L - i)) = Dd (Em n m) H h (L - i) j := by
          intro j hj
          rcases hst j (by omega) with ⟨k, k1, k2, k3, k4⟩ | ⟨k1, k2⟩
          · rw [k4, deq_n (by omega) (by omega)]
            cases hd : Dd (Em n m) H h (L - i) j with
            | true => exact decide_eq_true (Ds_uniq k3 (Dd_iff.mp hd))
            | false =>
              apply decide_eq_false
              intro e
              rw [e] at k3
              rw [Dd_iff.mpr k3] at hd
              cases hd
          · have hne : ¬ (-1 : Int32) = nI (L - i) := fun e => neg1_nn (k := L - i) (by omega) e.symm
            rw [k2, decide_eq_false hne]
            cases hd : Dd (Em n m) H h (L - i) j with
            | false => rfl
            | true => exact absurd (Dd_iff.mp hd) (k1 (L - i) (by omega) hj)
        have h111 := q111 (d + 1) sl I (up1 (up1 (up1 A 96 g) 97 st) 98 F) N V lt tw sp sr X (a := vv (Em n m) H h L (i - 1)) (b := vv (Em n m) H h L i) (j := L - i) hSF (by omega) v2 (by omega) (by rw [hA96]; exact hg _ (by omega)) v3 (by
          rw [hA97]
          have := hdec _ v2
          rw [v4] at this
          exact of_decide_eq_true this) (fun j hj => by
          rw [hA97, hdec j (by omega)]
          exact v5 j hj)
        have hsub : nI L - nI i = nI (L - i) := nI_sub (by omega)
        obtain ⟨F', e3, e4⟩ := ih (i + 1) (upd F i (nI (vv (Em n m) H h L i))) (by omega) (by omega) (fun j hj => by
          by_cases hji : j = i
          · rw [hji, upd_s]
          · rw [upd_n hji]; exact hF j (by omega))
        rw [show i + 1 - 1 = i by omega] at e3
        refine ⟨F', ?_, e4⟩
        rw [k107_r95_r3_37]
        simp (disch := omega) only [rt_c, b_some, List.cons_append, List.nil_append, Bool.cond_not, cond_true, cond_false, Bool.cond_decide, nI_add, nI_clamp, xin_n, dle_e, dlt_e, deq_e, xb_0, xb_1, decide_true, decide_false, Bool.not_true, Bool.not_false, Bool.and_true, Bool.true_and, Bool.and_false, Bool.false_and, Bool.true_or, Bool.false_or, Bool.or_true, Bool.or_false, if_true, if_false, up1_s, n_31, Int32.lt_irrefl, h2, hsub, h111, k107_r95_r3_54, up1_up, e3]
    have hA98 : up1 (up1 A 96 g) 97 st 98 = A 98 := by rw [up1_n (by decide), up1_n (by decide)]
    obtain ⟨F, e3, e4⟩ := key (L - 1) 1 (upd (A 98) 0 (nI h)) (by omega) (by omega) (fun j hj => by
      have : j = 0 := by omega
      rw [this, upd_s]
      rfl)
    refine ⟨F, ?_, e4⟩
    have hv0 : vv (Em n m) H h L (1 - 1) = h := rfl
    rw [hv0] at e3
    rw [e107, k107_r95_r3_0, e1]
    simp (disch := omega) only [rt_c, b_some, List.cons_append, List.nil_append, Bool.cond_not, cond_true, cond_false, Bool.cond_decide, nI_add, nI_clamp, xin_n, dle_e, dlt_e, deq_e, xb_0, xb_1, decide_true, decide_false, Bool.not_true, Bool.not_false, Bool.and_true, Bool.true_and, Bool.and_false, Bool.false_and, Bool.true_or, Bool.false_or, Bool.or_true, Bool.or_false, if_true, if_false, up1_s, n_31, Int32.lt_irrefl, k107_r95_r3_5, hx, k107_r95_r3_11, hL0, hL6, hA98, e3]
  · right
    refine ⟨hr, ?_⟩
    rw [e107, k107_r95_r3_0, e1]
    simp (disch := omega) only [rt_c, b_some, List.cons_append, List.nil_append, Bool.cond_not, cond_true, cond_false, Bool.cond_decide, nI_add, nI_clamp, xin_n, dle_e, dlt_e, deq_e, xb_0, xb_1, decide_true, decide_false, Bool.not_true, Bool.not_false, Bool.and_true, Bool.true_and, Bool.and_false, Bool.false_and, Bool.true_or, Bool.false_or, Bool.or_true, Bool.or_false, if_true, if_false, up1_s, n_31, Int32.lt_irrefl, k107_r95_r3_5, hx, k107_r95_r3_11, t107_23, t107_23_0, t107_23_1, t107_77, t107_77_0, t107_77_1]
end CLR
