/-! ONE STEP OF BOTH READERS -/
def Bt (t : Nat) (b : Nat → Nat) (A B : Nat → Nat → Int32) : Prop := t ≤ 940 ∧ ∀ k, k < t → b k < 256 ∧ A 2 k = by8 (b k) ∧ B 1 k = nI (b k)
section ADV
variable (d sl : Nat) (I : Nat → Nat → Int32) (A : Nat → Nat → Int32) (N : Nat → Nat → Int64) (V : Nat → Nat → Option Nat) (lt : Int64) (tw : Option Nat) (sp sr : Nat) (X : List AC) {t L : Nat} (b : Nat → Nat)
theorem q90_skip (ht : t ≤ 940) (hb : ∀ k, k < t → b k < 256 ∧ A 2 k = by8 (b k)) {q r : Nat} (hq : q ≤ r) (hr : r ≤ t) (h2 : r < t → b r ≠ 32 ∧ b r ≠ 10) (hbl : ∀ k, q ≤ k → k < r → b k = 32 ∨ b k = 10) (f : Nat → Int32) (f1 : f 1 = nI t) (f3 : f 3 = nI q) : ∃ f', C (d + 1) 90 [.ref 1] sl (CH (up1 I 1 f) A N V lt tw sp sr X) = rt 90 (R (d + 1) 90 (9, [some (.ref 1)], [], sl, CH (up1 I 1 f') A N V lt none sp sr X)) ∧ f' 3 = nI r ∧ ∀ k, k ≠ 3 → f' k = f k := by
  obtain ⟨f', x1, x2, x3⟩ := q91 d sl (up1 I 1 (fun _ => nI t)) A N V lt none sp sr X b ht hb (by rw [up1_s]) hr h2 (r - q) q f (by omega) f1 f3 hbl
  simp only [up1_up] at x1
  refine ⟨f', ?_, x2, x3⟩
  rw [e90, k90_r1_0, e91, x1]
  simp (disch := omega) only [rt_c, b_some, List.cons_append, List.nil_append, Bool.cond_not, cond_true, cond_false, Bool.cond_decide, nI_add, nI_clamp, xin_n, dle_e, dlt_e, deq_e, xb_0, xb_1, decide_true, decide_false, Bool.not_true, Bool.not_false, Bool.and_true, Bool.true_and, Bool.and_false, Bool.false_and, Bool.true_or, Bool.false_or, Bool.or_true, Bool.or_false, if_true, if_false, up1_s, n_31, Int32.lt_irrefl]
theorem q90_lim {r : Nat} (ht : t ≤ 940) (hL : L ≤ 940) (hr : r ≤ t) (f : Nat → Int32) (f1 : f 1 = nI t) (f2 : f 2 = nI L) (f3 : f 3 = nI r) (h1 : L < t) (h2 : L ≤ r) : rt 90 (R (d + 1) 90 (9, [some (.ref 1)], [], sl, CH (up1 I 1 f) A N V lt tw sp sr X)) = some ([], sl, CH (up1 I 1 (up1 (up1 f 4 (nI 1)) 5 (nI L))) A N V lt tw sp sr X) := by
  have g1 : ¬ t ≤ L := by omega
  have g2 : ¬ r < L := by omega
  rw [k90_r1_9]
  simp (disch := omega) only [rt_c, b_some, List.cons_append, List.nil_append, Bool.cond_not, cond_true, cond_false, Bool.cond_decide, nI_add, nI_clamp, xin_n, dle_e, dlt_e, deq_e, xb_0, xb_1, decide_true, decide_false, Bool.not_true, Bool.not_false, Bool.and_true, Bool.true_and, Bool.and_false, Bool.false_and, Bool.true_or, Bool.false_or, Bool.or_true, Bool.or_false, if_true, if_false, up1_s, n_31, Int32.lt_irrefl, f1, f2, f3, g1, g2, up1_up, k90_r1_130, t90_130]
theorem q90_fin (ht : t ≤ 940) (hL : L ≤ 940) (f : Nat → Int32) (f1 : f 1 = nI t) (f2 : f 2 = nI L) (f3 : f 3 = nI t) (h1 : t ≤ L) : rt 90 (R (d + 1) 90 (9, [some (.ref 1)], [], sl, CH (up1 I 1 f) A N V lt tw sp sr X)) = some ([], sl, CH (up1 I 1 (up1 (up1 f 4 (nI 0)) 5 (nI t))) A N V lt tw sp sr X) := by
  rw [k90_r1_9]
  simp (disch := omega) only [rt_c, b_some, List.cons_append, List.nil_append, Bool.cond_not, cond_true, cond_false, Bool.cond_decide, nI_add, nI_clamp, xin_n, dle_e, dlt_e, deq_e, xb_0, xb_1, decide_true, decide_false, Bool.not_true, Bool.not_false, Bool.and_true, Bool.true_and, Bool.and_false, Bool.false_and, Bool.true_or, Bool.false_or, Bool.or_true, Bool.or_false, if_true, if_false, up1_s, n_31, Int32.lt_irrefl, f1, f2, f3, h1, Nat.lt_irrefl, up1_up, k90_r1_130, t90_130]
theorem q90_at {r : Nat} (ht : t ≤ 940) (hL : L ≤ 940) (hr : r < t) (f : Nat → Int32) (f1 : f 1 = nI t) (f2 : f 2 = nI L) (f3 : f 3 = nI r) (h1 : t ≤ L ∨ r < L) {bo : Bool} {f' : Nat → Int32} {lt' : Int64} (h92 : C d 92 [.ref 1] sl (CH (up1 I 1 (up1 f 5 (nI r))) A N V lt tw sp sr X) = some ([.int (x_b bo)], sl, CH (up1 I 1 f') A N V lt' tw sp sr X)) : rt 90 (R (d + 1) 90 (9, [some (.ref 1)], [], sl, CH (up1 I 1 f) A N V lt tw sp sr X)) = rt 90 (R (d + 1) 90 (78, [some (.ref 1)], [.int (x_b bo)], sl, CH (up1 I 1 f') A N V lt' tw sp sr X)) := by
  rw [k90_r1_9]
  by_cases hT : t ≤ L
  · simp (disch := omega) only [rt_c, b_some, List.cons_append, List.nil_append, Bool.cond_not, cond_true, cond_false, Bool.cond_decide, nI_add, nI_clamp, xin_n, dle_e, dlt_e, deq_e, xb_0, xb_1, decide_true, decide_false, Bool.not_true, Bool.not_false, Bool.and_true, Bool.true_and, Bool.and_false, Bool.false_and, Bool.true_or, Bool.false_or, Bool.or_true, Bool.or_false, if_true, if_false, up1_s, n_31, Int32.lt_irrefl, f1, f2, f3, hT, hr, up1_up, h92]
  · have h6 : r < L := by omega
    simp (disch := omega) only [rt_c, b_some, List.cons_append, List.nil_append, Bool.cond_not, cond_true, cond_false, Bool.cond_decide, nI_add, nI_clamp, xin_n, dle_e, dlt_e, deq_e, xb_0, xb_1, decide_true, decide_false, Bool.not_true, Bool.not_false, Bool.and_true, Bool.true_and, Bool.and_false, Bool.false_and, Bool.true_or, Bool.false_or, Bool.or_true, Bool.or_false, if_true, if_false, up1_s, n_31, Int32.lt_irrefl, f1, f2, f3, hT, h6, hr, up1_up, h92]
theorem q90_name (hX : Nat.ble X.length 1 = true) {s : List Nat} (hs : Lts s) (f : Nat → Int32) (f4 : f 4 = nI 3) : (∃ k, k ≤ 20 ∧ s = wl k ∧ rt 90 (R (d + 1) 90 (78, [some (.ref 1)], [.int (x_b true)], sl, CH (up1 I 1 f) A N V (lN (p256 s)) none sp sr X)) = some ([], sl, CH (up1 I 1 (up1 f 4 (nI 2))) A N V (lN (p256 s)) (some (1000000 + k)) sp sr X)) ∨ ((∀ k, k ≤ 20 → s ≠ wl k) ∧ rt 90 (R (d + 1) 90 (78, [some (.ref 1)], [.int (x_b true)], sl, CH (up1 I 1 f) A N V (lN (p256 s)) none sp sr X)) = some ([], sl, CH (up1 I 1 (up1 f 4 (nI 3))) A N V (lN (p256 s)) none sp sr X)) := by
  rcases q3 d sl (up1 I 1 f) A N V (lN (p256 s)) none sp sr X hX hs with ⟨k, k1, k2, k3⟩ | ⟨k1, k3⟩
  · refine Or.inl ⟨k, k1, k2, ?_⟩
    rw [k90_r1_78]
    simp (disch := omega) only [rt_c, b_some, List.cons_append, List.nil_append, Bool.cond_not, cond_true, cond_false, Bool.cond_decide, nI_add, nI_clamp, xin_n, dle_e, dlt_e, deq_e, xb_0, xb_1, decide_true, decide_false, Bool.not_true, Bool.not_false, Bool.and_true, Bool.true_and, Bool.and_false, Bool.false_and, Bool.true_or, Bool.false_or, Bool.or_true, Bool.or_false, if_true, if_false, up1_s, n_31, Int32.lt_irrefl, xb_t, Nat.one_ne_zero, f4, k3, k90_r1_97_1, up1_up, k90_r1_130, t90_130]
  · refine Or.inr ⟨k1, ?_⟩
    rw [k90_r1_78]
    simp (disch := omega) only [rt_c, b_some, List.cons_append, List.nil_append, Bool.cond_not, cond_true, cond_false, Bool.cond_decide, nI_add, nI_clamp, xin_n, dle_e, dlt_e, deq_e, xb_0, xb_1, decide_true, decide_false, Bool.not_true, Bool.not_false, Bool.and_true, Bool.true_and, Bool.and_false, Bool.false_and, Bool.true_or, Bool.false_or, Bool.or_true, Bool.or_false, if_true, if_false, up1_s, n_31, Int32.lt_irrefl, xb_t, Nat.one_ne_zero, f4, k3, k90_r1_97, up1_up, k90_r1_130, t90_130]
theorem q90_other {κ : Nat} (hk : κ ≤ 5) (h3 : κ ≠ 3) (f : Nat → Int32) (f4 : f 4 = nI κ) : rt 90 (R (d + 1) 90 (78, [some (.ref 1)], [.int (x_b true)], sl, CH (up1 I 1 f) A N V lt tw sp sr X)) = some ([], sl, CH (up1 I 1 (up1 f 4 (nI κ))) A N V lt none sp sr X) := by
  rw [k90_r1_78]
  simp (disch := omega) only [rt_c, b_some, List.cons_append, List.nil_append, Bool.cond_not, cond_true, cond_false, Bool.cond_decide, nI_add, nI_clamp, xin_n, dle_e, dlt_e, deq_e, xb_0, xb_1, decide_true, decide_false, Bool.not_true, Bool.not_false, Bool.and_true, Bool.true_and, Bool.and_false, Bool.false_and, Bool.true_or, Bool.false_or, Bool.or_true, Bool.or_false, if_true, if_false, up1_s, n_31, Int32.lt_irrefl, xb_t, Nat.one_ne_zero, f4, h3, up1_up, k90_r1_130, t90_130]
end ADV
theorem adv0 (d d' sl sl' : Nat) (I A : Nat → Nat → Int32) (N : Nat → Nat → Int64) (V : Nat → Nat → Option Nat) (sp sr : Nat) (X : List AC) (B : Nat → Nat → Int32) (M : Nat → Nat → Int64) {t L : Nat} {b : Nat → Nat} (hB : Bt t b A B) (hL : L ≤ 940) (hX : Nat.ble X.length 1 = true) {q : Nat} (hq : q ≤ t) (f : Nat → Int32) (lt : Int64) (tw : Option Nat) (J : Nat → Int32) (w : Int64) (f1 : f 1 = nI t) (f2 : f 2 = nI L) (f3 : f 3 = nI q) (j3 : J 3 = nI t) (j4 : J 4 = nI L) (j5 : J 5 = nI q) : ∃ κ v s f' lt' tw' J' w', C (d + 1) 90 [.ref 1] sl (CH (up1 I 1 f) A N V lt tw sp sr X) = some ([], sl, CH (up1 I 1 f') A N V lt' tw' sp sr X) ∧ C (d' + 1) 174 [.ref 0] sl' (RH J w B M) = some ([], sl', RH J' w' B M) ∧ Tk t L q κ v s f' lt' tw' J' w' ∧ (∀ k, k ≠ 3 → k ≠ 4 → k ≠ 5 → k ≠ 8 → f' k = f k) ∧ (∀ k, k < 5 ∨ 9 < k → J' k = J k) := by
  obtain ⟨ht, hb⟩ := hB
  have hbc : ∀ k, k < t → b k < 256 ∧ A 2 k = by8 (b k) := fun k hk => ⟨(hb k hk).1, (hb k hk).2.1⟩
  have hbr : ∀ k, k < t → b k < 256 ∧ B 1 k = nI (b k) := fun k hk => ⟨(hb k hk).1, (hb k hk).2.2⟩
  obtain ⟨r, r1, r2, r3, r4⟩ := skip_ex b t (t - q) q (by omega)
  obtain ⟨g, c1, g3, gk⟩ := q90_skip d sl I A N V lt tw sp sr X b ht hbc r1 r2 r4 r3 f f1 f3
  obtain ⟨K, e1, K5, Kk⟩ := c174_skip d' sl' w B M b ht hbr r2 (r - q) q J (by omega) j3 j5 r3
  have g1 : g 1 = nI t := by rw [gk 1 (by decide)]; exact f1
  have g2 : g 2 = nI L := by rw [gk 2 (by decide)]; exact f2
  have K3 : K 3 = nI t := by rw [Kk 3 (by decide)]; exact j3
  have K4 : K 4 = nI L := by rw [Kk 4 (by decide)]; exact j4
  rw [c1, e174, e1]
  by_cases hl : L < t ∧ L ≤ r
  · -- beyond the limit
    refine ⟨1, 0, [], _, _, _, _, _, q90_lim d sl I A N V lt none sp sr X ht hL r2 g g1 g2 g3 hl.1 hl.2, c174_lim d' sl' w B M b ht hL hbr r2 r4 K K3 K4 K5 hl.1 hl.2, ⟨L, r, hl.2, r2, ?_⟩, fun k k3 k4 k5 k8 => by rw [up1_n k5, up1_n k4, gk k k3], fun k hk => by rw [up1_n (by omega), up1_n (by omega), Kk k (by omega)]⟩
    refine ⟨g1, K3, g2, K4, g3, K5, up1_s, by rw [up1_n (by decide), up1_s], Or.inl rfl, fun h => absurd h (by decide), by rw [up1_n (by decide), up1_s], Or.inr (Or.inl ⟨rfl, rfl, up1_s⟩)⟩
  · by_cases hrt : r = t
    · -- the end
      subst hrt
      refine ⟨0, 0, [], _, _, _, _, _, q90_fin d sl I A N V lt none sp sr X ht hL g g1 g2 g3 (by omega), c174_fin d' sl' w B M ht hL K K3 K4 K5 (by omega), ⟨r, r, Nat.le_refl _, Nat.le_refl _, ?_⟩, fun k k3 k4 k5 k8 => by rw [up1_n k5, up1_n k4, gk k k3], fun k hk => by rw [up1_n (by omega), up1_n (by omega), Kk k (by omega)]⟩
      refine ⟨g1, K3, g2, K4, g3, K5, up1_s, by rw [up1_n (by decide), up1_s], Or.inr r1, fun h => absurd h (by decide), by rw [up1_n (by decide), up1_s], Or.inl ⟨rfl, rfl, up1_s⟩⟩
    · have hr : r < t := by omega
      have hlim : t ≤ L ∨ r < L := by omega
      obtain ⟨e, s1, s2, s3, s4⟩ := run_ex b t (t - r) r (by omega)
      obtain ⟨g', lt', c2, g'3, g'k, v1, v2, v3⟩ := q92 d sl I A N V lt none sp sr X b s1 s2 ht hbc s3 s4 (up1 g 5 (nI r)) (by rw [up1_n (by decide)]; exact g1) (by rw [up1_n (by decide)]; exact g3)
      rw [q90_at d sl I A N V lt none sp sr X ht hL hr g g1 g2 g3 hlim c2]
      have g'5 : g' 5 = nI r := by rw [g'k 5 (by decide) (by decide) (by decide), up1_s]
      have g'1 : g' 1 = nI t := by rw [g'k 1 (by decide) (by decide) (by decide), up1_n (by decide)]; exact g1
      have g'2 : g' 2 = nI L := by rw [g'k 2 (by decide) (by decide) (by decide), up1_n (by decide)]; exact g2
      by_cases hre : r < e
      · -- a run
        rw [decide_eq_true hre]
        obtain ⟨good, K', w', e2, K'5, K'6, ⟨i1, i2, i3⟩, K'k⟩ := c174_run d' sl' w B M b hre s2 ht hL hbr s3 s4 K K3 K4 K5 hlim
        have K'3 : K' 3 = nI t := by rw [K'k 3 (by decide) (by decide) (by decide)]; exact K3
        have K'4 : K' 4 = nI L := by rw [K'k 4 (by decide) (by decide) (by decide)]; exact K4
        have h0 : r + 0 < e := by omega
        have hfr : ∀ k, k ≠ 3 → k ≠ 4 → k ≠ 5 → k ≠ 8 → g' k = f k := fun k k3 k4 k5 k8 => by rw [g'k k k3 k4 k8, up1_n k5, gk k k3]
        have hjr : ∀ k v, k < 5 ∨ 9 < k → up1 K' 7 v k = J k := fun k v hk => by rw [up1_n (by omega), K'k k (by omega) (by omega) (by omega), Kk k (by omega)]
        have hLgood : ∀ (hh : isLt (b r) = true), good = true ↔ allL b r (e - r) := fun hh => by rw [i1, hh]; exact Iff.rfl
        have hDgood : ∀ (hh : isLt (b r) = false), good = true ↔ allD b r (e - r) := fun hh => by
          rw [i1, hh]
          constructor
          · intro h j hj
            rcases s3 (r + j) (by omega) (by omega) with h2 | h2
            · rw [h j hj] at h2; cases h2
            · exact h2
          · exact fun h j hj => DL (h j hj)
        by_cases hA : allL b r (e - r)
        · have hl0 : isLt (b r) = true := hA 0 (by omega)
          have hg := (hLgood hl0).mpr hA
          by_cases h7 : e - r ≤ 7
          · have hkn : kndN (isLt (b r)) good (e - r) = 2 := by unfold kndN; rw [hl0, hg]; simp [h7]
            rw [hkn] at e2
            obtain ⟨g'4, hlt⟩ := v1 hA h7
            have hs := sgs_Lts hA (by omega) h7
            have hw := i2 hA h7
            subst hlt
            rcases q90_name d sl I A N V sp sr X hX hs g' g'4 with ⟨k, k1, k2, k3⟩ | ⟨k1, k3⟩
            · refine ⟨2, k, [], _, _, _, _, _, k3, e2, ⟨r, e, s1, s2, ?_⟩, fun k k3 k4 k5 k8 => by rw [up1_n k4]; exact hfr k k3 k4 k5 k8, fun k hk => hjr k _ hk⟩
              refine ⟨g'1, K'3, g'2, K'4, g'3, K'5, g'5, K'6, Or.inr r1, fun _ => hre, up1_s, Or.inr (Or.inr (Or.inl ⟨rfl, rfl, up1_s, k1, ?_⟩))⟩
              rw [hw, k2]
            · refine ⟨3, 0, sgs b r (e - r), _, _, _, _, _, k3, e2, ⟨r, e, s1, s2, ?_⟩, fun k k3 k4 k5 k8 => by rw [up1_n k4]; exact hfr k k3 k4 k5 k8, fun k hk => hjr k _ hk⟩
              exact ⟨g'1, K'3, g'2, K'4, g'3, K'5, g'5, K'6, Or.inr r1, fun _ => hre, up1_s, Or.inr (Or.inr (Or.inr (Or.inl ⟨rfl, rfl, up1_s, hs, k1, rfl, hw⟩)))⟩
          · have hkn : kndN (isLt (b r)) good (e - r) = 1 := by unfold kndN; rw [hl0, hg]; simp [h7]
            rw [hkn] at e2
            have g'4 := v3 (fun h => h7 h.2) (fun h => by have h9 : isDg (b r) = true := h.1 0 (by omega); have h8 := LD hl0; rw [h9] at h8; cases h8)
            refine ⟨1, 0, [], _, _, _, _, _, q90_other d sl I A N V lt' none sp sr X (by decide) (by decide) g' g'4, e2, ⟨r, e, s1, s2, ?_⟩, fun k k3 k4 k5 k8 => by rw [up1_n k4]; exact hfr k k3 k4 k5 k8, fun k hk => hjr k _ hk⟩
            exact ⟨g'1, K'3, g'2, K'4, g'3, K'5, g'5, K'6, Or.inl rfl, fun h => absurd h (by decide), up1_s, Or.inr (Or.inl ⟨rfl, rfl, up1_s⟩)⟩
        · by_cases hD : allD b r (e - r) ∧ e - r ≤ 3
          · have hl0 : isLt (b r) = false := DL (hD.1 0 (by omega))
            have hg := (hDgood hl0).mpr hD.1
            have hkn : kndN (isLt (b r)) good (e - r) = 3 := by unfold kndN; rw [hl0, hg]; simp [hD.2]
            rw [hkn] at e2
            obtain ⟨g'4, g'8⟩ := v2 hD.1 hre hD.2
            have hv := dvl_lt hD.1
            have hpw : 10 ^ (e - r) ≤ 10 ^ 3 := Nat.pow_le_pow_right (by decide) hD.2
            refine ⟨4, dvl b r (e - r), [], _, _, _, _, _, q90_other d sl I A N V lt' none sp sr X (by decide) (by decide) g' g'4, e2, ⟨r, e, s1, s2, ?_⟩, fun k k3 k4 k5 k8 => by rw [up1_n k4]; exact hfr k k3 k4 k5 k8, fun k hk => hjr k _ hk⟩
            exact ⟨g'1, K'3, g'2, K'4, g'3, K'5, g'5, K'6, Or.inr r1, fun _ => hre, up1_s, Or.inr (Or.inr (Or.inr (Or.inr (Or.inl ⟨rfl, rfl, up1_s, by omega, g'8, i3 hD.1 hD.2⟩))))⟩
          · have g'4 := v3 (fun h => hA h.1) hD
            have hkn : kndN (isLt (b r)) good (e - r) = 1 := by
              unfold kndN
              cases hl0 : isLt (b r) with
              | true =>
                cases hg : good with
                | false => rfl
                | true => exact absurd ((hLgood hl0).mp hg) hA
              | false =>
                cases hg : good with
                | false => rfl
                | true =>
                  have h3 : ¬ e - r ≤ 3 := fun h => hD ⟨(hDgood hl0).mp hg, h⟩
                  simp [h3]
            rw [hkn] at e2
            refine ⟨1, 0, [], _, _, _, _, _, q90_other d sl I A N V lt' none sp sr X (by decide) (by decide) g' g'4, e2, ⟨r, e, s1, s2, ?_⟩, fun k k3 k4 k5 k8 => by rw [up1_n k4]; exact hfr k k3 k4 k5 k8, fun k hk => hjr k _ hk⟩
            exact ⟨g'1, K'3, g'2, K'4, g'3, K'5, g'5, K'6, Or.inl rfl, fun h => absurd h (by decide), up1_s, Or.inr (Or.inl ⟨rfl, rfl, up1_s⟩)⟩
      · -- a mark
        have her : e = r := by omega
        subst her
        obtain ⟨n1, n2⟩ := s4 hr
        rw [decide_eq_false hre]
        obtain ⟨h, c3, h3, h4, h8, hk⟩ := q93 d sl I A N V lt' none sp sr X b hr ht g' g'1 g'3 (hbc e hr)
        have e2 := c174_mark d' sl' w B M b hr ht hL hbr (r4 hr) n1 n2 K K3 K4 K5 hlim
        have c4 : rt 90 (R (d + 1) 90 (78, [some (.ref 1)], [.int (x_b false)], sl, CH (up1 I 1 g') A N V lt' none sp sr X)) = some ([], sl, CH (up1 I 1 h) A N V lt' none sp sr X) := by
          rw [k90_r1_78]
          simp (disch := omega) only [rt_c, b_some, List.cons_append, List.nil_append, Bool.cond_not, cond_true, cond_false, Bool.cond_decide, nI_add, nI_clamp, xin_n, dle_e, dlt_e, deq_e, xb_0, xb_1, decide_true, decide_false, Bool.not_true, Bool.not_false, Bool.and_true, Bool.true_and, Bool.and_false, Bool.false_and, Bool.true_or, Bool.false_or, Bool.or_true, Bool.or_false, if_true, if_false, up1_s, n_31, Int32.lt_irrefl, xb_f, c3, k90_r1_130, t90_130]
        have h1 : h 1 = nI t := by rw [hk 1 (by decide) (by decide) (by decide)]; exact g'1
        have h2 : h 2 = nI L := by rw [hk 2 (by decide) (by decide) (by decide)]; exact g'2
        have h5 : h 5 = nI e := by rw [hk 5 (by decide) (by decide) (by decide)]; exact g'5
        have hfr : ∀ k, k ≠ 3 → k ≠ 4 → k ≠ 5 → k ≠ 8 → h k = f k := fun k k3 k4 k5 k8 => by rw [hk k k3 k4 k8, g'k k k3 k4 k8, up1_n k5, gk k k3]
        have hjr : ∀ k v, k < 5 ∨ 9 < k → up1 (up1 (up1 (up1 K 6 (nI e)) 5 (nI (e + 1))) 7 v) 9 (nI (b e)) k = J k := fun k v hk => by rw [up1_n (by omega), up1_n (by omega), up1_n (by omega), up1_n (by omega), Kk k (by omega)]
        cases hm : isMk (b e) with
        | true =>
          rw [hm] at h4 e2
          have hbe := isMk_t.mp hm
          refine ⟨5, b e, [], _, _, _, _, _, c4, e2, ⟨e, e + 1, by omega, by omega, ?_⟩, hfr, fun k hk => hjr k _ hk⟩
          refine ⟨h1, K3, h2, K4, h3, ?_, h5, ?_, Or.inr r1, fun _ => by omega, h4, Or.inr (Or.inr (Or.inr (Or.inr (Or.inr ⟨rfl, rfl, ?_, hm, by omega, ?_, up1_s⟩))))⟩
          · rw [up1_n (by decide), up1_n (by decide), up1_s]
          · rw [up1_n (by decide), up1_n (by decide), up1_n (by decide), up1_s]
          · rw [up1_n (by decide), up1_s]; rfl
          · rw [h8, by8_n (by omega)]
        | false =>
          rw [hm] at h4 e2
          refine ⟨1, 0, [], _, _, _, _, _, c4, e2, ⟨e, e + 1, by omega, by omega, ?_⟩, hfr, fun k hk => hjr k _ hk⟩
          refine ⟨h1, K3, h2, K4, h3, ?_, h5, ?_, Or.inl rfl, fun h => absurd h (by decide), h4, Or.inr (Or.inl ⟨rfl, rfl, ?_⟩)⟩
          · rw [up1_n (by decide), up1_n (by decide), up1_s]
          · rw [up1_n (by decide), up1_n (by decide), up1_n (by decide), up1_s]
          · rw [up1_n (by decide), up1_s]; rfl
theorem adv (d d' sl sl' : Nat) (I A : Nat → Nat → Int32) (N : Nat → Nat → Int64) (V : Nat → Nat → Option Nat) (sp sr : Nat) (X : List AC) (B : Nat → Nat → Int32) (M : Nat → Nat → Int64) {t L : Nat} {b : Nat → Nat} (hB : Bt t b A B) (hL : L ≤ 940) (hX : Nat.ble X.length 1 = true) {n κ v : Nat} {s : List Nat} {f : Nat → Int32} {lt : Int64} {tw : Option Nat} {J : Nat → Int32} {w : Int64} (h : Tk t L n κ v s f lt tw J w) (hκ : 1 < κ) (f0 J0 : Nat → Int32) (hf : ∀ k, k < 9 → f0 k = f k) (hJ : ∀ k, k < 10 → J0 k = J k) : ∃ κ' v' s' f' lt' tw' J' w', C (d + 1) 90 [.ref 1] sl (CH (up1 I 1 f0) A N V lt tw sp sr X) = some ([], sl, CH (up1 I 1 f') A N V lt' tw' sp sr X) ∧ C (d' + 1) 174 [.ref 0] sl' (RH J0 w B M) = some ([], sl', RH J' w' B M) ∧ Tk t L (n + 1) κ' v' s' f' lt' tw' J' w' ∧ (∀ k, 8 < k → f' k = f0 k) ∧ (∀ k, k < 5 ∨ 9 < k → J' k = J0 k) := by
  obtain ⟨p, q, a1, a2, a3, a4, a5, a6, a7, a8, a9, a10, a11, a12, _⟩ := h
  obtain ⟨κ', v', s', f', lt', tw', J', w', x1, x2, x3, x4, x5⟩ := adv0 d d' sl sl' I A N V sp sr X B M hB hL hX a2 f0 lt tw J0 w (by rw [hf 1 (by decide)]; exact a3) (by rw [hf 2 (by decide)]; exact a5) (by rw [hf 3 (by decide)]; exact a7) (by rw [hJ 3 (by decide)]; exact a4) (by rw [hJ 4 (by decide)]; exact a6) (by rw [hJ 5 (by decide)]; exact a8)
  refine ⟨κ', v', s', f', lt', tw', J', w', x1, x2, ?_, fun k hk => x4 k (by omega) (by omega) (by omega) (by omega), x5⟩
  obtain ⟨p', q', b1, b2, b3, b4, b5, b6, b7, b8, b9, b10, b11, b12, b13⟩ := x3
  refine ⟨p', q', b1, b2, b3, b4, b5, b6, b7, b8, b9, b10, ?_, b12, b13⟩
  have := a12 hκ
  rcases b11 with h | h
  · exact Or.inl h
  · rcases a11 with h2 | h2
    · omega
    · exact Or.inr (by omega)
