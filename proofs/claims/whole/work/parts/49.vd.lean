/-! ROWS STAY AS THEY MUST BE -/
theorem nI_sub {l v : Nat} (h : v ≤ l) : nI l - nI v = nI (l - v) := by
  have h1 : nI (l - v) + nI v = nI l := by rw [nI_add]; congr 1; omega
  rw [← h1, Int32.add_sub_cancel]
theorem mv_o {n : Nat → Int32} {a b : Nat} {v : Int32} {j : Nat} (h1 : j ≠ 73 + a) (h2 : j ≠ 73 + b) : mv n a b v j = n j := by
  unfold mv
  rw [upd_n h2, upd_n h1]
theorem Vd_of {n n' : Nat → Int32} {H m : Nat} (hV : Vd n H m) (h : ∀ j, (j < 70 ∨ j = 72 ∨ (79 ≤ j ∧ j < 103) ∨ (115 ≤ j ∧ j < 127)) → n' j = n j) (hl : ∀ k, k < m → ∃ l, l ≤ 9999 ∧ n' (103 + k) = nI l) (hz : ∀ k, m ≤ k → k < 12 → n' (103 + k) = nI 0) (hz2 : ∀ h, H ≤ h → h < 6 → n' (73 + h) = nI 0) : Vd n' H m := by
  obtain ⟨⟨h0, h72, hH, hm⟩, hg, hy, hc, ha, hb, hn, -, hag, -, -⟩ := hV
  refine ⟨⟨?_, ?_, hH, hm⟩, ?_, ?_, ?_, ?_, ?_, ?_, hl, ?_, hz, hz2⟩
  · rw [h _ (by omega), h0]
  · rw [h _ (by omega), h72]
  · rw [h _ (by omega)]; exact hg
  · rw [h _ (by omega)]; exact hy
  · intro q hq; rw [h _ (by omega)]; exact hc q hq
  · intro q hq; rw [h _ (by omega)]; exact ha q hq
  · intro q hq; rw [h _ (by omega)]; exact hb q hq
  · intro q hq; rw [h _ (by omega), h _ (by omega)]; exact hn q hq
  · intro q hq; rw [h _ (by omega)]; exact hag q hq
theorem op_iff {n : Nat → Int32} {k : Nat} : op_ n k = true ↔ nI 0 < n (103 + k) := by unfold op_; simp
theorem payW_0 {n : Nat → Int32} {k : Nat} {y : Int32} (h : payW n k y = nI 0) : op_ n k = true ∧ y ≤ n (103 + k) ∧ y ≤ n (73 + wh n k) := by
  unfold payW at h
  cases ho : op_ n k with
  | false => rw [ho] at h; exact absurd (show nI 1 = nI 0 from h) (by decide)
  | true =>
    rw [ho] at h
    by_cases h1 : y ≤ n (103 + k)
    · by_cases h2 : y ≤ n (73 + wh n k)
      · exact ⟨rfl, h1, h2⟩
      · rw [cond_true, if_pos h1, if_neg h2] at h; exact absurd h (by decide)
    · rw [if_neg h1] at h; exact absurd h (by decide)
theorem Vd_pay {n : Nat → Int32} {H m k : Nat} {y : Int32} (hV : Vd n H m) (hk : k < m) (hy : nI 0 ≤ y) (h : payW n k y = nI 0) : Vd (payN n k y) H m := by
  obtain ⟨-, h1, -⟩ := payW_0 h
  have hw := (Vd_wh hV hk).2
  have hu := (Vd_wm hV hk).2
  obtain ⟨v, hv, rfl⟩ := nI_of (x := y) (Int32.not_lt.mpr hy)
  have hV0 := hV
  obtain ⟨⟨h0, h72, hH, hm⟩, -, -, -, -, -, -, hl, -, hz, hz2⟩ := hV
  refine Vd_of hV0 ?_ ?_ ?_ ?_
  · intro j hj
    unfold payN
    rw [upd_n (by omega), upd_n (by omega), mv_o (by omega) (by omega)]
  · intro q hq
    obtain ⟨l, hl1, e⟩ := hl q hq
    unfold payN
    rw [upd_n (by omega)]
    by_cases hqk : q = k
    · subst hqk
      rw [upd_s, mv_o (by omega) (by omega), e]
      rw [e, nI_leI hv (by omega)] at h1
      rw [nI_sub h1]
      exact ⟨l - v, by omega, rfl⟩
    · rw [upd_n (by omega), mv_o (by omega) (by omega)]
      exact ⟨l, hl1, e⟩
  · intro q h1 h2
    unfold payN
    rw [upd_n (by omega), upd_n (by omega), mv_o (by omega) (by omega)]
    exact hz q h1 h2
  · intro q h1 h2
    unfold payN
    rw [upd_n (by omega), upd_n (by omega), mv_o (by omega) (by omega)]
    exact hz2 q h1 h2
theorem borW_0 {n : Nat → Int32} {m g : Nat} {v : Int32} (h : borW n m g v = nI 0) : m ≠ 12 ∧ v ≤ n (73 + g) := by
  unfold borW at h
  by_cases h1 : m = 12
  · rw [if_pos h1] at h; exact absurd h (by decide)
  · rw [if_neg h1] at h
    by_cases h2 : v ≤ n (73 + g)
    · exact ⟨h1, h2⟩
    · rw [if_neg h2] at h; exact absurd h (by decide)
theorem Vd_bor {n : Nat → Int32} {H m h g : Nat} {v : Nat} (hV : Vd n H m) (hh : h < H) (hg : g < H) (hgh : h ≠ g) (hv : v ≤ 9999) (hw : borW n m g (nI v) = nI 0) : Vd (borN n m h g (nI v)) H (m + 1) := by
  have h12 := (borW_0 hw).1
  obtain ⟨⟨h0, h72, hH, hm⟩, hgr, hy, hc, ha, hb, hn, hl, hag, hz, hz2⟩ := hV
  have ho : ∀ j, j ≠ 72 → j ≠ 79 + m → j ≠ 91 + m → j ≠ 103 + m → j ≠ 115 + m → (j < 73 ∨ 73 + H ≤ j) → borN n m h g (nI v) j = n j := by
    intro j h1 h2 h3 h4 h5 h6
    unfold borN
    rw [upd_n h1, upd_n h5, upd_n h4, upd_n h3, upd_n h2, mv_o (by omega) (by omega)]
  have e1 : borN n m h g (nI v) (79 + m) = nI h := by
    unfold borN
    rw [upd_n (by omega), upd_n (by omega), upd_n (by omega), upd_n (by omega), upd_s]
  have e2 : borN n m h g (nI v) (91 + m) = nI g := by
    unfold borN
    rw [upd_n (by omega), upd_n (by omega), upd_n (by omega), upd_s]
  have e3 : borN n m h g (nI v) (103 + m) = nI v := by
    unfold borN
    rw [upd_n (by omega), upd_n (by omega), upd_s]
  have e4 : borN n m h g (nI v) (115 + m) = nI 0 := by
    unfold borN
    rw [upd_n (by omega), upd_s]
  refine ⟨⟨?_, ?_, hH, by omega⟩, ?_, ?_, ?_, ?_, ?_, ?_, ?_, ?_, ?_, ?_⟩
  · rw [ho _ (by omega) (by omega) (by omega) (by omega) (by omega) (by omega), h0]
  · exact upd_s
  · rw [ho _ (by omega) (by omega) (by omega) (by omega) (by omega) (by omega)]; exact hgr
  · rw [ho _ (by omega) (by omega) (by omega) (by omega) (by omega) (by omega)]; exact hy
  · intro q hq; rw [ho _ (by omega) (by omega) (by omega) (by omega) (by omega) (by omega)]; exact hc q hq
  · intro q hq
    by_cases hqm : q = m
    · rw [hqm, e1]; exact ⟨h, hh, rfl⟩
    · rw [ho _ (by omega) (by omega) (by omega) (by omega) (by omega) (by omega)]; exact ha q (by omega)
  · intro q hq
    by_cases hqm : q = m
    · rw [hqm, e2]; exact ⟨g, hg, rfl⟩
    · rw [ho _ (by omega) (by omega) (by omega) (by omega) (by omega) (by omega)]; exact hb q (by omega)
  · intro q hq
    by_cases hqm : q = m
    · rw [hqm, e1, e2]
      intro e
      exact hgh ((nI_eq (by omega) (by omega)).mp e)
    · rw [ho _ (by omega) (by omega) (by omega) (by omega) (by omega) (by omega), ho _ (by omega) (by omega) (by omega) (by omega) (by omega) (by omega)]; exact hn q (by omega)
  · intro q hq
    by_cases hqm : q = m
    · rw [hqm, e3]; exact ⟨v, hv, rfl⟩
    · rw [ho _ (by omega) (by omega) (by omega) (by omega) (by omega) (by omega)]; exact hl q (by omega)
  · intro q hq
    by_cases hqm : q = m
    · rw [hqm, e4]; exact ⟨0, by omega, rfl⟩
    · rw [ho _ (by omega) (by omega) (by omega) (by omega) (by omega) (by omega)]; exact hag q (by omega)
  · intro q h1 h2
    rw [ho _ (by omega) (by omega) (by omega) (by omega) (by omega) (by omega)]; exact hz q (by omega) h2
  · intro q h1 h2
    rw [ho _ (by omega) (by omega) (by omega) (by omega) (by omega) (by omega)]; exact hz2 q h1 h2
theorem selW_0 {n : Nat → Int32} {k h : Nat} (hw : selW n k h = nI 0) : op_ n k = true ∧ n (91 + k) ≠ nI h ∧ n (79 + k) ≠ nI h := by
  unfold selW at hw
  cases ho : op_ n k with
  | false => rw [ho] at hw; exact absurd (show nI 1 = nI 0 from hw) (by decide)
  | true =>
    rw [ho] at hw
    by_cases h1 : n (91 + k) = nI h
    · rw [if_pos h1] at hw; exact absurd hw (by decide)
    · by_cases h2 : n (79 + k) = nI h
      · rw [if_neg h1, if_pos h2] at hw; exact absurd hw (by decide)
      · exact ⟨rfl, h1, h2⟩
theorem Vd_sel {n : Nat → Int32} {H m k h : Nat} (hV : Vd n H m) (hk : k < m) (hh : h < H) (hw : selW n k h = nI 0) : Vd (selN n k h) H m := by
  obtain ⟨-, -, hne⟩ := selW_0 hw
  have hu := (Vd_wm hV hk).2
  obtain ⟨⟨h0, h72, hH, hm⟩, hgr, hy, hc, ha, hb, hn, hl, hag, hz, hz2⟩ := hV
  have ho : ∀ j, j ≠ 91 + k → (j < 73 ∨ 73 + H ≤ j) → selN n k h j = n j := by
    intro j h1 h6
    unfold selN
    rw [upd_n h1, mv_o (by omega) (by omega)]
  have e2 : selN n k h (91 + k) = nI h := upd_s
  refine ⟨⟨?_, ?_, hH, hm⟩, ?_, ?_, ?_, ?_, ?_, ?_, ?_, ?_, ?_, ?_⟩
  · rw [ho _ (by omega) (by omega), h0]
  · rw [ho _ (by omega) (by omega), h72]
  · rw [ho _ (by omega) (by omega)]; exact hgr
  · rw [ho _ (by omega) (by omega)]; exact hy
  · intro q hq; rw [ho _ (by omega) (by omega)]; exact hc q hq
  · intro q hq; rw [ho _ (by omega) (by omega)]; exact ha q hq
  · intro q hq
    by_cases hqk : q = k
    · rw [hqk, e2]; exact ⟨h, hh, rfl⟩
    · rw [ho _ (by omega) (by omega)]; exact hb q hq
  · intro q hq
    by_cases hqk : q = k
    · rw [hqk, e2, ho _ (by omega) (by omega)]; exact hne
    · rw [ho _ (by omega) (by omega), ho _ (by omega) (by omega)]; exact hn q hq
  · intro q hq; rw [ho _ (by omega) (by omega)]; exact hl q hq
  · intro q hq; rw [ho _ (by omega) (by omega)]; exact hag q hq
  · intro q h1 h2; rw [ho _ (by omega) (by omega)]; exact hz q h1 h2
  · intro q h1 h2; rw [ho _ (by omega) (by omega)]; exact hz2 q h1 h2
theorem Vd_for {n : Nat → Int32} {H m k : Nat} (hV : Vd n H m) (hk : k < m) : Vd (forN n k) H m := by
  have hV0 := hV
  obtain ⟨⟨h0, h72, hH, hm⟩, -, -, -, -, -, -, hl, -, hz, hz2⟩ := hV
  unfold forN
  refine Vd_of hV0 ?_ ?_ ?_ ?_
  · intro j hj
    rw [upd_n (by omega)]
  · intro q hq
    by_cases hqk : q = k
    · rw [hqk, upd_s]; exact ⟨0, by omega, rfl⟩
    · rw [upd_n (by omega)]; exact hl q hq
  · intro q h1 h2; rw [upd_n (by omega)]; exact hz q h1 h2
  · intro q h1 h2; rw [upd_n (by omega)]; exact hz2 q h1 h2
theorem xmin_nn {a b : Nat} (ha : a < 2 ^ 31) (hb : b < 2 ^ 31) : x_min (nI a) (nI b) = nI (min a b) := by
  unfold x_min
  by_cases h : b < a
  · rw [if_pos ((nI_ltI hb ha).mpr h), Nat.min_eq_right (by omega)]
  · rw [if_neg (fun h2 => h ((nI_ltI hb ha).mp h2)), Nat.min_eq_left (by omega)]
theorem clrW_0 {n : Nat → Int32} {j k : Nat} (h : clrW n j k = nI 0) : op_ n j = true ∧ op_ n k = true ∧ n (79 + j) = n (91 + k) ∧ n (91 + j) = n (79 + k) := by
  unfold clrW at h
  cases ho : op_ n j with
  | false => rw [ho] at h; exact absurd (show nI 1 = nI 0 from h) (by decide)
  | true =>
    cases ho' : op_ n k with
    | false => rw [ho, ho'] at h; exact absurd (show nI 1 = nI 0 from h) (by decide)
    | true =>
      rw [ho, ho'] at h
      by_cases h1 : n (79 + j) = n (91 + k)
      · by_cases h2 : n (91 + j) = n (79 + k)
        · exact ⟨rfl, rfl, h1, h2⟩
        · rw [if_pos h1, if_neg h2] at h; exact absurd h (by decide)
      · rw [if_neg h1] at h; exact absurd h (by decide)
theorem Vd_clr {n : Nat → Int32} {H m j k : Nat} (hV : Vd n H m) (hj : j < m) (hk : k < m) (hw : clrW n j k = nI 0) : Vd (clrN n j k) H m := by
  obtain ⟨-, -, e1, e2⟩ := clrW_0 hw
  have hV0 := hV
  obtain ⟨⟨h0, h72, hH, hm⟩, -, -, -, -, -, hn, hl, -, hz, hz2⟩ := hV
  have hjk : j ≠ k := by
    intro e
    subst e
    exact hn j hj e1
  obtain ⟨a, ha1, ha⟩ := hl j hj
  obtain ⟨b, hb1, hb⟩ := hl k hk
  unfold clrN
  refine Vd_of hV0 ?_ ?_ ?_ ?_
  · intro q hq
    rw [upd_n (by omega), upd_n (by omega)]
  · intro q hq
    by_cases hqk : q = k
    · rw [hqk, upd_s, upd_n (by omega), ha, hb, xmin_nn (by omega) (by omega), nI_sub (Nat.min_le_right a b)]
      exact ⟨b - min a b, by omega, rfl⟩
    · rw [upd_n (by omega)]
      by_cases hqj : q = j
      · rw [hqj, upd_s, ha, hb, xmin_nn (by omega) (by omega), nI_sub (Nat.min_le_left a b)]
        exact ⟨a - min a b, by omega, rfl⟩
      · rw [upd_n (by omega)]; exact hl q hq
  · intro q h1 h2; rw [upd_n (by omega), upd_n (by omega)]; exact hz q h1 h2
  · intro q h1 h2; rw [upd_n (by omega), upd_n (by omega)]; exact hz2 q h1 h2
