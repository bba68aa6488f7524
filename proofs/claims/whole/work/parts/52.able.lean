/-! ABLE: the masks of a set one by one, and the greedy choice -/
theorem and_b (x y : Nat) : x &&& y = 2 * ((x / 2) &&& (y / 2)) + (x % 2) * (y % 2) := by
  have h1 := Nat.div_add_mod (x &&& y) 2
  rw [Nat.and_div_two] at h1
  have h2 : (x &&& y) % 2 = (x % 2) * (y % 2) := by
    have h3 := @Nat.and_mod_two_eq_one x y
    rcases Nat.mod_two_eq_zero_or_one x with hx | hx <;> rcases Nat.mod_two_eq_zero_or_one y with hy | hy <;> rcases Nat.mod_two_eq_zero_or_one (x &&& y) with hz | hz <;> rw [hx, hy, hz] <;> rw [hx, hy, hz] at h3 <;> simp at h3 ⊢
  omega
def sub_ (x o : Nat) : Prop := x &&& o = x
theorem sub_b {x o : Nat} : sub_ x o ↔ sub_ (x / 2) (o / 2) ∧ (x % 2) * (o % 2) = x % 2 := by
  unfold sub_
  have h := and_b x o
  have h3 : x &&& o ≤ x := Nat.and_le_left
  have h5 : (x % 2) * (o % 2) < 2 := by
    rcases Nat.mod_two_eq_zero_or_one x with hx | hx <;> rcases Nat.mod_two_eq_zero_or_one o with hy | hy <;> rw [hx, hy] <;> decide
  constructor
  · intro e
    omega
  · intro ⟨e1, e2⟩
    omega
theorem sub_pred : ∀ (z o u : Nat), sub_ z o → sub_ u o → u < z → u ≤ (z - 1) &&& o := by
  intro z
  induction z using Nat.strongRecOn with
  | ind z ih =>
    intro o u hz hu huz
    have h := and_b (z - 1) o
    obtain ⟨hz1, hz2⟩ := sub_b.mp hz
    obtain ⟨hu1, hu2⟩ := sub_b.mp hu
    rcases Nat.mod_two_eq_zero_or_one z with hb | hb
    · have h1 : (z - 1) / 2 = z / 2 - 1 := by omega
      have h2 : (z - 1) % 2 = 1 := by omega
      have h3 := ih (z / 2) (by omega) (o / 2) (u / 2) hz1 hu1 (by omega)
      rw [h1, h2, Nat.one_mul] at h
      have h4 : u % 2 ≤ o % 2 := by
        rcases Nat.mod_two_eq_zero_or_one u with hx | hx
        · omega
        · rw [hx] at hu2; omega
      omega
    · have h1 : (z - 1) / 2 = z / 2 := by omega
      have h2 : (z - 1) % 2 = 0 := by omega
      rw [h1, h2, Nat.zero_mul] at h
      unfold sub_ at hz1
      rw [hz1] at h
      omega
theorem sub_and (x o : Nat) : sub_ (x &&& o) o := by
  unfold sub_
  rw [Nat.and_assoc, Nat.and_self]
theorem sub_le {x o : Nat} (h : sub_ x o) : x ≤ o := by
  unfold sub_ at h
  rw [← h]
  exact Nat.and_le_right
theorem sub_self (o : Nat) : sub_ o o := Nat.and_self o
/-- what o has besides x -/
theorem sub_compl : ∀ (o x : Nat), sub_ x o → sub_ (o - x) o := by
  intro o
  induction o using Nat.strongRecOn with
  | ind o ih =>
    intro x hx
    by_cases h0 : o = 0
    · subst h0
      simp [sub_]
    · obtain ⟨h1, h2⟩ := sub_b.mp hx
      have hle := sub_le h1
      have h4 : x % 2 ≤ o % 2 := by
        rcases Nat.mod_two_eq_zero_or_one x with hx | hx
        · omega
        · rw [hx] at h2; omega
      have e1 : (o - x) / 2 = o / 2 - x / 2 := by omega
      have e2 : (o - x) % 2 = o % 2 - x % 2 := by omega
      rw [sub_b, e1, e2]
      refine ⟨ih (o / 2) (by omega) (x / 2) h1, ?_⟩
      rcases Nat.mod_two_eq_zero_or_one x with hx | hx <;> rcases Nat.mod_two_eq_zero_or_one o with ho | ho <;> rw [hx, ho]
theorem not_and (w o : Nat) (hw : w < 2 ^ 31) (ho : o < 2 ^ 31) : ~~~(nI w) &&& nI o = nI (o - (w &&& o)) := by
  have hle : w &&& o ≤ o := Nat.and_le_right
  have h1 : (~~~(nI w) &&& nI o) + (nI w &&& nI o) = nI o := by
    apply Int32.toBitVec_inj.mp
    rw [Int32.toBitVec_add, Int32.toBitVec_and, Int32.toBitVec_and, Int32.toBitVec_not]
    rw [BitVec.add_eq_or_of_and_eq_zero]
    · ext i
      simp
      cases (nI w).toBitVec[i] <;> simp
    · ext i
      simp
      cases (nI w).toBitVec[i] <;> simp
  rw [nI_and hw ho] at h1
  have h2 : nI (o - (w &&& o)) + nI (w &&& o) = nI o := by rw [nI_add]; congr 1; omega
  have h3 := congrArg (fun t => t - nI (w &&& o)) (h1.trans h2.symm)
  simpa using h3
theorem next_mask {z o : Nat} (hz : sub_ z o) (h0 : 0 < z) (ho : o < 2 ^ 31) : (nI (o - z) - nI o) &&& nI o = nI (o - ((z - 1) &&& o)) := by
  have hle := sub_le hz
  have h1 : nI (o - z) - nI o = ~~~(nI (z - 1)) := by
    have h2 : nI (o - z) + nI z = nI o := by rw [nI_add]; congr 1; omega
    rw [← h2, Int32.not_eq_neg_sub]
    have h3 : nI (z - 1) + nI 1 = nI z := by rw [nI_add]; congr 1; omega
    rw [← h3, show (nI 1 : Int32) = 1 from rfl]
    generalize nI (o - z) = a
    generalize nI (z - 1) = b
    have h5 : -a - (b + 1) = -a + (-b - 1) := by rw [Int32.sub_eq_add_neg, Int32.neg_add]
    rw [Int32.sub_eq_add_neg, Int32.neg_add, h5, ← Int32.add_assoc, Int32.add_right_neg, Int32.zero_add]
  rw [h1, not_and _ _ (by omega) ho]
theorem next_0 {o : Nat} (ho : o < 2 ^ 31) : (nI o - nI o) &&& nI o = nI 0 := by
  rw [Int32.sub_self]
  exact Int32.zero_and
theorem lt_tb {g y t : Nat} (h1 : g.testBit t = false) (h2 : y.testBit t = true) (h3 : ∀ j, t < j → g.testBit j = y.testBit j) : g < y := by
  have e : g >>> (t + 1) = y >>> (t + 1) := by
    apply Nat.eq_of_testBit_eq
    intro i
    rw [Nat.testBit_shiftRight, Nat.testBit_shiftRight]
    exact h3 _ (by omega)
  rw [Nat.shiftRight_eq_div_pow, Nat.shiftRight_eq_div_pow, Nat.pow_succ, ← Nat.div_div_eq_div_mul, ← Nat.div_div_eq_div_mul] at e
  rw [Nat.testBit_eq_decide_div_mod_eq] at h1 h2
  simp only [decide_eq_false_iff_not, decide_eq_true_eq] at h1 h2
  apply Nat.lt_of_not_le
  intro hle
  have := Nat.div_le_div_right (c := 2 ^ t) hle
  omega
/-- the cost of a set -/
def lc (n : Nat → Int32) (k : Nat) : Nat := (n (103 + k)).toNatClampNeg
def costF (l : Nat → Nat) (x : Nat) : Nat → Nat
  | 0 => 0
  | k + 1 => costF l x k + (if x.testBit k then l k else 0)
def cost (n : Nat → Int32) (x : Nat) : Nat := costF (lc n) x 12
theorem Vd_lc {n : Nat → Int32} {H m : Nat} (hV : Vd n H m) (k : Nat) (hk : k < 12) : n (103 + k) = nI (lc n k) ∧ lc n k ≤ 9999 := by
  obtain ⟨-, -, -, -, -, -, -, hl, -, hz, -⟩ := hV
  unfold lc
  by_cases h : k < m
  · obtain ⟨l, h1, h2⟩ := hl k h
    rw [h2, nI_clamp (by omega)]
    exact ⟨rfl, h1⟩
  · rw [hz k (by omega) hk, nI_clamp (by omega)]
    exact ⟨rfl, by omega⟩
theorem left_cost {n : Nat → Int32} {H m : Nat} (hV : Vd n H m) (x : Nat) : left_ n x = nI (cost n x) := by
  unfold left_ cost
  have key : ∀ k, k ≤ 12 → x_it (fun k t => cond (x.testBit k) (t + n (103 + k)) t) 0 k (nI 0) = nI (costF (lc n) x k) := by
    intro k
    induction k with
    | zero => intro _; rfl
    | succ k ih =>
      intro hk
      rw [x_it_succ, Nat.zero_add, ih (by omega), (Vd_lc hV k (by omega)).1]
      rw [show costF (lc n) x (k + 1) = costF (lc n) x k + (if x.testBit k = true then lc n k else 0) from rfl]
      cases x.testBit k with
      | false => simp
      | true => simp [nI_add]
  exact key 12 (Nat.le_refl 12)
theorem costF_le {l : Nat → Nat} {x : Nat} (hl : ∀ k, k < 12 → l k ≤ 9999) : ∀ k, k ≤ 12 → costF l x k ≤ 9999 * k := by
  intro k
  induction k with
  | zero => intro _; exact Nat.le_refl 0
  | succ k ih =>
    intro hk
    have h1 := ih (by omega)
    have h2 := hl k (by omega)
    unfold costF
    split <;> omega
/-- how many a set has -/
def sizeF (x : Nat) : Nat → Nat
  | 0 => 0
  | k + 1 => sizeF x k + (if x.testBit k then 1 else 0)
theorem pop_size {x : Nat} (hx : x < 4096) : popF 12 x = sizeF x 12 := by
  have h1 : mkN (fun k => x.testBit k) 12 = x := by
    apply Nat.eq_of_testBit_eq
    intro i
    rw [mkN_bit]
    by_cases hi : i < 12
    · simp [hi]
    · have : x.testBit i = false := Nat.testBit_lt_two_pow (Nat.lt_of_lt_of_le hx (Nat.pow_le_pow_right (n := 2) (by decide) (show 12 ≤ i by omega)))
      simp [hi, this]
  have h2 := pop_mk (fun k => x.testBit k) 12 (by omega)
  rw [h1] at h2
  rw [h2]
  have key : ∀ k, x_it (fun k s => cond (x.testBit k) (s + 1) s) 0 k 0 = sizeF x k := by
    intro k
    induction k with
    | zero => rfl
    | succ k ih =>
      rw [x_it_succ, Nat.zero_add, ih]
      rw [show sizeF x (k + 1) = sizeF x k + (if x.testBit k = true then 1 else 0) from rfl]
      cases x.testBit k <;> simp
  exact key 12
/-- a set against another, by a price v between them -/
theorem cost_price {l : Nat → Nat} {x g v : Nat} : ∀ k, (∀ i, i < k → x.testBit i = true → g.testBit i = false → v ≤ l i) → (∀ i, i < k → x.testBit i = false → g.testBit i = true → l i ≤ v) → costF l g k + v * sizeF x k ≤ costF l x k + v * sizeF g k := by
  intro k
  induction k with
  | zero => intro _ _; simp [costF, sizeF]
  | succ k ih =>
    intro h1 h2
    have h3 := ih (fun i hi => h1 i (by omega)) (fun i hi => h2 i (by omega))
    have h4 := h1 k (by omega)
    have h5 := h2 k (by omega)
    simp only [costF, sizeF, Nat.mul_add]
    cases hx : x.testBit k <;> cases hg : g.testBit k <;> rw [hx, hg] at h4 h5 <;> simp at h4 h5 ⊢ <;> omega
theorem cost_same {l : Nat → Nat} {x g v : Nat} : ∀ k, (∀ i, i < k → x.testBit i = true → g.testBit i = false → v ≤ l i) → (∀ i, i < k → x.testBit i = false → g.testBit i = true → l i ≤ v) → costF l x k + v * sizeF g k ≤ costF l g k + v * sizeF x k → ∀ i, i < k → x.testBit i ≠ g.testBit i → l i = v := by
  intro k
  induction k with
  | zero => intro _ _ _ i hi; omega
  | succ k ih =>
    intro h1 h2 h3 i hi hne
    have h6 := cost_price (l := l) (x := x) (g := g) (v := v) k (fun i hi => h1 i (by omega)) (fun i hi => h2 i (by omega))
    have h4 := h1 k (by omega)
    have h5 := h2 k (by omega)
    simp only [costF, sizeF, Nat.mul_add] at h3
    have h7 : costF l x k + v * sizeF g k ≤ costF l g k + v * sizeF x k ∧ (x.testBit k ≠ g.testBit k → l k = v) := by
      cases hx : x.testBit k <;> cases hg : g.testBit k <;> rw [hx, hg] at h4 h5 h3 <;> simp at h4 h5 h3 ⊢ <;> omega
    by_cases hik : i = k
    · subst hik; exact h7.2 hne
    · exact ih (fun i hi => h1 i (by omega)) (fun i hi => h2 i (by omega)) h7.1 i (by omega) hne
/-- best among the masks of o that P allows: most, then cheapest, then least -/
def Best (n : Nat → Int32) (c : Int) (o b : Nat) : Prop :=
  sub_ b o ∧ (b = 0 ∨ (cost n b : Int) ≤ c) ∧ ∀ y, sub_ y o → y ≠ 0 → (cost n y : Int) ≤ c → sizeF y 12 < sizeF b 12 ∨ (sizeF y 12 = sizeF b 12 ∧ (cost n b < cost n y ∨ (cost n b = cost n y ∧ b ≤ y)))
theorem size_pos {y : Nat} (hy : y < 4096) (h0 : y ≠ 0) : 0 < sizeF y 12 := by
  rw [← pop_size hy]
  apply Nat.pos_of_ne_zero
  intro e
  exact h0 (pop_0.mp e)
theorem size_0 : sizeF 0 12 = 0 := by decide
theorem best_uniq {n : Nat → Int32} {c : Int} {o a b : Nat} (ho : o < 4096) (ha : Best n c o a) (hb : Best n c o b) : a = b := by
  obtain ⟨a1, a2, a3⟩ := ha
  obtain ⟨b1, b2, b3⟩ := hb
  have hla := sub_le a1
  have hlb := sub_le b1
  by_cases h0 : a = 0
  · by_cases h1 : b = 0
    · rw [h0, h1]
    · have h2 := a3 b b1 h1 (by rcases b2 with h | h; exact absurd h h1; exact h)
      have := size_pos (by omega) h1
      rw [h0, size_0] at h2
      omega
  · by_cases h1 : b = 0
    · have h2 := b3 a a1 h0 (by rcases a2 with h | h; exact absurd h h0; exact h)
      have := size_pos (by omega) h0
      rw [h1, size_0] at h2
      omega
    · have h2 := a3 b b1 h1 (by rcases b2 with h | h; exact absurd h h1; exact h)
      have h3 := b3 a a1 h0 (by rcases a2 with h | h; exact absurd h h0; exact h)
      omega
/-- the greedy choice is best -/
theorem greedy_best {n : Nat → Int32} {c : Int} {o g : Nat} (ho : o < 4096) (hg : sub_ g o) (hc : g = 0 ∨ (cost n g : Int) ≤ c)
    (hd : ∀ i j, g.testBit i = true → o.testBit j = true → g.testBit j = false → lc n i < lc n j ∨ (lc n i = lc n j ∧ i < j))
    (hs : g = o ∨ ∃ u, o.testBit u = true ∧ g.testBit u = false ∧ (∀ j, o.testBit j = true → g.testBit j = false → lc n u ≤ lc n j) ∧ c < (cost n g : Int) + lc n u) : Best n c o g := by
  have hbit : ∀ x, sub_ x o → ∀ i, x.testBit i = true → o.testBit i = true := by
    intro x hx i h
    unfold sub_ at hx
    rw [← hx, Nat.testBit_and] at h
    simp only [Bool.and_eq_true] at h
    exact h.2
  refine ⟨hg, hc, ?_⟩
  intro y hy hy0 hyc
  have hyl := sub_le hy
  have hgl := sub_le hg
  by_cases hsz : sizeF y 12 ≤ sizeF g 12
  · by_cases hsz2 : sizeF y 12 < sizeF g 12
    · exact Or.inl hsz2
    · have hse : sizeF y 12 = sizeF g 12 := by omega
      refine Or.inr ⟨hse, ?_⟩
      by_cases hyg : y = g
      · subst hyg; exact Or.inr ⟨rfl, Nat.le_refl _⟩
      · -- the highest difference
        have hg0 : g ≠ 0 := by
          intro e
          have := size_pos (by omega : y < 4096) hy0
          rw [hse, e, size_0] at this
          omega
        -- a price between
        have hv : ∃ v, (∀ i, g.testBit i = true → lc n i ≤ v) ∧ (∀ j, o.testBit j = true → g.testBit j = false → v ≤ lc n j) := by
          by_cases hgo : ∃ j, o.testBit j = true ∧ g.testBit j = false
          · obtain ⟨j0, h1, h2⟩ := hgo
            have hmin : ∃ j, (o.testBit j = true ∧ g.testBit j = false) ∧ ∀ k, o.testBit k = true → g.testBit k = false → lc n j ≤ lc n k := by
              have key : ∀ b j, o.testBit j = true → g.testBit j = false → lc n j ≤ b → ∃ j, (o.testBit j = true ∧ g.testBit j = false) ∧ ∀ k, o.testBit k = true → g.testBit k = false → lc n j ≤ lc n k := by
                intro b
                induction b with
                | zero => intro j h1 h2 h3; exact ⟨j, ⟨h1, h2⟩, fun k _ _ => by omega⟩
                | succ b ih =>
                  intro j h1 h2 h3
                  by_cases hex : ∃ k, o.testBit k = true ∧ g.testBit k = false ∧ lc n k < lc n j
                  · obtain ⟨k, k1, k2, k3⟩ := hex
                    exact ih k k1 k2 (by omega)
                  · refine ⟨j, ⟨h1, h2⟩, fun k k1 k2 => ?_⟩
                    apply Nat.le_of_not_lt
                    intro h
                    exact hex ⟨k, k1, k2, h⟩
              exact key _ j0 h1 h2 (Nat.le_refl _)
            obtain ⟨j, ⟨h3, h4⟩, h5⟩ := hmin
            refine ⟨lc n j, fun i hi => ?_, h5⟩
            have := hd i j hi h3 h4
            omega
          · exfalso
            apply hyg
            -- g = o, y as large
            have hgo' : g = o := by
              apply Nat.eq_of_testBit_eq
              intro i
              cases h : o.testBit i with
              | false =>
                cases h2 : g.testBit i with
                | false => rfl
                | true => rw [hbit g hg i h2] at h; cases h
              | true =>
                cases h2 : g.testBit i with
                | true => rfl
                | false => exact absurd ⟨i, h, h2⟩ hgo
            subst hgo'
            have key : ∀ k, k ≤ 12 → sizeF y k ≤ sizeF g k ∧ (sizeF y k = sizeF g k → ∀ i, i < k → y.testBit i = g.testBit i) := by
              intro k
              induction k with
              | zero => intro _; exact ⟨Nat.le_refl _, fun _ i hi => by omega⟩
              | succ k ih =>
                intro hk
                obtain ⟨i1, i2⟩ := ih (by omega)
                simp only [sizeF]
                cases hx : y.testBit k with
                | false =>
                  cases hgg : g.testBit k with
                  | false =>
                    simp
                    refine ⟨i1, fun e i hi => ?_⟩
                    by_cases hik : i = k
                    · rw [hik, hx, hgg]
                    · exact i2 e i (by omega)
                  | true => simp; omega
                | true =>
                  rw [hbit y hy k hx]
                  simp
                  refine ⟨i1, fun e i hi => ?_⟩
                  by_cases hik : i = k
                  · rw [hik, hx, hbit y hy k hx]
                  · exact i2 e i (by omega)
            apply Nat.eq_of_testBit_eq
            intro i
            by_cases hi : i < 12
            · exact (key 12 (Nat.le_refl _)).2 hse i hi
            · have hp : 2 ^ 12 ≤ 2 ^ i := Nat.pow_le_pow_right (by decide) (by omega)
              rw [Nat.testBit_lt_two_pow (by omega), Nat.testBit_lt_two_pow (by omega)]
        obtain ⟨v, hv1, hv2⟩ := hv
        have hA : ∀ i, i < 12 → y.testBit i = true → g.testBit i = false → v ≤ lc n i := fun i _ h1 h2 => hv2 i (hbit y hy i h1) h2
        have hB : ∀ i, i < 12 → y.testBit i = false → g.testBit i = true → lc n i ≤ v := fun i _ _ h2 => hv1 i h2
        have hp := cost_price (l := lc n) (x := y) (g := g) (v := v) 12 hA hB
        rw [hse] at hp
        have hle : cost n g ≤ cost n y := by unfold cost; omega
        by_cases hlt : cost n g < cost n y
        · exact Or.inl hlt
        · have hce : cost n g = cost n y := by omega
          refine Or.inr ⟨hce, ?_⟩
          have hsame := cost_same (l := lc n) (x := y) (g := g) (v := v) 12 hA hB (by rw [hse]; unfold cost at hce; omega)
          -- all differing ones cost v: those of g are below those of y
          apply Nat.le_of_not_lt
          intro hlt2
          -- highest differing bit
          have hex : ∃ t, t < 12 ∧ y.testBit t ≠ g.testBit t ∧ ∀ i, t < i → y.testBit i = g.testBit i := by
            have key : ∀ k, k ≤ 12 → (∀ i, k ≤ i → y.testBit i = g.testBit i) → (∃ i, y.testBit i ≠ g.testBit i) → ∃ t, t < 12 ∧ y.testBit t ≠ g.testBit t ∧ ∀ i, t < i → y.testBit i = g.testBit i := by
              intro k
              induction k with
              | zero => intro _ h ⟨i, hi⟩; exact absurd (h i (by omega)) hi
              | succ k ih =>
                intro hk h hx
                by_cases he : y.testBit k = g.testBit k
                · exact ih (by omega) (fun i hi => by by_cases h9 : i = k; rw [h9, he]; exact h i (by omega)) hx
                · exact ⟨k, by omega, he, fun i hi => h i (by omega)⟩
            refine key 12 (Nat.le_refl _) (fun i hi => ?_) ?_
            · have hp : 2 ^ 12 ≤ 2 ^ i := Nat.pow_le_pow_right (by decide) (by omega)
              rw [Nat.testBit_lt_two_pow (by omega), Nat.testBit_lt_two_pow (by omega)]
            · apply Classical.byContradiction
              intro hno
              apply hyg
              apply Nat.eq_of_testBit_eq
              intro i
              apply Classical.byContradiction
              intro h
              exact hno ⟨i, h⟩
          obtain ⟨t, ht, hne, hhi⟩ := hex
          -- y < g: so g has t, y not
          have hgt : g.testBit t = true := by
            cases hgb : g.testBit t with
            | true => rfl
            | false =>
              exfalso
              have hyb : y.testBit t = true := by
                cases h : y.testBit t with
                | true => rfl
                | false => rw [h, hgb] at hne; exact absurd rfl hne
              have := lt_tb hgb hyb (fun j hj => (hhi j hj).symm)
              omega
          have hyt : y.testBit t = false := by
            cases h : y.testBit t with
            | false => rfl
            | true => rw [h, hgt] at hne; exact absurd rfl hne
          -- some other differing bit is y's, as they are as many; it costs v too, and is behind t
          have hex2 : ∃ j, j < 12 ∧ y.testBit j = true ∧ g.testBit j = false := by
            apply Classical.byContradiction
            intro hno
            have key : ∀ k, k ≤ 12 → sizeF y k ≤ sizeF g k ∧ (t < k → sizeF y k < sizeF g k) := by
              intro k
              induction k with
              | zero => intro _; exact ⟨Nat.le_refl _, fun h => by omega⟩
              | succ k ih =>
                intro hk
                obtain ⟨i1, i2⟩ := ih (by omega)
                simp only [sizeF]
                cases hx : y.testBit k with
                | false =>
                  cases hgg : g.testBit k with
                  | false =>
                    simp
                    refine ⟨i1, fun h => ?_⟩
                    have : t ≠ k := fun e => by rw [e, hgg] at hgt; cases hgt
                    exact i2 (by omega)
                  | true => simp; omega
                | true =>
                  cases hgg : g.testBit k with
                  | false => exact absurd ⟨k, by omega, hx, hgg⟩ hno
                  | true =>
                    simp
                    refine ⟨i1, fun h => ?_⟩
                    have : t ≠ k := fun e => by rw [e, hx] at hyt; cases hyt
                    exact i2 (by omega)
            have := (key 12 (Nat.le_refl _)).2 ht
            omega
          obtain ⟨j, hj, hyj, hgj⟩ := hex2
          have hjt : j < t := by
            apply Nat.lt_of_le_of_ne
            · apply Nat.le_of_not_lt
              intro h
              have := hhi j h
              rw [hyj, hgj] at this
              cases this
            · intro e; rw [e, hyt] at hyj; cases hyj
          have e1 := hsame t ht (by rw [hyt, hgt]; simp)
          have e2 := hsame j hj (by rw [hyj, hgj]; simp)
          have := hd t j hgt (hbit y hy j hyj) hgj
          omega
  · -- more than g: too dear
    exfalso
    rcases hs with hs | ⟨u, hu1, hu2, hu3, hu4⟩
    · subst hs
      have key : ∀ k, sizeF y k ≤ sizeF g k := by
        intro k
        induction k with
        | zero => exact Nat.le_refl _
        | succ k ih =>
          simp only [sizeF]
          cases hx : y.testBit k with
          | false => simp; omega
          | true => rw [hbit y hy k hx]; simp; exact ih
      exact hsz (key 12)
    · have hA : ∀ i, i < 12 → y.testBit i = true → g.testBit i = false → lc n u ≤ lc n i := fun i _ h1 h2 => hu3 i (hbit y hy i h1) h2
      have hB : ∀ i, i < 12 → y.testBit i = false → g.testBit i = true → lc n i ≤ lc n u := fun i _ _ h2 => by
        have := hd i u h2 hu1 hu2
        omega
      have hp := cost_price (l := lc n) (x := y) (g := g) (v := lc n u) 12 hA hB
      have hm : lc n u * (sizeF g 12 + 1) ≤ lc n u * sizeF y 12 := Nat.mul_le_mul_left _ (by omega)
      rw [Nat.mul_add, Nat.mul_one] at hm
      have : cost n g + lc n u ≤ cost n y := by unfold cost; omega
      omega
