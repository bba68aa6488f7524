/-! WALKS AND RINGS -/
def Wk (E : Nat → Nat → Bool) (H h : Nat) : Nat → Nat → Prop
  | 0, a => a = h
  | k + 1, a => ∃ b, b < H ∧ E a b = true ∧ Wk E H h k b
def Ds (E : Nat → Nat → Bool) (H h k a : Nat) : Prop := Wk E H h k a ∧ ∀ j, j < k → ¬ Wk E H h j a
/-- the shortest ring -/
def RG (E : Nat → Nat → Bool) (H h k : Nat) : Prop := 1 ≤ k ∧ Wk E H h k h ∧ ∀ j, 1 ≤ j → j < k → ¬ Wk E H h j h
/-- how far, over one step at least; 100000: never -/
def Fa (E : Nat → Nat → Bool) (H h a f : Nat) : Prop := (f = 100000 ∧ ∀ k, 1 ≤ k → ¬ Wk E H h k a) ∨ (1 ≤ f ∧ f ≤ H ∧ Wk E H h f a ∧ ∀ j, 1 ≤ j → j < f → ¬ Wk E H h j a)
theorem inj_le : ∀ (H K : Nat) (f : Nat → Nat), (∀ i, i < K → f i < H) → (∀ i j, i < K → j < K → f i = f j → i = j) → K ≤ H := by
  intro H
  induction H with
  | zero =>
    intro K f h1 _
    cases K with
    | zero => omega
    | succ K =>
      have := h1 0 (by omega)
      omega
  | succ H ih =>
    intro K f h1 h2
    cases K with
    | zero => omega
    | succ K =>
      have := ih K (fun i => if f i = H then f K else f i) (fun i hi => by
        show (if f i = H then f K else f i) < H
        have e1 := h1 i (by omega)
        have e2 := h1 K (by omega)
        split
        · rename_i e
          have : f K ≠ H := fun e' => by
            have := h2 i K (by omega) (by omega) (by rw [e, e'])
            omega
          omega
        · omega) (fun i j hi hj e => by
        have e : (if f i = H then f K else f i) = (if f j = H then f K else f j) := e
        by_cases hi' : f i = H
        · by_cases hj' : f j = H
          · exact h2 i j (by omega) (by omega) (by rw [hi', hj'])
          · rw [if_pos hi', if_neg hj'] at e
            have := h2 K j (by omega) (by omega) e
            omega
        · by_cases hj' : f j = H
          · rw [if_neg hi', if_pos hj'] at e
            have := h2 i K (by omega) (by omega) e
            omega
          · rw [if_neg hi', if_neg hj'] at e
            exact h2 i j (by omega) (by omega) e)
      omega
section GR
variable {E : Nat → Nat → Bool} {H h : Nat}
theorem Ds_ex {a : Nat} : ∀ k, Wk E H h k a → ∃ j, j ≤ k ∧ Ds E H h j a := by
  intro k
  induction k using Nat.strongRecOn with
  | ind k ih =>
    intro hw
    by_cases hx : ∃ j, j < k ∧ Wk E H h j a
    · obtain ⟨j, hj, hw'⟩ := hx
      obtain ⟨i, hi, hd⟩ := ih j hj hw'
      exact ⟨i, by omega, hd⟩
    · exact ⟨k, Nat.le_refl k, hw, fun j hj hw' => hx ⟨j, hj, hw'⟩⟩
theorem Ds_uniq {a j k : Nat} (h1 : Ds E H h j a) (h2 : Ds E H h k a) : j = k := by
  apply Nat.le_antisymm
  · apply Nat.le_of_not_lt
    intro hl
    exact h1.2 k hl h2.1
  · apply Nat.le_of_not_lt
    intro hl
    exact h2.2 j hl h1.1
theorem Ds_next {k a : Nat} (hd : Ds E H h (k + 1) a) : ∃ b, b < H ∧ E a b = true ∧ Ds E H h k b := by
  obtain ⟨b, hb, he, hw⟩ := hd.1
  exact ⟨b, hb, he, hw, fun j hj hw' => hd.2 (j + 1) (by omega) ⟨b, hb, he, hw'⟩⟩
theorem Ds_chain : ∀ k a, a < H → Ds E H h k a → ∀ i, i ≤ k → ∃ v, v < H ∧ Ds E H h i v := by
  intro k
  induction k with
  | zero =>
    intro a ha hd i hi
    have : i = 0 := by omega
    subst this
    exact ⟨a, ha, hd⟩
  | succ k ih =>
    intro a ha hd i hi
    by_cases hik : i = k + 1
    · subst hik
      exact ⟨a, ha, hd⟩
    · obtain ⟨b, hb, -, hdb⟩ := Ds_next hd
      exact ih b hb hdb i (by omega)
theorem Ds_lt {k a : Nat} (ha : a < H) (hd : Ds E H h k a) : k < H := by
  have hc : ∀ i, ∃ v, i ≤ k → v < H ∧ Ds E H h i v := fun i => by
    by_cases hi : i ≤ k
    · obtain ⟨v, h1, h2⟩ := Ds_chain k a ha hd i hi
      exact ⟨v, fun _ => ⟨h1, h2⟩⟩
    · exact ⟨0, fun h => absurd h hi⟩
  have hf : ∃ f : Nat → Nat, ∀ i, i ≤ k → f i < H ∧ Ds E H h i (f i) := ⟨fun i => Classical.choose (hc i), fun i => Classical.choose_spec (hc i)⟩
  obtain ⟨f, hf⟩ := hf
  have := inj_le H (k + 1) f (fun i hi => (hf i (by omega)).1) (fun i j hi hj e => by
    have h1 := (hf i (by omega)).2
    have h2 := (hf j (by omega)).2
    rw [e] at h1
    exact Ds_uniq h1 h2)
  omega
/-- a walk of one step at least can be as short as there are houses -/
theorem Wk_short {k a : Nat} (hw : Wk E H h (k + 1) a) : ∃ j, j ≤ k ∧ j < H ∧ Wk E H h (j + 1) a := by
  obtain ⟨b, hb, he, hw'⟩ := hw
  obtain ⟨j, hj, hd⟩ := Ds_ex k hw'
  exact ⟨j, hj, Ds_lt hb hd, b, hb, he, hd.1⟩
theorem RG_next {k : Nat} (hr : RG E H h (k + 1)) : ∃ b, b < H ∧ E h b = true ∧ Ds E H h k b := by
  obtain ⟨-, ⟨b, hb, he, hw⟩, hmin⟩ := hr
  refine ⟨b, hb, he, hw, fun j hj hw' => ?_⟩
  exact hmin (j + 1) (by omega) (by omega) ⟨b, hb, he, hw'⟩
theorem RG_le {k : Nat} (hr : RG E H h k) : k ≤ H := by
  have h1 := hr.1
  obtain ⟨k, rfl⟩ : ∃ j, k = j + 1 := ⟨k - 1, by omega⟩
  obtain ⟨b, hb, -, hd⟩ := RG_next hr
  exact Ds_lt hb hd
theorem RG_uniq {j k : Nat} (h1 : RG E H h j) (h2 : RG E H h k) : j = k := by
  apply Nat.le_antisymm
  · apply Nat.le_of_not_lt
    intro hl
    exact h1.2.2 k h2.1 hl h2.2.1
  · apply Nat.le_of_not_lt
    intro hl
    exact h2.2.2 j h1.1 hl h1.2.1
/-- far and near are the same but for the goal -/
theorem Fa_Ds {a f : Nat} (hf : Fa E H h a f) (ha : a ≠ h) (hH : H ≤ 6) {k : Nat} (hk : k < 100000) : f = k ↔ Ds E H h k a := by
  constructor
  · rintro rfl
    rcases hf with ⟨e, -⟩ | ⟨h1, h2, h3, h4⟩
    · omega
    · refine ⟨h3, fun j hj hw => ?_⟩
      cases j with
      | zero => exact ha hw
      | succ j => exact h4 (j + 1) (by omega) hj hw
  · intro hd
    have hk0 : k ≠ 0 := by
      rintro rfl
      exact ha hd.1
    rcases hf with ⟨e, h1⟩ | ⟨h1, h2, h3, h4⟩
    · exact absurd hd.1 (h1 k (by omega))
    · apply Nat.le_antisymm
      · apply Nat.le_of_not_lt
        intro hl
        exact h4 k (by omega) hl hd.1
      · apply Nat.le_of_not_lt
        intro hl
        exact hd.2 f hl h3
theorem Fa_RG {f : Nat} (hf : Fa E H h h f) (hH : H ≤ 6) : (f < 100000 → RG E H h f) ∧ (¬ f < 100000 → ∀ k, ¬ RG E H h k) := by
  rcases hf with ⟨e, h1⟩ | ⟨h1, h2, h3, h4⟩
  · exact ⟨fun h => by omega, fun _ k hr => h1 k hr.1 hr.2.1⟩
  · exact ⟨fun _ => ⟨h1, h3, h4⟩, fun h => by omega⟩
/-- one step of the reference -/
def rlx (E : Nat → Nat → Bool) (a b : Nat) (f : Nat → Nat) : Nat → Nat := fun i => if E a b = true ∧ i = a then min (f a) (f b + 1) else f i
def rnd (E : Nat → Nat → Bool) (H : Nat) (f : Nat → Nat) : Nat → Nat := x_it (fun a f => x_it (fun b f => rlx E a b f) 0 H f) 0 H f
def far0 (E : Nat → Nat → Bool) (h : Nat) : Nat → Nat := fun a => if E a h = true then 1 else 100000
def farN (E : Nat → Nat → Bool) (H h : Nat) : Nat → Nat := x_it (fun _ f => rnd E H f) 0 6 (far0 E h)
def snd_ (E : Nat → Nat → Bool) (H h : Nat) (f : Nat → Nat) : Prop := ∀ a, a < H → f a = 100000 ∨ (1 ≤ f a ∧ f a < 100000 ∧ Wk E H h (f a) a)
def cpl_ (E : Nat → Nat → Bool) (H h r : Nat) (f : Nat → Nat) : Prop := ∀ a, a < H → ∀ k, 1 ≤ k → k ≤ r + 1 → Wk E H h k a → f a ≤ k
theorem rlx_le {a b : Nat} (f : Nat → Nat) (i : Nat) : rlx E a b f i ≤ f i := by
  unfold rlx
  split
  · rename_i e
    rw [e.2]
    exact Nat.min_le_left _ _
  · exact Nat.le_refl _
theorem rlx_snd {a b : Nat} {f : Nat → Nat} (hs : snd_ E H h f) (hb : b < H) : snd_ E H h (rlx E a b f) := by
  intro i hi
  unfold rlx
  split
  · rename_i e
    obtain ⟨e1, e2⟩ := e
    subst e2
    have h1 := hs i hi
    have h2 := hs b hb
    by_cases hm : f i ≤ f b + 1
    · rw [Nat.min_eq_left hm]
      exact h1
    · rw [Nat.min_eq_right (by omega)]
      rcases h2 with h2 | ⟨h2, h3, h4⟩
      · omega
      · by_cases h5 : f b + 1 = 100000
        · exact Or.inl h5
        · exact Or.inr ⟨by omega, by omega, b, hb, e1, h4⟩
  · exact hs i hi
theorem rnd_ok {f : Nat → Nat} (hs : snd_ E H h f) : snd_ E H h (rnd E H f) ∧ (∀ i, rnd E H f i ≤ f i) ∧ ∀ a b, a < H → b < H → E a b = true → rnd E H f a ≤ f b + 1 := by
  have := x_it_inv (f := fun a g => x_it (fun b g => rlx E a b g) 0 H g) (fun a g => snd_ E H h g ∧ (∀ i, g i ≤ f i) ∧ ∀ a' b, a' < a → b < H → E a' b = true → g a' ≤ f b + 1) H 0 f ⟨hs, fun _ => Nat.le_refl _, fun a' b h => by omega⟩ (fun a g _ ha hg => by
    have := x_it_inv (f := fun b g => rlx E a b g) (fun b g => snd_ E H h g ∧ (∀ i, g i ≤ f i) ∧ (∀ a' b', a' < a → b' < H → E a' b' = true → g a' ≤ f b' + 1) ∧ ∀ b', b' < b → E a b' = true → g a ≤ f b' + 1) H 0 g ⟨hg.1, hg.2.1, hg.2.2, fun b h => by omega⟩ (fun b g _ hb hp => by
      obtain ⟨p1, p2, p3, p4⟩ := hp
      refine ⟨rlx_snd p1 (by omega), fun i => Nat.le_trans (rlx_le g i) (p2 i), fun a' b' h1 h2 h3 => Nat.le_trans (rlx_le g a') (p3 a' b' h1 h2 h3), fun b' h1 h2 => ?_⟩
      by_cases hbb : b' = b
      · subst hbb
        have h3 : rlx E a b' g a = min (g a) (g b' + 1) := by
          unfold rlx
          rw [if_pos ⟨h2, rfl⟩]
        rw [h3]
        have := p2 b'
        have := Nat.min_le_right (g a) (g b' + 1)
        omega
      · exact Nat.le_trans (rlx_le g a) (p4 b' (by omega) h2))
    rw [Nat.zero_add] at this
    obtain ⟨p1, p2, p3, p4⟩ := this
    refine ⟨p1, p2, fun a' b h1 h2 h3 => ?_⟩
    by_cases haa : a' = a
    · subst haa
      exact p4 b h2 h3
    · exact p3 a' b (by omega) h2 h3)
  rw [Nat.zero_add] at this
  exact this
theorem farN_ok (hH : H ≤ 6) (hh : h < H) {a : Nat} (ha : a < H) : Fa E H h a (farN E H h a) := by
  have h0 : snd_ E H h (far0 E h) := by
    intro i hi
    unfold far0
    by_cases e : E i h = true
    · rw [if_pos e]
      exact Or.inr ⟨by omega, by omega, h, hh, e, rfl⟩
    · rw [if_neg e]
      exact Or.inl rfl
  have h1 : cpl_ E H h 0 (far0 E h) := by
    intro i hi k h1 h2 hw
    have : k = 1 := by omega
    subst this
    obtain ⟨b, hb, he, hbh⟩ := hw
    have hbh : b = h := hbh
    subst hbh
    unfold far0
    rw [if_pos he]
    omega
  have h6 := x_it_inv (f := fun (_ : Nat) f => rnd E H f) (fun r f => snd_ E H h f ∧ cpl_ E H h r f) 6 0 (far0 E h) ⟨h0, h1⟩ (fun r f _ _ hp => by
    obtain ⟨p1, p2⟩ := hp
    obtain ⟨q1, q2, q3⟩ := rnd_ok p1
    refine ⟨q1, fun i hi k hk1 hk2 hw => ?_⟩
    by_cases hk : k ≤ r + 1
    · exact Nat.le_trans (q2 i) (p2 i hi k hk1 hk hw)
    · obtain ⟨k, rfl⟩ : ∃ j, k = j + 1 := ⟨k - 1, by omega⟩
      obtain ⟨b, hb, he, hw'⟩ := hw
      have e1 := q3 i b hi hb he
      have e2 := p2 b hb k (by omega) (by omega) hw'
      omega)
  rw [Nat.zero_add] at h6
  obtain ⟨hs, hc⟩ := h6
  have hs := hs a ha
  have hc := hc a ha
  unfold farN
  generalize x_it (fun (_ : Nat) f => rnd E H f) 0 6 (far0 E h) a = f at hs hc
  have hsh : ∀ k, 1 ≤ k → Wk E H h k a → ∃ j, 1 ≤ j ∧ j ≤ k ∧ j ≤ H ∧ Wk E H h j a ∧ f ≤ j := by
    intro k hk hw
    obtain ⟨k, rfl⟩ : ∃ j, k = j + 1 := ⟨k - 1, by omega⟩
    obtain ⟨j, j1, j2, j3⟩ := Wk_short hw
    exact ⟨j + 1, by omega, by omega, by omega, j3, hc (j + 1) (by omega) (by omega) j3⟩
  rcases hs with hs | ⟨s1, s2, s3⟩
  · left
    refine ⟨hs, fun k hk hw => ?_⟩
    obtain ⟨j, j1, j2, j3, j4, j5⟩ := hsh k hk hw
    omega
  · right
    refine ⟨s1, ?_, s3, fun j hj1 hj2 hw => ?_⟩
    · obtain ⟨j, j1, j2, j3, j4, j5⟩ := hsh f s1 s3
      omega
    · obtain ⟨i, j1, j2, j3, j4, j5⟩ := hsh j hj1 hw
      omega
end GR
