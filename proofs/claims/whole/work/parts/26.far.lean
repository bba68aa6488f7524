/-! WORDS LIE BEYOND ALL CELLS -/
theorem x_at_far {α : Type} : ∀ (h : List α) (k : Nat), h.length ≤ k → x_at h k = none
  | [], _, _ => rfl
  | _ :: t, 0, hk => absurd hk (by simp)
  | _ :: t, k + 1, hk => x_at_far t k (by simp only [List.length_cons] at hk; omega)
theorem isw_le {a : Nat} (h : x_isw a = true) : 1000000 ≤ a ∧ a ≤ 1000020 := by
  unfold x_isw at h
  rw [Bool.and_eq_true] at h
  exact ⟨Nat.le_of_ble_eq_true h.1, Nat.le_of_ble_eq_true h.2⟩
set_option maxRecDepth 100000 in
theorem cl_far {I : Nat → Nat → Int32} {A : Nat → Nat → Int32} {N : Nat → Nat → Int64} {V : Nat → Nat → Option Nat} {lt : Int64} {tw : Option Nat} {sp sr : Nat} {X : List AC} (hX : Nat.ble X.length 1 = true) : (CH I A N V lt tw sp sr X).length ≤ 1000000 := by
  have h1 : (CH I A N V lt tw sp sr X).length = X.length + 146 := rfl
  have h2 := Nat.le_of_ble_eq_true hX
  omega
theorem R_dead31 (d : Nat) : R d 31 x_dead = none := (R_gob [] 1 _ _ _).trans rfl
theorem R_aas31 {d : Nat} {ls : XL} {st : List Value} {sl : Nat} {h h' : List AC} {a w m : Nat} {i : Int32} {f : Nat → Option Nat} (hk : xk 31 18 = (.aastore, 19, [], 0)) (ha : x_at h a = some (.inl (5, m, .inr (.inr (.inr (.inr f)))))) (hw : x_isw w = true) (hp : ∀ g : List AC → Option XO, x_pk h a (.inl (5, m, .inr (.inr (.inr (.inr (va_up f i.toNatClampNeg (some w))))))) g = g h') (hl : h.length ≤ 1000000) : R d 31 (18, ls, .ref w :: .int i :: .ref a :: st, sl, h) = cond (x_in i m) (R d 31 (19, ls, st, sl, h')) none := by
  have h1 : x_at h w = none := x_at_far h w (Nat.le_trans hl (isw_le hw).1)
  have h2 : x_aok h 5 w = true := by
    unfold x_aok
    rw [h1]
    show (Nat.beq 5 5 && x_isw w) = true
    rw [hw]
    rfl
  rw [stb_R]
  unfold stb
  dsimp only
  rw [hk]
  dsimp only [x_trm, dec]
  rw [ha]
  dsimp only
  rw [h2]
  dsimp only [cond_true]
  rw [hp]
  dsimp only [x_br]
  rw [R_dead31]
