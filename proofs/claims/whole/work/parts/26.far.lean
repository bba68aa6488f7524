/-! WORDS LIE BEYOND ALL CELLS -/
theorem x_at_far {α : Type} : ∀ (h : List α) (k : Nat), h.length ≤ k → x_at h k = none
  | [], _, _ => rfl
  | _ :: t, 0, hk => absurd hk (by simp)
  | _ :: t, k + 1, hk => x_at_far t k (by simp only [List.length_cons] at hk; omega)
theorem isw_le {a : Nat} (h : x_isw a = true) : 1000000 ≤ a ∧ a ≤ 1000020 := by
  unfold x_isw at h
  rw [Bool.and_eq_true] at h
  exact ⟨Nat.le_of_ble_eq_true h.1, Nat.le_of_ble_eq_true h.2⟩
set_option maxRecDepth 100000 in
theorem cl_far {I : Nat → Nat → Int32} {A : Nat → Nat → Int32} {N : Nat → Nat → Int64} {V : Nat → Nat → Option Nat} {lt : Int64} {tw : Option Nat} {sp sr : Nat} {X : List AC} (hX : Nat.ble X.length 1 = true) : (CH I A N V lt tw sp sr X).length ≤ 1000000 := by
  have h1 : (CH I A N V lt tw sp sr X).length = X.length + 146 := rfl
  have h2 := Nat.le_of_ble_eq_true hX
  omega
theorem R_dead31 (d : Nat) : R d 31 x_dead = none := (R_gob [] 1 _ _ _).trans rfl
theorem R_aas31 {d : Nat} {ls : XL} {st : List Value} {sl : Nat} {h h' : List AC} {a w m : Nat} {i : Int32} {f : Nat → Option Nat} (hk : xk 31 18 = (.aastore, 19, [], 0)) (ha : x_at h a = some (.inl (5, m, .inr (.inr (.inr (.inr f)))))) (hw : x_isw w = true) (hp : ∀ g : List AC → Option XO, x_pk h a (.inl (5, m, .inr (.inr (.inr (.inr (va_up f i.toNatClampNeg (some w))))))) g = g h') (hl : h.length ≤ 1000000) : R d 31 (18, ls, .ref w :: .int i :: .ref a :: st, sl, h) = cond (x_in i m) (R d 31 (19, ls, st, sl, h')) none := by
  have h1 : x_at h w = none := x_at_far h w (Nat.le_trans hl (isw_le hw).1)
  have h2 : x_aok h 5 w = true := by
    unfold x_aok
    rw [h1]
    show (Nat.beq 5 5 && x_isw w) = true
    rw [hw]
    rfl
  rw [stb_R]
  unfold stb
  dsimp only
  rw [hk]
  dsimp only [x_trm, dec]
  rw [ha]
  dsimp only
  rw [h2]
  dsimp only [cond_true]
  rw [hp]
  dsimp only [x_br]
  rw [R_dead31]
theorem dec_wc {q nx pc a j : Nat} {v : Int32} {ls : XL} {st : List Value} {sl : Nat} {h : List AC} (hj : j = 4 ∨ j = 5) (ha : x_isw a = true) (hc : Nat.ble (x_cat st) 8 = true) (hl : h.length ≤ 1000000) : dec (.invokevirtual q) nx [j, 1, 99] v pc ls (.ref a :: st) sl h = some (.inr (j, [.ref a], st)) := by
  have h1 : x_at h a = none := x_at_far h a (Nat.le_trans hl (isw_le ha).1)
  have h2 : x_rcv h 99 [.ref a] = true := by
    unfold x_rcv
    dsimp only
    rw [h1]
    show (Nat.beq 99 99 && x_isw a) = true
    rw [ha]
    rfl
  have h3 : dec (.invokevirtual q) nx [j, 1, 99] v pc ls (.ref a :: st) sl h = x_inv 1 (.ref a :: st) (cond (x_rcv h 99 [.ref a]) (some (.inr (j, [.ref a], st))) none) := by
    rcases hj with rfl | rfl <;> rfl
  rw [h3, h2]
  show cond (Nat.ble 1 (st.length + 1) && Nat.ble (x_cat st) 8) _ none = _
  rw [hc]
  rfl
theorem R_wc {d i pc : Nat} {ls : XL} {st : List Value} {sl : Nat} {h : List AC} {a q j : Nat} {nx : Nat} {v : Int32} (hk : xk i pc = (.invokevirtual q, nx, [j, 1, 99], v)) (ha : x_isw a = true) (hc : Nat.ble (x_cat st) 8 = true) (hl : h.length ≤ 1000000) (hj : j = 4 ∨ j = 5 := by decide) : R (d + 1) i (pc, ls, .ref a :: st, sl, h) = bC (C d j [.ref a] sl h) (fun vs sl h => R (d + 1) i (nx, ls, vs ++ st, sl, h)) := by
  rw [stb_R]
  unfold stb
  dsimp only
  rw [hk]
  dsimp only [x_trm]
  rw [dec_wc hj ha hc hl]
