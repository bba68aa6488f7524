/-! THE REFERENCE'S SMALL METHODS -/
section RF1
variable (d sl : Nat) (I : Nat → Int32) (w : Int64) (A : Nat → Nat → Int32) (N : Nat → Nat → Int64)
theorem c166 (a b c : Int32) : C d 166 [.int a, .int b, .int c] sl (RH I w A N) = some ([.int (x_b (decide (b ≤ a) && decide (a ≤ c)))], sl, RH I w A N) := by
  refine C_b (pc2 := 15) (ls2 := [some (.int a), some (.int b), some (.int c)]) ((m166_0 d sl I w A N a b c).trans ?_) rfl rfl
  by_cases h1 : a < b
  · have : ¬ b ≤ a := Int32.not_le.mpr h1
    simp [h1, this, x_b]
  · have h1' : b ≤ a := Int32.not_lt.mp h1
    by_cases h2 : c < a
    · have : ¬ a ≤ c := Int32.not_le.mpr h2
      simp [h1, h1', h2, this, x_b]
    · have h2' : a ≤ c := Int32.not_lt.mp h2
      simp [h1, h1', h2, h2', x_b]
theorem c167 (a b : Int32) : C d 167 [.int a, .int b] sl (RH I w A N) = some ([.int (x_b (decide ((a >>> (b &&& 31)) &&& 1 = 1)))], sl, RH I w A N) := by
  refine C_b (pc2 := 14) (ls2 := [some (.int a), some (.int b)]) ((m167_0 d sl I w A N a b).trans ?_) rfl rfl
  by_cases h1 : (a >>> (b &&& 31)) &&& 1 = 1 <;> simp [h1, x_b]
theorem c169 (a b : Int32) : C d 169 [.int a, .int b] sl (RH I w A N) = some ([.int (if a < b then a else b)], sl, RH I w A N) := by
  refine C_i (pc2 := 10) (ls2 := [some (.int a), some (.int b)]) ((m169_0 d sl I w A N a b).trans ?_) rfl rfl
  by_cases h1 : b ≤ a
  · have : ¬ a < b := Int32.not_lt.mpr h1
    simp [h1, this]
  · have : a < b := Int32.not_le.mp h1
    simp [h1, this]
/-- is debt k open -/
def op_ (n : Nat → Int32) (k : Nat) : Bool := decide (0 < n (103 + k))
theorem c198 {k : Nat} (hk : k < 12) : C d 198 [.ref 0, .int (nI k)] sl (RH I w A N) = some ([.int (x_b (op_ (A 2) k))], sl, RH I w A N) := by
  refine C_b (pc2 := 17) (ls2 := [some (.ref 0), some (.int (nI k))]) ((m198_0 d sl I w A N (nI k)).trans ?_) rfl rfl
  rw [n_la, xin_n (by omega) (by decide), nI_clamp (by omega)]
  by_cases h1 : A 2 (103 + k) ≤ 0
  · have : ¬ 0 < A 2 (103 + k) := Int32.not_lt.mpr h1
    simp [h1, this, x_b, op_]
  · have : 0 < A 2 (103 + k) := Int32.not_le.mp h1
    simp [h1, this, x_b, op_]
/-- what is left of the debts of h, by the row b -/
def sum_ (n : Nat → Int32) (b m : Nat) (h : Int32) : Int32 := x_it (fun k s => if n (b + k) = h then s + n (103 + k) else s) 0 m 0
theorem c200 {b m : Nat} (hb : b ≤ 200) (hm : m ≤ 12) (hD : A 2 72 = nI m) (h : Int32) : C d 200 [.ref 0, .int (nI b), .int h] sl (RH I w A N) = some ([.int (sum_ (A 2) b m h)], sl, RH I w A N) := by
  have key := x_loop (fun k s => R d 200 (5, [some (.ref 0), some (.int (nI b)), some (.int h), some (.int s), some (.int (nI k))], [], sl, RH I w A N)) (fun k s => if A 2 (b + k) = h then s + A 2 (103 + k) else s) m (fun _ _ => True) (fun k s hk _ => by
    refine ⟨?_, trivial⟩
    rw [m200_5]
    rw [show ((72 : Int32).toNatClampNeg) = 72 from by decide, hD, dle_n (by omega) (by omega), decide_eq_false (by omega), n_la, nI_add, xin_n (by omega) (by decide), nI_clamp (by omega), xin_n (by omega) (by decide), nI_clamp (by omega), n_al]
    by_cases h1 : A 2 (b + k) = h <;> simp [h1]) m 0 0 (by omega) trivial
  refine C_i (pc2 := 50) (ls2 := [some (.ref 0), some (.int (nI b)), some (.int h), some (.int (sum_ (A 2) b m h)), some (.int (nI m))]) ((m200_0 d sl I w A N (nI b) h).trans ?_) rfl rfl
  refine key.trans ?_
  dsimp only
  rw [m200_5]
  rw [show ((72 : Int32).toNatClampNeg) = 72 from by decide, hD, dle_n (by omega) (by omega), decide_eq_true (Nat.le_refl m)]
  rfl
end RF1
