/-! THE BEGINNING -/
def zI : Nat → Int32
  | 28 => -1
  | 31 => -1
  | _ => nI 0
def zA : Nat → Nat → Int32
  | 2 => upd (upd (fun _ => 0) 2 (nI 1)) 3 (nI 5)
  | _ => fun _ => 0
set_option maxRecDepth 100000 in
theorem j184_0 (d sl : Nat) : R (d + 1) 184 (0, [some (.ref 0)], [], sl, [.inr (11, [.int (nI 0), .null, .int (nI 0), .int (nI 0), .int (nI 0), .int (nI 0), .int (nI 0), .int (nI 0), .int (nI 0), .int (nI 0), .int (nI 0), .int (nI 0), .long 0, .int (nI 0), .null, .null, .null, .null, .null, .null, .null, .null, .null, .int (nI 0), .int (nI 0), .null, .null, .int (nI 0), .int (nI 0), .null, .null, .int (nI 0), .null, .int (nI 0), .int (nI 0), .null, .null, .int (nI 0), .int (nI 0), .null, .int (nI 0), .int (nI 0), .int (nI 0), .int (nI 0)])]) = bC (C d 185 [.ref 0] (sl + 940 + 369 + 70 + 738 + 456 + 57 + 6 + 6 + 12 + 2 + 6 + 6 + 64 + 64 + 64 + 160 + 4 + 240) (RH zI 0 zA (fun _ _ => 0))) (fun vs sl h => R (d + 1) 184 (180, [some (.ref 0)], vs ++ [], sl, h)) :=
  (R_gob [180] 400 _ _ _).trans rfl
set_option maxRecDepth 100000 in
theorem j184_1 (d sl : Nat) (h : List AC) : R (d + 1) 184 (180, [some (.ref 0)], [], sl, h) = some (180, [some (.ref 0)], [], sl, h) :=
  (R_gob [] 400 _ _ _).trans rfl
theorem j184A (d sl : Nat) : ∃ f, C (d + 1) 184 [.ref 0] sl [.inr (11, [.int (nI 0), .null, .int (nI 0), .int (nI 0), .int (nI 0), .int (nI 0), .int (nI 0), .int (nI 0), .int (nI 0), .int (nI 0), .int (nI 0), .int (nI 0), .long 0, .int (nI 0), .null, .null, .null, .null, .null, .null, .null, .null, .null, .int (nI 0), .int (nI 0), .null, .null, .int (nI 0), .int (nI 0), .null, .null, .int (nI 0), .null, .int (nI 0), .int (nI 0), .null, .null, .int (nI 0), .int (nI 0), .null, .int (nI 0), .int (nI 0), .int (nI 0), .int (nI 0)])] = some ([], sl + 3264, RH zI 0 (up1 zA 2 f) (fun _ _ => 0)) ∧ Nst (zA 2) f := by
  obtain ⟨f, h1, h2⟩ := c185 d (sl + 3264) zI 0 zA (fun _ _ => 0)
  refine ⟨f, ?_, h2⟩
  have e : sl + 940 + 369 + 70 + 738 + 456 + 57 + 6 + 6 + 12 + 2 + 6 + 6 + 64 + 64 + 64 + 160 + 4 + 240 = sl + 3264 := by omega
  rw [e184, j184_0, e, h1, b_some, List.nil_append, j184_1]
  rfl
def zC : Nat → Nat → Int32
  | 0, 14 => -1
  | 0, 15 => -1
  | 0, _ => nI 0
  | 1, _ => nI 0
  | _, 10 => nI 1
  | _, 11 => nI 5
  | _, _ => nI 0
def zV : Nat → Nat → Option Nat
  | 22 => (va_up (va_up (va_up (va_up (va_up (va_up (va_up (va_up (fun _ => none) 0 (some 23)) 1 (some 32)) 2 (some 41)) 3 (some 50)) 4 (some 59)) 5 (some 68)) 6 (some 77)) 7 (some 86))
  | 116 => (va_up (va_up (fun _ => none) 0 (some 120)) 1 (some 133))
  | 117 => (va_up (va_up (fun _ => none) 0 (some 129)) 1 (some 142))
  | _ => fun _ => none
set_option maxRecDepth 100000 in
theorem c114 (d sl : Nat) : C (d + 2) 114 [.ref 0] sl [.inr (10, [.null, .null, .null, .null, .null, .null, .null, .null, .null, .null, .null, .null, .null, .int (nI 0), .int (nI 0), .int (nI 0)])] = some ([], sl + 2865, CH zC (fun _ _ => 0) (fun _ _ => 0) zV 0 none 108 112 []) := (j114A d sl).trans rfl
theorem Rl_init {f : Nat → Int32} (hf : Nst (zA 2) f) : Rl zC (fun _ _ => 0) (fun _ _ => 0) zV 108 112 zI (up1 zA 2 f) (fun _ _ => 0) := by
  obtain ⟨f1, f2, f3, f4, f5, f6, f7⟩ := hf
  have hb : ∀ q, q ≠ 2 → up1 zA 2 f q = zA q := fun q hq => up1_n hq
  have hz : ∀ k, 4 ≤ k → zA 2 k = nI 0 := fun k hk => by
    show upd (upd (fun _ => 0) 2 (nI 1)) 3 (nI 5) k = nI 0
    rw [upd_n (by omega), upd_n (by omega)]
    rfl
  refine ⟨0, 0, ⟨?_, ?_, ?_, fun h hh => absurd hh (by omega)⟩, ⟨0, 0, RPx_0 (by decide) rfl rfl rfl⟩, ⟨0, by omega, rfl, rfl, fun k hk => absurd hk (by omega)⟩, ⟨⟨rfl, rfl, rfl⟩, ⟨0, by omega, rfl, rfl, fun k hk => absurd hk (by omega)⟩, ⟨0, by omega, rfl, rfl, fun k hk => absurd hk (by omega)⟩, ⟨false, rfl, rfl, fun h => absurd h (by decide)⟩⟩, fun k hk => ⟨false, rfl, ?_, fun h => absurd h (by decide)⟩, ⟨fun j hj => ?_, rfl, rfl, rfl, rfl⟩, Or.inl ⟨rfl, rfl⟩, Or.inl ⟨?_, rfl⟩⟩
  · rw [up1_s]
    refine ⟨⟨rfl, rfl, by omega, by omega⟩, ⟨?_, ?_, ?_, ?_⟩, fun h hh => absurd hh (by omega), fun h hh => absurd hh (by omega), fun h hh => absurd hh (by omega), fun h hh => absurd hh (by omega), fun h hh => absurd hh (by omega), fun h hh => absurd hh (by omega), fun h hh => absurd hh (by omega)⟩
    · rw [f1 2 (by decide)]; rfl
    · rw [f1 3 (by decide)]; rfl
    · rw [f2]; rfl
    · rw [f3]; rfl
  · rw [up1_s]
    refine ⟨⟨?_, ?_, by omega, by omega⟩, ⟨1, by decide, ?_⟩, ⟨5, by decide, by decide, ?_⟩, fun h hh => absurd hh (by omega), fun h hh => absurd hh (by omega), fun h hh => absurd hh (by omega), fun h hh => absurd hh (by omega), fun h hh => absurd hh (by omega), fun h hh => absurd hh (by omega), fun k k1 k2 => ?_, fun h h1 h2 => ?_⟩
    · rw [f1 0 (by decide)]; rfl
    · rw [f4]; rfl
    · rw [f1 2 (by decide)]; rfl
    · rw [f1 3 (by decide)]; rfl
    · have := f6 (24 + k) (by omega)
      rw [show 79 + (24 + k) = 103 + k by omega] at this
      rw [this]
      exact hz _ (by omega)
    · rw [f5 h h2]
      exact hz _ (by omega)
  · rw [up1_s]
    exact ⟨0, by decide, f2⟩
  · rw [hb 10 (by decide)]; rfl
  · rcases (show j = 0 ∨ j = 1 ∨ j = 2 ∨ j = 3 ∨ j = 4 ∨ j = 5 ∨ j = 6 ∨ j = 7 by omega) with rfl | rfl | rfl | rfl | rfl | rfl | rfl | rfl <;> rfl
  · rw [up1_s]; exact f7
