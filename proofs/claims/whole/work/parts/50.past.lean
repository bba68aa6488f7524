/-! KEPT ROWS -/
theorem cpy_lt {α : Type} {f g : Nat → α} {n k : Nat} (h : k < n) : va_cpy f g 0 0 n k = f k := by
  unfold va_cpy
  rw [if_pos (by omega)]
  congr 1
  omega
section CL6
variable (d sl : Nat) (I : Nat → Nat → Int32) (A : Nat → Nat → Int32) (N : Nat → Nat → Int64) (V : Nat → Nat → Option Nat) (lt : Int64) (tw : Option Nat) (sp sr : Nat) (X : List AC)
/-- a shire has become another -/
def Bc (b a : Nat) (I A : Nat → Nat → Int32) (N : Nat → Nat → Int64) (I' A' : Nat → Nat → Int32) (N' : Nat → Nat → Int64) : Prop :=
  (∀ n H m, Sh I A a n H m → Sh I' A' b n H m) ∧ (∀ h, h < 6 → N' (b + 1) h = N (a + 1) h) ∧ (∀ p, p ≠ b → I' p = I p) ∧ (∀ q, (q < b + 2 ∨ b + 8 < q) → A' q = A q) ∧ (∀ q, q ≠ b + 1 → N' q = N q)
theorem q44_3_12 : ∃ I' A' N', C d 44 [.ref 3, .ref 12] sl (CH I A N V lt tw sp sr X) = some ([], sl, CH I' A' N' V lt tw sp sr X) ∧ Bc 3 12 I A N I' A' N' := by
  rw [e44, k44_r3_r12_0, t44_168]
  refine ⟨_, _, _, rfl, ?_, ?_, ?_, ?_, ?_⟩
  · intro n H m hS
    obtain ⟨⟨hH, hD, hH6, hm⟩, ⟨hg1, hg2, hy, hp⟩, hC, hIn, hCh, hW, hT, hL, hG⟩ := hS
    exact ⟨⟨hH, hD, hH6, hm⟩, ⟨hg1, hg2, hy, hp⟩, fun h hh => (cpy_lt (by omega)).trans (hC h hh), fun h hh => (cpy_lt (by omega)).trans (hIn h hh), fun h hh => (cpy_lt (by omega)).trans (hCh h hh), fun h hh => (cpy_lt (by omega)).trans (hW h hh), fun h hh => (cpy_lt (by omega)).trans (hT h hh), fun h hh => (cpy_lt (by omega)).trans (hL h hh), fun h hh => (cpy_lt (by omega)).trans (hG h hh)⟩
  · intro h hh
    exact cpy_lt (f := N (12 + 1)) hh
  · intro p hp
    exact up1_n hp
  · intro q hq
    rw [up1_n (by omega), up1_n (by omega), up1_n (by omega), up1_n (by omega), up1_n (by omega), up1_n (by omega), up1_n (by omega)]
  · intro q hq
    exact up1_n hq
theorem q44_12_3 : ∃ I' A' N', C d 44 [.ref 12, .ref 3] sl (CH I A N V lt tw sp sr X) = some ([], sl, CH I' A' N' V lt tw sp sr X) ∧ Bc 12 3 I A N I' A' N' := by
  rw [e44, k44_r12_r3_0, t44_168]
  refine ⟨_, _, _, rfl, ?_, ?_, ?_, ?_, ?_⟩
  · intro n H m hS
    obtain ⟨⟨hH, hD, hH6, hm⟩, ⟨hg1, hg2, hy, hp⟩, hC, hIn, hCh, hW, hT, hL, hG⟩ := hS
    exact ⟨⟨hH, hD, hH6, hm⟩, ⟨hg1, hg2, hy, hp⟩, fun h hh => (cpy_lt (by omega)).trans (hC h hh), fun h hh => (cpy_lt (by omega)).trans (hIn h hh), fun h hh => (cpy_lt (by omega)).trans (hCh h hh), fun h hh => (cpy_lt (by omega)).trans (hW h hh), fun h hh => (cpy_lt (by omega)).trans (hT h hh), fun h hh => (cpy_lt (by omega)).trans (hL h hh), fun h hh => (cpy_lt (by omega)).trans (hG h hh)⟩
  · intro h hh
    exact cpy_lt (f := N (3 + 1)) hh
  · intro p hp
    exact up1_n hp
  · intro q hq
    rw [up1_n (by omega), up1_n (by omega), up1_n (by omega), up1_n (by omega), up1_n (by omega), up1_n (by omega), up1_n (by omega)]
  · intro q hq
    exact up1_n hq
theorem q44_23_3 : ∃ I' A' N', C d 44 [.ref 23, .ref 3] sl (CH I A N V lt tw sp sr X) = some ([], sl, CH I' A' N' V lt tw sp sr X) ∧ Bc 23 3 I A N I' A' N' := by
  rw [e44, k44_r23_r3_0, t44_168]
  refine ⟨_, _, _, rfl, ?_, ?_, ?_, ?_, ?_⟩
  · intro n H m hS
    obtain ⟨⟨hH, hD, hH6, hm⟩, ⟨hg1, hg2, hy, hp⟩, hC, hIn, hCh, hW, hT, hL, hG⟩ := hS
    exact ⟨⟨hH, hD, hH6, hm⟩, ⟨hg1, hg2, hy, hp⟩, fun h hh => (cpy_lt (by omega)).trans (hC h hh), fun h hh => (cpy_lt (by omega)).trans (hIn h hh), fun h hh => (cpy_lt (by omega)).trans (hCh h hh), fun h hh => (cpy_lt (by omega)).trans (hW h hh), fun h hh => (cpy_lt (by omega)).trans (hT h hh), fun h hh => (cpy_lt (by omega)).trans (hL h hh), fun h hh => (cpy_lt (by omega)).trans (hG h hh)⟩
  · intro h hh
    exact cpy_lt (f := N (3 + 1)) hh
  · intro p hp
    exact up1_n hp
  · intro q hq
    rw [up1_n (by omega), up1_n (by omega), up1_n (by omega), up1_n (by omega), up1_n (by omega), up1_n (by omega), up1_n (by omega)]
  · intro q hq
    exact up1_n hq
theorem q44_32_3 : ∃ I' A' N', C d 44 [.ref 32, .ref 3] sl (CH I A N V lt tw sp sr X) = some ([], sl, CH I' A' N' V lt tw sp sr X) ∧ Bc 32 3 I A N I' A' N' := by
  rw [e44, k44_r32_r3_0, t44_168]
  refine ⟨_, _, _, rfl, ?_, ?_, ?_, ?_, ?_⟩
  · intro n H m hS
    obtain ⟨⟨hH, hD, hH6, hm⟩, ⟨hg1, hg2, hy, hp⟩, hC, hIn, hCh, hW, hT, hL, hG⟩ := hS
    exact ⟨⟨hH, hD, hH6, hm⟩, ⟨hg1, hg2, hy, hp⟩, fun h hh => (cpy_lt (by omega)).trans (hC h hh), fun h hh => (cpy_lt (by omega)).trans (hIn h hh), fun h hh => (cpy_lt (by omega)).trans (hCh h hh), fun h hh => (cpy_lt (by omega)).trans (hW h hh), fun h hh => (cpy_lt (by omega)).trans (hT h hh), fun h hh => (cpy_lt (by omega)).trans (hL h hh), fun h hh => (cpy_lt (by omega)).trans (hG h hh)⟩
  · intro h hh
    exact cpy_lt (f := N (3 + 1)) hh
  · intro p hp
    exact up1_n hp
  · intro q hq
    rw [up1_n (by omega), up1_n (by omega), up1_n (by omega), up1_n (by omega), up1_n (by omega), up1_n (by omega), up1_n (by omega)]
  · intro q hq
    exact up1_n hq
theorem q44_41_3 : ∃ I' A' N', C d 44 [.ref 41, .ref 3] sl (CH I A N V lt tw sp sr X) = some ([], sl, CH I' A' N' V lt tw sp sr X) ∧ Bc 41 3 I A N I' A' N' := by
  rw [e44, k44_r41_r3_0, t44_168]
  refine ⟨_, _, _, rfl, ?_, ?_, ?_, ?_, ?_⟩
  · intro n H m hS
    obtain ⟨⟨hH, hD, hH6, hm⟩, ⟨hg1, hg2, hy, hp⟩, hC, hIn, hCh, hW, hT, hL, hG⟩ := hS
    exact ⟨⟨hH, hD, hH6, hm⟩, ⟨hg1, hg2, hy, hp⟩, fun h hh => (cpy_lt (by omega)).trans (hC h hh), fun h hh => (cpy_lt (by omega)).trans (hIn h hh), fun h hh => (cpy_lt (by omega)).trans (hCh h hh), fun h hh => (cpy_lt (by omega)).trans (hW h hh), fun h hh => (cpy_lt (by omega)).trans (hT h hh), fun h hh => (cpy_lt (by omega)).trans (hL h hh), fun h hh => (cpy_lt (by omega)).trans (hG h hh)⟩
  · intro h hh
    exact cpy_lt (f := N (3 + 1)) hh
  · intro p hp
    exact up1_n hp
  · intro q hq
    rw [up1_n (by omega), up1_n (by omega), up1_n (by omega), up1_n (by omega), up1_n (by omega), up1_n (by omega), up1_n (by omega)]
  · intro q hq
    exact up1_n hq
theorem q44_50_3 : ∃ I' A' N', C d 44 [.ref 50, .ref 3] sl (CH I A N V lt tw sp sr X) = some ([], sl, CH I' A' N' V lt tw sp sr X) ∧ Bc 50 3 I A N I' A' N' := by
  rw [e44, k44_r50_r3_0, t44_168]
  refine ⟨_, _, _, rfl, ?_, ?_, ?_, ?_, ?_⟩
  · intro n H m hS
    obtain ⟨⟨hH, hD, hH6, hm⟩, ⟨hg1, hg2, hy, hp⟩, hC, hIn, hCh, hW, hT, hL, hG⟩ := hS
    exact ⟨⟨hH, hD, hH6, hm⟩, ⟨hg1, hg2, hy, hp⟩, fun h hh => (cpy_lt (by omega)).trans (hC h hh), fun h hh => (cpy_lt (by omega)).trans (hIn h hh), fun h hh => (cpy_lt (by omega)).trans (hCh h hh), fun h hh => (cpy_lt (by omega)).trans (hW h hh), fun h hh => (cpy_lt (by omega)).trans (hT h hh), fun h hh => (cpy_lt (by omega)).trans (hL h hh), fun h hh => (cpy_lt (by omega)).trans (hG h hh)⟩
  · intro h hh
    exact cpy_lt (f := N (3 + 1)) hh
  · intro p hp
    exact up1_n hp
  · intro q hq
    rw [up1_n (by omega), up1_n (by omega), up1_n (by omega), up1_n (by omega), up1_n (by omega), up1_n (by omega), up1_n (by omega)]
  · intro q hq
    exact up1_n hq
theorem q44_59_3 : ∃ I' A' N', C d 44 [.ref 59, .ref 3] sl (CH I A N V lt tw sp sr X) = some ([], sl, CH I' A' N' V lt tw sp sr X) ∧ Bc 59 3 I A N I' A' N' := by
  rw [e44, k44_r59_r3_0, t44_168]
  refine ⟨_, _, _, rfl, ?_, ?_, ?_, ?_, ?_⟩
  · intro n H m hS
    obtain ⟨⟨hH, hD, hH6, hm⟩, ⟨hg1, hg2, hy, hp⟩, hC, hIn, hCh, hW, hT, hL, hG⟩ := hS
    exact ⟨⟨hH, hD, hH6, hm⟩, ⟨hg1, hg2, hy, hp⟩, fun h hh => (cpy_lt (by omega)).trans (hC h hh), fun h hh => (cpy_lt (by omega)).trans (hIn h hh), fun h hh => (cpy_lt (by omega)).trans (hCh h hh), fun h hh => (cpy_lt (by omega)).trans (hW h hh), fun h hh => (cpy_lt (by omega)).trans (hT h hh), fun h hh => (cpy_lt (by omega)).trans (hL h hh), fun h hh => (cpy_lt (by omega)).trans (hG h hh)⟩
  · intro h hh
    exact cpy_lt (f := N (3 + 1)) hh
  · intro p hp
    exact up1_n hp
  · intro q hq
    rw [up1_n (by omega), up1_n (by omega), up1_n (by omega), up1_n (by omega), up1_n (by omega), up1_n (by omega), up1_n (by omega)]
  · intro q hq
    exact up1_n hq
theorem q44_68_3 : ∃ I' A' N', C d 44 [.ref 68, .ref 3] sl (CH I A N V lt tw sp sr X) = some ([], sl, CH I' A' N' V lt tw sp sr X) ∧ Bc 68 3 I A N I' A' N' := by
  rw [e44, k44_r68_r3_0, t44_168]
  refine ⟨_, _, _, rfl, ?_, ?_, ?_, ?_, ?_⟩
  · intro n H m hS
    obtain ⟨⟨hH, hD, hH6, hm⟩, ⟨hg1, hg2, hy, hp⟩, hC, hIn, hCh, hW, hT, hL, hG⟩ := hS
    exact ⟨⟨hH, hD, hH6, hm⟩, ⟨hg1, hg2, hy, hp⟩, fun h hh => (cpy_lt (by omega)).trans (hC h hh), fun h hh => (cpy_lt (by omega)).trans (hIn h hh), fun h hh => (cpy_lt (by omega)).trans (hCh h hh), fun h hh => (cpy_lt (by omega)).trans (hW h hh), fun h hh => (cpy_lt (by omega)).trans (hT h hh), fun h hh => (cpy_lt (by omega)).trans (hL h hh), fun h hh => (cpy_lt (by omega)).trans (hG h hh)⟩
  · intro h hh
    exact cpy_lt (f := N (3 + 1)) hh
  · intro p hp
    exact up1_n hp
  · intro q hq
    rw [up1_n (by omega), up1_n (by omega), up1_n (by omega), up1_n (by omega), up1_n (by omega), up1_n (by omega), up1_n (by omega)]
  · intro q hq
    exact up1_n hq
theorem q44_77_3 : ∃ I' A' N', C d 44 [.ref 77, .ref 3] sl (CH I A N V lt tw sp sr X) = some ([], sl, CH I' A' N' V lt tw sp sr X) ∧ Bc 77 3 I A N I' A' N' := by
  rw [e44, k44_r77_r3_0, t44_168]
  refine ⟨_, _, _, rfl, ?_, ?_, ?_, ?_, ?_⟩
  · intro n H m hS
    obtain ⟨⟨hH, hD, hH6, hm⟩, ⟨hg1, hg2, hy, hp⟩, hC, hIn, hCh, hW, hT, hL, hG⟩ := hS
    exact ⟨⟨hH, hD, hH6, hm⟩, ⟨hg1, hg2, hy, hp⟩, fun h hh => (cpy_lt (by omega)).trans (hC h hh), fun h hh => (cpy_lt (by omega)).trans (hIn h hh), fun h hh => (cpy_lt (by omega)).trans (hCh h hh), fun h hh => (cpy_lt (by omega)).trans (hW h hh), fun h hh => (cpy_lt (by omega)).trans (hT h hh), fun h hh => (cpy_lt (by omega)).trans (hL h hh), fun h hh => (cpy_lt (by omega)).trans (hG h hh)⟩
  · intro h hh
    exact cpy_lt (f := N (3 + 1)) hh
  · intro p hp
    exact up1_n hp
  · intro q hq
    rw [up1_n (by omega), up1_n (by omega), up1_n (by omega), up1_n (by omega), up1_n (by omega), up1_n (by omega), up1_n (by omega)]
  · intro q hq
    exact up1_n hq
theorem q44_86_3 : ∃ I' A' N', C d 44 [.ref 86, .ref 3] sl (CH I A N V lt tw sp sr X) = some ([], sl, CH I' A' N' V lt tw sp sr X) ∧ Bc 86 3 I A N I' A' N' := by
  rw [e44, k44_r86_r3_0, t44_168]
  refine ⟨_, _, _, rfl, ?_, ?_, ?_, ?_, ?_⟩
  · intro n H m hS
    obtain ⟨⟨hH, hD, hH6, hm⟩, ⟨hg1, hg2, hy, hp⟩, hC, hIn, hCh, hW, hT, hL, hG⟩ := hS
    exact ⟨⟨hH, hD, hH6, hm⟩, ⟨hg1, hg2, hy, hp⟩, fun h hh => (cpy_lt (by omega)).trans (hC h hh), fun h hh => (cpy_lt (by omega)).trans (hIn h hh), fun h hh => (cpy_lt (by omega)).trans (hCh h hh), fun h hh => (cpy_lt (by omega)).trans (hW h hh), fun h hh => (cpy_lt (by omega)).trans (hT h hh), fun h hh => (cpy_lt (by omega)).trans (hL h hh), fun h hh => (cpy_lt (by omega)).trans (hG h hh)⟩
  · intro h hh
    exact cpy_lt (f := N (3 + 1)) hh
  · intro p hp
    exact up1_n hp
  · intro q hq
    rw [up1_n (by omega), up1_n (by omega), up1_n (by omega), up1_n (by omega), up1_n (by omega), up1_n (by omega), up1_n (by omega)]
  · intro q hq
    exact up1_n hq
theorem q44_23_12 : ∃ I' A' N', C d 44 [.ref 23, .ref 12] sl (CH I A N V lt tw sp sr X) = some ([], sl, CH I' A' N' V lt tw sp sr X) ∧ Bc 23 12 I A N I' A' N' := by
  rw [e44, k44_r23_r12_0, t44_168]
  refine ⟨_, _, _, rfl, ?_, ?_, ?_, ?_, ?_⟩
  · intro n H m hS
    obtain ⟨⟨hH, hD, hH6, hm⟩, ⟨hg1, hg2, hy, hp⟩, hC, hIn, hCh, hW, hT, hL, hG⟩ := hS
    exact ⟨⟨hH, hD, hH6, hm⟩, ⟨hg1, hg2, hy, hp⟩, fun h hh => (cpy_lt (by omega)).trans (hC h hh), fun h hh => (cpy_lt (by omega)).trans (hIn h hh), fun h hh => (cpy_lt (by omega)).trans (hCh h hh), fun h hh => (cpy_lt (by omega)).trans (hW h hh), fun h hh => (cpy_lt (by omega)).trans (hT h hh), fun h hh => (cpy_lt (by omega)).trans (hL h hh), fun h hh => (cpy_lt (by omega)).trans (hG h hh)⟩
  · intro h hh
    exact cpy_lt (f := N (12 + 1)) hh
  · intro p hp
    exact up1_n hp
  · intro q hq
    rw [up1_n (by omega), up1_n (by omega), up1_n (by omega), up1_n (by omega), up1_n (by omega), up1_n (by omega), up1_n (by omega)]
  · intro q hq
    exact up1_n hq
theorem q44_32_12 : ∃ I' A' N', C d 44 [.ref 32, .ref 12] sl (CH I A N V lt tw sp sr X) = some ([], sl, CH I' A' N' V lt tw sp sr X) ∧ Bc 32 12 I A N I' A' N' := by
  rw [e44, k44_r32_r12_0, t44_168]
  refine ⟨_, _, _, rfl, ?_, ?_, ?_, ?_, ?_⟩
  · intro n H m hS
    obtain ⟨⟨hH, hD, hH6, hm⟩, ⟨hg1, hg2, hy, hp⟩, hC, hIn, hCh, hW, hT, hL, hG⟩ := hS
    exact ⟨⟨hH, hD, hH6, hm⟩, ⟨hg1, hg2, hy, hp⟩, fun h hh => (cpy_lt (by omega)).trans (hC h hh), fun h hh => (cpy_lt (by omega)).trans (hIn h hh), fun h hh => (cpy_lt (by omega)).trans (hCh h hh), fun h hh => (cpy_lt (by omega)).trans (hW h hh), fun h hh => (cpy_lt (by omega)).trans (hT h hh), fun h hh => (cpy_lt (by omega)).trans (hL h hh), fun h hh => (cpy_lt (by omega)).trans (hG h hh)⟩
  · intro h hh
    exact cpy_lt (f := N (12 + 1)) hh
  · intro p hp
    exact up1_n hp
  · intro q hq
    rw [up1_n (by omega), up1_n (by omega), up1_n (by omega), up1_n (by omega), up1_n (by omega), up1_n (by omega), up1_n (by omega)]
  · intro q hq
    exact up1_n hq
theorem q44_41_12 : ∃ I' A' N', C d 44 [.ref 41, .ref 12] sl (CH I A N V lt tw sp sr X) = some ([], sl, CH I' A' N' V lt tw sp sr X) ∧ Bc 41 12 I A N I' A' N' := by
  rw [e44, k44_r41_r12_0, t44_168]
  refine ⟨_, _, _, rfl, ?_, ?_, ?_, ?_, ?_⟩
  · intro n H m hS
    obtain ⟨⟨hH, hD, hH6, hm⟩, ⟨hg1, hg2, hy, hp⟩, hC, hIn, hCh, hW, hT, hL, hG⟩ := hS
    exact ⟨⟨hH, hD, hH6, hm⟩, ⟨hg1, hg2, hy, hp⟩, fun h hh => (cpy_lt (by omega)).trans (hC h hh), fun h hh => (cpy_lt (by omega)).trans (hIn h hh), fun h hh => (cpy_lt (by omega)).trans (hCh h hh), fun h hh => (cpy_lt (by omega)).trans (hW h hh), fun h hh => (cpy_lt (by omega)).trans (hT h hh), fun h hh => (cpy_lt (by omega)).trans (hL h hh), fun h hh => (cpy_lt (by omega)).trans (hG h hh)⟩
  · intro h hh
    exact cpy_lt (f := N (12 + 1)) hh
  · intro p hp
    exact up1_n hp
  · intro q hq
    rw [up1_n (by omega), up1_n (by omega), up1_n (by omega), up1_n (by omega), up1_n (by omega), up1_n (by omega), up1_n (by omega)]
  · intro q hq
    exact up1_n hq
theorem q44_50_12 : ∃ I' A' N', C d 44 [.ref 50, .ref 12] sl (CH I A N V lt tw sp sr X) = some ([], sl, CH I' A' N' V lt tw sp sr X) ∧ Bc 50 12 I A N I' A' N' := by
  rw [e44, k44_r50_r12_0, t44_168]
  refine ⟨_, _, _, rfl, ?_, ?_, ?_, ?_, ?_⟩
  · intro n H m hS
    obtain ⟨⟨hH, hD, hH6, hm⟩, ⟨hg1, hg2, hy, hp⟩, hC, hIn, hCh, hW, hT, hL, hG⟩ := hS
    exact ⟨⟨hH, hD, hH6, hm⟩, ⟨hg1, hg2, hy, hp⟩, fun h hh => (cpy_lt (by omega)).trans (hC h hh), fun h hh => (cpy_lt (by omega)).trans (hIn h hh), fun h hh => (cpy_lt (by omega)).trans (hCh h hh), fun h hh => (cpy_lt (by omega)).trans (hW h hh), fun h hh => (cpy_lt (by omega)).trans (hT h hh), fun h hh => (cpy_lt (by omega)).trans (hL h hh), fun h hh => (cpy_lt (by omega)).trans (hG h hh)⟩
  · intro h hh
    exact cpy_lt (f := N (12 + 1)) hh
  · intro p hp
    exact up1_n hp
  · intro q hq
    rw [up1_n (by omega), up1_n (by omega), up1_n (by omega), up1_n (by omega), up1_n (by omega), up1_n (by omega), up1_n (by omega)]
  · intro q hq
    exact up1_n hq
theorem q44_59_12 : ∃ I' A' N', C d 44 [.ref 59, .ref 12] sl (CH I A N V lt tw sp sr X) = some ([], sl, CH I' A' N' V lt tw sp sr X) ∧ Bc 59 12 I A N I' A' N' := by
  rw [e44, k44_r59_r12_0, t44_168]
  refine ⟨_, _, _, rfl, ?_, ?_, ?_, ?_, ?_⟩
  · intro n H m hS
    obtain ⟨⟨hH, hD, hH6, hm⟩, ⟨hg1, hg2, hy, hp⟩, hC, hIn, hCh, hW, hT, hL, hG⟩ := hS
    exact ⟨⟨hH, hD, hH6, hm⟩, ⟨hg1, hg2, hy, hp⟩, fun h hh => (cpy_lt (by omega)).trans (hC h hh), fun h hh => (cpy_lt (by omega)).trans (hIn h hh), fun h hh => (cpy_lt (by omega)).trans (hCh h hh), fun h hh => (cpy_lt (by omega)).trans (hW h hh), fun h hh => (cpy_lt (by omega)).trans (hT h hh), fun h hh => (cpy_lt (by omega)).trans (hL h hh), fun h hh => (cpy_lt (by omega)).trans (hG h hh)⟩
  · intro h hh
    exact cpy_lt (f := N (12 + 1)) hh
  · intro p hp
    exact up1_n hp
  · intro q hq
    rw [up1_n (by omega), up1_n (by omega), up1_n (by omega), up1_n (by omega), up1_n (by omega), up1_n (by omega), up1_n (by omega)]
  · intro q hq
    exact up1_n hq
theorem q44_68_12 : ∃ I' A' N', C d 44 [.ref 68, .ref 12] sl (CH I A N V lt tw sp sr X) = some ([], sl, CH I' A' N' V lt tw sp sr X) ∧ Bc 68 12 I A N I' A' N' := by
  rw [e44, k44_r68_r12_0, t44_168]
  refine ⟨_, _, _, rfl, ?_, ?_, ?_, ?_, ?_⟩
  · intro n H m hS
    obtain ⟨⟨hH, hD, hH6, hm⟩, ⟨hg1, hg2, hy, hp⟩, hC, hIn, hCh, hW, hT, hL, hG⟩ := hS
    exact ⟨⟨hH, hD, hH6, hm⟩, ⟨hg1, hg2, hy, hp⟩, fun h hh => (cpy_lt (by omega)).trans (hC h hh), fun h hh => (cpy_lt (by omega)).trans (hIn h hh), fun h hh => (cpy_lt (by omega)).trans (hCh h hh), fun h hh => (cpy_lt (by omega)).trans (hW h hh), fun h hh => (cpy_lt (by omega)).trans (hT h hh), fun h hh => (cpy_lt (by omega)).trans (hL h hh), fun h hh => (cpy_lt (by omega)).trans (hG h hh)⟩
  · intro h hh
    exact cpy_lt (f := N (12 + 1)) hh
  · intro p hp
    exact up1_n hp
  · intro q hq
    rw [up1_n (by omega), up1_n (by omega), up1_n (by omega), up1_n (by omega), up1_n (by omega), up1_n (by omega), up1_n (by omega)]
  · intro q hq
    exact up1_n hq
theorem q44_77_12 : ∃ I' A' N', C d 44 [.ref 77, .ref 12] sl (CH I A N V lt tw sp sr X) = some ([], sl, CH I' A' N' V lt tw sp sr X) ∧ Bc 77 12 I A N I' A' N' := by
  rw [e44, k44_r77_r12_0, t44_168]
  refine ⟨_, _, _, rfl, ?_, ?_, ?_, ?_, ?_⟩
  · intro n H m hS
    obtain ⟨⟨hH, hD, hH6, hm⟩, ⟨hg1, hg2, hy, hp⟩, hC, hIn, hCh, hW, hT, hL, hG⟩ := hS
    exact ⟨⟨hH, hD, hH6, hm⟩, ⟨hg1, hg2, hy, hp⟩, fun h hh => (cpy_lt (by omega)).trans (hC h hh), fun h hh => (cpy_lt (by omega)).trans (hIn h hh), fun h hh => (cpy_lt (by omega)).trans (hCh h hh), fun h hh => (cpy_lt (by omega)).trans (hW h hh), fun h hh => (cpy_lt (by omega)).trans (hT h hh), fun h hh => (cpy_lt (by omega)).trans (hL h hh), fun h hh => (cpy_lt (by omega)).trans (hG h hh)⟩
  · intro h hh
    exact cpy_lt (f := N (12 + 1)) hh
  · intro p hp
    exact up1_n hp
  · intro q hq
    rw [up1_n (by omega), up1_n (by omega), up1_n (by omega), up1_n (by omega), up1_n (by omega), up1_n (by omega), up1_n (by omega)]
  · intro q hq
    exact up1_n hq
theorem q44_86_12 : ∃ I' A' N', C d 44 [.ref 86, .ref 12] sl (CH I A N V lt tw sp sr X) = some ([], sl, CH I' A' N' V lt tw sp sr X) ∧ Bc 86 12 I A N I' A' N' := by
  rw [e44, k44_r86_r12_0, t44_168]
  refine ⟨_, _, _, rfl, ?_, ?_, ?_, ?_, ?_⟩
  · intro n H m hS
    obtain ⟨⟨hH, hD, hH6, hm⟩, ⟨hg1, hg2, hy, hp⟩, hC, hIn, hCh, hW, hT, hL, hG⟩ := hS
    exact ⟨⟨hH, hD, hH6, hm⟩, ⟨hg1, hg2, hy, hp⟩, fun h hh => (cpy_lt (by omega)).trans (hC h hh), fun h hh => (cpy_lt (by omega)).trans (hIn h hh), fun h hh => (cpy_lt (by omega)).trans (hCh h hh), fun h hh => (cpy_lt (by omega)).trans (hW h hh), fun h hh => (cpy_lt (by omega)).trans (hT h hh), fun h hh => (cpy_lt (by omega)).trans (hL h hh), fun h hh => (cpy_lt (by omega)).trans (hG h hh)⟩
  · intro h hh
    exact cpy_lt (f := N (12 + 1)) hh
  · intro p hp
    exact up1_n hp
  · intro q hq
    rw [up1_n (by omega), up1_n (by omega), up1_n (by omega), up1_n (by omega), up1_n (by omega), up1_n (by omega), up1_n (by omega)]
  · intro q hq
    exact up1_n hq
theorem q44_3_23 : ∃ I' A' N', C d 44 [.ref 3, .ref 23] sl (CH I A N V lt tw sp sr X) = some ([], sl, CH I' A' N' V lt tw sp sr X) ∧ Bc 3 23 I A N I' A' N' := by
  rw [e44, k44_r3_r23_0, t44_168]
  refine ⟨_, _, _, rfl, ?_, ?_, ?_, ?_, ?_⟩
  · intro n H m hS
    obtain ⟨⟨hH, hD, hH6, hm⟩, ⟨hg1, hg2, hy, hp⟩, hC, hIn, hCh, hW, hT, hL, hG⟩ := hS
    exact ⟨⟨hH, hD, hH6, hm⟩, ⟨hg1, hg2, hy, hp⟩, fun h hh => (cpy_lt (by omega)).trans (hC h hh), fun h hh => (cpy_lt (by omega)).trans (hIn h hh), fun h hh => (cpy_lt (by omega)).trans (hCh h hh), fun h hh => (cpy_lt (by omega)).trans (hW h hh), fun h hh => (cpy_lt (by omega)).trans (hT h hh), fun h hh => (cpy_lt (by omega)).trans (hL h hh), fun h hh => (cpy_lt (by omega)).trans (hG h hh)⟩
  · intro h hh
    exact cpy_lt (f := N (23 + 1)) hh
  · intro p hp
    exact up1_n hp
  · intro q hq
    rw [up1_n (by omega), up1_n (by omega), up1_n (by omega), up1_n (by omega), up1_n (by omega), up1_n (by omega), up1_n (by omega)]
  · intro q hq
    exact up1_n hq
theorem q44_3_32 : ∃ I' A' N', C d 44 [.ref 3, .ref 32] sl (CH I A N V lt tw sp sr X) = some ([], sl, CH I' A' N' V lt tw sp sr X) ∧ Bc 3 32 I A N I' A' N' := by
  rw [e44, k44_r3_r32_0, t44_168]
  refine ⟨_, _, _, rfl, ?_, ?_, ?_, ?_, ?_⟩
  · intro n H m hS
    obtain ⟨⟨hH, hD, hH6, hm⟩, ⟨hg1, hg2, hy, hp⟩, hC, hIn, hCh, hW, hT, hL, hG⟩ := hS
    exact ⟨⟨hH, hD, hH6, hm⟩, ⟨hg1, hg2, hy, hp⟩, fun h hh => (cpy_lt (by omega)).trans (hC h hh), fun h hh => (cpy_lt (by omega)).trans (hIn h hh), fun h hh => (cpy_lt (by omega)).trans (hCh h hh), fun h hh => (cpy_lt (by omega)).trans (hW h hh), fun h hh => (cpy_lt (by omega)).trans (hT h hh), fun h hh => (cpy_lt (by omega)).trans (hL h hh), fun h hh => (cpy_lt (by omega)).trans (hG h hh)⟩
  · intro h hh
    exact cpy_lt (f := N (32 + 1)) hh
  · intro p hp
    exact up1_n hp
  · intro q hq
    rw [up1_n (by omega), up1_n (by omega), up1_n (by omega), up1_n (by omega), up1_n (by omega), up1_n (by omega), up1_n (by omega)]
  · intro q hq
    exact up1_n hq
theorem q44_3_41 : ∃ I' A' N', C d 44 [.ref 3, .ref 41] sl (CH I A N V lt tw sp sr X) = some ([], sl, CH I' A' N' V lt tw sp sr X) ∧ Bc 3 41 I A N I' A' N' := by
  rw [e44, k44_r3_r41_0, t44_168]
  refine ⟨_, _, _, rfl, ?_, ?_, ?_, ?_, ?_⟩
  · intro n H m hS
    obtain ⟨⟨hH, hD, hH6, hm⟩, ⟨hg1, hg2, hy, hp⟩, hC, hIn, hCh, hW, hT, hL, hG⟩ := hS
    exact ⟨⟨hH, hD, hH6, hm⟩, ⟨hg1, hg2, hy, hp⟩, fun h hh => (cpy_lt (by omega)).trans (hC h hh), fun h hh => (cpy_lt (by omega)).trans (hIn h hh), fun h hh => (cpy_lt (by omega)).trans (hCh h hh), fun h hh => (cpy_lt (by omega)).trans (hW h hh), fun h hh => (cpy_lt (by omega)).trans (hT h hh), fun h hh => (cpy_lt (by omega)).trans (hL h hh), fun h hh => (cpy_lt (by omega)).trans (hG h hh)⟩
  · intro h hh
    exact cpy_lt (f := N (41 + 1)) hh
  · intro p hp
    exact up1_n hp
  · intro q hq
    rw [up1_n (by omega), up1_n (by omega), up1_n (by omega), up1_n (by omega), up1_n (by omega), up1_n (by omega), up1_n (by omega)]
  · intro q hq
    exact up1_n hq
theorem q44_3_50 : ∃ I' A' N', C d 44 [.ref 3, .ref 50] sl (CH I A N V lt tw sp sr X) = some ([], sl, CH I' A' N' V lt tw sp sr X) ∧ Bc 3 50 I A N I' A' N' := by
  rw [e44, k44_r3_r50_0, t44_168]
  refine ⟨_, _, _, rfl, ?_, ?_, ?_, ?_, ?_⟩
  · intro n H m hS
    obtain ⟨⟨hH, hD, hH6, hm⟩, ⟨hg1, hg2, hy, hp⟩, hC, hIn, hCh, hW, hT, hL, hG⟩ := hS
    exact ⟨⟨hH, hD, hH6, hm⟩, ⟨hg1, hg2, hy, hp⟩, fun h hh => (cpy_lt (by omega)).trans (hC h hh), fun h hh => (cpy_lt (by omega)).trans (hIn h hh), fun h hh => (cpy_lt (by omega)).trans (hCh h hh), fun h hh => (cpy_lt (by omega)).trans (hW h hh), fun h hh => (cpy_lt (by omega)).trans (hT h hh), fun h hh => (cpy_lt (by omega)).trans (hL h hh), fun h hh => (cpy_lt (by omega)).trans (hG h hh)⟩
  · intro h hh
    exact cpy_lt (f := N (50 + 1)) hh
  · intro p hp
    exact up1_n hp
  · intro q hq
    rw [up1_n (by omega), up1_n (by omega), up1_n (by omega), up1_n (by omega), up1_n (by omega), up1_n (by omega), up1_n (by omega)]
  · intro q hq
    exact up1_n hq
theorem q44_3_59 : ∃ I' A' N', C d 44 [.ref 3, .ref 59] sl (CH I A N V lt tw sp sr X) = some ([], sl, CH I' A' N' V lt tw sp sr X) ∧ Bc 3 59 I A N I' A' N' := by
  rw [e44, k44_r3_r59_0, t44_168]
  refine ⟨_, _, _, rfl, ?_, ?_, ?_, ?_, ?_⟩
  · intro n H m hS
    obtain ⟨⟨hH, hD, hH6, hm⟩, ⟨hg1, hg2, hy, hp⟩, hC, hIn, hCh, hW, hT, hL, hG⟩ := hS
    exact ⟨⟨hH, hD, hH6, hm⟩, ⟨hg1, hg2, hy, hp⟩, fun h hh => (cpy_lt (by omega)).trans (hC h hh), fun h hh => (cpy_lt (by omega)).trans (hIn h hh), fun h hh => (cpy_lt (by omega)).trans (hCh h hh), fun h hh => (cpy_lt (by omega)).trans (hW h hh), fun h hh => (cpy_lt (by omega)).trans (hT h hh), fun h hh => (cpy_lt (by omega)).trans (hL h hh), fun h hh => (cpy_lt (by omega)).trans (hG h hh)⟩
  · intro h hh
    exact cpy_lt (f := N (59 + 1)) hh
  · intro p hp
    exact up1_n hp
  · intro q hq
    rw [up1_n (by omega), up1_n (by omega), up1_n (by omega), up1_n (by omega), up1_n (by omega), up1_n (by omega), up1_n (by omega)]
  · intro q hq
    exact up1_n hq
theorem q44_3_68 : ∃ I' A' N', C d 44 [.ref 3, .ref 68] sl (CH I A N V lt tw sp sr X) = some ([], sl, CH I' A' N' V lt tw sp sr X) ∧ Bc 3 68 I A N I' A' N' := by
  rw [e44, k44_r3_r68_0, t44_168]
  refine ⟨_, _, _, rfl, ?_, ?_, ?_, ?_, ?_⟩
  · intro n H m hS
    obtain ⟨⟨hH, hD, hH6, hm⟩, ⟨hg1, hg2, hy, hp⟩, hC, hIn, hCh, hW, hT, hL, hG⟩ := hS
    exact ⟨⟨hH, hD, hH6, hm⟩, ⟨hg1, hg2, hy, hp⟩, fun h hh => (cpy_lt (by omega)).trans (hC h hh), fun h hh => (cpy_lt (by omega)).trans (hIn h hh), fun h hh => (cpy_lt (by omega)).trans (hCh h hh), fun h hh => (cpy_lt (by omega)).trans (hW h hh), fun h hh => (cpy_lt (by omega)).trans (hT h hh), fun h hh => (cpy_lt (by omega)).trans (hL h hh), fun h hh => (cpy_lt (by omega)).trans (hG h hh)⟩
  · intro h hh
    exact cpy_lt (f := N (68 + 1)) hh
  · intro p hp
    exact up1_n hp
  · intro q hq
    rw [up1_n (by omega), up1_n (by omega), up1_n (by omega), up1_n (by omega), up1_n (by omega), up1_n (by omega), up1_n (by omega)]
  · intro q hq
    exact up1_n hq
theorem q44_3_77 : ∃ I' A' N', C d 44 [.ref 3, .ref 77] sl (CH I A N V lt tw sp sr X) = some ([], sl, CH I' A' N' V lt tw sp sr X) ∧ Bc 3 77 I A N I' A' N' := by
  rw [e44, k44_r3_r77_0, t44_168]
  refine ⟨_, _, _, rfl, ?_, ?_, ?_, ?_, ?_⟩
  · intro n H m hS
    obtain ⟨⟨hH, hD, hH6, hm⟩, ⟨hg1, hg2, hy, hp⟩, hC, hIn, hCh, hW, hT, hL, hG⟩ := hS
    exact ⟨⟨hH, hD, hH6, hm⟩, ⟨hg1, hg2, hy, hp⟩, fun h hh => (cpy_lt (by omega)).trans (hC h hh), fun h hh => (cpy_lt (by omega)).trans (hIn h hh), fun h hh => (cpy_lt (by omega)).trans (hCh h hh), fun h hh => (cpy_lt (by omega)).trans (hW h hh), fun h hh => (cpy_lt (by omega)).trans (hT h hh), fun h hh => (cpy_lt (by omega)).trans (hL h hh), fun h hh => (cpy_lt (by omega)).trans (hG h hh)⟩
  · intro h hh
    exact cpy_lt (f := N (77 + 1)) hh
  · intro p hp
    exact up1_n hp
  · intro q hq
    rw [up1_n (by omega), up1_n (by omega), up1_n (by omega), up1_n (by omega), up1_n (by omega), up1_n (by omega), up1_n (by omega)]
  · intro q hq
    exact up1_n hq
theorem q44_3_86 : ∃ I' A' N', C d 44 [.ref 3, .ref 86] sl (CH I A N V lt tw sp sr X) = some ([], sl, CH I' A' N' V lt tw sp sr X) ∧ Bc 3 86 I A N I' A' N' := by
  rw [e44, k44_r3_r86_0, t44_168]
  refine ⟨_, _, _, rfl, ?_, ?_, ?_, ?_, ?_⟩
  · intro n H m hS
    obtain ⟨⟨hH, hD, hH6, hm⟩, ⟨hg1, hg2, hy, hp⟩, hC, hIn, hCh, hW, hT, hL, hG⟩ := hS
    exact ⟨⟨hH, hD, hH6, hm⟩, ⟨hg1, hg2, hy, hp⟩, fun h hh => (cpy_lt (by omega)).trans (hC h hh), fun h hh => (cpy_lt (by omega)).trans (hIn h hh), fun h hh => (cpy_lt (by omega)).trans (hCh h hh), fun h hh => (cpy_lt (by omega)).trans (hW h hh), fun h hh => (cpy_lt (by omega)).trans (hT h hh), fun h hh => (cpy_lt (by omega)).trans (hL h hh), fun h hh => (cpy_lt (by omega)).trans (hG h hh)⟩
  · intro h hh
    exact cpy_lt (f := N (86 + 1)) hh
  · intro p hp
    exact up1_n hp
  · intro q hq
    rw [up1_n (by omega), up1_n (by omega), up1_n (by omega), up1_n (by omega), up1_n (by omega), up1_n (by omega), up1_n (by omega)]
  · intro q hq
    exact up1_n hq
theorem q44_3_120 : ∃ I' A' N', C d 44 [.ref 3, .ref 120] sl (CH I A N V lt tw sp sr X) = some ([], sl, CH I' A' N' V lt tw sp sr X) ∧ Bc 3 120 I A N I' A' N' := by
  rw [e44, k44_r3_r120_0, t44_168]
  refine ⟨_, _, _, rfl, ?_, ?_, ?_, ?_, ?_⟩
  · intro n H m hS
    obtain ⟨⟨hH, hD, hH6, hm⟩, ⟨hg1, hg2, hy, hp⟩, hC, hIn, hCh, hW, hT, hL, hG⟩ := hS
    exact ⟨⟨hH, hD, hH6, hm⟩, ⟨hg1, hg2, hy, hp⟩, fun h hh => (cpy_lt (by omega)).trans (hC h hh), fun h hh => (cpy_lt (by omega)).trans (hIn h hh), fun h hh => (cpy_lt (by omega)).trans (hCh h hh), fun h hh => (cpy_lt (by omega)).trans (hW h hh), fun h hh => (cpy_lt (by omega)).trans (hT h hh), fun h hh => (cpy_lt (by omega)).trans (hL h hh), fun h hh => (cpy_lt (by omega)).trans (hG h hh)⟩
  · intro h hh
    exact cpy_lt (f := N (120 + 1)) hh
  · intro p hp
    exact up1_n hp
  · intro q hq
    rw [up1_n (by omega), up1_n (by omega), up1_n (by omega), up1_n (by omega), up1_n (by omega), up1_n (by omega), up1_n (by omega)]
  · intro q hq
    exact up1_n hq
theorem q44_3_133 : ∃ I' A' N', C d 44 [.ref 3, .ref 133] sl (CH I A N V lt tw sp sr X) = some ([], sl, CH I' A' N' V lt tw sp sr X) ∧ Bc 3 133 I A N I' A' N' := by
  rw [e44, k44_r3_r133_0, t44_168]
  refine ⟨_, _, _, rfl, ?_, ?_, ?_, ?_, ?_⟩
  · intro n H m hS
    obtain ⟨⟨hH, hD, hH6, hm⟩, ⟨hg1, hg2, hy, hp⟩, hC, hIn, hCh, hW, hT, hL, hG⟩ := hS
    exact ⟨⟨hH, hD, hH6, hm⟩, ⟨hg1, hg2, hy, hp⟩, fun h hh => (cpy_lt (by omega)).trans (hC h hh), fun h hh => (cpy_lt (by omega)).trans (hIn h hh), fun h hh => (cpy_lt (by omega)).trans (hCh h hh), fun h hh => (cpy_lt (by omega)).trans (hW h hh), fun h hh => (cpy_lt (by omega)).trans (hT h hh), fun h hh => (cpy_lt (by omega)).trans (hL h hh), fun h hh => (cpy_lt (by omega)).trans (hG h hh)⟩
  · intro h hh
    exact cpy_lt (f := N (133 + 1)) hh
  · intro p hp
    exact up1_n hp
  · intro q hq
    rw [up1_n (by omega), up1_n (by omega), up1_n (by omega), up1_n (by omega), up1_n (by omega), up1_n (by omega), up1_n (by omega)]
  · intro q hq
    exact up1_n hq
theorem q44_120_3 : ∃ I' A' N', C d 44 [.ref 120, .ref 3] sl (CH I A N V lt tw sp sr X) = some ([], sl, CH I' A' N' V lt tw sp sr X) ∧ Bc 120 3 I A N I' A' N' := by
  rw [e44, k44_r120_r3_0, t44_168]
  refine ⟨_, _, _, rfl, ?_, ?_, ?_, ?_, ?_⟩
  · intro n H m hS
    obtain ⟨⟨hH, hD, hH6, hm⟩, ⟨hg1, hg2, hy, hp⟩, hC, hIn, hCh, hW, hT, hL, hG⟩ := hS
    exact ⟨⟨hH, hD, hH6, hm⟩, ⟨hg1, hg2, hy, hp⟩, fun h hh => (cpy_lt (by omega)).trans (hC h hh), fun h hh => (cpy_lt (by omega)).trans (hIn h hh), fun h hh => (cpy_lt (by omega)).trans (hCh h hh), fun h hh => (cpy_lt (by omega)).trans (hW h hh), fun h hh => (cpy_lt (by omega)).trans (hT h hh), fun h hh => (cpy_lt (by omega)).trans (hL h hh), fun h hh => (cpy_lt (by omega)).trans (hG h hh)⟩
  · intro h hh
    exact cpy_lt (f := N (3 + 1)) hh
  · intro p hp
    exact up1_n hp
  · intro q hq
    rw [up1_n (by omega), up1_n (by omega), up1_n (by omega), up1_n (by omega), up1_n (by omega), up1_n (by omega), up1_n (by omega)]
  · intro q hq
    exact up1_n hq
theorem q44_133_3 : ∃ I' A' N', C d 44 [.ref 133, .ref 3] sl (CH I A N V lt tw sp sr X) = some ([], sl, CH I' A' N' V lt tw sp sr X) ∧ Bc 133 3 I A N I' A' N' := by
  rw [e44, k44_r133_r3_0, t44_168]
  refine ⟨_, _, _, rfl, ?_, ?_, ?_, ?_, ?_⟩
  · intro n H m hS
    obtain ⟨⟨hH, hD, hH6, hm⟩, ⟨hg1, hg2, hy, hp⟩, hC, hIn, hCh, hW, hT, hL, hG⟩ := hS
    exact ⟨⟨hH, hD, hH6, hm⟩, ⟨hg1, hg2, hy, hp⟩, fun h hh => (cpy_lt (by omega)).trans (hC h hh), fun h hh => (cpy_lt (by omega)).trans (hIn h hh), fun h hh => (cpy_lt (by omega)).trans (hCh h hh), fun h hh => (cpy_lt (by omega)).trans (hW h hh), fun h hh => (cpy_lt (by omega)).trans (hT h hh), fun h hh => (cpy_lt (by omega)).trans (hL h hh), fun h hh => (cpy_lt (by omega)).trans (hG h hh)⟩
  · intro h hh
    exact cpy_lt (f := N (3 + 1)) hh
  · intro p hp
    exact up1_n hp
  · intro q hq
    rw [up1_n (by omega), up1_n (by omega), up1_n (by omega), up1_n (by omega), up1_n (by omega), up1_n (by omega), up1_n (by omega)]
  · intro q hq
    exact up1_n hq
def V22 (V : Nat → Nat → Option Nat) : Prop := ∀ j, j < 8 → V 22 j = some (23 + 9 * j)
theorem mod8 {p : Nat} (hp : p < 8) : nI p + nI 1 - (nI p + nI 1) / nI 8 * nI 8 = nI ((p + 1) % 8) := by
  have : ∀ p : Fin 8, nI p.val + nI 1 - (nI p.val + nI 1) / nI 8 * nI 8 = nI ((p.val + 1) % 8) := by decide +kernel
  exact this ⟨p, hp⟩
theorem mod8' {p : Nat} (hp : p < 8) : nI p + nI 8 - nI 1 - (nI p + nI 8 - nI 1) / nI 8 * nI 8 = nI ((p + 7) % 8) := by
  have : ∀ p : Fin 8, nI p.val + nI 8 - nI 1 - (nI p.val + nI 8 - nI 1) / nI 8 * nI 8 = nI ((p.val + 7) % 8) := by decide +kernel
  exact this ⟨p, hp⟩
theorem q27_3 {p z : Nat} (hV : V22 V) (hp : p < 8) (hz : z ≤ 8) (hP : I 21 1 = nI p) (hZ : I 21 2 = nI z) : ∃ I' A' N', C (d + 1) 27 [.ref 21, .ref 3] sl (CH I A N V lt tw sp sr X) = some ([], sl, CH I' A' N' V lt tw sp sr X) ∧ I' 21 1 = nI ((p + 1) % 8) ∧ I' 21 2 = nI (min 8 (z + 1)) ∧ (∀ n H m, Sh I A 3 n H m → Sh I' A' (23 + 9 * p) n H m) ∧ (∀ h, h < 6 → N' (23 + 9 * p + 1) h = N (3 + 1) h) ∧ (∀ q, q ≠ 21 → q ≠ 23 + 9 * p → I' q = I q) ∧ (∀ q, (q < 23 + 9 * p + 2 ∨ 23 + 9 * p + 8 < q) → A' q = A q) ∧ (∀ q, q ≠ 23 + 9 * p + 1 → N' q = N q) := by
  have hv := hV p hp
  rw [e27, k27_r21_r3_0, hP]
  simp (disch := omega) only [rt_c, b_some, List.cons_append, List.nil_append, Bool.cond_not, cond_true, cond_false, Bool.cond_decide, nI_add, nI_clamp, xin_n, dle_e, dlt_e, deq_e, xb_0, xb_1, decide_true, decide_false, Bool.not_true, Bool.not_false, Bool.and_true, Bool.true_and, Bool.and_false, Bool.false_and, Bool.true_or, Bool.false_or, Bool.or_true, Bool.or_false, if_true, if_false, up1_s, n_31, Int32.lt_irrefl, hv, x_rf]
  have key : ∀ b I' A' N', b = 23 + 9 * p → Bc b 3 I A N I' A' N' → ∃ I'' A'' N'', rt 27 (R (d + 1) 27 (13, [some (.ref 21), some (.ref 3)], [], sl, CH I' A' N' V lt tw sp sr X)) = some ([], sl, CH I'' A'' N'' V lt tw sp sr X) ∧ I'' 21 1 = nI ((p + 1) % 8) ∧ I'' 21 2 = nI (min 8 (z + 1)) ∧ (∀ n H m, Sh I A 3 n H m → Sh I'' A'' (23 + 9 * p) n H m) ∧ (∀ h, h < 6 → N'' (23 + 9 * p + 1) h = N (3 + 1) h) ∧ (∀ q, q ≠ 21 → q ≠ 23 + 9 * p → I'' q = I q) ∧ (∀ q, (q < 23 + 9 * p + 2 ∨ 23 + 9 * p + 8 < q) → A'' q = A q) ∧ (∀ q, q ≠ 23 + 9 * p + 1 → N'' q = N q) := by
    intro b I' A' N' hb ⟨h1, h2, h3, h4, h5⟩
    subst hb
    have f1 := h3 21 (by omega)
    rw [k27_r21_r3_13, t27_41, f1, hP, hZ, mod8 hp, nI_add, xmin_nn (by omega) (by omega)]
    refine ⟨_, _, _, rfl, ?_, ?_, ?_, h2, ?_, h4, h5⟩
    · rw [up1_s, up1_n (by omega), up1_s]
    · rw [up1_s, up1_s]
    · intro n H m hS
      have := h1 n H m hS
      unfold Sh at this ⊢
      rwa [up1_n (by omega)]
    · intro q hq1 hq2
      rw [up1_n hq1, h3 q hq2]
  rcases (show p = 0 ∨ p = 1 ∨ p = 2 ∨ p = 3 ∨ p = 4 ∨ p = 5 ∨ p = 6 ∨ p = 7 by omega) with rfl | rfl | rfl | rfl | rfl | rfl | rfl | rfl
  · obtain ⟨I', A', N', e, hB⟩ := q44_23_3 d sl I A N V lt tw sp sr X
    rw [k27_r21_r3_9, e]
    exact key _ I' A' N' rfl hB
  · obtain ⟨I', A', N', e, hB⟩ := q44_32_3 d sl I A N V lt tw sp sr X
    rw [k27_r21_r3_9_1, e]
    exact key _ I' A' N' rfl hB
  · obtain ⟨I', A', N', e, hB⟩ := q44_41_3 d sl I A N V lt tw sp sr X
    rw [k27_r21_r3_9_2, e]
    exact key _ I' A' N' rfl hB
  · obtain ⟨I', A', N', e, hB⟩ := q44_50_3 d sl I A N V lt tw sp sr X
    rw [k27_r21_r3_9_3, e]
    exact key _ I' A' N' rfl hB
  · obtain ⟨I', A', N', e, hB⟩ := q44_59_3 d sl I A N V lt tw sp sr X
    rw [k27_r21_r3_9_4, e]
    exact key _ I' A' N' rfl hB
  · obtain ⟨I', A', N', e, hB⟩ := q44_68_3 d sl I A N V lt tw sp sr X
    rw [k27_r21_r3_9_5, e]
    exact key _ I' A' N' rfl hB
  · obtain ⟨I', A', N', e, hB⟩ := q44_77_3 d sl I A N V lt tw sp sr X
    rw [k27_r21_r3_9_6, e]
    exact key _ I' A' N' rfl hB
  · obtain ⟨I', A', N', e, hB⟩ := q44_86_3 d sl I A N V lt tw sp sr X
    rw [k27_r21_r3_9_7, e]
    exact key _ I' A' N' rfl hB
theorem q27_12 {p z : Nat} (hV : V22 V) (hp : p < 8) (hz : z ≤ 8) (hP : I 21 1 = nI p) (hZ : I 21 2 = nI z) : ∃ I' A' N', C (d + 1) 27 [.ref 21, .ref 12] sl (CH I A N V lt tw sp sr X) = some ([], sl, CH I' A' N' V lt tw sp sr X) ∧ I' 21 1 = nI ((p + 1) % 8) ∧ I' 21 2 = nI (min 8 (z + 1)) ∧ (∀ n H m, Sh I A 12 n H m → Sh I' A' (23 + 9 * p) n H m) ∧ (∀ h, h < 6 → N' (23 + 9 * p + 1) h = N (12 + 1) h) ∧ (∀ q, q ≠ 21 → q ≠ 23 + 9 * p → I' q = I q) ∧ (∀ q, (q < 23 + 9 * p + 2 ∨ 23 + 9 * p + 8 < q) → A' q = A q) ∧ (∀ q, q ≠ 23 + 9 * p + 1 → N' q = N q) := by
  have hv := hV p hp
  rw [e27, k27_r21_r12_0, hP]
  simp (disch := omega) only [rt_c, b_some, List.cons_append, List.nil_append, Bool.cond_not, cond_true, cond_false, Bool.cond_decide, nI_add, nI_clamp, xin_n, dle_e, dlt_e, deq_e, xb_0, xb_1, decide_true, decide_false, Bool.not_true, Bool.not_false, Bool.and_true, Bool.true_and, Bool.and_false, Bool.false_and, Bool.true_or, Bool.false_or, Bool.or_true, Bool.or_false, if_true, if_false, up1_s, n_31, Int32.lt_irrefl, hv, x_rf]
  have key : ∀ b I' A' N', b = 23 + 9 * p → Bc b 12 I A N I' A' N' → ∃ I'' A'' N'', rt 27 (R (d + 1) 27 (13, [some (.ref 21), some (.ref 12)], [], sl, CH I' A' N' V lt tw sp sr X)) = some ([], sl, CH I'' A'' N'' V lt tw sp sr X) ∧ I'' 21 1 = nI ((p + 1) % 8) ∧ I'' 21 2 = nI (min 8 (z + 1)) ∧ (∀ n H m, Sh I A 12 n H m → Sh I'' A'' (23 + 9 * p) n H m) ∧ (∀ h, h < 6 → N'' (23 + 9 * p + 1) h = N (12 + 1) h) ∧ (∀ q, q ≠ 21 → q ≠ 23 + 9 * p → I'' q = I q) ∧ (∀ q, (q < 23 + 9 * p + 2 ∨ 23 + 9 * p + 8 < q) → A'' q = A q) ∧ (∀ q, q ≠ 23 + 9 * p + 1 → N'' q = N q) := by
    intro b I' A' N' hb ⟨h1, h2, h3, h4, h5⟩
    subst hb
    have f1 := h3 21 (by omega)
    rw [k27_r21_r12_13, t27_41, f1, hP, hZ, mod8 hp, nI_add, xmin_nn (by omega) (by omega)]
    refine ⟨_, _, _, rfl, ?_, ?_, ?_, h2, ?_, h4, h5⟩
    · rw [up1_s, up1_n (by omega), up1_s]
    · rw [up1_s, up1_s]
    · intro n H m hS
      have := h1 n H m hS
      unfold Sh at this ⊢
      rwa [up1_n (by omega)]
    · intro q hq1 hq2
      rw [up1_n hq1, h3 q hq2]
  rcases (show p = 0 ∨ p = 1 ∨ p = 2 ∨ p = 3 ∨ p = 4 ∨ p = 5 ∨ p = 6 ∨ p = 7 by omega) with rfl | rfl | rfl | rfl | rfl | rfl | rfl | rfl
  · obtain ⟨I', A', N', e, hB⟩ := q44_23_12 d sl I A N V lt tw sp sr X
    rw [k27_r21_r12_9, e]
    exact key _ I' A' N' rfl hB
  · obtain ⟨I', A', N', e, hB⟩ := q44_32_12 d sl I A N V lt tw sp sr X
    rw [k27_r21_r12_9_1, e]
    exact key _ I' A' N' rfl hB
  · obtain ⟨I', A', N', e, hB⟩ := q44_41_12 d sl I A N V lt tw sp sr X
    rw [k27_r21_r12_9_2, e]
    exact key _ I' A' N' rfl hB
  · obtain ⟨I', A', N', e, hB⟩ := q44_50_12 d sl I A N V lt tw sp sr X
    rw [k27_r21_r12_9_3, e]
    exact key _ I' A' N' rfl hB
  · obtain ⟨I', A', N', e, hB⟩ := q44_59_12 d sl I A N V lt tw sp sr X
    rw [k27_r21_r12_9_4, e]
    exact key _ I' A' N' rfl hB
  · obtain ⟨I', A', N', e, hB⟩ := q44_68_12 d sl I A N V lt tw sp sr X
    rw [k27_r21_r12_9_5, e]
    exact key _ I' A' N' rfl hB
  · obtain ⟨I', A', N', e, hB⟩ := q44_77_12 d sl I A N V lt tw sp sr X
    rw [k27_r21_r12_9_6, e]
    exact key _ I' A' N' rfl hB
  · obtain ⟨I', A', N', e, hB⟩ := q44_86_12 d sl I A N V lt tw sp sr X
    rw [k27_r21_r12_9_7, e]
    exact key _ I' A' N' rfl hB
theorem q28_0 (hZ : I 21 2 = nI 0) : C (d + 1) 28 [.ref 21, .ref 3] sl (CH I A N V lt tw sp sr X) = some ([.int (x_b false)], sl, CH I A N V lt tw sp sr X) := by
  rw [e28, k28_r21_r3_0, hZ]
  simp (disch := omega) only [rt_c, b_some, List.cons_append, List.nil_append, Bool.cond_not, cond_true, cond_false, Bool.cond_decide, nI_add, nI_clamp, xin_n, dle_e, dlt_e, deq_e, xb_0, xb_1, decide_true, decide_false, Bool.not_true, Bool.not_false, Bool.and_true, Bool.true_and, Bool.and_false, Bool.false_and, Bool.true_or, Bool.false_or, Bool.or_true, Bool.or_false, if_true, if_false, up1_s, n_31, Int32.lt_irrefl, t28_8, t28_8_0, t28_8_1, t28_49, t28_49_0, t28_49_1]
theorem q28 {p z : Nat} (hV : V22 V) (hp : p < 8) (hz : z < 8) (hP : I 21 1 = nI p) (hZ : I 21 2 = nI (z + 1)) : ∃ I' A' N', C (d + 1) 28 [.ref 21, .ref 3] sl (CH I A N V lt tw sp sr X) = some ([.int (x_b true)], sl, CH I' A' N' V lt tw sp sr X) ∧ I' 21 1 = nI ((p + 7) % 8) ∧ I' 21 2 = nI z ∧ (∀ n H m, Sh I A (23 + 9 * ((p + 7) % 8)) n H m → Sh I' A' 3 n H m) ∧ (∀ h, h < 6 → N' 4 h = N (23 + 9 * ((p + 7) % 8) + 1) h) ∧ (∀ q, q ≠ 21 → q ≠ 3 → I' q = I q) ∧ (∀ q, (q < 5 ∨ 11 < q) → A' q = A q) ∧ (∀ q, q ≠ 4 → N' q = N q) := by
  have hp' : (p + 7) % 8 < 8 := Nat.mod_lt _ (by decide)
  have hv := hV _ hp'
  have hz0 : ¬ z + 1 = 0 := by omega
  have hz1 : nI (z + 1) - nI 1 = nI z := nI_pred z
  rw [e28, k28_r21_r3_0, hP, hZ, mod8' hp, hz1]
  simp (disch := omega) only [rt_c, b_some, List.cons_append, List.nil_append, Bool.cond_not, cond_true, cond_false, Bool.cond_decide, nI_add, nI_clamp, xin_n, dle_e, dlt_e, deq_e, xb_0, xb_1, decide_true, decide_false, Bool.not_true, Bool.not_false, Bool.and_true, Bool.true_and, Bool.and_false, Bool.false_and, Bool.true_or, Bool.false_or, Bool.or_true, Bool.or_false, if_true, if_false, up1_s, n_31, Int32.lt_irrefl, hv, x_rf, hz0]
  generalize hpp : (p + 7) % 8 = pp at hp' ⊢
  have key : ∀ a I' A' N', a = 23 + 9 * pp → Bc 3 a (up1 I 21 (up1 (up1 (I 21) 1 (nI pp)) 2 (nI z))) A N I' A' N' → ∃ I'' A'' N'', rt 28 (R (d + 1) 28 (48, [some (.ref 21), some (.ref 3)], [], sl, CH I' A' N' V lt tw sp sr X)) = some ([.int (x_b true)], sl, CH I'' A'' N'' V lt tw sp sr X) ∧ I'' 21 1 = nI pp ∧ I'' 21 2 = nI z ∧ (∀ n H m, Sh I A (23 + 9 * pp) n H m → Sh I'' A'' 3 n H m) ∧ (∀ h, h < 6 → N'' 4 h = N (23 + 9 * pp + 1) h) ∧ (∀ q, q ≠ 21 → q ≠ 3 → I'' q = I q) ∧ (∀ q, (q < 5 ∨ 11 < q) → A'' q = A q) ∧ (∀ q, q ≠ 4 → N'' q = N q) := by
    intro a I' A' N' ha ⟨h1, h2, h3, h4, h5⟩
    subst ha
    have f1 := h3 21 (by omega)
    rw [k28_r21_r3_48]
    refine ⟨I', A', N', ?_, ?_, ?_, ?_, h2, ?_, h4, h5⟩
    · simp (disch := omega) only [rt_c, b_some, List.cons_append, List.nil_append, Bool.cond_not, cond_true, cond_false, Bool.cond_decide, nI_add, nI_clamp, xin_n, dle_e, dlt_e, deq_e, xb_0, xb_1, decide_true, decide_false, Bool.not_true, Bool.not_false, Bool.and_true, Bool.true_and, Bool.and_false, Bool.false_and, Bool.true_or, Bool.false_or, Bool.or_true, Bool.or_false, if_true, if_false, up1_s, n_31, Int32.lt_irrefl, t28_8, t28_8_0, t28_8_1, t28_49, t28_49_0, t28_49_1]
    · rw [f1, up1_s, up1_n (by omega), up1_s]
    · rw [f1, up1_s, up1_s]
    · intro n H m hS
      refine h1 n H m ?_
      unfold Sh at hS ⊢
      rwa [up1_n (by omega)]
    · intro q hq1 hq2
      rw [h3 q hq2, up1_n hq1]
  rcases (show pp = 0 ∨ pp = 1 ∨ pp = 2 ∨ pp = 3 ∨ pp = 4 ∨ pp = 5 ∨ pp = 6 ∨ pp = 7 by omega) with rfl | rfl | rfl | rfl | rfl | rfl | rfl | rfl
  · obtain ⟨I', A', N', e, hB⟩ := q44_3_23 d sl (up1 I 21 (up1 (up1 (I 21) 1 (nI 0)) 2 (nI z))) A N V lt tw sp sr X
    rw [k28_r21_r3_45, e]
    exact key _ I' A' N' rfl hB
  · obtain ⟨I', A', N', e, hB⟩ := q44_3_32 d sl (up1 I 21 (up1 (up1 (I 21) 1 (nI 1)) 2 (nI z))) A N V lt tw sp sr X
    rw [k28_r21_r3_45_1, e]
    exact key _ I' A' N' rfl hB
  · obtain ⟨I', A', N', e, hB⟩ := q44_3_41 d sl (up1 I 21 (up1 (up1 (I 21) 1 (nI 2)) 2 (nI z))) A N V lt tw sp sr X
    rw [k28_r21_r3_45_2, e]
    exact key _ I' A' N' rfl hB
  · obtain ⟨I', A', N', e, hB⟩ := q44_3_50 d sl (up1 I 21 (up1 (up1 (I 21) 1 (nI 3)) 2 (nI z))) A N V lt tw sp sr X
    rw [k28_r21_r3_45_3, e]
    exact key _ I' A' N' rfl hB
  · obtain ⟨I', A', N', e, hB⟩ := q44_3_59 d sl (up1 I 21 (up1 (up1 (I 21) 1 (nI 4)) 2 (nI z))) A N V lt tw sp sr X
    rw [k28_r21_r3_45_4, e]
    exact key _ I' A' N' rfl hB
  · obtain ⟨I', A', N', e, hB⟩ := q44_3_68 d sl (up1 I 21 (up1 (up1 (I 21) 1 (nI 5)) 2 (nI z))) A N V lt tw sp sr X
    rw [k28_r21_r3_45_5, e]
    exact key _ I' A' N' rfl hB
  · obtain ⟨I', A', N', e, hB⟩ := q44_3_77 d sl (up1 I 21 (up1 (up1 (I 21) 1 (nI 6)) 2 (nI z))) A N V lt tw sp sr X
    rw [k28_r21_r3_45_6, e]
    exact key _ I' A' N' rfl hB
  · obtain ⟨I', A', N', e, hB⟩ := q44_3_86 d sl (up1 I 21 (up1 (up1 (I 21) 1 (nI 7)) 2 (nI z))) A N V lt tw sp sr X
    rw [k28_r21_r3_45_7, e]
    exact key _ I' A' N' rfl hB
end CL6
section RF6
variable (d sl : Nat) (I : Nat → Int32) (w : Int64) (A : Nat → Nat → Int32) (N : Nat → Nat → Int64)
/-- one row laid over a part of another -/
theorem c217_51 {s : Nat} (hs : s < 8) (hI : I 24 = nI s) : ∀ (q i : Nat) (B : Nat → Int32), i + q = 57 → (∀ k, k < i → B (57 * s + k) = A 2 (70 + k)) → ∃ B', rt 217 (R d 217 (51, [some (.ref 0), some (.int (nI i))], [], sl, RH I w (up1 A 5 B) N)) = some ([], sl, RH (up1 I 24 (nI (s + 1))) w (up1 A 5 B') N) ∧ (∀ k, k < 57 → B' (57 * s + k) = A 2 (70 + k)) ∧ (∀ k, k < 57 * s → B' k = B k) := by
  intro q
  induction q with
  | zero =>
    intro i B hi hB
    have h1 : 57 ≤ i := by omega
    refine ⟨B, ?_, fun k hk => hB k (by omega), fun _ _ => rfl⟩
    rw [m217_51]
    simp (disch := omega) only [rt_c, b_some, List.cons_append, List.nil_append, Bool.cond_not, cond_true, cond_false, Bool.cond_decide, nI_add, nI_clamp, xin_n, dle_e, dlt_e, deq_e, xb_0, xb_1, decide_true, decide_false, Bool.not_true, Bool.not_false, Bool.and_true, Bool.true_and, Bool.and_false, Bool.false_and, Bool.true_or, Bool.false_or, Bool.or_true, Bool.or_false, if_true, if_false, up1_s, n_31, Int32.lt_irrefl, h1, hI, t217_96]
  | succ q ih =>
    intro i B hi hB
    have h1 : ¬ 57 ≤ i := by omega
    have hmul : nI 57 * nI s = nI (57 * s) := by
      have : ∀ s : Fin 8, nI 57 * nI s.val = nI (57 * s.val) := by decide +kernel
      exact this ⟨s, hs⟩
    obtain ⟨B', e1, e2, e3⟩ := ih (i + 1) (upd B (57 * s + i) (A 2 (70 + i))) (by omega) (fun k hk => by
      by_cases h : k = i
      · rw [h, upd_s]
      · rw [upd_n (by omega)]; exact hB k (by omega))
    refine ⟨B', ?_, e2, fun k hk => ?_⟩
    · rw [m217_51]
      simp (disch := omega) only [rt_c, b_some, List.cons_append, List.nil_append, Bool.cond_not, cond_true, cond_false, Bool.cond_decide, nI_add, nI_clamp, xin_n, dle_e, dlt_e, deq_e, xb_0, xb_1, decide_true, decide_false, Bool.not_true, Bool.not_false, Bool.and_true, Bool.true_and, Bool.and_false, Bool.false_and, Bool.true_or, Bool.false_or, Bool.or_true, Bool.or_false, if_true, if_false, up1_s, n_31, Int32.lt_irrefl, h1, hI, hmul, up1_n, up1_up]
      exact e1
    · rw [e3 k hk, upd_n (by omega)]
theorem c217_11 : ∀ (q i : Nat) (B : Nat → Int32), i + q = 399 → (∀ k, k < i → B k = A 5 (k + 57)) → (∀ k, i ≤ k → B k = A 5 k) → ∃ B', rt 217 (R d 217 (11, [some (.ref 0), some (.int (nI i))], [], sl, RH I w (up1 A 5 B) N)) = rt 217 (R d 217 (51, [some (.ref 0), some (.int (nI 0))], [], sl, RH (up1 I 24 (I 24 - nI 1)) w (up1 A 5 B') N)) ∧ (∀ k, k < 399 → B' k = A 5 (k + 57)) := by
  intro q
  induction q with
  | zero =>
    intro i B hi hB _
    have h1 : 399 ≤ i := by omega
    refine ⟨B, ?_, fun k hk => hB k (by omega)⟩
    rw [m217_11]
    simp (disch := omega) only [rt_c, b_some, List.cons_append, List.nil_append, Bool.cond_not, cond_true, cond_false, Bool.cond_decide, nI_add, nI_clamp, xin_n, dle_e, dlt_e, deq_e, xb_0, xb_1, decide_true, decide_false, Bool.not_true, Bool.not_false, Bool.and_true, Bool.true_and, Bool.and_false, Bool.false_and, Bool.true_or, Bool.false_or, Bool.or_true, Bool.or_false, if_true, if_false, up1_s, n_31, Int32.lt_irrefl, h1]
  | succ q ih =>
    intro i B hi hB hB2
    have h1 : ¬ 399 ≤ i := by omega
    obtain ⟨B', e1, e2⟩ := ih (i + 1) (upd B i (B (i + 57))) (by omega) (fun k hk => by
      by_cases h : k = i
      · rw [h, upd_s, hB2 _ (by omega)]
      · rw [upd_n h]; exact hB k (by omega)) (fun k hk => by rw [upd_n (by omega)]; exact hB2 k (by omega))
    refine ⟨B', ?_, e2⟩
    rw [m217_11]
    simp (disch := omega) only [rt_c, b_some, List.cons_append, List.nil_append, Bool.cond_not, cond_true, cond_false, Bool.cond_decide, nI_add, nI_clamp, xin_n, dle_e, dlt_e, deq_e, xb_0, xb_1, decide_true, decide_false, Bool.not_true, Bool.not_false, Bool.and_true, Bool.true_and, Bool.and_false, Bool.false_and, Bool.true_or, Bool.false_or, Bool.or_true, Bool.or_false, if_true, if_false, up1_s, n_31, Int32.lt_irrefl, h1, up1_up]
    exact e1
theorem c217 {s : Nat} (hs : s ≤ 8) (hI : I 24 = nI s) : ∃ B, C d 217 [.ref 0] sl (RH I w A N) = some ([], sl, RH (up1 I 24 (nI (min 8 (s + 1)))) w (up1 A 5 B) N) ∧ (∀ j k, j < min 8 (s + 1) - 1 → k < 57 → B (57 * j + k) = A 5 (57 * (j + (s + 1 - min 8 (s + 1))) + k)) ∧ (∀ k, k < 57 → B (57 * (min 8 (s + 1) - 1) + k) = A 2 (70 + k)) := by
  rw [e217, m217_0, hI]
  by_cases h8 : s = 8
  · subst h8
    obtain ⟨B1, f1, f2⟩ := c217_11 d sl I w A N 399 0 (A 5) (by omega) (fun k hk => by omega) (fun _ _ => rfl)
    rw [up1_id, hI] at f1
    have hp : nI 8 - nI 1 = nI 7 := by decide
    rw [hp] at f1
    obtain ⟨B2, g1, g2, g3⟩ := c217_51 d sl (up1 I 24 (nI 7)) w A N (s := 7) (by omega) up1_s 57 0 B1 (by omega) (fun k hk => by omega)
    rw [up1_up] at g1
    refine ⟨B2, ?_, ?_, ?_⟩
    · simp (disch := omega) only [rt_c, b_some, List.cons_append, List.nil_append, Bool.cond_not, cond_true, cond_false, Bool.cond_decide, nI_add, nI_clamp, xin_n, dle_e, dlt_e, deq_e, xb_0, xb_1, decide_true, decide_false, Bool.not_true, Bool.not_false, Bool.and_true, Bool.true_and, Bool.and_false, Bool.false_and, Bool.true_or, Bool.false_or, Bool.or_true, Bool.or_false, if_true, if_false, up1_s, n_31, Int32.lt_irrefl, f1, g1]
      rfl
    · intro j k hj hk
      have hj' : j < 7 := by simpa using hj
      rw [g3 _ (by omega), f2 _ (by omega)]
      congr 1
      simp
      omega
    · intro k hk
      exact g2 k hk
  · have hmin : min 8 (s + 1) = s + 1 := by omega
    rw [hmin]
    obtain ⟨B2, g1, g2, g3⟩ := c217_51 d sl I w A N (s := s) (by omega) hI 57 0 (A 5) (by omega) (fun k hk => by omega)
    rw [up1_id] at g1
    refine ⟨B2, ?_, ?_, ?_⟩
    · simp (disch := omega) only [rt_c, b_some, List.cons_append, List.nil_append, Bool.cond_not, cond_true, cond_false, Bool.cond_decide, nI_add, nI_clamp, xin_n, dle_e, dlt_e, deq_e, xb_0, xb_1, decide_true, decide_false, Bool.not_true, Bool.not_false, Bool.and_true, Bool.true_and, Bool.and_false, Bool.false_and, Bool.true_or, Bool.false_or, Bool.or_true, Bool.or_false, if_true, if_false, up1_s, n_31, Int32.lt_irrefl, h8, g1]
    · intro j k hj hk
      rw [g3 _ (by omega)]
      congr 1
      omega
    · intro k hk
      exact g2 k hk
/-- the row n, but from 70 on (57 of them) as B has it from p on -/
def lay (n B : Nat → Int32) (p : Nat) : Nat → Int32 := fun k => if 70 ≤ k ∧ k < 127 then B (p + (k - 70)) else n k
theorem lay_o {n B : Nat → Int32} {p k : Nat} (h : k < 70 ∨ 127 ≤ k) : lay n B p k = n k := by
  unfold lay
  rw [if_neg (by omega)]
theorem lay_i {n B : Nat → Int32} {p k : Nat} (h : k < 57) : lay n B p (70 + k) = B (p + k) := by
  unfold lay
  rw [if_pos (by omega)]
  congr 2
  omega
theorem lay_id {n : Nat → Int32} : lay n n 70 = n := by
  funext k
  unfold lay
  split
  · congr 1; omega
  · rfl
theorem lay_lay {n B B' : Nat → Int32} {p q : Nat} : lay (lay n B p) B' q = lay n B' q := by
  funext k
  unfold lay
  split <;> rfl
theorem lay_step {n r B : Nat → Int32} {p i : Nat} (hi : i < 57) (hr : r = fun k => if 70 ≤ k ∧ k < 70 + i then B (p + (k - 70)) else n k) : upd r (70 + i) (B (p + i)) = fun k => if 70 ≤ k ∧ k < 70 + (i + 1) then B (p + (k - 70)) else n k := by
  funext k
  subst hr
  unfold upd
  by_cases h : k = 70 + i
  · rw [if_pos h, if_pos (by omega)]
    congr 1
    omega
  · rw [if_neg h]
    show (if 70 ≤ k ∧ k < 70 + i then B (p + (k - 70)) else n k) = _
    by_cases h2 : 70 ≤ k ∧ k < 70 + i
    · rw [if_pos h2, if_pos (by omega)]
    · rw [if_neg h2, if_neg (by omega)]
theorem lay_0 {n B : Nat → Int32} {p : Nat} : n = fun k => if 70 ≤ k ∧ k < 70 + 0 then B (p + (k - 70)) else n k := by
  funext k
  rw [if_neg (by omega)]
theorem c228_0 (hI : I 24 = nI 0) : C d 228 [.ref 0] sl (RH I w A N) = some ([.int (-1)], sl, RH (up1 I 0 (nI 0)) w A N) := by
  rw [e228, m228_0, hI]
  simp (disch := omega) only [rt_c, b_some, List.cons_append, List.nil_append, Bool.cond_not, cond_true, cond_false, Bool.cond_decide, nI_add, nI_clamp, xin_n, dle_e, dlt_e, deq_e, xb_0, xb_1, decide_true, decide_false, Bool.not_true, Bool.not_false, Bool.and_true, Bool.true_and, Bool.and_false, Bool.false_and, Bool.true_or, Bool.false_or, Bool.or_true, Bool.or_false, if_true, if_false, up1_s, n_31, Int32.lt_irrefl, t228_13, t228_65]
theorem c228 {s : Nat} (hs : s < 8) (hI : I 24 = nI (s + 1)) : C d 228 [.ref 0] sl (RH I w A N) = some ([.int (nI s)], sl, RH (up1 (up1 I 0 (nI 0)) 24 (nI s)) w (up1 A 2 (lay (A 2) (A 5) (57 * s))) N) := by
  have hmul : nI 57 * nI s = nI (57 * s) := by
    have : ∀ s : Fin 8, nI 57 * nI s.val = nI (57 * s.val) := by decide +kernel
    exact this ⟨s, hs⟩
  have hs0 : ¬ s + 1 = 0 := by omega
  have hp : nI (s + 1) - nI 1 = nI s := nI_pred s
  have key : ∀ (q i : Nat) (J : Nat → Int32) (r : Nat → Int32), J 24 = nI s → i + q = 57 → (r = fun k => if 70 ≤ k ∧ k < 70 + i then A 5 (57 * s + (k - 70)) else A 2 k) → rt 228 (R d 228 (26, [some (.ref 0), some (.int (nI i))], [], sl, RH J w (up1 A 2 r) N)) = some ([.int (nI s)], sl, RH J w (up1 A 2 (lay (A 2) (A 5) (57 * s))) N) := by
    intro q
    induction q with
    | zero =>
      intro i J r hJ hi hr
      have h1 : 57 ≤ i := by omega
      have h2 : r = lay (A 2) (A 5) (57 * s) := by
        rw [hr]
        funext k
        unfold lay
        rw [show 70 + i = 127 by omega]
      rw [m228_26]
      simp (disch := omega) only [rt_c, b_some, List.cons_append, List.nil_append, Bool.cond_not, cond_true, cond_false, Bool.cond_decide, nI_add, nI_clamp, xin_n, dle_e, dlt_e, deq_e, xb_0, xb_1, decide_true, decide_false, Bool.not_true, Bool.not_false, Bool.and_true, Bool.true_and, Bool.and_false, Bool.false_and, Bool.true_or, Bool.false_or, Bool.or_true, Bool.or_false, if_true, if_false, up1_s, n_31, Int32.lt_irrefl, h1, hJ, t228_13, t228_65, h2]
    | succ q ih =>
      intro i J r hJ hi hr
      have h1 : ¬ 57 ≤ i := by omega
      have h3 := ih (i + 1) J _ hJ (by omega) (lay_step (by omega) hr)
      rw [m228_26]
      simp (disch := omega) only [rt_c, b_some, List.cons_append, List.nil_append, Bool.cond_not, cond_true, cond_false, Bool.cond_decide, nI_add, nI_clamp, xin_n, dle_e, dlt_e, deq_e, xb_0, xb_1, decide_true, decide_false, Bool.not_true, Bool.not_false, Bool.and_true, Bool.true_and, Bool.and_false, Bool.false_and, Bool.true_or, Bool.false_or, Bool.or_true, Bool.or_false, if_true, if_false, up1_s, n_31, Int32.lt_irrefl, h1, hJ, hmul, up1_n, up1_up, h3]
  rw [e228, m228_0, hI, hp]
  simp (disch := omega) only [rt_c, b_some, List.cons_append, List.nil_append, Bool.cond_not, cond_true, cond_false, Bool.cond_decide, nI_add, nI_clamp, xin_n, dle_e, dlt_e, deq_e, xb_0, xb_1, decide_true, decide_false, Bool.not_true, Bool.not_false, Bool.and_true, Bool.true_and, Bool.and_false, Bool.false_and, Bool.true_or, Bool.false_or, Bool.or_true, Bool.or_false, if_true, if_false, up1_s, n_31, Int32.lt_irrefl, hs0]
  have := key 57 0 (up1 (up1 I 0 (nI 0)) 24 (nI s)) (A 2) up1_s (by omega) lay_0
  rwa [up1_id] at this
theorem c235 : ∃ B, C d 235 [.ref 0] sl (RH I w A N) = some ([], sl, RH I w (up1 A 6 B) N) ∧ ∀ k, k < 57 → B k = A 2 (70 + k) := by
  have key : ∀ (q i : Nat) (B : Nat → Int32), i + q = 57 → (∀ k, k < i → B k = A 2 (70 + k)) → ∃ B', rt 235 (R d 235 (2, [some (.ref 0), some (.int (nI i))], [], sl, RH I w (up1 A 6 B) N)) = some ([], sl, RH I w (up1 A 6 B') N) ∧ ∀ k, k < 57 → B' k = A 2 (70 + k) := by
    intro q
    induction q with
    | zero =>
      intro i B hi hB
      have h1 : 57 ≤ i := by omega
      refine ⟨B, ?_, fun k hk => hB k (by omega)⟩
      rw [m235_2]
      simp (disch := omega) only [rt_c, b_some, List.cons_append, List.nil_append, Bool.cond_not, cond_true, cond_false, Bool.cond_decide, nI_add, nI_clamp, xin_n, dle_e, dlt_e, deq_e, xb_0, xb_1, decide_true, decide_false, Bool.not_true, Bool.not_false, Bool.and_true, Bool.true_and, Bool.and_false, Bool.false_and, Bool.true_or, Bool.false_or, Bool.or_true, Bool.or_false, if_true, if_false, up1_s, n_31, Int32.lt_irrefl, h1, t235_29]
    | succ q ih =>
      intro i B hi hB
      have h1 : ¬ 57 ≤ i := by omega
      obtain ⟨B', e1, e2⟩ := ih (i + 1) (upd B i (A 2 (70 + i))) (by omega) (fun k hk => by
        by_cases h : k = i
        · rw [h, upd_s]
        · rw [upd_n h]; exact hB k (by omega))
      refine ⟨B', ?_, e2⟩
      rw [m235_2]
      simp (disch := omega) only [rt_c, b_some, List.cons_append, List.nil_append, Bool.cond_not, cond_true, cond_false, Bool.cond_decide, nI_add, nI_clamp, xin_n, dle_e, dlt_e, deq_e, xb_0, xb_1, decide_true, decide_false, Bool.not_true, Bool.not_false, Bool.and_true, Bool.true_and, Bool.and_false, Bool.false_and, Bool.true_or, Bool.false_or, Bool.or_true, Bool.or_false, if_true, if_false, up1_s, n_31, Int32.lt_irrefl, h1, up1_n, up1_up]
      exact e1
  obtain ⟨B, e1, e2⟩ := key 57 0 (A 6) (by omega) (fun k hk => by omega)
  rw [up1_id] at e1
  refine ⟨B, ?_, e2⟩
  rw [e235, m235_0, e1]
theorem c236 : C d 236 [.ref 0] sl (RH I w A N) = some ([], sl, RH I w (up1 A 2 (lay (A 2) (A 6) 0)) N) := by
  have key : ∀ (q i : Nat) (r : Nat → Int32), i + q = 57 → (r = fun k => if 70 ≤ k ∧ k < 70 + i then A 6 (0 + (k - 70)) else A 2 k) → rt 236 (R d 236 (2, [some (.ref 0), some (.int (nI i))], [], sl, RH I w (up1 A 2 r) N)) = some ([], sl, RH I w (up1 A 2 (lay (A 2) (A 6) 0)) N) := by
    intro q
    induction q with
    | zero =>
      intro i r hi hr
      have h1 : 57 ≤ i := by omega
      have h2 : r = lay (A 2) (A 6) 0 := by
        rw [hr]
        funext k
        unfold lay
        rw [show 70 + i = 127 by omega]
      rw [m236_2]
      simp (disch := omega) only [rt_c, b_some, List.cons_append, List.nil_append, Bool.cond_not, cond_true, cond_false, Bool.cond_decide, nI_add, nI_clamp, xin_n, dle_e, dlt_e, deq_e, xb_0, xb_1, decide_true, decide_false, Bool.not_true, Bool.not_false, Bool.and_true, Bool.true_and, Bool.and_false, Bool.false_and, Bool.true_or, Bool.false_or, Bool.or_true, Bool.or_false, if_true, if_false, up1_s, n_31, Int32.lt_irrefl, h1, t236_29, h2]
    | succ q ih =>
      intro i r hi hr
      have h1 : ¬ 57 ≤ i := by omega
      have h3 := ih (i + 1) _ (by omega) (lay_step (by omega) hr)
      rw [Nat.zero_add] at h3
      rw [m236_2]
      simp (disch := omega) only [rt_c, b_some, List.cons_append, List.nil_append, Bool.cond_not, cond_true, cond_false, Bool.cond_decide, nI_add, nI_clamp, xin_n, dle_e, dlt_e, deq_e, xb_0, xb_1, decide_true, decide_false, Bool.not_true, Bool.not_false, Bool.and_true, Bool.true_and, Bool.and_false, Bool.false_and, Bool.true_or, Bool.false_or, Bool.or_true, Bool.or_false, if_true, if_false, up1_s, n_31, Int32.lt_irrefl, h1, up1_n, up1_up, h3]
  have := key 57 0 (A 2) (by omega) lay_0
  rw [up1_id] at this
  rw [e236, m236_0, this]
end RF6
