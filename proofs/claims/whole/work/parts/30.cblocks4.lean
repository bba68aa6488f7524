set_option maxRecDepth 100000 in
theorem k9_r101_r1_r3_38 (d sl : Nat) (I : Nat → Nat → Int32) (A : Nat → Nat → Int32) (N : Nat → Nat → Int64) (V : Nat → Nat → Option Nat) (lt : Int64) (tw : Option Nat) (sp sr : Nat) (X : List AC) (a3 : Int32) (b0 : Int32) :
  R (d + 1) 9 (38, [some (.ref 101), some (.ref 1), some (.ref 3), some (.int a3)], [.int b0], sl, (CH I A N V lt tw sp sr X)) =
    cond (!decide (b0 = 0)) (R (d + 1) 9 (7, [some (.ref 101), some (.ref 1), some (.ref 3), some (.int (a3 + (1 : Int32)))], [], sl, (CH I A N V lt tw sp sr X))) (some (42, [some (.ref 101), some (.ref 1), some (.ref 3), some (.int a3)], [.int (0 : Int32)], sl, (CH I A N V lt tw sp sr X))) :=
  (R_gob [7, 18, 29, 38] 400 _ _ _).trans rfl
set_option maxRecDepth 100000 in
theorem k15_r101_r12_0 (d sl : Nat) (I : Nat → Nat → Int32) (A : Nat → Nat → Int32) (N : Nat → Nat → Int64) (V : Nat → Nat → Option Nat) (lt : Int64) (tw : Option Nat) (sp sr : Nat) (X : List AC)  :
  R (d + 1) 15 (0, [some (.ref 101), some (.ref 12)], [], sl, (CH I A N V lt tw sp sr X)) =
    R (d + 1) 15 (15, [some (.ref 101), some (.ref 12)], [], sl, (CH (up1 I 101 (up1 (up1 (up1 (I 101) 5 (1 : Int32)) 6 (0 : Int32)) 7 (0 : Int32))) A N V lt tw sp sr X)) :=
  (R_gob [15, 43, 79] 400 _ _ _).trans rfl
set_option maxRecDepth 100000 in
theorem k15_r101_r12_15 (d sl : Nat) (I : Nat → Nat → Int32) (A : Nat → Nat → Int32) (N : Nat → Nat → Int64) (V : Nat → Nat → Option Nat) (lt : Int64) (tw : Option Nat) (sp sr : Nat) (X : List AC)  :
  R (d + 1) 15 (15, [some (.ref 101), some (.ref 12)], [], sl, (CH I A N V lt tw sp sr X)) =
    cond (!decide ((I 101 6) = 0)) (bC (C d 66 [.ref 12] sl (CH (up1 I 101 (up1 (I 101) 8 (I 12 12))) A N V lt tw sp sr X)) (fun vs sl h => R (d + 1) 15 (79, [some (.ref 101), some (.ref 12)], vs ++ [.ref 101], sl, h))) (cond (decide ((I 101 4) ≤ (I 101 7))) (bC (C d 66 [.ref 12] sl (CH (up1 I 101 (up1 (I 101) 8 (I 12 12))) A N V lt tw sp sr X)) (fun vs sl h => R (d + 1) 15 (79, [some (.ref 101), some (.ref 12)], vs ++ [.ref 101], sl, h))) (bC (C d 16 [.ref 101, .ref 12, .int (I 101 7)] sl (CH I A N V lt tw sp sr X)) (fun vs sl h => R (d + 1) 15 (43, [some (.ref 101), some (.ref 12)], vs ++ [.ref 101], sl, h)))) :=
  (R_gob [15, 43, 79] 400 _ _ _).trans rfl
set_option maxRecDepth 100000 in
theorem k15_r101_r12_79 (d sl : Nat) (I : Nat → Nat → Int32) (A : Nat → Nat → Int32) (N : Nat → Nat → Int64) (V : Nat → Nat → Option Nat) (lt : Int64) (tw : Option Nat) (sp sr : Nat) (X : List AC) (b0 : Int32) :
  R (d + 1) 15 (79, [some (.ref 101), some (.ref 12)], [.int b0, .ref 101], sl, (CH I A N V lt tw sp sr X)) =
    some (82, [some (.ref 101), some (.ref 12)], [], sl, (CH (up1 I 101 (up1 (I 101) 9 b0)) A N V lt tw sp sr X)) :=
  (R_gob [15, 43, 79] 400 _ _ _).trans rfl
set_option maxRecDepth 100000 in
theorem k15_r101_r12_43 (d sl : Nat) (I : Nat → Nat → Int32) (A : Nat → Nat → Int32) (N : Nat → Nat → Int64) (V : Nat → Nat → Option Nat) (lt : Int64) (tw : Option Nat) (sp sr : Nat) (X : List AC) (b0 : Int32) :
  R (d + 1) 15 (43, [some (.ref 101), some (.ref 12)], [.int b0, .ref 101], sl, (CH I A N V lt tw sp sr X)) =
    cond (!decide (b0 = 0)) (R (d + 1) 15 (15, [some (.ref 101), some (.ref 12)], [], sl, (CH (up1 I 101 (up1 (I 101) 6 b0)) A N V lt tw sp sr X))) (R (d + 1) 15 (15, [some (.ref 101), some (.ref 12)], [], sl, (CH (up1 I 101 (up1 (up1 (I 101) 6 b0) 7 ((I 101 7) + (1 : Int32)))) A N V lt tw sp sr X))) :=
  (R_gob [15, 43, 79] 400 _ _ _).trans rfl
set_option maxRecDepth 100000 in
theorem k36_r146_r1_r3_r112_0 (d sl : Nat) (I : Nat → Nat → Int32) (A : Nat → Nat → Int32) (N : Nat → Nat → Int64) (V : Nat → Nat → Option Nat) (lt : Int64) (tw : Option Nat) (sp sr : Nat) (x0_3 : Int32) :
  R d 36 (0, [some (.ref 146), some (.ref 1), some (.ref 3), some (.ref 112)], [], sl, (CH I A N V lt tw sp sr [.inr (5, [.null, .null, .null, .int x0_3])])) =
    some (24, [some (.ref 146), some (.ref 1), some (.ref 3), some (.ref 112)], [], sl, (CH I A N V lt tw sp sr [.inr (5, [.ref 1, .ref 3, .ref 112, .int (0 : Int32)])])) :=
  (R_gob [] 400 _ _ _).trans rfl
set_option maxRecDepth 100000 in
theorem k99_r1_0 (d sl : Nat) (I : Nat → Nat → Int32) (A : Nat → Nat → Int32) (N : Nat → Nat → Int64) (V : Nat → Nat → Option Nat) (lt : Int64) (tw : Option Nat) (sp sr : Nat) (X : List AC)  :
  R (d + 1) 99 (0, [some (.ref 1)], [], sl, (CH I A N V lt tw sp sr X)) =
    bC (C d 94 [.ref 1] sl (CH I A N V lt tw sp sr X)) (fun vs sl h => R (d + 1) 99 (4, [some (.ref 1)], vs ++ [], sl, h)) :=
  (R_gob [4, 12] 400 _ _ _).trans rfl
set_option maxRecDepth 100000 in
theorem k99_r1_4 (d sl : Nat) (I : Nat → Nat → Int32) (A : Nat → Nat → Int32) (N : Nat → Nat → Int64) (V : Nat → Nat → Option Nat) (lt : Int64) (tw : Option Nat) (sp sr : Nat) (X : List AC) (b0 : Int32) :
  R (d + 1) 99 (4, [some (.ref 1)], [.int b0], sl, (CH I A N V lt tw sp sr X)) =
    cond (!decide (b0 = 0)) (some (20, [some (.ref 1)], [.int (1 : Int32)], sl, (CH I A N V lt tw sp sr X))) (bC (C d 97 [.ref 1, .int (1 : Int32)] sl (CH I A N V lt tw sp sr X)) (fun vs sl h => R (d + 1) 99 (12, [some (.ref 1)], vs ++ [], sl, h))) :=
  (R_gob [4, 12] 400 _ _ _).trans rfl
set_option maxRecDepth 100000 in
theorem k99_r1_12 (d sl : Nat) (I : Nat → Nat → Int32) (A : Nat → Nat → Int32) (N : Nat → Nat → Int64) (V : Nat → Nat → Option Nat) (lt : Int64) (tw : Option Nat) (sp sr : Nat) (X : List AC) (b0 : Int32) :
  R (d + 1) 99 (12, [some (.ref 1)], [.int b0], sl, (CH I A N V lt tw sp sr X)) =
    cond (decide (b0 = 0)) (some (20, [some (.ref 1)], [.int (0 : Int32)], sl, (CH I A N V lt tw sp sr X))) (some (20, [some (.ref 1)], [.int (1 : Int32)], sl, (CH I A N V lt tw sp sr X))) :=
  (R_gob [4, 12] 400 _ _ _).trans rfl
set_option maxRecDepth 100000 in
theorem k37_r146_v0_0 (d sl : Nat) (I : Nat → Nat → Int32) (A : Nat → Nat → Int32) (N : Nat → Nat → Int64) (V : Nat → Nat → Option Nat) (lt : Int64) (tw : Option Nat) (a1 : Int32) (x0_3 : Int32) :
  R (d + 1) 37 (0, [some (.ref 146), some (.int a1), none], [], sl, (CH I A N V lt tw 108 112 [.inr (5, [.ref 1, .ref 3, .ref 112, .int x0_3])])) =
    bC (C d 38 [.ref 146, .int a1] sl (CH I A N V lt tw 108 112 [.inr (5, [.ref 1, .ref 3, .ref 112, .int x0_3])])) (fun vs sl h => R (d + 1) 37 (5, [some (.ref 146), some (.int a1), none], vs ++ [], sl, h)) :=
  (R_gob [5, 12, 38, 43, 60] 400 _ _ _).trans rfl
set_option maxRecDepth 100000 in
theorem k37_r146_v0_5 (d sl : Nat) (I : Nat → Nat → Int32) (A : Nat → Nat → Int32) (N : Nat → Nat → Int64) (V : Nat → Nat → Option Nat) (lt : Int64) (tw : Option Nat) (a1 : Int32) (b0 : Int32) (x0_3 : Int32) :
  R (d + 1) 37 (5, [some (.ref 146), some (.int a1), none], [.int b0], sl, (CH I A N V lt tw 108 112 [.inr (5, [.ref 1, .ref 3, .ref 112, .int x0_3])])) =
    cond (!decide (b0 = 0)) (R (d + 1) 37 (12, [some (.ref 146), some (.int a1), some (.int (0 : Int32))], [], sl, (CH I A N V lt tw 108 112 [.inr (5, [.ref 1, .ref 3, .ref 112, .int x0_3])]))) (some (9, [some (.ref 146), some (.int a1), none], [.int (0 : Int32)], sl, (CH I A N V lt tw 108 112 [.inr (5, [.ref 1, .ref 3, .ref 112, .int x0_3])]))) :=
  (R_gob [5, 12, 38, 43, 60] 400 _ _ _).trans rfl
set_option maxRecDepth 100000 in
theorem k37_r146_v0_12 (d sl : Nat) (I : Nat → Nat → Int32) (A : Nat → Nat → Int32) (N : Nat → Nat → Int64) (V : Nat → Nat → Option Nat) (lt : Int64) (a1 : Int32) (a2 : Int32) (x0_3 : Int32) :
  R (d + 1) 37 (12, [some (.ref 146), some (.int a1), some (.int a2)], [], sl, (CH I A N V lt none 108 112 [.inr (5, [.ref 1, .ref 3, .ref 112, .int x0_3])])) =
    cond (decide ((20 : Int32) ≤ a2)) (some (67, [some (.ref 146), some (.int a1), some (.int a2)], [.int (1 : Int32)], sl, (CH I A N V lt none 108 112 [.inr (5, [.ref 1, .ref 3, .ref 112, .int x0_3])]))) (some (67, [some (.ref 146), some (.int a1), some (.int a2)], [.int (1 : Int32)], sl, (CH I A N V lt none 108 112 [.inr (5, [.ref 1, .ref 3, .ref 112, .int x0_3])]))) :=
  (R_gob [5, 12, 38, 43, 60] 400 _ _ _).trans rfl
set_option maxRecDepth 100000 in
theorem k37_r146_v0_12_1 (d sl : Nat) (I : Nat → Nat → Int32) (A : Nat → Nat → Int32) (N : Nat → Nat → Int64) (V : Nat → Nat → Option Nat) (lt : Int64) (tw : Nat) (a1 : Int32) (a2 : Int32) (x0_3 : Int32) :
  R (d + 1) 37 (12, [some (.ref 146), some (.int a1), some (.int a2)], [], sl, (CH I A N V lt (some tw) 108 112 [.inr (5, [.ref 1, .ref 3, .ref 112, .int x0_3])])) =
    cond (decide ((20 : Int32) ≤ a2)) (some (67, [some (.ref 146), some (.int a1), some (.int a2)], [.int (1 : Int32)], sl, (CH I A N V lt (some tw) 108 112 [.inr (5, [.ref 1, .ref 3, .ref 112, .int x0_3])]))) (cond (x_isw tw && x_isw 1000009) (cond (!(Nat.beq tw 1000009)) (some (67, [some (.ref 146), some (.int a1), some (.int a2)], [.int (1 : Int32)], sl, (CH I A N V lt (some tw) 108 112 [.inr (5, [.ref 1, .ref 3, .ref 112, .int x0_3])]))) (bC (C d 90 [.ref 1] sl (CH I A N V lt (some tw) 108 112 [.inr (5, [.ref 1, .ref 3, .ref 112, .int x0_3])])) (fun vs sl h => R (d + 1) 37 (38, [some (.ref 146), some (.int a1), some (.int a2)], vs ++ [], sl, h)))) none) :=
  (R_gob [5, 12, 38, 43, 60] 400 _ _ _).trans rfl
set_option maxRecDepth 100000 in
theorem k37_r146_v0_38 (d sl : Nat) (I : Nat → Nat → Int32) (A : Nat → Nat → Int32) (N : Nat → Nat → Int64) (V : Nat → Nat → Option Nat) (lt : Int64) (tw : Option Nat) (a1 : Int32) (a2 : Int32) (x0_3 : Int32) :
  R (d + 1) 37 (38, [some (.ref 146), some (.int a1), some (.int a2)], [], sl, (CH I A N V lt tw 108 112 [.inr (5, [.ref 1, .ref 3, .ref 112, .int x0_3])])) =
    bC (C d 38 [.ref 146, .int a1] sl (CH I A N V lt tw 108 112 [.inr (5, [.ref 1, .ref 3, .ref 112, .int x0_3])])) (fun vs sl h => R (d + 1) 37 (43, [some (.ref 146), some (.int a1), some (.int a2)], vs ++ [], sl, h)) :=
  (R_gob [5, 12, 38, 43, 60] 400 _ _ _).trans rfl
set_option maxRecDepth 100000 in
theorem k37_r146_v0_43 (d sl : Nat) (I : Nat → Nat → Int32) (A : Nat → Nat → Int32) (N : Nat → Nat → Int64) (V : Nat → Nat → Option Nat) (lt : Int64) (tw : Option Nat) (a1 : Int32) (a2 : Int32) (b0 : Int32) (x0_3 : Int32) :
  R (d + 1) 37 (43, [some (.ref 146), some (.int a1), some (.int a2)], [.int b0], sl, (CH I A N V lt tw 108 112 [.inr (5, [.ref 1, .ref 3, .ref 112, .int x0_3])])) =
    cond (!decide (b0 = 0)) (bC (C d 31 [.ref 112, .ref 1000009, .int (0 : Int32), .int (0 : Int32)] sl (CH I A N V lt tw 108 112 [.inr (5, [.ref 1, .ref 3, .ref 112, .int x0_3])])) (fun vs sl h => R (d + 1) 37 (60, [some (.ref 146), some (.int a1), some (.int a2)], vs ++ [], sl, h))) (some (47, [some (.ref 146), some (.int a1), some (.int a2)], [.int (0 : Int32)], sl, (CH I A N V lt tw 108 112 [.inr (5, [.ref 1, .ref 3, .ref 112, .int x0_3])]))) :=
  (R_gob [5, 12, 38, 43, 60] 400 _ _ _).trans rfl
set_option maxRecDepth 100000 in
theorem k37_r146_v0_60 (d sl : Nat) (I : Nat → Nat → Int32) (A : Nat → Nat → Int32) (N : Nat → Nat → Int64) (V : Nat → Nat → Option Nat) (lt : Int64) (tw : Option Nat) (a1 : Int32) (a2 : Int32) (x0_3 : Int32) :
  R (d + 1) 37 (60, [some (.ref 146), some (.int a1), some (.int a2)], [], sl, (CH I A N V lt tw 108 112 [.inr (5, [.ref 1, .ref 3, .ref 112, .int x0_3])])) =
    R (d + 1) 37 (12, [some (.ref 146), some (.int a1), some (.int (a2 + (1 : Int32)))], [], sl, (CH I A N V lt tw 108 112 [.inr (5, [.ref 1, .ref 3, .ref 112, .int x0_3])])) :=
  (R_gob [5, 12, 38, 43, 60] 400 _ _ _).trans rfl
set_option maxRecDepth 100000 in
theorem k37_r146_v1_0 (d sl : Nat) (I : Nat → Nat → Int32) (A : Nat → Nat → Int32) (N : Nat → Nat → Int64) (V : Nat → Nat → Option Nat) (lt : Int64) (tw : Option Nat) (a1 : Int32) (x0_3 : Int32) :
  R (d + 1) 37 (0, [some (.ref 146), some (.int a1), none], [], sl, (CH I A N V lt tw 112 108 [.inr (5, [.ref 1, .ref 3, .ref 108, .int x0_3])])) =
    bC (C d 38 [.ref 146, .int a1] sl (CH I A N V lt tw 112 108 [.inr (5, [.ref 1, .ref 3, .ref 108, .int x0_3])])) (fun vs sl h => R (d + 1) 37 (5, [some (.ref 146), some (.int a1), none], vs ++ [], sl, h)) :=
  (R_gob [5, 12, 38, 43, 60] 400 _ _ _).trans rfl
set_option maxRecDepth 100000 in
theorem k37_r146_v1_5 (d sl : Nat) (I : Nat → Nat → Int32) (A : Nat → Nat → Int32) (N : Nat → Nat → Int64) (V : Nat → Nat → Option Nat) (lt : Int64) (tw : Option Nat) (a1 : Int32) (b0 : Int32) (x0_3 : Int32) :
  R (d + 1) 37 (5, [some (.ref 146), some (.int a1), none], [.int b0], sl, (CH I A N V lt tw 112 108 [.inr (5, [.ref 1, .ref 3, .ref 108, .int x0_3])])) =
    cond (!decide (b0 = 0)) (R (d + 1) 37 (12, [some (.ref 146), some (.int a1), some (.int (0 : Int32))], [], sl, (CH I A N V lt tw 112 108 [.inr (5, [.ref 1, .ref 3, .ref 108, .int x0_3])]))) (some (9, [some (.ref 146), some (.int a1), none], [.int (0 : Int32)], sl, (CH I A N V lt tw 112 108 [.inr (5, [.ref 1, .ref 3, .ref 108, .int x0_3])]))) :=
  (R_gob [5, 12, 38, 43, 60] 400 _ _ _).trans rfl
set_option maxRecDepth 100000 in
theorem k37_r146_v1_12 (d sl : Nat) (I : Nat → Nat → Int32) (A : Nat → Nat → Int32) (N : Nat → Nat → Int64) (V : Nat → Nat → Option Nat) (lt : Int64) (a1 : Int32) (a2 : Int32) (x0_3 : Int32) :
  R (d + 1) 37 (12, [some (.ref 146), some (.int a1), some (.int a2)], [], sl, (CH I A N V lt none 112 108 [.inr (5, [.ref 1, .ref 3, .ref 108, .int x0_3])])) =
    cond (decide ((20 : Int32) ≤ a2)) (some (67, [some (.ref 146), some (.int a1), some (.int a2)], [.int (1 : Int32)], sl, (CH I A N V lt none 112 108 [.inr (5, [.ref 1, .ref 3, .ref 108, .int x0_3])]))) (some (67, [some (.ref 146), some (.int a1), some (.int a2)], [.int (1 : Int32)], sl, (CH I A N V lt none 112 108 [.inr (5, [.ref 1, .ref 3, .ref 108, .int x0_3])]))) :=
  (R_gob [5, 12, 38, 43, 60] 400 _ _ _).trans rfl
set_option maxRecDepth 100000 in
theorem k37_r146_v1_12_1 (d sl : Nat) (I : Nat → Nat → Int32) (A : Nat → Nat → Int32) (N : Nat → Nat → Int64) (V : Nat → Nat → Option Nat) (lt : Int64) (tw : Nat) (a1 : Int32) (a2 : Int32) (x0_3 : Int32) :
  R (d + 1) 37 (12, [some (.ref 146), some (.int a1), some (.int a2)], [], sl, (CH I A N V lt (some tw) 112 108 [.inr (5, [.ref 1, .ref 3, .ref 108, .int x0_3])])) =
    cond (decide ((20 : Int32) ≤ a2)) (some (67, [some (.ref 146), some (.int a1), some (.int a2)], [.int (1 : Int32)], sl, (CH I A N V lt (some tw) 112 108 [.inr (5, [.ref 1, .ref 3, .ref 108, .int x0_3])]))) (cond (x_isw tw && x_isw 1000009) (cond (!(Nat.beq tw 1000009)) (some (67, [some (.ref 146), some (.int a1), some (.int a2)], [.int (1 : Int32)], sl, (CH I A N V lt (some tw) 112 108 [.inr (5, [.ref 1, .ref 3, .ref 108, .int x0_3])]))) (bC (C d 90 [.ref 1] sl (CH I A N V lt (some tw) 112 108 [.inr (5, [.ref 1, .ref 3, .ref 108, .int x0_3])])) (fun vs sl h => R (d + 1) 37 (38, [some (.ref 146), some (.int a1), some (.int a2)], vs ++ [], sl, h)))) none) :=
  (R_gob [5, 12, 38, 43, 60] 400 _ _ _).trans rfl
set_option maxRecDepth 100000 in
theorem k37_r146_v1_38 (d sl : Nat) (I : Nat → Nat → Int32) (A : Nat → Nat → Int32) (N : Nat → Nat → Int64) (V : Nat → Nat → Option Nat) (lt : Int64) (tw : Option Nat) (a1 : Int32) (a2 : Int32) (x0_3 : Int32) :
  R (d + 1) 37 (38, [some (.ref 146), some (.int a1), some (.int a2)], [], sl, (CH I A N V lt tw 112 108 [.inr (5, [.ref 1, .ref 3, .ref 108, .int x0_3])])) =
    bC (C d 38 [.ref 146, .int a1] sl (CH I A N V lt tw 112 108 [.inr (5, [.ref 1, .ref 3, .ref 108, .int x0_3])])) (fun vs sl h => R (d + 1) 37 (43, [some (.ref 146), some (.int a1), some (.int a2)], vs ++ [], sl, h)) :=
  (R_gob [5, 12, 38, 43, 60] 400 _ _ _).trans rfl
set_option maxRecDepth 100000 in
theorem k37_r146_v1_43 (d sl : Nat) (I : Nat → Nat → Int32) (A : Nat → Nat → Int32) (N : Nat → Nat → Int64) (V : Nat → Nat → Option Nat) (lt : Int64) (tw : Option Nat) (a1 : Int32) (a2 : Int32) (b0 : Int32) (x0_3 : Int32) :
  R (d + 1) 37 (43, [some (.ref 146), some (.int a1), some (.int a2)], [.int b0], sl, (CH I A N V lt tw 112 108 [.inr (5, [.ref 1, .ref 3, .ref 108, .int x0_3])])) =
    cond (!decide (b0 = 0)) (bC (C d 31 [.ref 108, .ref 1000009, .int (0 : Int32), .int (0 : Int32)] sl (CH I A N V lt tw 112 108 [.inr (5, [.ref 1, .ref 3, .ref 108, .int x0_3])])) (fun vs sl h => R (d + 1) 37 (60, [some (.ref 146), some (.int a1), some (.int a2)], vs ++ [], sl, h))) (some (47, [some (.ref 146), some (.int a1), some (.int a2)], [.int (0 : Int32)], sl, (CH I A N V lt tw 112 108 [.inr (5, [.ref 1, .ref 3, .ref 108, .int x0_3])]))) :=
  (R_gob [5, 12, 38, 43, 60] 400 _ _ _).trans rfl
set_option maxRecDepth 100000 in
theorem k37_r146_v1_60 (d sl : Nat) (I : Nat → Nat → Int32) (A : Nat → Nat → Int32) (N : Nat → Nat → Int64) (V : Nat → Nat → Option Nat) (lt : Int64) (tw : Option Nat) (a1 : Int32) (a2 : Int32) (x0_3 : Int32) :
  R (d + 1) 37 (60, [some (.ref 146), some (.int a1), some (.int a2)], [], sl, (CH I A N V lt tw 112 108 [.inr (5, [.ref 1, .ref 3, .ref 108, .int x0_3])])) =
    R (d + 1) 37 (12, [some (.ref 146), some (.int a1), some (.int (a2 + (1 : Int32)))], [], sl, (CH I A N V lt tw 112 108 [.inr (5, [.ref 1, .ref 3, .ref 108, .int x0_3])])) :=
  (R_gob [5, 12, 38, 43, 60] 400 _ _ _).trans rfl
set_option maxRecDepth 100000 in
theorem k36_r146_r1_r3_r108_0 (d sl : Nat) (I : Nat → Nat → Int32) (A : Nat → Nat → Int32) (N : Nat → Nat → Int64) (V : Nat → Nat → Option Nat) (lt : Int64) (tw : Option Nat) (sp sr : Nat) (x0_3 : Int32) :
  R d 36 (0, [some (.ref 146), some (.ref 1), some (.ref 3), some (.ref 108)], [], sl, (CH I A N V lt tw sp sr [.inr (5, [.null, .null, .null, .int x0_3])])) =
    some (24, [some (.ref 146), some (.ref 1), some (.ref 3), some (.ref 108)], [], sl, (CH I A N V lt tw sp sr [.inr (5, [.ref 1, .ref 3, .ref 108, .int (0 : Int32)])])) :=
  (R_gob [] 400 _ _ _).trans rfl
set_option maxRecDepth 100000 in
theorem k33_r108_r3_0 (d sl : Nat) (I : Nat → Nat → Int32) (A : Nat → Nat → Int32) (N : Nat → Nat → Int64) (V : Nat → Nat → Option Nat) (lt : Int64) (tw : Option Nat) (sp sr : Nat) (X : List AC) (a2 : Int32) (a3 : Int32) :
  R (d + 1) 33 (0, [some (.ref 108), some (.ref 3), some (.int a2), some (.int a3), none, none, none], [], sl, (CH I A N V lt tw sp sr X)) =
    R (d + 1) 33 (6, [some (.ref 108), some (.ref 3), some (.int a2), some (.int a3), some (.int (0 : Int32)), some (.int (0 : Int32)), none], [], sl, (CH I A N V lt tw sp sr X)) :=
  (R_gob [6, 136] 400 _ _ _).trans rfl
set_option maxRecDepth 100000 in
theorem k33_r108_r3_6 (d sl : Nat) (I : Nat → Nat → Int32) (A : Nat → Nat → Int32) (N : Nat → Nat → Int64) (V : Nat → Nat → Option Nat) (lt : Int64) (tw : Option Nat) (sp sr : Nat) (X : List AC) (a2 : Int32) (a3 : Int32) (a4 : Int32) (a5 : Int32) :
  R (d + 1) 33 (6, [some (.ref 108), some (.ref 3), some (.int a2), some (.int a3), some (.int a4), some (.int a5), none], [], sl, (CH I A N V lt tw sp sr X)) =
    cond (decide ((I 108 3) ≤ a5)) (cond (!decide (a4 = (1 : Int32))) (some (164, [some (.ref 108), some (.ref 3), some (.int a2), some (.int a3), some (.int a4), some (.int a5), none], [.int (0 : Int32)], sl, (CH I A N V lt tw sp sr X))) (some (164, [some (.ref 108), some (.ref 3), some (.int a2), some (.int a3), some (.int a4), some (.int a5), none], [.int (1 : Int32)], sl, (CH I A N V lt tw sp sr X)))) (cond (x_in a5 40) (R (d + 1) 33 (28, [some (.ref 108), some (.ref 3), some (.int a2), some (.int a3), some (.int a4), some (.int a5), some (.int (a4 &&& (1 : Int32)))], [x_rf ((V 109) a5.toNatClampNeg)], sl, (CH I A N V lt tw sp sr X))) none) :=
  (R_gob [6, 28, 136] 400 _ _ _).trans rfl
set_option maxRecDepth 100000 in
theorem k33_r108_r3_28 (d sl : Nat) (I : Nat → Nat → Int32) (A : Nat → Nat → Int32) (N : Nat → Nat → Int64) (V : Nat → Nat → Option Nat) (lt : Int64) (tw : Option Nat) (sp sr : Nat) (X : List AC) (a2 : Int32) (a3 : Int32) (a4 : Int32) (a5 : Int32) (a6 : Int32) :
  R (d + 1) 33 (28, [some (.ref 108), some (.ref 3), some (.int a2), some (.int a3), some (.int a4), some (.int a5), some (.int a6)], [.null], sl, (CH I A N V lt tw sp sr X)) =
    cond (x_in a5 40) (R (d + 1) 33 (50, [some (.ref 108), some (.ref 3), some (.int a2), some (.int a3), some (.int a4), some (.int a5), some (.int a6)], [x_rf ((V 109) a5.toNatClampNeg)], sl, (CH I A N V lt tw sp sr X))) none :=
  (R_gob [6, 28, 50, 136] 400 _ _ _).trans rfl
set_option maxRecDepth 100000 in
theorem k33_r108_r3_28_1 (d sl : Nat) (I : Nat → Nat → Int32) (A : Nat → Nat → Int32) (N : Nat → Nat → Int64) (V : Nat → Nat → Option Nat) (lt : Int64) (tw : Option Nat) (sp sr : Nat) (X : List AC) (a2 : Int32) (a3 : Int32) (a4 : Int32) (a5 : Int32) (a6 : Int32) (b0 : Nat) :
  R (d + 1) 33 (28, [some (.ref 108), some (.ref 3), some (.int a2), some (.int a3), some (.int a4), some (.int a5), some (.int a6)], [.ref b0], sl, (CH I A N V lt tw sp sr X)) =
    cond (x_isw b0 && x_isw 1000011) (cond (!(Nat.beq b0 1000011)) (cond (x_in a5 40) (R (d + 1) 33 (50, [some (.ref 108), some (.ref 3), some (.int a2), some (.int a3), some (.int a4), some (.int a5), some (.int a6)], [x_rf ((V 109) a5.toNatClampNeg)], sl, (CH I A N V lt tw sp sr X))) none) (R (d + 1) 33 (6, [some (.ref 108), some (.ref 3), some (.int a2), some (.int a3), some (.int (a4 ^^^ (1 : Int32))), some (.int (a5 + (1 : Int32))), some (.int a6)], [], sl, (CH I A N V lt tw sp sr X)))) none :=
  (R_gob [6, 28, 50, 136] 400 _ _ _).trans rfl
set_option maxRecDepth 100000 in
theorem k33_r108_r3_50 (d sl : Nat) (I : Nat → Nat → Int32) (A : Nat → Nat → Int32) (N : Nat → Nat → Int64) (V : Nat → Nat → Option Nat) (lt : Int64) (tw : Option Nat) (sp sr : Nat) (X : List AC) (a2 : Int32) (a3 : Int32) (a4 : Int32) (a5 : Int32) (a6 : Int32) :
  R (d + 1) 33 (50, [some (.ref 108), some (.ref 3), some (.int a2), some (.int a3), some (.int a4), some (.int a5), some (.int a6)], [.null], sl, (CH I A N V lt tw sp sr X)) =
    cond (x_in a5 40) (R (d + 1) 33 (78, [some (.ref 108), some (.ref 3), some (.int a2), some (.int a3), some (.int a4), some (.int a5), some (.int a6)], [x_rf ((V 109) a5.toNatClampNeg)], sl, (CH I A N V lt tw sp sr X))) none :=
  (R_gob [6, 28, 50, 78, 136] 400 _ _ _).trans rfl
set_option maxRecDepth 100000 in
theorem k33_r108_r3_50_1 (d sl : Nat) (I : Nat → Nat → Int32) (A : Nat → Nat → Int32) (N : Nat → Nat → Int64) (V : Nat → Nat → Option Nat) (lt : Int64) (tw : Option Nat) (sp sr : Nat) (X : List AC) (a2 : Int32) (a3 : Int32) (a4 : Int32) (a5 : Int32) (a6 : Int32) (b0 : Nat) :
  R (d + 1) 33 (50, [some (.ref 108), some (.ref 3), some (.int a2), some (.int a3), some (.int a4), some (.int a5), some (.int a6)], [.ref b0], sl, (CH I A N V lt tw sp sr X)) =
    cond (x_isw b0 && x_isw 1000010) (cond (!(Nat.beq b0 1000010)) (cond (x_in a5 40) (R (d + 1) 33 (78, [some (.ref 108), some (.ref 3), some (.int a2), some (.int a3), some (.int a4), some (.int a5), some (.int a6)], [x_rf ((V 109) a5.toNatClampNeg)], sl, (CH I A N V lt tw sp sr X))) none) (R (d + 1) 33 (6, [some (.ref 108), some (.ref 3), some (.int a2), some (.int a3), some (.int ((a4.toUInt32 >>> ((1 : Int32).toUInt32 &&& Int32.toUInt32 31)).toInt32 &&& (a6 ||| (-2 : Int32)))), some (.int (a5 + (1 : Int32))), some (.int a6)], [], sl, (CH I A N V lt tw sp sr X)))) none :=
  (R_gob [6, 28, 50, 78, 136] 400 _ _ _).trans rfl
set_option maxRecDepth 100000 in
theorem k33_r108_r3_6_1 (d sl : Nat) (I : Nat → Nat → Int32) (A : Nat → Nat → Int32) (N : Nat → Nat → Int64) (V : Nat → Nat → Option Nat) (lt : Int64) (tw : Option Nat) (sp sr : Nat) (X : List AC) (a2 : Int32) (a3 : Int32) (a4 : Int32) (a5 : Int32) (a6 : Int32) :
  R (d + 1) 33 (6, [some (.ref 108), some (.ref 3), some (.int a2), some (.int a3), some (.int a4), some (.int a5), some (.int a6)], [], sl, (CH I A N V lt tw sp sr X)) =
    cond (decide ((I 108 3) ≤ a5)) (cond (!decide (a4 = (1 : Int32))) (some (164, [some (.ref 108), some (.ref 3), some (.int a2), some (.int a3), some (.int a4), some (.int a5), some (.int a6)], [.int (0 : Int32)], sl, (CH I A N V lt tw sp sr X))) (some (164, [some (.ref 108), some (.ref 3), some (.int a2), some (.int a3), some (.int a4), some (.int a5), some (.int a6)], [.int (1 : Int32)], sl, (CH I A N V lt tw sp sr X)))) (cond (x_in a5 40) (R (d + 1) 33 (28, [some (.ref 108), some (.ref 3), some (.int a2), some (.int a3), some (.int a4), some (.int a5), some (.int (a4 &&& (1 : Int32)))], [x_rf ((V 109) a5.toNatClampNeg)], sl, (CH I A N V lt tw sp sr X))) none) :=
  (R_gob [6, 28, 50, 78, 136] 400 _ _ _).trans rfl
set_option maxRecDepth 100000 in
theorem k33_r108_r3_78 (d sl : Nat) (I : Nat → Nat → Int32) (A : Nat → Nat → Int32) (N : Nat → Nat → Int64) (V : Nat → Nat → Option Nat) (lt : Int64) (tw : Option Nat) (sp sr : Nat) (X : List AC) (a2 : Int32) (a3 : Int32) (a4 : Int32) (a5 : Int32) (a6 : Int32) :
  R (d + 1) 33 (78, [some (.ref 108), some (.ref 3), some (.int a2), some (.int a3), some (.int a4), some (.int a5), some (.int a6)], [.null], sl, (CH I A N V lt tw sp sr X)) =
    cond (x_in a5 40) (R (d + 1) 33 (103, [some (.ref 108), some (.ref 3), some (.int a2), some (.int a3), some (.int a4), some (.int a5), some (.int a6)], [x_rf ((V 109) a5.toNatClampNeg)], sl, (CH I A N V lt tw sp sr X))) none :=
  (R_gob [6, 28, 50, 78, 103, 136] 400 _ _ _).trans rfl
set_option maxRecDepth 100000 in
theorem k33_r108_r3_78_1 (d sl : Nat) (I : Nat → Nat → Int32) (A : Nat → Nat → Int32) (N : Nat → Nat → Int64) (V : Nat → Nat → Option Nat) (lt : Int64) (tw : Option Nat) (sp sr : Nat) (X : List AC) (a2 : Int32) (a3 : Int32) (a4 : Int32) (a5 : Int32) (a6 : Int32) (b0 : Nat) :
  R (d + 1) 33 (78, [some (.ref 108), some (.ref 3), some (.int a2), some (.int a3), some (.int a4), some (.int a5), some (.int a6)], [.ref b0], sl, (CH I A N V lt tw sp sr X)) =
    cond (x_isw b0 && x_isw 1000009) (cond (!(Nat.beq b0 1000009)) (cond (x_in a5 40) (R (d + 1) 33 (103, [some (.ref 108), some (.ref 3), some (.int a2), some (.int a3), some (.int a4), some (.int a5), some (.int a6)], [x_rf ((V 109) a5.toNatClampNeg)], sl, (CH I A N V lt tw sp sr X))) none) (R (d + 1) 33 (6, [some (.ref 108), some (.ref 3), some (.int a2), some (.int a3), some (.int ((a4.toUInt32 >>> ((1 : Int32).toUInt32 &&& Int32.toUInt32 31)).toInt32 ||| a6)), some (.int (a5 + (1 : Int32))), some (.int a6)], [], sl, (CH I A N V lt tw sp sr X)))) none :=
  (R_gob [6, 28, 50, 78, 103, 136] 400 _ _ _).trans rfl
set_option maxRecDepth 100000 in
theorem k33_r108_r3_103 (d sl : Nat) (I : Nat → Nat → Int32) (A : Nat → Nat → Int32) (N : Nat → Nat → Int64) (V : Nat → Nat → Option Nat) (lt : Int64) (tw : Option Nat) (sp sr : Nat) (X : List AC) (a2 : Int32) (a3 : Int32) (a4 : Int32) (a5 : Int32) (a6 : Int32) :
  R (d + 1) 33 (103, [some (.ref 108), some (.ref 3), some (.int a2), some (.int a3), some (.int a4), some (.int a5), some (.int a6)], [.null], sl, (CH I A N V lt tw sp sr X)) =
    bC (C d 34 [.ref 108, .int a5, .ref 3, .int a2] sl (CH I A N V lt tw sp sr X)) (fun vs sl h => R (d + 1) 33 (136, [some (.ref 108), some (.ref 3), some (.int a2), some (.int a3), some (.int a4), some (.int a5), some (.int a6)], vs ++ [.int (a4 <<< ((1 : Int32) &&& 31))], sl, h)) :=
  (R_gob [6, 28, 50, 78, 103, 136] 400 _ _ _).trans rfl
set_option maxRecDepth 100000 in
theorem k33_r108_r3_103_1 (d sl : Nat) (I : Nat → Nat → Int32) (A : Nat → Nat → Int32) (N : Nat → Nat → Int64) (V : Nat → Nat → Option Nat) (lt : Int64) (tw : Option Nat) (sp sr : Nat) (X : List AC) (a2 : Int32) (a3 : Int32) (a4 : Int32) (a5 : Int32) (a6 : Int32) (b0 : Nat) :
  R (d + 1) 33 (103, [some (.ref 108), some (.ref 3), some (.int a2), some (.int a3), some (.int a4), some (.int a5), some (.int a6)], [.ref b0], sl, (CH I A N V lt tw sp sr X)) =
    cond (x_isw b0 && x_isw 1000015) (cond (!(Nat.beq b0 1000015)) (bC (C d 34 [.ref 108, .int a5, .ref 3, .int a2] sl (CH I A N V lt tw sp sr X)) (fun vs sl h => R (d + 1) 33 (136, [some (.ref 108), some (.ref 3), some (.int a2), some (.int a3), some (.int a4), some (.int a5), some (.int a6)], vs ++ [.int (a4 <<< ((1 : Int32) &&& 31))], sl, h))) (R (d + 1) 33 (6, [some (.ref 108), some (.ref 3), some (.int a2), some (.int a3), some (.int ((a4 <<< ((1 : Int32) &&& 31)) ||| ((a3 >>> (a2 &&& 31)) &&& (1 : Int32)))), some (.int (a5 + (1 : Int32))), some (.int a6)], [], sl, (CH I A N V lt tw sp sr X)))) none :=
  (R_gob [6, 28, 50, 78, 103, 136] 400 _ _ _).trans rfl
set_option maxRecDepth 100000 in
theorem k33_r108_r3_136 (d sl : Nat) (I : Nat → Nat → Int32) (A : Nat → Nat → Int32) (N : Nat → Nat → Int64) (V : Nat → Nat → Option Nat) (lt : Int64) (tw : Option Nat) (sp sr : Nat) (X : List AC) (a2 : Int32) (a3 : Int32) (a4 : Int32) (a5 : Int32) (a6 : Int32) (b0 : Int32) (b1 : Int32) :
  R (d + 1) 33 (136, [some (.ref 108), some (.ref 3), some (.int a2), some (.int a3), some (.int a4), some (.int a5), some (.int a6)], [.int b0, .int b1], sl, (CH I A N V lt tw sp sr X)) =
    cond (decide (b0 = 0)) (R (d + 1) 33 (6, [some (.ref 108), some (.ref 3), some (.int a2), some (.int a3), some (.int (b1 ||| (0 : Int32))), some (.int (a5 + (1 : Int32))), some (.int a6)], [], sl, (CH I A N V lt tw sp sr X))) (R (d + 1) 33 (6, [some (.ref 108), some (.ref 3), some (.int a2), some (.int a3), some (.int (b1 ||| (1 : Int32))), some (.int (a5 + (1 : Int32))), some (.int a6)], [], sl, (CH I A N V lt tw sp sr X))) :=
  (R_gob [6, 28, 50, 78, 103, 136] 400 _ _ _).trans rfl
set_option maxRecDepth 100000 in
theorem k33_r112_r3_0 (d sl : Nat) (I : Nat → Nat → Int32) (A : Nat → Nat → Int32) (N : Nat → Nat → Int64) (V : Nat → Nat → Option Nat) (lt : Int64) (tw : Option Nat) (sp sr : Nat) (X : List AC) (a2 : Int32) (a3 : Int32) :
  R (d + 1) 33 (0, [some (.ref 112), some (.ref 3), some (.int a2), some (.int a3), none, none, none], [], sl, (CH I A N V lt tw sp sr X)) =
    R (d + 1) 33 (6, [some (.ref 112), some (.ref 3), some (.int a2), some (.int a3), some (.int (0 : Int32)), some (.int (0 : Int32)), none], [], sl, (CH I A N V lt tw sp sr X)) :=
  (R_gob [6, 136] 400 _ _ _).trans rfl
set_option maxRecDepth 100000 in
theorem k33_r112_r3_6 (d sl : Nat) (I : Nat → Nat → Int32) (A : Nat → Nat → Int32) (N : Nat → Nat → Int64) (V : Nat → Nat → Option Nat) (lt : Int64) (tw : Option Nat) (sp sr : Nat) (X : List AC) (a2 : Int32) (a3 : Int32) (a4 : Int32) (a5 : Int32) :
  R (d + 1) 33 (6, [some (.ref 112), some (.ref 3), some (.int a2), some (.int a3), some (.int a4), some (.int a5), none], [], sl, (CH I A N V lt tw sp sr X)) =
    cond (decide ((I 112 3) ≤ a5)) (cond (!decide (a4 = (1 : Int32))) (some (164, [some (.ref 112), some (.ref 3), some (.int a2), some (.int a3), some (.int a4), some (.int a5), none], [.int (0 : Int32)], sl, (CH I A N V lt tw sp sr X))) (some (164, [some (.ref 112), some (.ref 3), some (.int a2), some (.int a3), some (.int a4), some (.int a5), none], [.int (1 : Int32)], sl, (CH I A N V lt tw sp sr X)))) (cond (x_in a5 40) (R (d + 1) 33 (28, [some (.ref 112), some (.ref 3), some (.int a2), some (.int a3), some (.int a4), some (.int a5), some (.int (a4 &&& (1 : Int32)))], [x_rf ((V 113) a5.toNatClampNeg)], sl, (CH I A N V lt tw sp sr X))) none) :=
  (R_gob [6, 28, 136] 400 _ _ _).trans rfl
set_option maxRecDepth 100000 in
theorem k33_r112_r3_28 (d sl : Nat) (I : Nat → Nat → Int32) (A : Nat → Nat → Int32) (N : Nat → Nat → Int64) (V : Nat → Nat → Option Nat) (lt : Int64) (tw : Option Nat) (sp sr : Nat) (X : List AC) (a2 : Int32) (a3 : Int32) (a4 : Int32) (a5 : Int32) (a6 : Int32) :
  R (d + 1) 33 (28, [some (.ref 112), some (.ref 3), some (.int a2), some (.int a3), some (.int a4), some (.int a5), some (.int a6)], [.null], sl, (CH I A N V lt tw sp sr X)) =
    cond (x_in a5 40) (R (d + 1) 33 (50, [some (.ref 112), some (.ref 3), some (.int a2), some (.int a3), some (.int a4), some (.int a5), some (.int a6)], [x_rf ((V 113) a5.toNatClampNeg)], sl, (CH I A N V lt tw sp sr X))) none :=
  (R_gob [6, 28, 50, 136] 400 _ _ _).trans rfl
set_option maxRecDepth 100000 in
theorem k33_r112_r3_28_1 (d sl : Nat) (I : Nat → Nat → Int32) (A : Nat → Nat → Int32) (N : Nat → Nat → Int64) (V : Nat → Nat → Option Nat) (lt : Int64) (tw : Option Nat) (sp sr : Nat) (X : List AC) (a2 : Int32) (a3 : Int32) (a4 : Int32) (a5 : Int32) (a6 : Int32) (b0 : Nat) :
  R (d + 1) 33 (28, [some (.ref 112), some (.ref 3), some (.int a2), some (.int a3), some (.int a4), some (.int a5), some (.int a6)], [.ref b0], sl, (CH I A N V lt tw sp sr X)) =
    cond (x_isw b0 && x_isw 1000011) (cond (!(Nat.beq b0 1000011)) (cond (x_in a5 40) (R (d + 1) 33 (50, [some (.ref 112), some (.ref 3), some (.int a2), some (.int a3), some (.int a4), some (.int a5), some (.int a6)], [x_rf ((V 113) a5.toNatClampNeg)], sl, (CH I A N V lt tw sp sr X))) none) (R (d + 1) 33 (6, [some (.ref 112), some (.ref 3), some (.int a2), some (.int a3), some (.int (a4 ^^^ (1 : Int32))), some (.int (a5 + (1 : Int32))), some (.int a6)], [], sl, (CH I A N V lt tw sp sr X)))) none :=
  (R_gob [6, 28, 50, 136] 400 _ _ _).trans rfl
set_option maxRecDepth 100000 in
theorem k33_r112_r3_50 (d sl : Nat) (I : Nat → Nat → Int32) (A : Nat → Nat → Int32) (N : Nat → Nat → Int64) (V : Nat → Nat → Option Nat) (lt : Int64) (tw : Option Nat) (sp sr : Nat) (X : List AC) (a2 : Int32) (a3 : Int32) (a4 : Int32) (a5 : Int32) (a6 : Int32) :
  R (d + 1) 33 (50, [some (.ref 112), some (.ref 3), some (.int a2), some (.int a3), some (.int a4), some (.int a5), some (.int a6)], [.null], sl, (CH I A N V lt tw sp sr X)) =
    cond (x_in a5 40) (R (d + 1) 33 (78, [some (.ref 112), some (.ref 3), some (.int a2), some (.int a3), some (.int a4), some (.int a5), some (.int a6)], [x_rf ((V 113) a5.toNatClampNeg)], sl, (CH I A N V lt tw sp sr X))) none :=
  (R_gob [6, 28, 50, 78, 136] 400 _ _ _).trans rfl
set_option maxRecDepth 100000 in
theorem k33_r112_r3_50_1 (d sl : Nat) (I : Nat → Nat → Int32) (A : Nat → Nat → Int32) (N : Nat → Nat → Int64) (V : Nat → Nat → Option Nat) (lt : Int64) (tw : Option Nat) (sp sr : Nat) (X : List AC) (a2 : Int32) (a3 : Int32) (a4 : Int32) (a5 : Int32) (a6 : Int32) (b0 : Nat) :
  R (d + 1) 33 (50, [some (.ref 112), some (.ref 3), some (.int a2), some (.int a3), some (.int a4), some (.int a5), some (.int a6)], [.ref b0], sl, (CH I A N V lt tw sp sr X)) =
    cond (x_isw b0 && x_isw 1000010) (cond (!(Nat.beq b0 1000010)) (cond (x_in a5 40) (R (d + 1) 33 (78, [some (.ref 112), some (.ref 3), some (.int a2), some (.int a3), some (.int a4), some (.int a5), some (.int a6)], [x_rf ((V 113) a5.toNatClampNeg)], sl, (CH I A N V lt tw sp sr X))) none) (R (d + 1) 33 (6, [some (.ref 112), some (.ref 3), some (.int a2), some (.int a3), some (.int ((a4.toUInt32 >>> ((1 : Int32).toUInt32 &&& Int32.toUInt32 31)).toInt32 &&& (a6 ||| (-2 : Int32)))), some (.int (a5 + (1 : Int32))), some (.int a6)], [], sl, (CH I A N V lt tw sp sr X)))) none :=
  (R_gob [6, 28, 50, 78, 136] 400 _ _ _).trans rfl
set_option maxRecDepth 100000 in
theorem k33_r112_r3_6_1 (d sl : Nat) (I : Nat → Nat → Int32) (A : Nat → Nat → Int32) (N : Nat → Nat → Int64) (V : Nat → Nat → Option Nat) (lt : Int64) (tw : Option Nat) (sp sr : Nat) (X : List AC) (a2 : Int32) (a3 : Int32) (a4 : Int32) (a5 : Int32) (a6 : Int32) :
  R (d + 1) 33 (6, [some (.ref 112), some (.ref 3), some (.int a2), some (.int a3), some (.int a4), some (.int a5), some (.int a6)], [], sl, (CH I A N V lt tw sp sr X)) =
    cond (decide ((I 112 3) ≤ a5)) (cond (!decide (a4 = (1 : Int32))) (some (164, [some (.ref 112), some (.ref 3), some (.int a2), some (.int a3), some (.int a4), some (.int a5), some (.int a6)], [.int (0 : Int32)], sl, (CH I A N V lt tw sp sr X))) (some (164, [some (.ref 112), some (.ref 3), some (.int a2), some (.int a3), some (.int a4), some (.int a5), some (.int a6)], [.int (1 : Int32)], sl, (CH I A N V lt tw sp sr X)))) (cond (x_in a5 40) (R (d + 1) 33 (28, [some (.ref 112), some (.ref 3), some (.int a2), some (.int a3), some (.int a4), some (.int a5), some (.int (a4 &&& (1 : Int32)))], [x_rf ((V 113) a5.toNatClampNeg)], sl, (CH I A N V lt tw sp sr X))) none) :=
  (R_gob [6, 28, 50, 78, 136] 400 _ _ _).trans rfl
set_option maxRecDepth 100000 in
theorem k33_r112_r3_78 (d sl : Nat) (I : Nat → Nat → Int32) (A : Nat → Nat → Int32) (N : Nat → Nat → Int64) (V : Nat → Nat → Option Nat) (lt : Int64) (tw : Option Nat) (sp sr : Nat) (X : List AC) (a2 : Int32) (a3 : Int32) (a4 : Int32) (a5 : Int32) (a6 : Int32) :
  R (d + 1) 33 (78, [some (.ref 112), some (.ref 3), some (.int a2), some (.int a3), some (.int a4), some (.int a5), some (.int a6)], [.null], sl, (CH I A N V lt tw sp sr X)) =
    cond (x_in a5 40) (R (d + 1) 33 (103, [some (.ref 112), some (.ref 3), some (.int a2), some (.int a3), some (.int a4), some (.int a5), some (.int a6)], [x_rf ((V 113) a5.toNatClampNeg)], sl, (CH I A N V lt tw sp sr X))) none :=
  (R_gob [6, 28, 50, 78, 103, 136] 400 _ _ _).trans rfl
set_option maxRecDepth 100000 in
theorem k33_r112_r3_78_1 (d sl : Nat) (I : Nat → Nat → Int32) (A : Nat → Nat → Int32) (N : Nat → Nat → Int64) (V : Nat → Nat → Option Nat) (lt : Int64) (tw : Option Nat) (sp sr : Nat) (X : List AC) (a2 : Int32) (a3 : Int32) (a4 : Int32) (a5 : Int32) (a6 : Int32) (b0 : Nat) :
  R (d + 1) 33 (78, [some (.ref 112), some (.ref 3), some (.int a2), some (.int a3), some (.int a4), some (.int a5), some (.int a6)], [.ref b0], sl, (CH I A N V lt tw sp sr X)) =
    cond (x_isw b0 && x_isw 1000009) (cond (!(Nat.beq b0 1000009)) (cond (x_in a5 40) (R (d + 1) 33 (103, [some (.ref 112), some (.ref 3), some (.int a2), some (.int a3), some (.int a4), some (.int a5), some (.int a6)], [x_rf ((V 113) a5.toNatClampNeg)], sl, (CH I A N V lt tw sp sr X))) none) (R (d + 1) 33 (6, [some (.ref 112), some (.ref 3), some (.int a2), some (.int a3), some (.int ((a4.toUInt32 >>> ((1 : Int32).toUInt32 &&& Int32.toUInt32 31)).toInt32 ||| a6)), some (.int (a5 + (1 : Int32))), some (.int a6)], [], sl, (CH I A N V lt tw sp sr X)))) none :=
  (R_gob [6, 28, 50, 78, 103, 136] 400 _ _ _).trans rfl
set_option maxRecDepth 100000 in
theorem k33_r112_r3_103 (d sl : Nat) (I : Nat → Nat → Int32) (A : Nat → Nat → Int32) (N : Nat → Nat → Int64) (V : Nat → Nat → Option Nat) (lt : Int64) (tw : Option Nat) (sp sr : Nat) (X : List AC) (a2 : Int32) (a3 : Int32) (a4 : Int32) (a5 : Int32) (a6 : Int32) :
  R (d + 1) 33 (103, [some (.ref 112), some (.ref 3), some (.int a2), some (.int a3), some (.int a4), some (.int a5), some (.int a6)], [.null], sl, (CH I A N V lt tw sp sr X)) =
    bC (C d 34 [.ref 112, .int a5, .ref 3, .int a2] sl (CH I A N V lt tw sp sr X)) (fun vs sl h => R (d + 1) 33 (136, [some (.ref 112), some (.ref 3), some (.int a2), some (.int a3), some (.int a4), some (.int a5), some (.int a6)], vs ++ [.int (a4 <<< ((1 : Int32) &&& 31))], sl, h)) :=
  (R_gob [6, 28, 50, 78, 103, 136] 400 _ _ _).trans rfl
set_option maxRecDepth 100000 in
theorem k33_r112_r3_103_1 (d sl : Nat) (I : Nat → Nat → Int32) (A : Nat → Nat → Int32) (N : Nat → Nat → Int64) (V : Nat → Nat → Option Nat) (lt : Int64) (tw : Option Nat) (sp sr : Nat) (X : List AC) (a2 : Int32) (a3 : Int32) (a4 : Int32) (a5 : Int32) (a6 : Int32) (b0 : Nat) :
  R (d + 1) 33 (103, [some (.ref 112), some (.ref 3), some (.int a2), some (.int a3), some (.int a4), some (.int a5), some (.int a6)], [.ref b0], sl, (CH I A N V lt tw sp sr X)) =
    cond (x_isw b0 && x_isw 1000015) (cond (!(Nat.beq b0 1000015)) (bC (C d 34 [.ref 112, .int a5, .ref 3, .int a2] sl (CH I A N V lt tw sp sr X)) (fun vs sl h => R (d + 1) 33 (136, [some (.ref 112), some (.ref 3), some (.int a2), some (.int a3), some (.int a4), some (.int a5), some (.int a6)], vs ++ [.int (a4 <<< ((1 : Int32) &&& 31))], sl, h))) (R (d + 1) 33 (6, [some (.ref 112), some (.ref 3), some (.int a2), some (.int a3), some (.int ((a4 <<< ((1 : Int32) &&& 31)) ||| ((a3 >>> (a2 &&& 31)) &&& (1 : Int32)))), some (.int (a5 + (1 : Int32))), some (.int a6)], [], sl, (CH I A N V lt tw sp sr X)))) none :=
  (R_gob [6, 28, 50, 78, 103, 136] 400 _ _ _).trans rfl
set_option maxRecDepth 100000 in
theorem k33_r112_r3_136 (d sl : Nat) (I : Nat → Nat → Int32) (A : Nat → Nat → Int32) (N : Nat → Nat → Int64) (V : Nat → Nat → Option Nat) (lt : Int64) (tw : Option Nat) (sp sr : Nat) (X : List AC) (a2 : Int32) (a3 : Int32) (a4 : Int32) (a5 : Int32) (a6 : Int32) (b0 : Int32) (b1 : Int32) :
  R (d + 1) 33 (136, [some (.ref 112), some (.ref 3), some (.int a2), some (.int a3), some (.int a4), some (.int a5), some (.int a6)], [.int b0, .int b1], sl, (CH I A N V lt tw sp sr X)) =
    cond (decide (b0 = 0)) (R (d + 1) 33 (6, [some (.ref 112), some (.ref 3), some (.int a2), some (.int a3), some (.int (b1 ||| (0 : Int32))), some (.int (a5 + (1 : Int32))), some (.int a6)], [], sl, (CH I A N V lt tw sp sr X))) (R (d + 1) 33 (6, [some (.ref 112), some (.ref 3), some (.int a2), some (.int a3), some (.int (b1 ||| (1 : Int32))), some (.int (a5 + (1 : Int32))), some (.int a6)], [], sl, (CH I A N V lt tw sp sr X))) :=
  (R_gob [6, 28, 50, 78, 103, 136] 400 _ _ _).trans rfl
set_option maxRecDepth 100000 in
theorem k32_r142_r108_0 (d sl : Nat) (I : Nat → Nat → Int32) (A : Nat → Nat → Int32) (N : Nat → Nat → Int64) (V : Nat → Nat → Option Nat) (lt : Int64) (tw : Option Nat) (sp sr : Nat) (X : List AC)  :
  R (d + 1) 32 (0, [some (.ref 142), some (.ref 108), none], [], sl, (CH I A N V lt tw sp sr X)) =
    R (d + 1) 32 (7, [some (.ref 142), some (.ref 108), some (.int (0 : Int32))], [], sl, (CH (up1 I 142 (up1 (I 142) 3 (0 : Int32))) A N V lt tw sp sr X)) :=
  (R_gob [7, 37] 400 _ _ _).trans rfl
set_option maxRecDepth 100000 in
theorem k32_r142_r108_7 (d sl : Nat) (I : Nat → Nat → Int32) (A : Nat → Nat → Int32) (N : Nat → Nat → Int64) (V : Nat → Nat → Option Nat) (lt : Int64) (tw : Option Nat) (sp sr : Nat) (X : List AC) (a2 : Int32) :
  R (d + 1) 32 (7, [some (.ref 142), some (.ref 108), some (.int a2)], [], sl, (CH I A N V lt tw sp sr X)) =
    cond (decide ((I 108 3) ≤ a2)) (some (43, [some (.ref 142), some (.ref 108), some (.int a2)], [], sl, (CH I A N V lt tw sp sr X))) (cond (x_in a2 40) (R (d + 1) 32 (22, [some (.ref 142), some (.ref 108), some (.int a2)], [x_rf ((V 109) a2.toNatClampNeg), .ref 142], sl, (CH I A N V lt tw sp sr X))) none) :=
  (R_gob [7, 22, 37] 400 _ _ _).trans rfl
set_option maxRecDepth 100000 in
theorem k32_r142_r108_22 (d sl : Nat) (I : Nat → Nat → Int32) (A : Nat → Nat → Int32) (N : Nat → Nat → Int64) (V : Nat → Nat → Option Nat) (lt : Int64) (tw : Option Nat) (sp sr : Nat) (X : List AC) (a2 : Int32) :
  R (d + 1) 32 (22, [some (.ref 142), some (.ref 108), some (.int a2)], [.null, .ref 142], sl, (CH I A N V lt tw sp sr X)) =
    cond (x_in a2 40) (cond (x_in a2 40) (bC (C d 31 [.ref 142, .null, .int ((A 110) a2.toNatClampNeg), .int ((A 111) a2.toNatClampNeg)] sl (CH I A N V lt tw sp sr X)) (fun vs sl h => R (d + 1) 32 (37, [some (.ref 142), some (.ref 108), some (.int a2)], vs ++ [], sl, h))) none) none :=
  (R_gob [7, 22, 37] 400 _ _ _).trans rfl
set_option maxRecDepth 100000 in
theorem k32_r142_r108_22_1 (d sl : Nat) (I : Nat → Nat → Int32) (A : Nat → Nat → Int32) (N : Nat → Nat → Int64) (V : Nat → Nat → Option Nat) (lt : Int64) (tw : Option Nat) (sp sr : Nat) (X : List AC) (a2 : Int32) (b0 : Nat) :
  R (d + 1) 32 (22, [some (.ref 142), some (.ref 108), some (.int a2)], [.ref b0, .ref 142], sl, (CH I A N V lt tw sp sr X)) =
    cond (x_in a2 40) (cond (x_in a2 40) (bC (C d 31 [.ref 142, .ref b0, .int ((A 110) a2.toNatClampNeg), .int ((A 111) a2.toNatClampNeg)] sl (CH I A N V lt tw sp sr X)) (fun vs sl h => R (d + 1) 32 (37, [some (.ref 142), some (.ref 108), some (.int a2)], vs ++ [], sl, h))) none) none :=
  (R_gob [7, 22, 37] 400 _ _ _).trans rfl
set_option maxRecDepth 100000 in
theorem k32_r142_r108_37 (d sl : Nat) (I : Nat → Nat → Int32) (A : Nat → Nat → Int32) (N : Nat → Nat → Int64) (V : Nat → Nat → Option Nat) (lt : Int64) (tw : Option Nat) (sp sr : Nat) (X : List AC) (a2 : Int32) :
  R (d + 1) 32 (37, [some (.ref 142), some (.ref 108), some (.int a2)], [], sl, (CH I A N V lt tw sp sr X)) =
    R (d + 1) 32 (7, [some (.ref 142), some (.ref 108), some (.int (a2 + (1 : Int32)))], [], sl, (CH I A N V lt tw sp sr X)) :=
  (R_gob [7, 22, 37] 400 _ _ _).trans rfl
set_option maxRecDepth 100000 in
theorem k32_r129_r108_0 (d sl : Nat) (I : Nat → Nat → Int32) (A : Nat → Nat → Int32) (N : Nat → Nat → Int64) (V : Nat → Nat → Option Nat) (lt : Int64) (tw : Option Nat) (sp sr : Nat) (X : List AC)  :
  R (d + 1) 32 (0, [some (.ref 129), some (.ref 108), none], [], sl, (CH I A N V lt tw sp sr X)) =
    R (d + 1) 32 (7, [some (.ref 129), some (.ref 108), some (.int (0 : Int32))], [], sl, (CH (up1 I 129 (up1 (I 129) 3 (0 : Int32))) A N V lt tw sp sr X)) :=
  (R_gob [7, 37] 400 _ _ _).trans rfl
set_option maxRecDepth 100000 in
theorem k32_r129_r108_7 (d sl : Nat) (I : Nat → Nat → Int32) (A : Nat → Nat → Int32) (N : Nat → Nat → Int64) (V : Nat → Nat → Option Nat) (lt : Int64) (tw : Option Nat) (sp sr : Nat) (X : List AC) (a2 : Int32) :
  R (d + 1) 32 (7, [some (.ref 129), some (.ref 108), some (.int a2)], [], sl, (CH I A N V lt tw sp sr X)) =
    cond (decide ((I 108 3) ≤ a2)) (some (43, [some (.ref 129), some (.ref 108), some (.int a2)], [], sl, (CH I A N V lt tw sp sr X))) (cond (x_in a2 40) (R (d + 1) 32 (22, [some (.ref 129), some (.ref 108), some (.int a2)], [x_rf ((V 109) a2.toNatClampNeg), .ref 129], sl, (CH I A N V lt tw sp sr X))) none) :=
  (R_gob [7, 22, 37] 400 _ _ _).trans rfl
set_option maxRecDepth 100000 in
theorem k32_r129_r108_22 (d sl : Nat) (I : Nat → Nat → Int32) (A : Nat → Nat → Int32) (N : Nat → Nat → Int64) (V : Nat → Nat → Option Nat) (lt : Int64) (tw : Option Nat) (sp sr : Nat) (X : List AC) (a2 : Int32) :
  R (d + 1) 32 (22, [some (.ref 129), some (.ref 108), some (.int a2)], [.null, .ref 129], sl, (CH I A N V lt tw sp sr X)) =
    cond (x_in a2 40) (cond (x_in a2 40) (bC (C d 31 [.ref 129, .null, .int ((A 110) a2.toNatClampNeg), .int ((A 111) a2.toNatClampNeg)] sl (CH I A N V lt tw sp sr X)) (fun vs sl h => R (d + 1) 32 (37, [some (.ref 129), some (.ref 108), some (.int a2)], vs ++ [], sl, h))) none) none :=
  (R_gob [7, 22, 37] 400 _ _ _).trans rfl
set_option maxRecDepth 100000 in
theorem k32_r129_r108_22_1 (d sl : Nat) (I : Nat → Nat → Int32) (A : Nat → Nat → Int32) (N : Nat → Nat → Int64) (V : Nat → Nat → Option Nat) (lt : Int64) (tw : Option Nat) (sp sr : Nat) (X : List AC) (a2 : Int32) (b0 : Nat) :
  R (d + 1) 32 (22, [some (.ref 129), some (.ref 108), some (.int a2)], [.ref b0, .ref 129], sl, (CH I A N V lt tw sp sr X)) =
    cond (x_in a2 40) (cond (x_in a2 40) (bC (C d 31 [.ref 129, .ref b0, .int ((A 110) a2.toNatClampNeg), .int ((A 111) a2.toNatClampNeg)] sl (CH I A N V lt tw sp sr X)) (fun vs sl h => R (d + 1) 32 (37, [some (.ref 129), some (.ref 108), some (.int a2)], vs ++ [], sl, h))) none) none :=
  (R_gob [7, 22, 37] 400 _ _ _).trans rfl
set_option maxRecDepth 100000 in
theorem k32_r129_r108_37 (d sl : Nat) (I : Nat → Nat → Int32) (A : Nat → Nat → Int32) (N : Nat → Nat → Int64) (V : Nat → Nat → Option Nat) (lt : Int64) (tw : Option Nat) (sp sr : Nat) (X : List AC) (a2 : Int32) :
  R (d + 1) 32 (37, [some (.ref 129), some (.ref 108), some (.int a2)], [], sl, (CH I A N V lt tw sp sr X)) =
    R (d + 1) 32 (7, [some (.ref 129), some (.ref 108), some (.int (a2 + (1 : Int32)))], [], sl, (CH I A N V lt tw sp sr X)) :=
  (R_gob [7, 22, 37] 400 _ _ _).trans rfl
set_option maxRecDepth 100000 in
theorem k44_r120_r3_0 (d sl : Nat) (I : Nat → Nat → Int32) (A : Nat → Nat → Int32) (N : Nat → Nat → Int64) (V : Nat → Nat → Option Nat) (lt : Int64) (tw : Option Nat) (sp sr : Nat) (X : List AC)  :
  R d 44 (0, [some (.ref 120), some (.ref 3)], [], sl, (CH I A N V lt tw sp sr X)) =
    some (168, [some (.ref 120), some (.ref 3)], [], sl, (CH (up1 I 120 (up1 (up1 (up1 (up1 (up1 (up1 (I 120) 8 (I 3 8)) 9 (I 3 9)) 10 (I 3 10)) 11 (I 3 11)) 12 (I 3 12)) 13 (I 3 13))) (up1 (up1 (up1 (up1 (up1 (up1 (up1 A 122 (va_cpy (A 5) (A 122) 0 0 6)) 123 (va_cpy (A 6) (A 123) 0 0 6)) 124 (va_cpy (A 7) (A 124) 0 0 6)) 125 (va_cpy (A 8) (A 125) 0 0 12)) 126 (va_cpy (A 9) (A 126) 0 0 12)) 127 (va_cpy (A 10) (A 127) 0 0 12)) 128 (va_cpy (A 11) (A 128) 0 0 12)) (up1 N 121 (va_cpy (N 4) (N 121) 0 0 6)) V lt tw sp sr X)) :=
  (R_gob [] 400 _ _ _).trans rfl
set_option maxRecDepth 100000 in
theorem k32_r129_r112_0 (d sl : Nat) (I : Nat → Nat → Int32) (A : Nat → Nat → Int32) (N : Nat → Nat → Int64) (V : Nat → Nat → Option Nat) (lt : Int64) (tw : Option Nat) (sp sr : Nat) (X : List AC)  :
  R (d + 1) 32 (0, [some (.ref 129), some (.ref 112), none], [], sl, (CH I A N V lt tw sp sr X)) =
    R (d + 1) 32 (7, [some (.ref 129), some (.ref 112), some (.int (0 : Int32))], [], sl, (CH (up1 I 129 (up1 (I 129) 3 (0 : Int32))) A N V lt tw sp sr X)) :=
  (R_gob [7, 37] 400 _ _ _).trans rfl
set_option maxRecDepth 100000 in
theorem k32_r129_r112_7 (d sl : Nat) (I : Nat → Nat → Int32) (A : Nat → Nat → Int32) (N : Nat → Nat → Int64) (V : Nat → Nat → Option Nat) (lt : Int64) (tw : Option Nat) (sp sr : Nat) (X : List AC) (a2 : Int32) :
  R (d + 1) 32 (7, [some (.ref 129), some (.ref 112), some (.int a2)], [], sl, (CH I A N V lt tw sp sr X)) =
    cond (decide ((I 112 3) ≤ a2)) (some (43, [some (.ref 129), some (.ref 112), some (.int a2)], [], sl, (CH I A N V lt tw sp sr X))) (cond (x_in a2 40) (R (d + 1) 32 (22, [some (.ref 129), some (.ref 112), some (.int a2)], [x_rf ((V 113) a2.toNatClampNeg), .ref 129], sl, (CH I A N V lt tw sp sr X))) none) :=
  (R_gob [7, 22, 37] 400 _ _ _).trans rfl
set_option maxRecDepth 100000 in
theorem k32_r129_r112_22 (d sl : Nat) (I : Nat → Nat → Int32) (A : Nat → Nat → Int32) (N : Nat → Nat → Int64) (V : Nat → Nat → Option Nat) (lt : Int64) (tw : Option Nat) (sp sr : Nat) (X : List AC) (a2 : Int32) :
  R (d + 1) 32 (22, [some (.ref 129), some (.ref 112), some (.int a2)], [.null, .ref 129], sl, (CH I A N V lt tw sp sr X)) =
    cond (x_in a2 40) (cond (x_in a2 40) (bC (C d 31 [.ref 129, .null, .int ((A 114) a2.toNatClampNeg), .int ((A 115) a2.toNatClampNeg)] sl (CH I A N V lt tw sp sr X)) (fun vs sl h => R (d + 1) 32 (37, [some (.ref 129), some (.ref 112), some (.int a2)], vs ++ [], sl, h))) none) none :=
  (R_gob [7, 22, 37] 400 _ _ _).trans rfl
set_option maxRecDepth 100000 in
theorem k32_r129_r112_22_1 (d sl : Nat) (I : Nat → Nat → Int32) (A : Nat → Nat → Int32) (N : Nat → Nat → Int64) (V : Nat → Nat → Option Nat) (lt : Int64) (tw : Option Nat) (sp sr : Nat) (X : List AC) (a2 : Int32) (b0 : Nat) :
  R (d + 1) 32 (22, [some (.ref 129), some (.ref 112), some (.int a2)], [.ref b0, .ref 129], sl, (CH I A N V lt tw sp sr X)) =
    cond (x_in a2 40) (cond (x_in a2 40) (bC (C d 31 [.ref 129, .ref b0, .int ((A 114) a2.toNatClampNeg), .int ((A 115) a2.toNatClampNeg)] sl (CH I A N V lt tw sp sr X)) (fun vs sl h => R (d + 1) 32 (37, [some (.ref 129), some (.ref 112), some (.int a2)], vs ++ [], sl, h))) none) none :=
  (R_gob [7, 22, 37] 400 _ _ _).trans rfl
set_option maxRecDepth 100000 in
theorem k32_r129_r112_37 (d sl : Nat) (I : Nat → Nat → Int32) (A : Nat → Nat → Int32) (N : Nat → Nat → Int64) (V : Nat → Nat → Option Nat) (lt : Int64) (tw : Option Nat) (sp sr : Nat) (X : List AC) (a2 : Int32) :
  R (d + 1) 32 (37, [some (.ref 129), some (.ref 112), some (.int a2)], [], sl, (CH I A N V lt tw sp sr X)) =
    R (d + 1) 32 (7, [some (.ref 129), some (.ref 112), some (.int (a2 + (1 : Int32)))], [], sl, (CH I A N V lt tw sp sr X)) :=
  (R_gob [7, 22, 37] 400 _ _ _).trans rfl
set_option maxRecDepth 100000 in
theorem k32_r142_r112_0 (d sl : Nat) (I : Nat → Nat → Int32) (A : Nat → Nat → Int32) (N : Nat → Nat → Int64) (V : Nat → Nat → Option Nat) (lt : Int64) (tw : Option Nat) (sp sr : Nat) (X : List AC)  :
  R (d + 1) 32 (0, [some (.ref 142), some (.ref 112), none], [], sl, (CH I A N V lt tw sp sr X)) =
    R (d + 1) 32 (7, [some (.ref 142), some (.ref 112), some (.int (0 : Int32))], [], sl, (CH (up1 I 142 (up1 (I 142) 3 (0 : Int32))) A N V lt tw sp sr X)) :=
  (R_gob [7, 37] 400 _ _ _).trans rfl
set_option maxRecDepth 100000 in
theorem k32_r142_r112_7 (d sl : Nat) (I : Nat → Nat → Int32) (A : Nat → Nat → Int32) (N : Nat → Nat → Int64) (V : Nat → Nat → Option Nat) (lt : Int64) (tw : Option Nat) (sp sr : Nat) (X : List AC) (a2 : Int32) :
  R (d + 1) 32 (7, [some (.ref 142), some (.ref 112), some (.int a2)], [], sl, (CH I A N V lt tw sp sr X)) =
    cond (decide ((I 112 3) ≤ a2)) (some (43, [some (.ref 142), some (.ref 112), some (.int a2)], [], sl, (CH I A N V lt tw sp sr X))) (cond (x_in a2 40) (R (d + 1) 32 (22, [some (.ref 142), some (.ref 112), some (.int a2)], [x_rf ((V 113) a2.toNatClampNeg), .ref 142], sl, (CH I A N V lt tw sp sr X))) none) :=
  (R_gob [7, 22, 37] 400 _ _ _).trans rfl
set_option maxRecDepth 100000 in
theorem k32_r142_r112_22 (d sl : Nat) (I : Nat → Nat → Int32) (A : Nat → Nat → Int32) (N : Nat → Nat → Int64) (V : Nat → Nat → Option Nat) (lt : Int64) (tw : Option Nat) (sp sr : Nat) (X : List AC) (a2 : Int32) :
  R (d + 1) 32 (22, [some (.ref 142), some (.ref 112), some (.int a2)], [.null, .ref 142], sl, (CH I A N V lt tw sp sr X)) =
    cond (x_in a2 40) (cond (x_in a2 40) (bC (C d 31 [.ref 142, .null, .int ((A 114) a2.toNatClampNeg), .int ((A 115) a2.toNatClampNeg)] sl (CH I A N V lt tw sp sr X)) (fun vs sl h => R (d + 1) 32 (37, [some (.ref 142), some (.ref 112), some (.int a2)], vs ++ [], sl, h))) none) none :=
  (R_gob [7, 22, 37] 400 _ _ _).trans rfl
set_option maxRecDepth 100000 in
theorem k32_r142_r112_22_1 (d sl : Nat) (I : Nat → Nat → Int32) (A : Nat → Nat → Int32) (N : Nat → Nat → Int64) (V : Nat → Nat → Option Nat) (lt : Int64) (tw : Option Nat) (sp sr : Nat) (X : List AC) (a2 : Int32) (b0 : Nat) :
  R (d + 1) 32 (22, [some (.ref 142), some (.ref 112), some (.int a2)], [.ref b0, .ref 142], sl, (CH I A N V lt tw sp sr X)) =
    cond (x_in a2 40) (cond (x_in a2 40) (bC (C d 31 [.ref 142, .ref b0, .int ((A 114) a2.toNatClampNeg), .int ((A 115) a2.toNatClampNeg)] sl (CH I A N V lt tw sp sr X)) (fun vs sl h => R (d + 1) 32 (37, [some (.ref 142), some (.ref 112), some (.int a2)], vs ++ [], sl, h))) none) none :=
  (R_gob [7, 22, 37] 400 _ _ _).trans rfl
set_option maxRecDepth 100000 in
theorem k32_r142_r112_37 (d sl : Nat) (I : Nat → Nat → Int32) (A : Nat → Nat → Int32) (N : Nat → Nat → Int64) (V : Nat → Nat → Option Nat) (lt : Int64) (tw : Option Nat) (sp sr : Nat) (X : List AC) (a2 : Int32) :
  R (d + 1) 32 (37, [some (.ref 142), some (.ref 112), some (.int a2)], [], sl, (CH I A N V lt tw sp sr X)) =
    R (d + 1) 32 (7, [some (.ref 142), some (.ref 112), some (.int (a2 + (1 : Int32)))], [], sl, (CH I A N V lt tw sp sr X)) :=
  (R_gob [7, 22, 37] 400 _ _ _).trans rfl
set_option maxRecDepth 100000 in
theorem k44_r133_r3_0 (d sl : Nat) (I : Nat → Nat → Int32) (A : Nat → Nat → Int32) (N : Nat → Nat → Int64) (V : Nat → Nat → Option Nat) (lt : Int64) (tw : Option Nat) (sp sr : Nat) (X : List AC)  :
  R d 44 (0, [some (.ref 133), some (.ref 3)], [], sl, (CH I A N V lt tw sp sr X)) =
    some (168, [some (.ref 133), some (.ref 3)], [], sl, (CH (up1 I 133 (up1 (up1 (up1 (up1 (up1 (up1 (I 133) 8 (I 3 8)) 9 (I 3 9)) 10 (I 3 10)) 11 (I 3 11)) 12 (I 3 12)) 13 (I 3 13))) (up1 (up1 (up1 (up1 (up1 (up1 (up1 A 135 (va_cpy (A 5) (A 135) 0 0 6)) 136 (va_cpy (A 6) (A 136) 0 0 6)) 137 (va_cpy (A 7) (A 137) 0 0 6)) 138 (va_cpy (A 8) (A 138) 0 0 12)) 139 (va_cpy (A 9) (A 139) 0 0 12)) 140 (va_cpy (A 10) (A 140) 0 0 12)) 141 (va_cpy (A 11) (A 141) 0 0 12)) (up1 N 134 (va_cpy (N 4) (N 134) 0 0 6)) V lt tw sp sr X)) :=
  (R_gob [] 400 _ _ _).trans rfl
set_option maxRecDepth 100000 in
theorem k32_r108_r129_0 (d sl : Nat) (I : Nat → Nat → Int32) (A : Nat → Nat → Int32) (N : Nat → Nat → Int64) (V : Nat → Nat → Option Nat) (lt : Int64) (tw : Option Nat) (sp sr : Nat) (X : List AC)  :
  R (d + 1) 32 (0, [some (.ref 108), some (.ref 129), none], [], sl, (CH I A N V lt tw sp sr X)) =
    R (d + 1) 32 (7, [some (.ref 108), some (.ref 129), some (.int (0 : Int32))], [], sl, (CH (up1 I 108 (up1 (I 108) 3 (0 : Int32))) A N V lt tw sp sr X)) :=
  (R_gob [7, 37] 400 _ _ _).trans rfl
set_option maxRecDepth 100000 in
theorem k32_r108_r129_7 (d sl : Nat) (I : Nat → Nat → Int32) (A : Nat → Nat → Int32) (N : Nat → Nat → Int64) (V : Nat → Nat → Option Nat) (lt : Int64) (tw : Option Nat) (sp sr : Nat) (X : List AC) (a2 : Int32) :
  R (d + 1) 32 (7, [some (.ref 108), some (.ref 129), some (.int a2)], [], sl, (CH I A N V lt tw sp sr X)) =
    cond (decide ((I 129 3) ≤ a2)) (some (43, [some (.ref 108), some (.ref 129), some (.int a2)], [], sl, (CH I A N V lt tw sp sr X))) (cond (x_in a2 40) (R (d + 1) 32 (22, [some (.ref 108), some (.ref 129), some (.int a2)], [x_rf ((V 130) a2.toNatClampNeg), .ref 108], sl, (CH I A N V lt tw sp sr X))) none) :=
  (R_gob [7, 22, 37] 400 _ _ _).trans rfl
set_option maxRecDepth 100000 in
theorem k32_r108_r129_22 (d sl : Nat) (I : Nat → Nat → Int32) (A : Nat → Nat → Int32) (N : Nat → Nat → Int64) (V : Nat → Nat → Option Nat) (lt : Int64) (tw : Option Nat) (sp sr : Nat) (X : List AC) (a2 : Int32) :
  R (d + 1) 32 (22, [some (.ref 108), some (.ref 129), some (.int a2)], [.null, .ref 108], sl, (CH I A N V lt tw sp sr X)) =
    cond (x_in a2 40) (cond (x_in a2 40) (bC (C d 31 [.ref 108, .null, .int ((A 131) a2.toNatClampNeg), .int ((A 132) a2.toNatClampNeg)] sl (CH I A N V lt tw sp sr X)) (fun vs sl h => R (d + 1) 32 (37, [some (.ref 108), some (.ref 129), some (.int a2)], vs ++ [], sl, h))) none) none :=
  (R_gob [7, 22, 37] 400 _ _ _).trans rfl
set_option maxRecDepth 100000 in
theorem k32_r108_r129_22_1 (d sl : Nat) (I : Nat → Nat → Int32) (A : Nat → Nat → Int32) (N : Nat → Nat → Int64) (V : Nat → Nat → Option Nat) (lt : Int64) (tw : Option Nat) (sp sr : Nat) (X : List AC) (a2 : Int32) (b0 : Nat) :
  R (d + 1) 32 (22, [some (.ref 108), some (.ref 129), some (.int a2)], [.ref b0, .ref 108], sl, (CH I A N V lt tw sp sr X)) =
    cond (x_in a2 40) (cond (x_in a2 40) (bC (C d 31 [.ref 108, .ref b0, .int ((A 131) a2.toNatClampNeg), .int ((A 132) a2.toNatClampNeg)] sl (CH I A N V lt tw sp sr X)) (fun vs sl h => R (d + 1) 32 (37, [some (.ref 108), some (.ref 129), some (.int a2)], vs ++ [], sl, h))) none) none :=
  (R_gob [7, 22, 37] 400 _ _ _).trans rfl
set_option maxRecDepth 100000 in
theorem k32_r108_r129_37 (d sl : Nat) (I : Nat → Nat → Int32) (A : Nat → Nat → Int32) (N : Nat → Nat → Int64) (V : Nat → Nat → Option Nat) (lt : Int64) (tw : Option Nat) (sp sr : Nat) (X : List AC) (a2 : Int32) :
  R (d + 1) 32 (37, [some (.ref 108), some (.ref 129), some (.int a2)], [], sl, (CH I A N V lt tw sp sr X)) =
    R (d + 1) 32 (7, [some (.ref 108), some (.ref 129), some (.int (a2 + (1 : Int32)))], [], sl, (CH I A N V lt tw sp sr X)) :=
  (R_gob [7, 22, 37] 400 _ _ _).trans rfl
set_option maxRecDepth 100000 in
theorem k44_r3_r133_0 (d sl : Nat) (I : Nat → Nat → Int32) (A : Nat → Nat → Int32) (N : Nat → Nat → Int64) (V : Nat → Nat → Option Nat) (lt : Int64) (tw : Option Nat) (sp sr : Nat) (X : List AC)  :
  R d 44 (0, [some (.ref 3), some (.ref 133)], [], sl, (CH I A N V lt tw sp sr X)) =
    some (168, [some (.ref 3), some (.ref 133)], [], sl, (CH (up1 I 3 (up1 (up1 (up1 (up1 (up1 (up1 (I 3) 8 (I 133 8)) 9 (I 133 9)) 10 (I 133 10)) 11 (I 133 11)) 12 (I 133 12)) 13 (I 133 13))) (up1 (up1 (up1 (up1 (up1 (up1 (up1 A 5 (va_cpy (A 135) (A 5) 0 0 6)) 6 (va_cpy (A 136) (A 6) 0 0 6)) 7 (va_cpy (A 137) (A 7) 0 0 6)) 8 (va_cpy (A 138) (A 8) 0 0 12)) 9 (va_cpy (A 139) (A 9) 0 0 12)) 10 (va_cpy (A 140) (A 10) 0 0 12)) 11 (va_cpy (A 141) (A 11) 0 0 12)) (up1 N 4 (va_cpy (N 134) (N 4) 0 0 6)) V lt tw sp sr X)) :=
  (R_gob [] 400 _ _ _).trans rfl
set_option maxRecDepth 100000 in
theorem k44_r3_r120_0 (d sl : Nat) (I : Nat → Nat → Int32) (A : Nat → Nat → Int32) (N : Nat → Nat → Int64) (V : Nat → Nat → Option Nat) (lt : Int64) (tw : Option Nat) (sp sr : Nat) (X : List AC)  :
  R d 44 (0, [some (.ref 3), some (.ref 120)], [], sl, (CH I A N V lt tw sp sr X)) =
    some (168, [some (.ref 3), some (.ref 120)], [], sl, (CH (up1 I 3 (up1 (up1 (up1 (up1 (up1 (up1 (I 3) 8 (I 120 8)) 9 (I 120 9)) 10 (I 120 10)) 11 (I 120 11)) 12 (I 120 12)) 13 (I 120 13))) (up1 (up1 (up1 (up1 (up1 (up1 (up1 A 5 (va_cpy (A 122) (A 5) 0 0 6)) 6 (va_cpy (A 123) (A 6) 0 0 6)) 7 (va_cpy (A 124) (A 7) 0 0 6)) 8 (va_cpy (A 125) (A 8) 0 0 12)) 9 (va_cpy (A 126) (A 9) 0 0 12)) 10 (va_cpy (A 127) (A 10) 0 0 12)) 11 (va_cpy (A 128) (A 11) 0 0 12)) (up1 N 4 (va_cpy (N 121) (N 4) 0 0 6)) V lt tw sp sr X)) :=
  (R_gob [] 400 _ _ _).trans rfl
set_option maxRecDepth 100000 in
theorem k32_r112_r142_0 (d sl : Nat) (I : Nat → Nat → Int32) (A : Nat → Nat → Int32) (N : Nat → Nat → Int64) (V : Nat → Nat → Option Nat) (lt : Int64) (tw : Option Nat) (sp sr : Nat) (X : List AC)  :
  R (d + 1) 32 (0, [some (.ref 112), some (.ref 142), none], [], sl, (CH I A N V lt tw sp sr X)) =
    R (d + 1) 32 (7, [some (.ref 112), some (.ref 142), some (.int (0 : Int32))], [], sl, (CH (up1 I 112 (up1 (I 112) 3 (0 : Int32))) A N V lt tw sp sr X)) :=
  (R_gob [7, 37] 400 _ _ _).trans rfl
set_option maxRecDepth 100000 in
theorem k32_r112_r142_7 (d sl : Nat) (I : Nat → Nat → Int32) (A : Nat → Nat → Int32) (N : Nat → Nat → Int64) (V : Nat → Nat → Option Nat) (lt : Int64) (tw : Option Nat) (sp sr : Nat) (X : List AC) (a2 : Int32) :
  R (d + 1) 32 (7, [some (.ref 112), some (.ref 142), some (.int a2)], [], sl, (CH I A N V lt tw sp sr X)) =
    cond (decide ((I 142 3) ≤ a2)) (some (43, [some (.ref 112), some (.ref 142), some (.int a2)], [], sl, (CH I A N V lt tw sp sr X))) (cond (x_in a2 40) (R (d + 1) 32 (22, [some (.ref 112), some (.ref 142), some (.int a2)], [x_rf ((V 143) a2.toNatClampNeg), .ref 112], sl, (CH I A N V lt tw sp sr X))) none) :=
  (R_gob [7, 22, 37] 400 _ _ _).trans rfl
set_option maxRecDepth 100000 in
theorem k32_r112_r142_22 (d sl : Nat) (I : Nat → Nat → Int32) (A : Nat → Nat → Int32) (N : Nat → Nat → Int64) (V : Nat → Nat → Option Nat) (lt : Int64) (tw : Option Nat) (sp sr : Nat) (X : List AC) (a2 : Int32) :
  R (d + 1) 32 (22, [some (.ref 112), some (.ref 142), some (.int a2)], [.null, .ref 112], sl, (CH I A N V lt tw sp sr X)) =
    cond (x_in a2 40) (cond (x_in a2 40) (bC (C d 31 [.ref 112, .null, .int ((A 144) a2.toNatClampNeg), .int ((A 145) a2.toNatClampNeg)] sl (CH I A N V lt tw sp sr X)) (fun vs sl h => R (d + 1) 32 (37, [some (.ref 112), some (.ref 142), some (.int a2)], vs ++ [], sl, h))) none) none :=
  (R_gob [7, 22, 37] 400 _ _ _).trans rfl
set_option maxRecDepth 100000 in
theorem k32_r112_r142_22_1 (d sl : Nat) (I : Nat → Nat → Int32) (A : Nat → Nat → Int32) (N : Nat → Nat → Int64) (V : Nat → Nat → Option Nat) (lt : Int64) (tw : Option Nat) (sp sr : Nat) (X : List AC) (a2 : Int32) (b0 : Nat) :
  R (d + 1) 32 (22, [some (.ref 112), some (.ref 142), some (.int a2)], [.ref b0, .ref 112], sl, (CH I A N V lt tw sp sr X)) =
    cond (x_in a2 40) (cond (x_in a2 40) (bC (C d 31 [.ref 112, .ref b0, .int ((A 144) a2.toNatClampNeg), .int ((A 145) a2.toNatClampNeg)] sl (CH I A N V lt tw sp sr X)) (fun vs sl h => R (d + 1) 32 (37, [some (.ref 112), some (.ref 142), some (.int a2)], vs ++ [], sl, h))) none) none :=
  (R_gob [7, 22, 37] 400 _ _ _).trans rfl
set_option maxRecDepth 100000 in
theorem k32_r112_r142_37 (d sl : Nat) (I : Nat → Nat → Int32) (A : Nat → Nat → Int32) (N : Nat → Nat → Int64) (V : Nat → Nat → Option Nat) (lt : Int64) (tw : Option Nat) (sp sr : Nat) (X : List AC) (a2 : Int32) :
  R (d + 1) 32 (37, [some (.ref 112), some (.ref 142), some (.int a2)], [], sl, (CH I A N V lt tw sp sr X)) =
    R (d + 1) 32 (7, [some (.ref 112), some (.ref 142), some (.int (a2 + (1 : Int32)))], [], sl, (CH I A N V lt tw sp sr X)) :=
  (R_gob [7, 22, 37] 400 _ _ _).trans rfl
set_option maxRecDepth 100000 in
theorem k32_r112_r129_0 (d sl : Nat) (I : Nat → Nat → Int32) (A : Nat → Nat → Int32) (N : Nat → Nat → Int64) (V : Nat → Nat → Option Nat) (lt : Int64) (tw : Option Nat) (sp sr : Nat) (X : List AC)  :
  R (d + 1) 32 (0, [some (.ref 112), some (.ref 129), none], [], sl, (CH I A N V lt tw sp sr X)) =
    R (d + 1) 32 (7, [some (.ref 112), some (.ref 129), some (.int (0 : Int32))], [], sl, (CH (up1 I 112 (up1 (I 112) 3 (0 : Int32))) A N V lt tw sp sr X)) :=
  (R_gob [7, 37] 400 _ _ _).trans rfl
set_option maxRecDepth 100000 in
theorem k32_r112_r129_7 (d sl : Nat) (I : Nat → Nat → Int32) (A : Nat → Nat → Int32) (N : Nat → Nat → Int64) (V : Nat → Nat → Option Nat) (lt : Int64) (tw : Option Nat) (sp sr : Nat) (X : List AC) (a2 : Int32) :
  R (d + 1) 32 (7, [some (.ref 112), some (.ref 129), some (.int a2)], [], sl, (CH I A N V lt tw sp sr X)) =
    cond (decide ((I 129 3) ≤ a2)) (some (43, [some (.ref 112), some (.ref 129), some (.int a2)], [], sl, (CH I A N V lt tw sp sr X))) (cond (x_in a2 40) (R (d + 1) 32 (22, [some (.ref 112), some (.ref 129), some (.int a2)], [x_rf ((V 130) a2.toNatClampNeg), .ref 112], sl, (CH I A N V lt tw sp sr X))) none) :=
  (R_gob [7, 22, 37] 400 _ _ _).trans rfl
set_option maxRecDepth 100000 in
theorem k32_r112_r129_22 (d sl : Nat) (I : Nat → Nat → Int32) (A : Nat → Nat → Int32) (N : Nat → Nat → Int64) (V : Nat → Nat → Option Nat) (lt : Int64) (tw : Option Nat) (sp sr : Nat) (X : List AC) (a2 : Int32) :
  R (d + 1) 32 (22, [some (.ref 112), some (.ref 129), some (.int a2)], [.null, .ref 112], sl, (CH I A N V lt tw sp sr X)) =
    cond (x_in a2 40) (cond (x_in a2 40) (bC (C d 31 [.ref 112, .null, .int ((A 131) a2.toNatClampNeg), .int ((A 132) a2.toNatClampNeg)] sl (CH I A N V lt tw sp sr X)) (fun vs sl h => R (d + 1) 32 (37, [some (.ref 112), some (.ref 129), some (.int a2)], vs ++ [], sl, h))) none) none :=
  (R_gob [7, 22, 37] 400 _ _ _).trans rfl
set_option maxRecDepth 100000 in
theorem k32_r112_r129_22_1 (d sl : Nat) (I : Nat → Nat → Int32) (A : Nat → Nat → Int32) (N : Nat → Nat → Int64) (V : Nat → Nat → Option Nat) (lt : Int64) (tw : Option Nat) (sp sr : Nat) (X : List AC) (a2 : Int32) (b0 : Nat) :
  R (d + 1) 32 (22, [some (.ref 112), some (.ref 129), some (.int a2)], [.ref b0, .ref 112], sl, (CH I A N V lt tw sp sr X)) =
    cond (x_in a2 40) (cond (x_in a2 40) (bC (C d 31 [.ref 112, .ref b0, .int ((A 131) a2.toNatClampNeg), .int ((A 132) a2.toNatClampNeg)] sl (CH I A N V lt tw sp sr X)) (fun vs sl h => R (d + 1) 32 (37, [some (.ref 112), some (.ref 129), some (.int a2)], vs ++ [], sl, h))) none) none :=
  (R_gob [7, 22, 37] 400 _ _ _).trans rfl
set_option maxRecDepth 100000 in
theorem k32_r112_r129_37 (d sl : Nat) (I : Nat → Nat → Int32) (A : Nat → Nat → Int32) (N : Nat → Nat → Int64) (V : Nat → Nat → Option Nat) (lt : Int64) (tw : Option Nat) (sp sr : Nat) (X : List AC) (a2 : Int32) :
  R (d + 1) 32 (37, [some (.ref 112), some (.ref 129), some (.int a2)], [], sl, (CH I A N V lt tw sp sr X)) =
    R (d + 1) 32 (7, [some (.ref 112), some (.ref 129), some (.int (a2 + (1 : Int32)))], [], sl, (CH I A N V lt tw sp sr X)) :=
  (R_gob [7, 22, 37] 400 _ _ _).trans rfl
set_option maxRecDepth 100000 in
theorem k32_r108_r142_0 (d sl : Nat) (I : Nat → Nat → Int32) (A : Nat → Nat → Int32) (N : Nat → Nat → Int64) (V : Nat → Nat → Option Nat) (lt : Int64) (tw : Option Nat) (sp sr : Nat) (X : List AC)  :
  R (d + 1) 32 (0, [some (.ref 108), some (.ref 142), none], [], sl, (CH I A N V lt tw sp sr X)) =
    R (d + 1) 32 (7, [some (.ref 108), some (.ref 142), some (.int (0 : Int32))], [], sl, (CH (up1 I 108 (up1 (I 108) 3 (0 : Int32))) A N V lt tw sp sr X)) :=
  (R_gob [7, 37] 400 _ _ _).trans rfl
set_option maxRecDepth 100000 in
theorem k32_r108_r142_7 (d sl : Nat) (I : Nat → Nat → Int32) (A : Nat → Nat → Int32) (N : Nat → Nat → Int64) (V : Nat → Nat → Option Nat) (lt : Int64) (tw : Option Nat) (sp sr : Nat) (X : List AC) (a2 : Int32) :
  R (d + 1) 32 (7, [some (.ref 108), some (.ref 142), some (.int a2)], [], sl, (CH I A N V lt tw sp sr X)) =
    cond (decide ((I 142 3) ≤ a2)) (some (43, [some (.ref 108), some (.ref 142), some (.int a2)], [], sl, (CH I A N V lt tw sp sr X))) (cond (x_in a2 40) (R (d + 1) 32 (22, [some (.ref 108), some (.ref 142), some (.int a2)], [x_rf ((V 143) a2.toNatClampNeg), .ref 108], sl, (CH I A N V lt tw sp sr X))) none) :=
  (R_gob [7, 22, 37] 400 _ _ _).trans rfl
set_option maxRecDepth 100000 in
theorem k32_r108_r142_22 (d sl : Nat) (I : Nat → Nat → Int32) (A : Nat → Nat → Int32) (N : Nat → Nat → Int64) (V : Nat → Nat → Option Nat) (lt : Int64) (tw : Option Nat) (sp sr : Nat) (X : List AC) (a2 : Int32) :
  R (d + 1) 32 (22, [some (.ref 108), some (.ref 142), some (.int a2)], [.null, .ref 108], sl, (CH I A N V lt tw sp sr X)) =
    cond (x_in a2 40) (cond (x_in a2 40) (bC (C d 31 [.ref 108, .null, .int ((A 144) a2.toNatClampNeg), .int ((A 145) a2.toNatClampNeg)] sl (CH I A N V lt tw sp sr X)) (fun vs sl h => R (d + 1) 32 (37, [some (.ref 108), some (.ref 142), some (.int a2)], vs ++ [], sl, h))) none) none :=
  (R_gob [7, 22, 37] 400 _ _ _).trans rfl
set_option maxRecDepth 100000 in
theorem k32_r108_r142_22_1 (d sl : Nat) (I : Nat → Nat → Int32) (A : Nat → Nat → Int32) (N : Nat → Nat → Int64) (V : Nat → Nat → Option Nat) (lt : Int64) (tw : Option Nat) (sp sr : Nat) (X : List AC) (a2 : Int32) (b0 : Nat) :
  R (d + 1) 32 (22, [some (.ref 108), some (.ref 142), some (.int a2)], [.ref b0, .ref 108], sl, (CH I A N V lt tw sp sr X)) =
    cond (x_in a2 40) (cond (x_in a2 40) (bC (C d 31 [.ref 108, .ref b0, .int ((A 144) a2.toNatClampNeg), .int ((A 145) a2.toNatClampNeg)] sl (CH I A N V lt tw sp sr X)) (fun vs sl h => R (d + 1) 32 (37, [some (.ref 108), some (.ref 142), some (.int a2)], vs ++ [], sl, h))) none) none :=
  (R_gob [7, 22, 37] 400 _ _ _).trans rfl
set_option maxRecDepth 100000 in
theorem k32_r108_r142_37 (d sl : Nat) (I : Nat → Nat → Int32) (A : Nat → Nat → Int32) (N : Nat → Nat → Int64) (V : Nat → Nat → Option Nat) (lt : Int64) (tw : Option Nat) (sp sr : Nat) (X : List AC) (a2 : Int32) :
  R (d + 1) 32 (37, [some (.ref 108), some (.ref 142), some (.int a2)], [], sl, (CH I A N V lt tw sp sr X)) =
    R (d + 1) 32 (7, [some (.ref 108), some (.ref 142), some (.int (a2 + (1 : Int32)))], [], sl, (CH I A N V lt tw sp sr X)) :=
  (R_gob [7, 22, 37] 400 _ _ _).trans rfl
set_option maxRecDepth 100000 in
theorem k90_r1_0 (d sl : Nat) (I : Nat → Nat → Int32) (A : Nat → Nat → Int32) (N : Nat → Nat → Int64) (V : Nat → Nat → Option Nat) (lt : Int64) (tw : Option Nat) (sp sr : Nat) (X : List AC)  :
  R (d + 1) 90 (0, [some (.ref 1)], [], sl, (CH I A N V lt tw sp sr X)) =
    bC (C d 91 [.ref 1] sl (CH I A N V lt none sp sr X)) (fun vs sl h => R (d + 1) 90 (9, [some (.ref 1)], vs ++ [], sl, h)) :=
  (R_gob [9, 78, 97, 130] 400 _ _ _).trans rfl
set_option maxRecDepth 100000 in
theorem k90_r1_9 (d sl : Nat) (I : Nat → Nat → Int32) (A : Nat → Nat → Int32) (N : Nat → Nat → Int64) (V : Nat → Nat → Option Nat) (lt : Int64) (tw : Option Nat) (sp sr : Nat) (X : List AC)  :
  R (d + 1) 90 (9, [some (.ref 1)], [], sl, (CH I A N V lt tw sp sr X)) =
    cond (decide ((I 1 1) ≤ (I 1 2))) (cond (decide ((I 1 3) < (I 1 1))) (bC (C d 92 [.ref 1] sl (CH (up1 I 1 (up1 (I 1) 5 (I 1 3))) A N V lt tw sp sr X)) (fun vs sl h => R (d + 1) 90 (78, [some (.ref 1)], vs ++ [], sl, h))) (R (d + 1) 90 (130, [some (.ref 1)], [], sl, (CH (up1 I 1 (up1 (up1 (I 1) 4 (0 : Int32)) 5 (I 1 3))) A N V lt tw sp sr X)))) (cond (decide ((I 1 3) < (I 1 2))) (cond (decide ((I 1 3) < (I 1 1))) (bC (C d 92 [.ref 1] sl (CH (up1 I 1 (up1 (I 1) 5 (I 1 3))) A N V lt tw sp sr X)) (fun vs sl h => R (d + 1) 90 (78, [some (.ref 1)], vs ++ [], sl, h))) (R (d + 1) 90 (130, [some (.ref 1)], [], sl, (CH (up1 I 1 (up1 (up1 (I 1) 4 (0 : Int32)) 5 (I 1 3))) A N V lt tw sp sr X)))) (R (d + 1) 90 (130, [some (.ref 1)], [], sl, (CH (up1 I 1 (up1 (up1 (I 1) 4 (1 : Int32)) 5 (I 1 2))) A N V lt tw sp sr X)))) :=
  (R_gob [9, 78, 97, 130] 400 _ _ _).trans rfl
set_option maxRecDepth 100000 in
theorem k90_r1_78 (d sl : Nat) (I : Nat → Nat → Int32) (A : Nat → Nat → Int32) (N : Nat → Nat → Int64) (V : Nat → Nat → Option Nat) (lt : Int64) (tw : Option Nat) (sp sr : Nat) (X : List AC) (b0 : Int32) :
  R (d + 1) 90 (78, [some (.ref 1)], [.int b0], sl, (CH I A N V lt tw sp sr X)) =
    cond (decide (b0 = 0)) (bC (C d 93 [.ref 1] sl (CH I A N V lt tw sp sr X)) (fun vs sl h => R (d + 1) 90 (130, [some (.ref 1)], vs ++ [], sl, h))) (cond (!decide ((I 1 4) = (3 : Int32))) (R (d + 1) 90 (130, [some (.ref 1)], [], sl, (CH (up1 I 1 (up1 (I 1) 4 (I 1 4))) A N V lt none sp sr X))) (bC (C d 3 [.long lt] sl (CH I A N V lt tw sp sr X)) (fun vs sl h => R (d + 1) 90 (97, [some (.ref 1)], vs ++ [.ref 1], sl, h)))) :=
  (R_gob [9, 78, 97, 130] 400 _ _ _).trans rfl
set_option maxRecDepth 100000 in
theorem k90_r1_130 (d sl : Nat) (I : Nat → Nat → Int32) (A : Nat → Nat → Int32) (N : Nat → Nat → Int64) (V : Nat → Nat → Option Nat) (lt : Int64) (tw : Option Nat) (sp sr : Nat) (X : List AC)  :
  R (d + 1) 90 (130, [some (.ref 1)], [], sl, (CH I A N V lt tw sp sr X)) =
    some (130, [some (.ref 1)], [], sl, (CH I A N V lt tw sp sr X)) :=
  (R_gob [9, 78, 97, 130] 400 _ _ _).trans rfl
set_option maxRecDepth 100000 in
theorem k90_r1_97 (d sl : Nat) (I : Nat → Nat → Int32) (A : Nat → Nat → Int32) (N : Nat → Nat → Int64) (V : Nat → Nat → Option Nat) (lt : Int64) (tw : Option Nat) (sp sr : Nat) (X : List AC)  :
  R (d + 1) 90 (97, [some (.ref 1)], [.null, .ref 1], sl, (CH I A N V lt tw sp sr X)) =
    R (d + 1) 90 (130, [some (.ref 1)], [], sl, (CH (up1 I 1 (up1 (I 1) 4 (I 1 4))) A N V lt none sp sr X)) :=
  (R_gob [9, 78, 97, 130] 400 _ _ _).trans rfl
set_option maxRecDepth 100000 in
theorem k90_r1_97_1 (d sl : Nat) (I : Nat → Nat → Int32) (A : Nat → Nat → Int32) (N : Nat → Nat → Int64) (V : Nat → Nat → Option Nat) (lt : Int64) (tw : Option Nat) (sp sr : Nat) (X : List AC) (b0 : Nat) :
  R (d + 1) 90 (97, [some (.ref 1)], [.ref b0, .ref 1], sl, (CH I A N V lt tw sp sr X)) =
    R (d + 1) 90 (130, [some (.ref 1)], [], sl, (CH (up1 I 1 (up1 (I 1) 4 (2 : Int32))) A N V lt (some b0) sp sr X)) :=
  (R_gob [9, 78, 97, 130] 400 _ _ _).trans rfl
set_option maxRecDepth 100000 in
theorem k98_r1_0 (d sl : Nat) (I : Nat → Nat → Int32) (A : Nat → Nat → Int32) (N : Nat → Nat → Int64) (V : Nat → Nat → Option Nat) (lt : Int64) (tw : Option Nat) (sp sr : Nat) (X : List AC) (a1 : Int32) :
  R (d + 1) 98 (0, [some (.ref 1), some (.int a1)], [], sl, (CH I A N V lt tw sp sr X)) =
    bC (C d 96 [.ref 1, .int a1] sl (CH I A N V lt tw sp sr X)) (fun vs sl h => R (d + 1) 98 (5, [some (.ref 1), some (.int a1)], vs ++ [], sl, h)) :=
  (R_gob [5, 13, 18] 400 _ _ _).trans rfl
set_option maxRecDepth 100000 in
theorem k98_r1_5 (d sl : Nat) (I : Nat → Nat → Int32) (A : Nat → Nat → Int32) (N : Nat → Nat → Int64) (V : Nat → Nat → Option Nat) (lt : Int64) (tw : Option Nat) (sp sr : Nat) (X : List AC) (a1 : Int32) (b0 : Int32) :
  R (d + 1) 98 (5, [some (.ref 1), some (.int a1)], [.int b0], sl, (CH I A N V lt tw sp sr X)) =
    cond (!decide (b0 = 0)) (bC (C d 90 [.ref 1] sl (CH I A N V lt tw sp sr X)) (fun vs sl h => R (d + 1) 98 (18, [some (.ref 1), some (.int a1)], vs ++ [], sl, h))) (bC (C d 97 [.ref 1, .int (1 : Int32)] sl (CH I A N V lt tw sp sr X)) (fun vs sl h => R (d + 1) 98 (13, [some (.ref 1), some (.int a1)], vs ++ [], sl, h))) :=
  (R_gob [5, 13, 18] 400 _ _ _).trans rfl
set_option maxRecDepth 100000 in
theorem k98_r1_18 (d sl : Nat) (I : Nat → Nat → Int32) (A : Nat → Nat → Int32) (N : Nat → Nat → Int64) (V : Nat → Nat → Option Nat) (lt : Int64) (tw : Option Nat) (sp sr : Nat) (X : List AC) (a1 : Int32) :
  R (d + 1) 98 (18, [some (.ref 1), some (.int a1)], [], sl, (CH I A N V lt tw sp sr X)) =
    some (19, [some (.ref 1), some (.int a1)], [.int (1 : Int32)], sl, (CH I A N V lt tw sp sr X)) :=
  (R_gob [5, 13, 18] 400 _ _ _).trans rfl
set_option maxRecDepth 100000 in
theorem k98_r1_13 (d sl : Nat) (I : Nat → Nat → Int32) (A : Nat → Nat → Int32) (N : Nat → Nat → Int64) (V : Nat → Nat → Option Nat) (lt : Int64) (tw : Option Nat) (sp sr : Nat) (X : List AC) (a1 : Int32) (b0 : Int32) :
  R (d + 1) 98 (13, [some (.ref 1), some (.int a1)], [.int b0], sl, (CH I A N V lt tw sp sr X)) =
    some (13, [some (.ref 1), some (.int a1)], [.int b0], sl, (CH I A N V lt tw sp sr X)) :=
  (R_gob [5, 13, 18] 400 _ _ _).trans rfl
set_option maxRecDepth 100000 in
theorem k82_r146_0 (d sl : Nat) (I : Nat → Nat → Int32) (A : Nat → Nat → Int32) (N : Nat → Nat → Int64) (V : Nat → Nat → Option Nat) (lt : Int64) (sp sr : Nat) (x0_2 : Int32) :
  R (d + 1) 82 (0, [some (.ref 146)], [], sl, (CH I A N V lt none sp sr [.inr (7, [.ref 1, .ref 12, .int x0_2])])) =
    bC (C d 97 [.ref 1, .int (1 : Int32)] sl (CH I A N V lt none sp sr [.inr (7, [.ref 1, .ref 12, .int x0_2])])) (fun vs sl h => R (d + 1) 82 (62, [some (.ref 146)], vs ++ [], sl, h)) :=
  (R_gob [17, 35, 53, 62] 400 _ _ _).trans rfl
set_option maxRecDepth 100000 in
theorem k82_r146_0_1 (d sl : Nat) (I : Nat → Nat → Int32) (A : Nat → Nat → Int32) (N : Nat → Nat → Int64) (V : Nat → Nat → Option Nat) (lt : Int64) (tw : Nat) (sp sr : Nat) (x0_2 : Int32) :
  R (d + 1) 82 (0, [some (.ref 146)], [], sl, (CH I A N V lt (some tw) sp sr [.inr (7, [.ref 1, .ref 12, .int x0_2])])) =
    cond (x_isw tw && x_isw 1000000) (cond (!(Nat.beq tw 1000000)) (cond (x_isw tw && x_isw 1000001) (cond (!(Nat.beq tw 1000001)) (cond (x_isw tw && x_isw 1000002) (cond (!(Nat.beq tw 1000002)) (bC (C d 97 [.ref 1, .int (1 : Int32)] sl (CH I A N V lt (some tw) sp sr [.inr (7, [.ref 1, .ref 12, .int x0_2])])) (fun vs sl h => R (d + 1) 82 (62, [some (.ref 146)], vs ++ [], sl, h))) (bC (C d 85 [.ref 146] sl (CH I A N V lt (some tw) sp sr [.inr (7, [.ref 1, .ref 12, .int x0_2])])) (fun vs sl h => R (d + 1) 82 (53, [some (.ref 146)], vs ++ [], sl, h)))) none) (bC (C d 84 [.ref 146] sl (CH I A N V lt (some tw) sp sr [.inr (7, [.ref 1, .ref 12, .int x0_2])])) (fun vs sl h => R (d + 1) 82 (35, [some (.ref 146)], vs ++ [], sl, h)))) none) (bC (C d 83 [.ref 146] sl (CH I A N V lt (some tw) sp sr [.inr (7, [.ref 1, .ref 12, .int x0_2])])) (fun vs sl h => R (d + 1) 82 (17, [some (.ref 146)], vs ++ [], sl, h)))) none :=
  (R_gob [17, 35, 53, 62] 400 _ _ _).trans rfl
set_option maxRecDepth 100000 in
theorem k82_r146_62 (d sl : Nat) (I : Nat → Nat → Int32) (A : Nat → Nat → Int32) (N : Nat → Nat → Int64) (V : Nat → Nat → Option Nat) (lt : Int64) (tw : Option Nat) (sp sr : Nat) (b0 : Int32) (x0_2 : Int32) :
  R (d + 1) 82 (62, [some (.ref 146)], [.int b0], sl, (CH I A N V lt tw sp sr [.inr (7, [.ref 1, .ref 12, .int x0_2])])) =
    some (62, [some (.ref 146)], [.int b0], sl, (CH I A N V lt tw sp sr [.inr (7, [.ref 1, .ref 12, .int x0_2])])) :=
  (R_gob [17, 35, 53, 62] 400 _ _ _).trans rfl
