set_option maxRecDepth 100000 in
theorem k27_r21_r3_9_5 (d sl : Nat) (I : Nat → Nat → Int32) (A : Nat → Nat → Int32) (N : Nat → Nat → Int64) (V : Nat → Nat → Option Nat) (lt : Int64) (tw : Option Nat) (sp sr : Nat) (X : List AC)  :
  R (d + 1) 27 (9, [some (.ref 21), some (.ref 3)], [.ref 68], sl, (CH I A N V lt tw sp sr X)) =
    bC (C d 44 [.ref 68, .ref 3] sl (CH I A N V lt tw sp sr X)) (fun vs sl h => R (d + 1) 27 (13, [some (.ref 21), some (.ref 3)], vs ++ [], sl, h)) :=
  (R_gob [9, 13] 400 _ _ _).trans rfl
set_option maxRecDepth 100000 in
theorem k27_r21_r3_9_6 (d sl : Nat) (I : Nat → Nat → Int32) (A : Nat → Nat → Int32) (N : Nat → Nat → Int64) (V : Nat → Nat → Option Nat) (lt : Int64) (tw : Option Nat) (sp sr : Nat) (X : List AC)  :
  R (d + 1) 27 (9, [some (.ref 21), some (.ref 3)], [.ref 77], sl, (CH I A N V lt tw sp sr X)) =
    bC (C d 44 [.ref 77, .ref 3] sl (CH I A N V lt tw sp sr X)) (fun vs sl h => R (d + 1) 27 (13, [some (.ref 21), some (.ref 3)], vs ++ [], sl, h)) :=
  (R_gob [9, 13] 400 _ _ _).trans rfl
set_option maxRecDepth 100000 in
theorem k27_r21_r3_9_7 (d sl : Nat) (I : Nat → Nat → Int32) (A : Nat → Nat → Int32) (N : Nat → Nat → Int64) (V : Nat → Nat → Option Nat) (lt : Int64) (tw : Option Nat) (sp sr : Nat) (X : List AC)  :
  R (d + 1) 27 (9, [some (.ref 21), some (.ref 3)], [.ref 86], sl, (CH I A N V lt tw sp sr X)) =
    bC (C d 44 [.ref 86, .ref 3] sl (CH I A N V lt tw sp sr X)) (fun vs sl h => R (d + 1) 27 (13, [some (.ref 21), some (.ref 3)], vs ++ [], sl, h)) :=
  (R_gob [9, 13] 400 _ _ _).trans rfl
set_option maxRecDepth 100000 in
theorem k27_r21_r3_13 (d sl : Nat) (I : Nat → Nat → Int32) (A : Nat → Nat → Int32) (N : Nat → Nat → Int64) (V : Nat → Nat → Option Nat) (lt : Int64) (tw : Option Nat) (sp sr : Nat) (X : List AC)  :
  R (d + 1) 27 (13, [some (.ref 21), some (.ref 3)], [], sl, (CH I A N V lt tw sp sr X)) =
    some (41, [some (.ref 21), some (.ref 3)], [], sl, (CH (up1 I 21 (up1 (up1 (I 21) 1 (((I 21 1) + (1 : Int32)) - ((I 21 1) + (1 : Int32)) / (8 : Int32) * (8 : Int32))) 2 (x_min (8 : Int32) ((I 21 2) + (1 : Int32))))) A N V lt tw sp sr X)) :=
  (R_gob [9, 13] 400 _ _ _).trans rfl
set_option maxRecDepth 100000 in
theorem k76_r3_0 (d sl : Nat) (I : Nat → Nat → Int32) (A : Nat → Nat → Int32) (N : Nat → Nat → Int64) (V : Nat → Nat → Option Nat) (lt : Int64) (tw : Option Nat) (sp sr : Nat) (X : List AC)  :
  R d 76 (0, [some (.ref 3)], [], sl, (CH I A N V lt tw sp sr X)) =
    some (12, [some (.ref 3)], [.int (x_max (0 : Int32) ((400 : Int32) - (I 3 12)))], sl, (CH I A N V lt tw sp sr X)) :=
  (R_gob [] 400 _ _ _).trans rfl
set_option maxRecDepth 100000 in
theorem k28_r21_r3_0 (d sl : Nat) (I : Nat → Nat → Int32) (A : Nat → Nat → Int32) (N : Nat → Nat → Int64) (V : Nat → Nat → Option Nat) (lt : Int64) (tw : Option Nat) (sp sr : Nat) (X : List AC)  :
  R (d + 1) 28 (0, [some (.ref 21), some (.ref 3)], [], sl, (CH I A N V lt tw sp sr X)) =
    cond (!decide ((I 21 2) = 0)) (cond (x_in ((((I 21 1) + (8 : Int32)) - (1 : Int32)) - (((I 21 1) + (8 : Int32)) - (1 : Int32)) / (8 : Int32) * (8 : Int32)) 8) (R (d + 1) 28 (45, [some (.ref 21), some (.ref 3)], [x_rf ((V 22) ((((I 21 1) + (8 : Int32)) - (1 : Int32)) - (((I 21 1) + (8 : Int32)) - (1 : Int32)) / (8 : Int32) * (8 : Int32)).toNatClampNeg), .ref 3], sl, (CH (up1 I 21 (up1 (up1 (I 21) 1 ((((I 21 1) + (8 : Int32)) - (1 : Int32)) - (((I 21 1) + (8 : Int32)) - (1 : Int32)) / (8 : Int32) * (8 : Int32))) 2 ((I 21 2) - (1 : Int32)))) A N V lt tw sp sr X))) none) (some (8, [some (.ref 21), some (.ref 3)], [.int (0 : Int32)], sl, (CH I A N V lt tw sp sr X))) :=
  (R_gob [45, 48] 400 _ _ _).trans rfl
set_option maxRecDepth 100000 in
theorem k28_r21_r3_45 (d sl : Nat) (I : Nat → Nat → Int32) (A : Nat → Nat → Int32) (N : Nat → Nat → Int64) (V : Nat → Nat → Option Nat) (lt : Int64) (tw : Option Nat) (sp sr : Nat) (X : List AC)  :
  R (d + 1) 28 (45, [some (.ref 21), some (.ref 3)], [.ref 23, .ref 3], sl, (CH I A N V lt tw sp sr X)) =
    bC (C d 44 [.ref 3, .ref 23] sl (CH I A N V lt tw sp sr X)) (fun vs sl h => R (d + 1) 28 (48, [some (.ref 21), some (.ref 3)], vs ++ [], sl, h)) :=
  (R_gob [45, 48] 400 _ _ _).trans rfl
set_option maxRecDepth 100000 in
theorem k28_r21_r3_45_1 (d sl : Nat) (I : Nat → Nat → Int32) (A : Nat → Nat → Int32) (N : Nat → Nat → Int64) (V : Nat → Nat → Option Nat) (lt : Int64) (tw : Option Nat) (sp sr : Nat) (X : List AC)  :
  R (d + 1) 28 (45, [some (.ref 21), some (.ref 3)], [.ref 32, .ref 3], sl, (CH I A N V lt tw sp sr X)) =
    bC (C d 44 [.ref 3, .ref 32] sl (CH I A N V lt tw sp sr X)) (fun vs sl h => R (d + 1) 28 (48, [some (.ref 21), some (.ref 3)], vs ++ [], sl, h)) :=
  (R_gob [45, 48] 400 _ _ _).trans rfl
set_option maxRecDepth 100000 in
theorem k28_r21_r3_45_2 (d sl : Nat) (I : Nat → Nat → Int32) (A : Nat → Nat → Int32) (N : Nat → Nat → Int64) (V : Nat → Nat → Option Nat) (lt : Int64) (tw : Option Nat) (sp sr : Nat) (X : List AC)  :
  R (d + 1) 28 (45, [some (.ref 21), some (.ref 3)], [.ref 41, .ref 3], sl, (CH I A N V lt tw sp sr X)) =
    bC (C d 44 [.ref 3, .ref 41] sl (CH I A N V lt tw sp sr X)) (fun vs sl h => R (d + 1) 28 (48, [some (.ref 21), some (.ref 3)], vs ++ [], sl, h)) :=
  (R_gob [45, 48] 400 _ _ _).trans rfl
set_option maxRecDepth 100000 in
theorem k28_r21_r3_45_3 (d sl : Nat) (I : Nat → Nat → Int32) (A : Nat → Nat → Int32) (N : Nat → Nat → Int64) (V : Nat → Nat → Option Nat) (lt : Int64) (tw : Option Nat) (sp sr : Nat) (X : List AC)  :
  R (d + 1) 28 (45, [some (.ref 21), some (.ref 3)], [.ref 50, .ref 3], sl, (CH I A N V lt tw sp sr X)) =
    bC (C d 44 [.ref 3, .ref 50] sl (CH I A N V lt tw sp sr X)) (fun vs sl h => R (d + 1) 28 (48, [some (.ref 21), some (.ref 3)], vs ++ [], sl, h)) :=
  (R_gob [45, 48] 400 _ _ _).trans rfl
set_option maxRecDepth 100000 in
theorem k28_r21_r3_45_4 (d sl : Nat) (I : Nat → Nat → Int32) (A : Nat → Nat → Int32) (N : Nat → Nat → Int64) (V : Nat → Nat → Option Nat) (lt : Int64) (tw : Option Nat) (sp sr : Nat) (X : List AC)  :
  R (d + 1) 28 (45, [some (.ref 21), some (.ref 3)], [.ref 59, .ref 3], sl, (CH I A N V lt tw sp sr X)) =
    bC (C d 44 [.ref 3, .ref 59] sl (CH I A N V lt tw sp sr X)) (fun vs sl h => R (d + 1) 28 (48, [some (.ref 21), some (.ref 3)], vs ++ [], sl, h)) :=
  (R_gob [45, 48] 400 _ _ _).trans rfl
set_option maxRecDepth 100000 in
theorem k28_r21_r3_45_5 (d sl : Nat) (I : Nat → Nat → Int32) (A : Nat → Nat → Int32) (N : Nat → Nat → Int64) (V : Nat → Nat → Option Nat) (lt : Int64) (tw : Option Nat) (sp sr : Nat) (X : List AC)  :
  R (d + 1) 28 (45, [some (.ref 21), some (.ref 3)], [.ref 68, .ref 3], sl, (CH I A N V lt tw sp sr X)) =
    bC (C d 44 [.ref 3, .ref 68] sl (CH I A N V lt tw sp sr X)) (fun vs sl h => R (d + 1) 28 (48, [some (.ref 21), some (.ref 3)], vs ++ [], sl, h)) :=
  (R_gob [45, 48] 400 _ _ _).trans rfl
set_option maxRecDepth 100000 in
theorem k28_r21_r3_45_6 (d sl : Nat) (I : Nat → Nat → Int32) (A : Nat → Nat → Int32) (N : Nat → Nat → Int64) (V : Nat → Nat → Option Nat) (lt : Int64) (tw : Option Nat) (sp sr : Nat) (X : List AC)  :
  R (d + 1) 28 (45, [some (.ref 21), some (.ref 3)], [.ref 77, .ref 3], sl, (CH I A N V lt tw sp sr X)) =
    bC (C d 44 [.ref 3, .ref 77] sl (CH I A N V lt tw sp sr X)) (fun vs sl h => R (d + 1) 28 (48, [some (.ref 21), some (.ref 3)], vs ++ [], sl, h)) :=
  (R_gob [45, 48] 400 _ _ _).trans rfl
set_option maxRecDepth 100000 in
theorem k28_r21_r3_45_7 (d sl : Nat) (I : Nat → Nat → Int32) (A : Nat → Nat → Int32) (N : Nat → Nat → Int64) (V : Nat → Nat → Option Nat) (lt : Int64) (tw : Option Nat) (sp sr : Nat) (X : List AC)  :
  R (d + 1) 28 (45, [some (.ref 21), some (.ref 3)], [.ref 86, .ref 3], sl, (CH I A N V lt tw sp sr X)) =
    bC (C d 44 [.ref 3, .ref 86] sl (CH I A N V lt tw sp sr X)) (fun vs sl h => R (d + 1) 28 (48, [some (.ref 21), some (.ref 3)], vs ++ [], sl, h)) :=
  (R_gob [45, 48] 400 _ _ _).trans rfl
set_option maxRecDepth 100000 in
theorem k28_r21_r3_48 (d sl : Nat) (I : Nat → Nat → Int32) (A : Nat → Nat → Int32) (N : Nat → Nat → Int64) (V : Nat → Nat → Option Nat) (lt : Int64) (tw : Option Nat) (sp sr : Nat) (X : List AC)  :
  R (d + 1) 28 (48, [some (.ref 21), some (.ref 3)], [], sl, (CH I A N V lt tw sp sr X)) =
    some (49, [some (.ref 21), some (.ref 3)], [.int (1 : Int32)], sl, (CH I A N V lt tw sp sr X)) :=
  (R_gob [45, 48] 400 _ _ _).trans rfl
set_option maxRecDepth 100000 in
theorem k6_r146_0 (d sl : Nat) (I : Nat → Nat → Int32) (A : Nat → Nat → Int32) (N : Nat → Nat → Int64) (V : Nat → Nat → Option Nat) (lt : Int64) (tw : Option Nat) (sp sr : Nat) (a1 : Int32) (x0_0 : Int32) :
  R d 6 (0, [some (.ref 146), some (.int a1)], [], sl, (CH I A N V lt tw sp sr [.inr (0, [.int x0_0])])) =
    some (9, [some (.ref 146), some (.int a1)], [], sl, (CH I A N V lt tw sp sr [.inr (0, [.int a1])])) :=
  (R_gob [] 400 _ _ _).trans rfl
set_option maxRecDepth 100000 in
theorem k78_r3_r146_0 (d sl : Nat) (I : Nat → Nat → Int32) (A : Nat → Nat → Int32) (N : Nat → Nat → Int64) (V : Nat → Nat → Option Nat) (lt : Int64) (tw : Option Nat) (sp sr : Nat) (a1 : Int32) (x0_0 : Int32) :
  R (d + 1) 78 (0, [some (.ref 3), some (.int a1), some (.ref 146), none, none, none], [], sl, (CH I A N V lt tw sp sr [.inr (0, [.int x0_0])])) =
    bC (C d 76 [.ref 3] sl (CH I A N V lt tw sp sr [.inr (0, [.int x0_0])])) (fun vs sl h => R (d + 1) 78 (5, [some (.ref 3), some (.int a1), some (.ref 146), none, none, none], vs ++ [.int a1], sl, h)) :=
  (R_gob [5, 12, 21, 37, 47] 400 _ _ _).trans rfl
set_option maxRecDepth 100000 in
theorem k78_r3_r146_5 (d sl : Nat) (I : Nat → Nat → Int32) (A : Nat → Nat → Int32) (N : Nat → Nat → Int64) (V : Nat → Nat → Option Nat) (lt : Int64) (tw : Option Nat) (sp sr : Nat) (a1 : Int32) (b0 : Int32) (b1 : Int32) (x0_0 : Int32) :
  R (d + 1) 78 (5, [some (.ref 3), some (.int a1), some (.ref 146), none, none, none], [.int b0, .int b1], sl, (CH I A N V lt tw sp sr [.inr (0, [.int x0_0])])) =
    R (d + 1) 78 (12, [some (.ref 3), some (.int a1), some (.ref 146), some (.int (x_min b1 b0)), some (.int (0 : Int32)), none], [], sl, (CH I A N V lt tw sp sr [.inr (0, [.int x0_0])])) :=
  (R_gob [5, 12, 21, 37, 47] 400 _ _ _).trans rfl
set_option maxRecDepth 100000 in
theorem k78_r3_r146_12 (d sl : Nat) (I : Nat → Nat → Int32) (A : Nat → Nat → Int32) (N : Nat → Nat → Int64) (V : Nat → Nat → Option Nat) (lt : Int64) (tw : Option Nat) (sp sr : Nat) (a1 : Int32) (a3 : Int32) (a4 : Int32) (x0_0 : Int32) :
  R (d + 1) 78 (12, [some (.ref 3), some (.int a1), some (.ref 146), some (.int a3), some (.int a4), none], [], sl, (CH I A N V lt tw sp sr [.inr (0, [.int x0_0])])) =
    cond (decide (a3 ≤ a4)) (some (54, [some (.ref 3), some (.int a1), some (.ref 146), some (.int a3), some (.int a4), none], [.int a3], sl, (CH I A N V lt tw sp sr [.inr (0, [.int x0_0])]))) (R (d + 1) 78 (21, [some (.ref 3), some (.int a1), some (.ref 146), some (.int a3), some (.int a4), some (.int (0 : Int32))], [], sl, (CH I A N V lt tw sp sr [.inr (0, [.int x0_0])]))) :=
  (R_gob [5, 12, 21, 37, 47] 400 _ _ _).trans rfl
set_option maxRecDepth 100000 in
theorem k78_r3_r146_21 (d sl : Nat) (I : Nat → Nat → Int32) (A : Nat → Nat → Int32) (N : Nat → Nat → Int64) (V : Nat → Nat → Option Nat) (lt : Int64) (tw : Option Nat) (sp sr : Nat) (a1 : Int32) (a3 : Int32) (a4 : Int32) (a5 : Int32) (x0_0 : Int32) :
  R (d + 1) 78 (21, [some (.ref 3), some (.int a1), some (.ref 146), some (.int a3), some (.int a4), some (.int a5)], [], sl, (CH I A N V lt tw sp sr [.inr (0, [.int x0_0])])) =
    cond (decide ((I 3 8) ≤ a5)) (bC (C d 77 [.ref 3] sl (CH I A N V lt tw sp sr [.inr (0, [.int x0_0])])) (fun vs sl h => R (d + 1) 78 (47, [some (.ref 3), some (.int a1), some (.ref 146), some (.int a3), some (.int a4), some (.int a5)], vs ++ [], sl, h))) (bC (C d 79 [.ref 3, .int a5, .ref 146] sl (CH I A N V lt tw sp sr [.inr (0, [.int x0_0])])) (fun vs sl h => R (d + 1) 78 (37, [some (.ref 3), some (.int a1), some (.ref 146), some (.int a3), some (.int a4), some (.int a5)], vs ++ [], sl, h))) :=
  (R_gob [5, 12, 21, 37, 47] 400 _ _ _).trans rfl
set_option maxRecDepth 100000 in
theorem k78_r3_r146_47 (d sl : Nat) (I : Nat → Nat → Int32) (A : Nat → Nat → Int32) (N : Nat → Nat → Int64) (V : Nat → Nat → Option Nat) (lt : Int64) (tw : Option Nat) (sp sr : Nat) (a1 : Int32) (a3 : Int32) (a4 : Int32) (a5 : Int32) (x0_0 : Int32) :
  R (d + 1) 78 (47, [some (.ref 3), some (.int a1), some (.ref 146), some (.int a3), some (.int a4), some (.int a5)], [], sl, (CH I A N V lt tw sp sr [.inr (0, [.int x0_0])])) =
    R (d + 1) 78 (12, [some (.ref 3), some (.int a1), some (.ref 146), some (.int a3), some (.int (a4 + (1 : Int32))), some (.int a5)], [], sl, (CH I A N V lt tw sp sr [.inr (0, [.int x0_0])])) :=
  (R_gob [5, 12, 21, 37, 47] 400 _ _ _).trans rfl
set_option maxRecDepth 100000 in
theorem k78_r3_r146_37 (d sl : Nat) (I : Nat → Nat → Int32) (A : Nat → Nat → Int32) (N : Nat → Nat → Int64) (V : Nat → Nat → Option Nat) (lt : Int64) (tw : Option Nat) (sp sr : Nat) (a1 : Int32) (a3 : Int32) (a4 : Int32) (a5 : Int32) (x0_0 : Int32) :
  R (d + 1) 78 (37, [some (.ref 3), some (.int a1), some (.ref 146), some (.int a3), some (.int a4), some (.int a5)], [], sl, (CH I A N V lt tw sp sr [.inr (0, [.int x0_0])])) =
    R (d + 1) 78 (21, [some (.ref 3), some (.int a1), some (.ref 146), some (.int a3), some (.int a4), some (.int (a5 + (1 : Int32)))], [], sl, (CH I A N V lt tw sp sr [.inr (0, [.int x0_0])])) :=
  (R_gob [5, 12, 21, 37, 47] 400 _ _ _).trans rfl
set_option maxRecDepth 100000 in
theorem k78_r3_r146_12_1 (d sl : Nat) (I : Nat → Nat → Int32) (A : Nat → Nat → Int32) (N : Nat → Nat → Int64) (V : Nat → Nat → Option Nat) (lt : Int64) (tw : Option Nat) (sp sr : Nat) (a1 : Int32) (a3 : Int32) (a4 : Int32) (a5 : Int32) (x0_0 : Int32) :
  R (d + 1) 78 (12, [some (.ref 3), some (.int a1), some (.ref 146), some (.int a3), some (.int a4), some (.int a5)], [], sl, (CH I A N V lt tw sp sr [.inr (0, [.int x0_0])])) =
    cond (decide (a3 ≤ a4)) (some (54, [some (.ref 3), some (.int a1), some (.ref 146), some (.int a3), some (.int a4), some (.int a5)], [.int a3], sl, (CH I A N V lt tw sp sr [.inr (0, [.int x0_0])]))) (R (d + 1) 78 (21, [some (.ref 3), some (.int a1), some (.ref 146), some (.int a3), some (.int a4), some (.int (0 : Int32))], [], sl, (CH I A N V lt tw sp sr [.inr (0, [.int x0_0])]))) :=
  (R_gob [5, 12, 21, 37, 47] 400 _ _ _).trans rfl
set_option maxRecDepth 100000 in
theorem k27_r21_r12_0 (d sl : Nat) (I : Nat → Nat → Int32) (A : Nat → Nat → Int32) (N : Nat → Nat → Int64) (V : Nat → Nat → Option Nat) (lt : Int64) (tw : Option Nat) (sp sr : Nat) (X : List AC)  :
  R (d + 1) 27 (0, [some (.ref 21), some (.ref 12)], [], sl, (CH I A N V lt tw sp sr X)) =
    cond (x_in (I 21 1) 8) (R (d + 1) 27 (9, [some (.ref 21), some (.ref 12)], [x_rf ((V 22) (I 21 1).toNatClampNeg)], sl, (CH I A N V lt tw sp sr X))) none :=
  (R_gob [9, 13] 400 _ _ _).trans rfl
set_option maxRecDepth 100000 in
theorem k27_r21_r12_9 (d sl : Nat) (I : Nat → Nat → Int32) (A : Nat → Nat → Int32) (N : Nat → Nat → Int64) (V : Nat → Nat → Option Nat) (lt : Int64) (tw : Option Nat) (sp sr : Nat) (X : List AC)  :
  R (d + 1) 27 (9, [some (.ref 21), some (.ref 12)], [.ref 23], sl, (CH I A N V lt tw sp sr X)) =
    bC (C d 44 [.ref 23, .ref 12] sl (CH I A N V lt tw sp sr X)) (fun vs sl h => R (d + 1) 27 (13, [some (.ref 21), some (.ref 12)], vs ++ [], sl, h)) :=
  (R_gob [9, 13] 400 _ _ _).trans rfl
set_option maxRecDepth 100000 in
theorem k27_r21_r12_9_1 (d sl : Nat) (I : Nat → Nat → Int32) (A : Nat → Nat → Int32) (N : Nat → Nat → Int64) (V : Nat → Nat → Option Nat) (lt : Int64) (tw : Option Nat) (sp sr : Nat) (X : List AC)  :
  R (d + 1) 27 (9, [some (.ref 21), some (.ref 12)], [.ref 32], sl, (CH I A N V lt tw sp sr X)) =
    bC (C d 44 [.ref 32, .ref 12] sl (CH I A N V lt tw sp sr X)) (fun vs sl h => R (d + 1) 27 (13, [some (.ref 21), some (.ref 12)], vs ++ [], sl, h)) :=
  (R_gob [9, 13] 400 _ _ _).trans rfl
set_option maxRecDepth 100000 in
theorem k27_r21_r12_9_2 (d sl : Nat) (I : Nat → Nat → Int32) (A : Nat → Nat → Int32) (N : Nat → Nat → Int64) (V : Nat → Nat → Option Nat) (lt : Int64) (tw : Option Nat) (sp sr : Nat) (X : List AC)  :
  R (d + 1) 27 (9, [some (.ref 21), some (.ref 12)], [.ref 41], sl, (CH I A N V lt tw sp sr X)) =
    bC (C d 44 [.ref 41, .ref 12] sl (CH I A N V lt tw sp sr X)) (fun vs sl h => R (d + 1) 27 (13, [some (.ref 21), some (.ref 12)], vs ++ [], sl, h)) :=
  (R_gob [9, 13] 400 _ _ _).trans rfl
set_option maxRecDepth 100000 in
theorem k27_r21_r12_9_3 (d sl : Nat) (I : Nat → Nat → Int32) (A : Nat → Nat → Int32) (N : Nat → Nat → Int64) (V : Nat → Nat → Option Nat) (lt : Int64) (tw : Option Nat) (sp sr : Nat) (X : List AC)  :
  R (d + 1) 27 (9, [some (.ref 21), some (.ref 12)], [.ref 50], sl, (CH I A N V lt tw sp sr X)) =
    bC (C d 44 [.ref 50, .ref 12] sl (CH I A N V lt tw sp sr X)) (fun vs sl h => R (d + 1) 27 (13, [some (.ref 21), some (.ref 12)], vs ++ [], sl, h)) :=
  (R_gob [9, 13] 400 _ _ _).trans rfl
set_option maxRecDepth 100000 in
theorem k27_r21_r12_9_4 (d sl : Nat) (I : Nat → Nat → Int32) (A : Nat → Nat → Int32) (N : Nat → Nat → Int64) (V : Nat → Nat → Option Nat) (lt : Int64) (tw : Option Nat) (sp sr : Nat) (X : List AC)  :
  R (d + 1) 27 (9, [some (.ref 21), some (.ref 12)], [.ref 59], sl, (CH I A N V lt tw sp sr X)) =
    bC (C d 44 [.ref 59, .ref 12] sl (CH I A N V lt tw sp sr X)) (fun vs sl h => R (d + 1) 27 (13, [some (.ref 21), some (.ref 12)], vs ++ [], sl, h)) :=
  (R_gob [9, 13] 400 _ _ _).trans rfl
set_option maxRecDepth 100000 in
theorem k27_r21_r12_9_5 (d sl : Nat) (I : Nat → Nat → Int32) (A : Nat → Nat → Int32) (N : Nat → Nat → Int64) (V : Nat → Nat → Option Nat) (lt : Int64) (tw : Option Nat) (sp sr : Nat) (X : List AC)  :
  R (d + 1) 27 (9, [some (.ref 21), some (.ref 12)], [.ref 68], sl, (CH I A N V lt tw sp sr X)) =
    bC (C d 44 [.ref 68, .ref 12] sl (CH I A N V lt tw sp sr X)) (fun vs sl h => R (d + 1) 27 (13, [some (.ref 21), some (.ref 12)], vs ++ [], sl, h)) :=
  (R_gob [9, 13] 400 _ _ _).trans rfl
set_option maxRecDepth 100000 in
theorem k27_r21_r12_9_6 (d sl : Nat) (I : Nat → Nat → Int32) (A : Nat → Nat → Int32) (N : Nat → Nat → Int64) (V : Nat → Nat → Option Nat) (lt : Int64) (tw : Option Nat) (sp sr : Nat) (X : List AC)  :
  R (d + 1) 27 (9, [some (.ref 21), some (.ref 12)], [.ref 77], sl, (CH I A N V lt tw sp sr X)) =
    bC (C d 44 [.ref 77, .ref 12] sl (CH I A N V lt tw sp sr X)) (fun vs sl h => R (d + 1) 27 (13, [some (.ref 21), some (.ref 12)], vs ++ [], sl, h)) :=
  (R_gob [9, 13] 400 _ _ _).trans rfl
set_option maxRecDepth 100000 in
theorem k27_r21_r12_9_7 (d sl : Nat) (I : Nat → Nat → Int32) (A : Nat → Nat → Int32) (N : Nat → Nat → Int64) (V : Nat → Nat → Option Nat) (lt : Int64) (tw : Option Nat) (sp sr : Nat) (X : List AC)  :
  R (d + 1) 27 (9, [some (.ref 21), some (.ref 12)], [.ref 86], sl, (CH I A N V lt tw sp sr X)) =
    bC (C d 44 [.ref 86, .ref 12] sl (CH I A N V lt tw sp sr X)) (fun vs sl h => R (d + 1) 27 (13, [some (.ref 21), some (.ref 12)], vs ++ [], sl, h)) :=
  (R_gob [9, 13] 400 _ _ _).trans rfl
set_option maxRecDepth 100000 in
theorem k27_r21_r12_13 (d sl : Nat) (I : Nat → Nat → Int32) (A : Nat → Nat → Int32) (N : Nat → Nat → Int64) (V : Nat → Nat → Option Nat) (lt : Int64) (tw : Option Nat) (sp sr : Nat) (X : List AC)  :
  R (d + 1) 27 (13, [some (.ref 21), some (.ref 12)], [], sl, (CH I A N V lt tw sp sr X)) =
    some (41, [some (.ref 21), some (.ref 12)], [], sl, (CH (up1 I 21 (up1 (up1 (I 21) 1 (((I 21 1) + (1 : Int32)) - ((I 21 1) + (1 : Int32)) / (8 : Int32) * (8 : Int32))) 2 (x_min (8 : Int32) ((I 21 2) + (1 : Int32))))) A N V lt tw sp sr X)) :=
  (R_gob [9, 13] 400 _ _ _).trans rfl
set_option maxRecDepth 100000 in
theorem k78_r12_r146_0 (d sl : Nat) (I : Nat → Nat → Int32) (A : Nat → Nat → Int32) (N : Nat → Nat → Int64) (V : Nat → Nat → Option Nat) (lt : Int64) (tw : Option Nat) (sp sr : Nat) (a1 : Int32) (x0_0 : Int32) :
  R (d + 1) 78 (0, [some (.ref 12), some (.int a1), some (.ref 146), none, none, none], [], sl, (CH I A N V lt tw sp sr [.inr (0, [.int x0_0])])) =
    bC (C d 76 [.ref 12] sl (CH I A N V lt tw sp sr [.inr (0, [.int x0_0])])) (fun vs sl h => R (d + 1) 78 (5, [some (.ref 12), some (.int a1), some (.ref 146), none, none, none], vs ++ [.int a1], sl, h)) :=
  (R_gob [5, 12, 21, 37, 47] 400 _ _ _).trans rfl
set_option maxRecDepth 100000 in
theorem k78_r12_r146_5 (d sl : Nat) (I : Nat → Nat → Int32) (A : Nat → Nat → Int32) (N : Nat → Nat → Int64) (V : Nat → Nat → Option Nat) (lt : Int64) (tw : Option Nat) (sp sr : Nat) (a1 : Int32) (b0 : Int32) (b1 : Int32) (x0_0 : Int32) :
  R (d + 1) 78 (5, [some (.ref 12), some (.int a1), some (.ref 146), none, none, none], [.int b0, .int b1], sl, (CH I A N V lt tw sp sr [.inr (0, [.int x0_0])])) =
    R (d + 1) 78 (12, [some (.ref 12), some (.int a1), some (.ref 146), some (.int (x_min b1 b0)), some (.int (0 : Int32)), none], [], sl, (CH I A N V lt tw sp sr [.inr (0, [.int x0_0])])) :=
  (R_gob [5, 12, 21, 37, 47] 400 _ _ _).trans rfl
set_option maxRecDepth 100000 in
theorem k78_r12_r146_12 (d sl : Nat) (I : Nat → Nat → Int32) (A : Nat → Nat → Int32) (N : Nat → Nat → Int64) (V : Nat → Nat → Option Nat) (lt : Int64) (tw : Option Nat) (sp sr : Nat) (a1 : Int32) (a3 : Int32) (a4 : Int32) (x0_0 : Int32) :
  R (d + 1) 78 (12, [some (.ref 12), some (.int a1), some (.ref 146), some (.int a3), some (.int a4), none], [], sl, (CH I A N V lt tw sp sr [.inr (0, [.int x0_0])])) =
    cond (decide (a3 ≤ a4)) (some (54, [some (.ref 12), some (.int a1), some (.ref 146), some (.int a3), some (.int a4), none], [.int a3], sl, (CH I A N V lt tw sp sr [.inr (0, [.int x0_0])]))) (R (d + 1) 78 (21, [some (.ref 12), some (.int a1), some (.ref 146), some (.int a3), some (.int a4), some (.int (0 : Int32))], [], sl, (CH I A N V lt tw sp sr [.inr (0, [.int x0_0])]))) :=
  (R_gob [5, 12, 21, 37, 47] 400 _ _ _).trans rfl
set_option maxRecDepth 100000 in
theorem k78_r12_r146_21 (d sl : Nat) (I : Nat → Nat → Int32) (A : Nat → Nat → Int32) (N : Nat → Nat → Int64) (V : Nat → Nat → Option Nat) (lt : Int64) (tw : Option Nat) (sp sr : Nat) (a1 : Int32) (a3 : Int32) (a4 : Int32) (a5 : Int32) (x0_0 : Int32) :
  R (d + 1) 78 (21, [some (.ref 12), some (.int a1), some (.ref 146), some (.int a3), some (.int a4), some (.int a5)], [], sl, (CH I A N V lt tw sp sr [.inr (0, [.int x0_0])])) =
    cond (decide ((I 12 8) ≤ a5)) (bC (C d 77 [.ref 12] sl (CH I A N V lt tw sp sr [.inr (0, [.int x0_0])])) (fun vs sl h => R (d + 1) 78 (47, [some (.ref 12), some (.int a1), some (.ref 146), some (.int a3), some (.int a4), some (.int a5)], vs ++ [], sl, h))) (bC (C d 79 [.ref 12, .int a5, .ref 146] sl (CH I A N V lt tw sp sr [.inr (0, [.int x0_0])])) (fun vs sl h => R (d + 1) 78 (37, [some (.ref 12), some (.int a1), some (.ref 146), some (.int a3), some (.int a4), some (.int a5)], vs ++ [], sl, h))) :=
  (R_gob [5, 12, 21, 37, 47] 400 _ _ _).trans rfl
set_option maxRecDepth 100000 in
theorem k78_r12_r146_47 (d sl : Nat) (I : Nat → Nat → Int32) (A : Nat → Nat → Int32) (N : Nat → Nat → Int64) (V : Nat → Nat → Option Nat) (lt : Int64) (tw : Option Nat) (sp sr : Nat) (a1 : Int32) (a3 : Int32) (a4 : Int32) (a5 : Int32) (x0_0 : Int32) :
  R (d + 1) 78 (47, [some (.ref 12), some (.int a1), some (.ref 146), some (.int a3), some (.int a4), some (.int a5)], [], sl, (CH I A N V lt tw sp sr [.inr (0, [.int x0_0])])) =
    R (d + 1) 78 (12, [some (.ref 12), some (.int a1), some (.ref 146), some (.int a3), some (.int (a4 + (1 : Int32))), some (.int a5)], [], sl, (CH I A N V lt tw sp sr [.inr (0, [.int x0_0])])) :=
  (R_gob [5, 12, 21, 37, 47] 400 _ _ _).trans rfl
set_option maxRecDepth 100000 in
theorem k78_r12_r146_37 (d sl : Nat) (I : Nat → Nat → Int32) (A : Nat → Nat → Int32) (N : Nat → Nat → Int64) (V : Nat → Nat → Option Nat) (lt : Int64) (tw : Option Nat) (sp sr : Nat) (a1 : Int32) (a3 : Int32) (a4 : Int32) (a5 : Int32) (x0_0 : Int32) :
  R (d + 1) 78 (37, [some (.ref 12), some (.int a1), some (.ref 146), some (.int a3), some (.int a4), some (.int a5)], [], sl, (CH I A N V lt tw sp sr [.inr (0, [.int x0_0])])) =
    R (d + 1) 78 (21, [some (.ref 12), some (.int a1), some (.ref 146), some (.int a3), some (.int a4), some (.int (a5 + (1 : Int32)))], [], sl, (CH I A N V lt tw sp sr [.inr (0, [.int x0_0])])) :=
  (R_gob [5, 12, 21, 37, 47] 400 _ _ _).trans rfl
set_option maxRecDepth 100000 in
theorem k78_r12_r146_12_1 (d sl : Nat) (I : Nat → Nat → Int32) (A : Nat → Nat → Int32) (N : Nat → Nat → Int64) (V : Nat → Nat → Option Nat) (lt : Int64) (tw : Option Nat) (sp sr : Nat) (a1 : Int32) (a3 : Int32) (a4 : Int32) (a5 : Int32) (x0_0 : Int32) :
  R (d + 1) 78 (12, [some (.ref 12), some (.int a1), some (.ref 146), some (.int a3), some (.int a4), some (.int a5)], [], sl, (CH I A N V lt tw sp sr [.inr (0, [.int x0_0])])) =
    cond (decide (a3 ≤ a4)) (some (54, [some (.ref 12), some (.int a1), some (.ref 146), some (.int a3), some (.int a4), some (.int a5)], [.int a3], sl, (CH I A N V lt tw sp sr [.inr (0, [.int x0_0])]))) (R (d + 1) 78 (21, [some (.ref 12), some (.int a1), some (.ref 146), some (.int a3), some (.int a4), some (.int (0 : Int32))], [], sl, (CH I A N V lt tw sp sr [.inr (0, [.int x0_0])]))) :=
  (R_gob [5, 12, 21, 37, 47] 400 _ _ _).trans rfl
set_option maxRecDepth 100000 in
theorem k62_r12_0 (d sl : Nat) (I : Nat → Nat → Int32) (A : Nat → Nat → Int32) (N : Nat → Nat → Int64) (V : Nat → Nat → Option Nat) (lt : Int64) (tw : Option Nat) (sp sr : Nat) (X : List AC) (a1 : Int32) :
  R (d + 1) 62 (0, [some (.ref 12), some (.int a1)], [], sl, (CH I A N V lt tw sp sr X)) =
    bC (C d 57 [.ref 12, .int a1] sl (CH I A N V lt tw sp sr X)) (fun vs sl h => R (d + 1) 62 (5, [some (.ref 12), some (.int a1)], vs ++ [], sl, h)) :=
  (R_gob [5] 400 _ _ _).trans rfl
set_option maxRecDepth 100000 in
theorem k62_r12_5 (d sl : Nat) (I : Nat → Nat → Int32) (A : Nat → Nat → Int32) (N : Nat → Nat → Int64) (V : Nat → Nat → Option Nat) (lt : Int64) (tw : Option Nat) (sp sr : Nat) (X : List AC) (a1 : Int32) (b0 : Int32) :
  R (d + 1) 62 (5, [some (.ref 12), some (.int a1)], [.int b0], sl, (CH I A N V lt tw sp sr X)) =
    cond (x_in a1 6) (cond (decide (b0 ≤ ((A 14) a1.toNatClampNeg))) (some (19, [some (.ref 12), some (.int a1)], [.int (0 : Int32)], sl, (CH I A N V lt tw sp sr X))) (some (19, [some (.ref 12), some (.int a1)], [.int (1 : Int32)], sl, (CH I A N V lt tw sp sr X)))) none :=
  (R_gob [5] 400 _ _ _).trans rfl
set_option maxRecDepth 100000 in
theorem k54_r3_0 (d sl : Nat) (I : Nat → Nat → Int32) (A : Nat → Nat → Int32) (N : Nat → Nat → Int64) (V : Nat → Nat → Option Nat) (lt : Int64) (tw : Option Nat) (sp sr : Nat) (X : List AC) (a1 : Int32) :
  R (d + 1) 54 (0, [some (.ref 3), some (.int a1), none, none], [], sl, (CH I A N V lt tw sp sr X)) =
    R (d + 1) 54 (4, [some (.ref 3), some (.int a1), some (.int (0 : Int32)), some (.int (0 : Int32))], [], sl, (CH I A N V lt tw sp sr X)) :=
  (R_gob [4, 18] 400 _ _ _).trans rfl
set_option maxRecDepth 100000 in
theorem k54_r3_4 (d sl : Nat) (I : Nat → Nat → Int32) (A : Nat → Nat → Int32) (N : Nat → Nat → Int64) (V : Nat → Nat → Option Nat) (lt : Int64) (tw : Option Nat) (sp sr : Nat) (X : List AC) (a1 : Int32) (a2 : Int32) (a3 : Int32) :
  R (d + 1) 54 (4, [some (.ref 3), some (.int a1), some (.int a2), some (.int a3)], [], sl, (CH I A N V lt tw sp sr X)) =
    cond (decide ((I 3 9) ≤ a3)) (some (37, [some (.ref 3), some (.int a1), some (.int a2), some (.int a3)], [.int a2], sl, (CH I A N V lt tw sp sr X))) (bC (C d 52 [.ref 3, .int a3, .int a1] sl (CH I A N V lt tw sp sr X)) (fun vs sl h => R (d + 1) 54 (18, [some (.ref 3), some (.int a1), some (.int a2), some (.int a3)], vs ++ [], sl, h))) :=
  (R_gob [4, 18] 400 _ _ _).trans rfl
set_option maxRecDepth 100000 in
theorem k54_r3_18 (d sl : Nat) (I : Nat → Nat → Int32) (A : Nat → Nat → Int32) (N : Nat → Nat → Int64) (V : Nat → Nat → Option Nat) (lt : Int64) (tw : Option Nat) (sp sr : Nat) (X : List AC) (a1 : Int32) (a2 : Int32) (a3 : Int32) (b0 : Int32) :
  R (d + 1) 54 (18, [some (.ref 3), some (.int a1), some (.int a2), some (.int a3)], [.int b0], sl, (CH I A N V lt tw sp sr X)) =
    cond (decide (b0 = 0)) (R (d + 1) 54 (4, [some (.ref 3), some (.int a1), some (.int a2), some (.int (a3 + (1 : Int32)))], [], sl, (CH I A N V lt tw sp sr X))) (cond (x_in a3 12) (R (d + 1) 54 (4, [some (.ref 3), some (.int a1), some (.int (a2 + ((A 10) a3.toNatClampNeg))), some (.int (a3 + (1 : Int32)))], [], sl, (CH I A N V lt tw sp sr X))) none) :=
  (R_gob [4, 18] 400 _ _ _).trans rfl
set_option maxRecDepth 100000 in
theorem k50_r3_0 (d sl : Nat) (I : Nat → Nat → Int32) (A : Nat → Nat → Int32) (N : Nat → Nat → Int64) (V : Nat → Nat → Option Nat) (lt : Int64) (tw : Option Nat) (sp sr : Nat) (X : List AC) (a1 : Int32) :
  R d 50 (0, [some (.ref 3), some (.int a1)], [], sl, (CH I A N V lt tw sp sr X)) =
    cond (x_in a1 12) (cond (decide (((A 10) a1.toNatClampNeg) ≤ 0)) (some (14, [some (.ref 3), some (.int a1)], [.int (0 : Int32)], sl, (CH I A N V lt tw sp sr X))) (some (14, [some (.ref 3), some (.int a1)], [.int (1 : Int32)], sl, (CH I A N V lt tw sp sr X)))) none :=
  (R_gob [] 400 _ _ _).trans rfl
set_option maxRecDepth 100000 in
theorem k68_r3_0 (d sl : Nat) (I : Nat → Nat → Int32) (A : Nat → Nat → Int32) (N : Nat → Nat → Int64) (V : Nat → Nat → Option Nat) (lt : Int64) (tw : Option Nat) (sp sr : Nat) (X : List AC) (a1 : Int32) :
  R (d + 1) 68 (0, [some (.ref 3), some (.int a1), none, none, none, none], [], sl, (CH I A N V lt tw sp sr X)) =
    cond (x_in a1 6) (R (d + 1) 68 (12, [some (.ref 3), some (.int a1), some (.int (0 : Int32)), some (.int ((A 5) a1.toNatClampNeg)), some (.int (0 : Int32)), none], [], sl, (CH I A N V lt tw sp sr X))) none :=
  (R_gob [12, 27] 400 _ _ _).trans rfl
set_option maxRecDepth 100000 in
theorem k68_r3_12 (d sl : Nat) (I : Nat → Nat → Int32) (A : Nat → Nat → Int32) (N : Nat → Nat → Int64) (V : Nat → Nat → Option Nat) (lt : Int64) (tw : Option Nat) (sp sr : Nat) (X : List AC) (a1 : Int32) (a2 : Int32) (a3 : Int32) (a4 : Int32) :
  R (d + 1) 68 (12, [some (.ref 3), some (.int a1), some (.int a2), some (.int a3), some (.int a4), none], [], sl, (CH I A N V lt tw sp sr X)) =
    cond (decide ((I 3 9) ≤ a4)) (some (72, [some (.ref 3), some (.int a1), some (.int a2), some (.int a3), some (.int a4), none], [.int a2], sl, (CH I A N V lt tw sp sr X))) (bC (C d 69 [.ref 3, .int a1, .int a2] sl (CH I A N V lt tw sp sr X)) (fun vs sl h => R (d + 1) 68 (27, [some (.ref 3), some (.int a1), some (.int a2), some (.int a3), some (.int a4), none], vs ++ [], sl, h))) :=
  (R_gob [12, 27] 400 _ _ _).trans rfl
set_option maxRecDepth 100000 in
theorem k68_r3_27 (d sl : Nat) (I : Nat → Nat → Int32) (A : Nat → Nat → Int32) (N : Nat → Nat → Int64) (V : Nat → Nat → Option Nat) (lt : Int64) (tw : Option Nat) (sp sr : Nat) (X : List AC) (a1 : Int32) (a2 : Int32) (a3 : Int32) (a4 : Int32) (b0 : Int32) :
  R (d + 1) 68 (27, [some (.ref 3), some (.int a1), some (.int a2), some (.int a3), some (.int a4), none], [.int b0], sl, (CH I A N V lt tw sp sr X)) =
    cond (decide (b0 = (-1 : Int32))) (some (47, [some (.ref 3), some (.int a1), some (.int a2), some (.int a3), some (.int a4), some (.int b0)], [.int a2], sl, (CH I A N V lt tw sp sr X))) (cond (x_in b0 12) (cond (decide (((A 10) b0.toNatClampNeg) ≤ a3)) (cond (x_in b0 12) (R (d + 1) 68 (12, [some (.ref 3), some (.int a1), some (.int (a2 ||| ((1 : Int32) <<< (b0 &&& 31)))), some (.int (a3 - ((A 10) b0.toNatClampNeg))), some (.int (a4 + (1 : Int32))), some (.int b0)], [], sl, (CH I A N V lt tw sp sr X))) none) (some (47, [some (.ref 3), some (.int a1), some (.int a2), some (.int a3), some (.int a4), some (.int b0)], [.int a2], sl, (CH I A N V lt tw sp sr X)))) none) :=
  (R_gob [12, 27] 400 _ _ _).trans rfl
set_option maxRecDepth 100000 in
theorem k68_r3_12_1 (d sl : Nat) (I : Nat → Nat → Int32) (A : Nat → Nat → Int32) (N : Nat → Nat → Int64) (V : Nat → Nat → Option Nat) (lt : Int64) (tw : Option Nat) (sp sr : Nat) (X : List AC) (a1 : Int32) (a2 : Int32) (a3 : Int32) (a4 : Int32) (a5 : Int32) :
  R (d + 1) 68 (12, [some (.ref 3), some (.int a1), some (.int a2), some (.int a3), some (.int a4), some (.int a5)], [], sl, (CH I A N V lt tw sp sr X)) =
    cond (decide ((I 3 9) ≤ a4)) (some (72, [some (.ref 3), some (.int a1), some (.int a2), some (.int a3), some (.int a4), some (.int a5)], [.int a2], sl, (CH I A N V lt tw sp sr X))) (bC (C d 69 [.ref 3, .int a1, .int a2] sl (CH I A N V lt tw sp sr X)) (fun vs sl h => R (d + 1) 68 (27, [some (.ref 3), some (.int a1), some (.int a2), some (.int a3), some (.int a4), some (.int a5)], vs ++ [], sl, h))) :=
  (R_gob [12, 27] 400 _ _ _).trans rfl
set_option maxRecDepth 100000 in
theorem k68_r3_27_1 (d sl : Nat) (I : Nat → Nat → Int32) (A : Nat → Nat → Int32) (N : Nat → Nat → Int64) (V : Nat → Nat → Option Nat) (lt : Int64) (tw : Option Nat) (sp sr : Nat) (X : List AC) (a1 : Int32) (a2 : Int32) (a3 : Int32) (a4 : Int32) (a5 : Int32) (b0 : Int32) :
  R (d + 1) 68 (27, [some (.ref 3), some (.int a1), some (.int a2), some (.int a3), some (.int a4), some (.int a5)], [.int b0], sl, (CH I A N V lt tw sp sr X)) =
    cond (decide (b0 = (-1 : Int32))) (some (47, [some (.ref 3), some (.int a1), some (.int a2), some (.int a3), some (.int a4), some (.int b0)], [.int a2], sl, (CH I A N V lt tw sp sr X))) (cond (x_in b0 12) (cond (decide (((A 10) b0.toNatClampNeg) ≤ a3)) (cond (x_in b0 12) (R (d + 1) 68 (12, [some (.ref 3), some (.int a1), some (.int (a2 ||| ((1 : Int32) <<< (b0 &&& 31)))), some (.int (a3 - ((A 10) b0.toNatClampNeg))), some (.int (a4 + (1 : Int32))), some (.int b0)], [], sl, (CH I A N V lt tw sp sr X))) none) (some (47, [some (.ref 3), some (.int a1), some (.int a2), some (.int a3), some (.int a4), some (.int b0)], [.int a2], sl, (CH I A N V lt tw sp sr X)))) none) :=
  (R_gob [12, 27] 400 _ _ _).trans rfl
set_option maxRecDepth 100000 in
theorem k2_0 (d sl : Nat) (I : Nat → Nat → Int32) (A : Nat → Nat → Int32) (N : Nat → Nat → Int64) (V : Nat → Nat → Option Nat) (lt : Int64) (tw : Option Nat) (sp sr : Nat) (X : List AC) (a0 : Int32) :
  R d 2 (0, [some (.int a0)], [], sl, (CH I A N V lt tw sp sr X)) =
    some (52, [some (.int (((((((a0 - ((a0.toUInt32 >>> ((1 : Int32).toUInt32 &&& Int32.toUInt32 31)).toInt32 &&& (1431655765 : Int32))) &&& (858993459 : Int32)) + (((a0 - ((a0.toUInt32 >>> ((1 : Int32).toUInt32 &&& Int32.toUInt32 31)).toInt32 &&& (1431655765 : Int32))).toUInt32 >>> ((2 : Int32).toUInt32 &&& Int32.toUInt32 31)).toInt32 &&& (858993459 : Int32))) + ((((a0 - ((a0.toUInt32 >>> ((1 : Int32).toUInt32 &&& Int32.toUInt32 31)).toInt32 &&& (1431655765 : Int32))) &&& (858993459 : Int32)) + (((a0 - ((a0.toUInt32 >>> ((1 : Int32).toUInt32 &&& Int32.toUInt32 31)).toInt32 &&& (1431655765 : Int32))).toUInt32 >>> ((2 : Int32).toUInt32 &&& Int32.toUInt32 31)).toInt32 &&& (858993459 : Int32))).toUInt32 >>> ((4 : Int32).toUInt32 &&& Int32.toUInt32 31)).toInt32) &&& (252645135 : Int32)) + ((((((a0 - ((a0.toUInt32 >>> ((1 : Int32).toUInt32 &&& Int32.toUInt32 31)).toInt32 &&& (1431655765 : Int32))) &&& (858993459 : Int32)) + (((a0 - ((a0.toUInt32 >>> ((1 : Int32).toUInt32 &&& Int32.toUInt32 31)).toInt32 &&& (1431655765 : Int32))).toUInt32 >>> ((2 : Int32).toUInt32 &&& Int32.toUInt32 31)).toInt32 &&& (858993459 : Int32))) + ((((a0 - ((a0.toUInt32 >>> ((1 : Int32).toUInt32 &&& Int32.toUInt32 31)).toInt32 &&& (1431655765 : Int32))) &&& (858993459 : Int32)) + (((a0 - ((a0.toUInt32 >>> ((1 : Int32).toUInt32 &&& Int32.toUInt32 31)).toInt32 &&& (1431655765 : Int32))).toUInt32 >>> ((2 : Int32).toUInt32 &&& Int32.toUInt32 31)).toInt32 &&& (858993459 : Int32))).toUInt32 >>> ((4 : Int32).toUInt32 &&& Int32.toUInt32 31)).toInt32) &&& (252645135 : Int32)).toUInt32 >>> ((8 : Int32).toUInt32 &&& Int32.toUInt32 31)).toInt32) + (((((((a0 - ((a0.toUInt32 >>> ((1 : Int32).toUInt32 &&& Int32.toUInt32 31)).toInt32 &&& (1431655765 : Int32))) &&& (858993459 : Int32)) + (((a0 - ((a0.toUInt32 >>> ((1 : Int32).toUInt32 &&& Int32.toUInt32 31)).toInt32 &&& (1431655765 : Int32))).toUInt32 >>> ((2 : Int32).toUInt32 &&& Int32.toUInt32 31)).toInt32 &&& (858993459 : Int32))) + ((((a0 - ((a0.toUInt32 >>> ((1 : Int32).toUInt32 &&& Int32.toUInt32 31)).toInt32 &&& (1431655765 : Int32))) &&& (858993459 : Int32)) + (((a0 - ((a0.toUInt32 >>> ((1 : Int32).toUInt32 &&& Int32.toUInt32 31)).toInt32 &&& (1431655765 : Int32))).toUInt32 >>> ((2 : Int32).toUInt32 &&& Int32.toUInt32 31)).toInt32 &&& (858993459 : Int32))).toUInt32 >>> ((4 : Int32).toUInt32 &&& Int32.toUInt32 31)).toInt32) &&& (252645135 : Int32)) + ((((((a0 - ((a0.toUInt32 >>> ((1 : Int32).toUInt32 &&& Int32.toUInt32 31)).toInt32 &&& (1431655765 : Int32))) &&& (858993459 : Int32)) + (((a0 - ((a0.toUInt32 >>> ((1 : Int32).toUInt32 &&& Int32.toUInt32 31)).toInt32 &&& (1431655765 : Int32))).toUInt32 >>> ((2 : Int32).toUInt32 &&& Int32.toUInt32 31)).toInt32 &&& (858993459 : Int32))) + ((((a0 - ((a0.toUInt32 >>> ((1 : Int32).toUInt32 &&& Int32.toUInt32 31)).toInt32 &&& (1431655765 : Int32))) &&& (858993459 : Int32)) + (((a0 - ((a0.toUInt32 >>> ((1 : Int32).toUInt32 &&& Int32.toUInt32 31)).toInt32 &&& (1431655765 : Int32))).toUInt32 >>> ((2 : Int32).toUInt32 &&& Int32.toUInt32 31)).toInt32 &&& (858993459 : Int32))).toUInt32 >>> ((4 : Int32).toUInt32 &&& Int32.toUInt32 31)).toInt32) &&& (252645135 : Int32)).toUInt32 >>> ((8 : Int32).toUInt32 &&& Int32.toUInt32 31)).toInt32).toUInt32 >>> ((16 : Int32).toUInt32 &&& Int32.toUInt32 31)).toInt32))], [.int ((((((((a0 - ((a0.toUInt32 >>> ((1 : Int32).toUInt32 &&& Int32.toUInt32 31)).toInt32 &&& (1431655765 : Int32))) &&& (858993459 : Int32)) + (((a0 - ((a0.toUInt32 >>> ((1 : Int32).toUInt32 &&& Int32.toUInt32 31)).toInt32 &&& (1431655765 : Int32))).toUInt32 >>> ((2 : Int32).toUInt32 &&& Int32.toUInt32 31)).toInt32 &&& (858993459 : Int32))) + ((((a0 - ((a0.toUInt32 >>> ((1 : Int32).toUInt32 &&& Int32.toUInt32 31)).toInt32 &&& (1431655765 : Int32))) &&& (858993459 : Int32)) + (((a0 - ((a0.toUInt32 >>> ((1 : Int32).toUInt32 &&& Int32.toUInt32 31)).toInt32 &&& (1431655765 : Int32))).toUInt32 >>> ((2 : Int32).toUInt32 &&& Int32.toUInt32 31)).toInt32 &&& (858993459 : Int32))).toUInt32 >>> ((4 : Int32).toUInt32 &&& Int32.toUInt32 31)).toInt32) &&& (252645135 : Int32)) + ((((((a0 - ((a0.toUInt32 >>> ((1 : Int32).toUInt32 &&& Int32.toUInt32 31)).toInt32 &&& (1431655765 : Int32))) &&& (858993459 : Int32)) + (((a0 - ((a0.toUInt32 >>> ((1 : Int32).toUInt32 &&& Int32.toUInt32 31)).toInt32 &&& (1431655765 : Int32))).toUInt32 >>> ((2 : Int32).toUInt32 &&& Int32.toUInt32 31)).toInt32 &&& (858993459 : Int32))) + ((((a0 - ((a0.toUInt32 >>> ((1 : Int32).toUInt32 &&& Int32.toUInt32 31)).toInt32 &&& (1431655765 : Int32))) &&& (858993459 : Int32)) + (((a0 - ((a0.toUInt32 >>> ((1 : Int32).toUInt32 &&& Int32.toUInt32 31)).toInt32 &&& (1431655765 : Int32))).toUInt32 >>> ((2 : Int32).toUInt32 &&& Int32.toUInt32 31)).toInt32 &&& (858993459 : Int32))).toUInt32 >>> ((4 : Int32).toUInt32 &&& Int32.toUInt32 31)).toInt32) &&& (252645135 : Int32)).toUInt32 >>> ((8 : Int32).toUInt32 &&& Int32.toUInt32 31)).toInt32) + (((((((a0 - ((a0.toUInt32 >>> ((1 : Int32).toUInt32 &&& Int32.toUInt32 31)).toInt32 &&& (1431655765 : Int32))) &&& (858993459 : Int32)) + (((a0 - ((a0.toUInt32 >>> ((1 : Int32).toUInt32 &&& Int32.toUInt32 31)).toInt32 &&& (1431655765 : Int32))).toUInt32 >>> ((2 : Int32).toUInt32 &&& Int32.toUInt32 31)).toInt32 &&& (858993459 : Int32))) + ((((a0 - ((a0.toUInt32 >>> ((1 : Int32).toUInt32 &&& Int32.toUInt32 31)).toInt32 &&& (1431655765 : Int32))) &&& (858993459 : Int32)) + (((a0 - ((a0.toUInt32 >>> ((1 : Int32).toUInt32 &&& Int32.toUInt32 31)).toInt32 &&& (1431655765 : Int32))).toUInt32 >>> ((2 : Int32).toUInt32 &&& Int32.toUInt32 31)).toInt32 &&& (858993459 : Int32))).toUInt32 >>> ((4 : Int32).toUInt32 &&& Int32.toUInt32 31)).toInt32) &&& (252645135 : Int32)) + ((((((a0 - ((a0.toUInt32 >>> ((1 : Int32).toUInt32 &&& Int32.toUInt32 31)).toInt32 &&& (1431655765 : Int32))) &&& (858993459 : Int32)) + (((a0 - ((a0.toUInt32 >>> ((1 : Int32).toUInt32 &&& Int32.toUInt32 31)).toInt32 &&& (1431655765 : Int32))).toUInt32 >>> ((2 : Int32).toUInt32 &&& Int32.toUInt32 31)).toInt32 &&& (858993459 : Int32))) + ((((a0 - ((a0.toUInt32 >>> ((1 : Int32).toUInt32 &&& Int32.toUInt32 31)).toInt32 &&& (1431655765 : Int32))) &&& (858993459 : Int32)) + (((a0 - ((a0.toUInt32 >>> ((1 : Int32).toUInt32 &&& Int32.toUInt32 31)).toInt32 &&& (1431655765 : Int32))).toUInt32 >>> ((2 : Int32).toUInt32 &&& Int32.toUInt32 31)).toInt32 &&& (858993459 : Int32))).toUInt32 >>> ((4 : Int32).toUInt32 &&& Int32.toUInt32 31)).toInt32) &&& (252645135 : Int32)).toUInt32 >>> ((8 : Int32).toUInt32 &&& Int32.toUInt32 31)).toInt32).toUInt32 >>> ((16 : Int32).toUInt32 &&& Int32.toUInt32 31)).toInt32) &&& (63 : Int32))], sl, (CH I A N V lt tw sp sr X)) :=
  (R_gob [] 400 _ _ _).trans rfl
set_option maxRecDepth 100000 in
theorem k77_r12_0 (d sl : Nat) (I : Nat → Nat → Int32) (A : Nat → Nat → Int32) (N : Nat → Nat → Int64) (V : Nat → Nat → Option Nat) (lt : Int64) (tw : Option Nat) (sp sr : Nat) (X : List AC)  :
  R d 77 (0, [some (.ref 12), none, none], [], sl, (CH I A N V lt tw sp sr X)) =
    R d 77 (2, [some (.ref 12), some (.int (0 : Int32)), none], [], sl, (CH I A N V lt tw sp sr X)) :=
  (R_gob [2, 90] 400 _ _ _).trans rfl
set_option maxRecDepth 100000 in
theorem k77_r12_2 (d sl : Nat) (I : Nat → Nat → Int32) (A : Nat → Nat → Int32) (N : Nat → Nat → Int64) (V : Nat → Nat → Option Nat) (lt : Int64) (tw : Option Nat) (sp sr : Nat) (X : List AC) (a1 : Int32) :
  R d 77 (2, [some (.ref 12), some (.int a1), none], [], sl, (CH I A N V lt tw sp sr X)) =
    cond (decide ((I 12 8) ≤ a1)) (cond (decide ((I 12 11) ≤ 0)) (R d 77 (90, [some (.ref 12), some (.int (0 : Int32)), some (.int (0 : Int32))], [], sl, (CH (up1 I 12 (up1 (I 12) 12 ((I 12 12) + (1 : Int32)))) A N V lt tw sp sr X))) (cond (!decide ((I 12 11) = 0)) (cond (!decide ((((I 12 12) + (1 : Int32)) - ((I 12 12) + (1 : Int32)) / (I 12 11) * (I 12 11)) = 0)) (R d 77 (90, [some (.ref 12), some (.int (0 : Int32)), some (.int (0 : Int32))], [], sl, (CH (up1 I 12 (up1 (I 12) 12 ((I 12 12) + (1 : Int32)))) A N V lt tw sp sr X))) (R d 77 (90, [some (.ref 12), some (.int (1 : Int32)), some (.int (0 : Int32))], [], sl, (CH (up1 I 12 (up1 (I 12) 12 ((I 12 12) + (1 : Int32)))) A N V lt tw sp sr X)))) none)) (cond (x_in a1 6) (cond (decide ((9999 : Int32) ≤ ((A 14) a1.toNatClampNeg))) (R d 77 (2, [some (.ref 12), some (.int (a1 + (1 : Int32))), none], [], sl, (CH I A N V lt tw sp sr X))) (cond (x_in a1 6) (cond (x_in a1 6) (cond (x_in a1 6) (R d 77 (2, [some (.ref 12), some (.int (a1 + (1 : Int32))), none], [], sl, (CH I (up1 A 14 (upd (A 14) a1.toNatClampNeg (x_min (9999 : Int32) (((A 14) a1.toNatClampNeg) + ((A 15) a1.toNatClampNeg))))) N V lt tw sp sr X))) none) none) none)) none) :=
  (R_gob [2, 90] 400 _ _ _).trans rfl
set_option maxRecDepth 100000 in
theorem k77_r12_90 (d sl : Nat) (I : Nat → Nat → Int32) (A : Nat → Nat → Int32) (N : Nat → Nat → Int64) (V : Nat → Nat → Option Nat) (lt : Int64) (tw : Option Nat) (sp sr : Nat) (X : List AC) (a1 : Int32) (a2 : Int32) :
  R d 77 (90, [some (.ref 12), some (.int a1), some (.int a2)], [], sl, (CH I A N V lt tw sp sr X)) =
    cond (decide ((I 12 9) ≤ a2)) (some (160, [some (.ref 12), some (.int a1), some (.int a2)], [], sl, (CH I A N V lt tw sp sr X))) (cond (x_in a2 12) (cond (decide (((A 19) a2.toNatClampNeg) ≤ 0)) (R d 77 (90, [some (.ref 12), some (.int a1), some (.int (a2 + (1 : Int32)))], [], sl, (CH I A N V lt tw sp sr X))) (cond (x_in a2 12) (cond (x_in a2 12) (cond (decide (a1 = 0)) (R d 77 (90, [some (.ref 12), some (.int a1), some (.int (a2 + (1 : Int32)))], [], sl, (CH I (up1 A 20 (upd (A 20) a2.toNatClampNeg (x_min (999 : Int32) (((A 20) a2.toNatClampNeg) + (1 : Int32))))) N V lt tw sp sr X))) (cond (x_in a2 12) (cond (x_in a2 12) (R d 77 (90, [some (.ref 12), some (.int a1), some (.int (a2 + (1 : Int32)))], [], sl, (CH I (up1 (up1 A 19 (upd (A 19) a2.toNatClampNeg (x_min (9999 : Int32) (((A 19) a2.toNatClampNeg) + (I 12 10))))) 20 (upd (A 20) a2.toNatClampNeg (x_min (999 : Int32) (((A 20) a2.toNatClampNeg) + (1 : Int32))))) N V lt tw sp sr X))) none) none)) none) none)) none) :=
  (R_gob [2, 90] 400 _ _ _).trans rfl
set_option maxRecDepth 100000 in
theorem k107_r95_r3_0 (d sl : Nat) (I : Nat → Nat → Int32) (A : Nat → Nat → Int32) (N : Nat → Nat → Int64) (V : Nat → Nat → Option Nat) (lt : Int64) (tw : Option Nat) (sp sr : Nat) (X : List AC) (a2 : Int32) :
  R (d + 1) 107 (0, [some (.ref 95), some (.ref 3), some (.int a2), none, none, none], [], sl, (CH I A N V lt tw sp sr X)) =
    bC (C d 108 [.ref 95, .ref 3] sl (CH I A N V lt tw sp sr X)) (fun vs sl h => R (d + 1) 107 (5, [some (.ref 95), some (.ref 3), some (.int a2), none, none, none], vs ++ [], sl, h)) :=
  (R_gob [5, 11, 37, 54] 400 _ _ _).trans rfl
set_option maxRecDepth 100000 in
theorem k107_r95_r3_5 (d sl : Nat) (I : Nat → Nat → Int32) (A : Nat → Nat → Int32) (N : Nat → Nat → Int64) (V : Nat → Nat → Option Nat) (lt : Int64) (tw : Option Nat) (sp sr : Nat) (X : List AC) (a2 : Int32) :
  R (d + 1) 107 (5, [some (.ref 95), some (.ref 3), some (.int a2), none, none, none], [], sl, (CH I A N V lt tw sp sr X)) =
    bC (C d 109 [.ref 95, .ref 3, .int a2] sl (CH I A N V lt tw sp sr X)) (fun vs sl h => R (d + 1) 107 (11, [some (.ref 95), some (.ref 3), some (.int a2), none, none, none], vs ++ [], sl, h)) :=
  (R_gob [5, 11, 37, 54] 400 _ _ _).trans rfl
set_option maxRecDepth 100000 in
theorem k107_r95_r3_11 (d sl : Nat) (I : Nat → Nat → Int32) (A : Nat → Nat → Int32) (N : Nat → Nat → Int64) (V : Nat → Nat → Option Nat) (lt : Int64) (tw : Option Nat) (sp sr : Nat) (X : List AC) (a2 : Int32) (b0 : Int32) :
  R (d + 1) 107 (11, [some (.ref 95), some (.ref 3), some (.int a2), none, none, none], [.int b0], sl, (CH I A N V lt tw sp sr X)) =
    cond (decide (b0 = 0)) (some (23, [some (.ref 95), some (.ref 3), some (.int a2), some (.int b0), none, none], [.int (0 : Int32)], sl, (CH I A N V lt tw sp sr X))) (cond (decide (b0 ≤ (6 : Int32))) (R (d + 1) 107 (37, [some (.ref 95), some (.ref 3), some (.int a2), some (.int b0), some (.int a2), some (.int (1 : Int32))], [], sl, (CH I (up1 A 98 (upd (A 98) (0 : Int32).toNatClampNeg a2)) N V lt tw sp sr X))) (some (23, [some (.ref 95), some (.ref 3), some (.int a2), some (.int b0), none, none], [.int (0 : Int32)], sl, (CH I A N V lt tw sp sr X)))) :=
  (R_gob [5, 11, 37, 54] 400 _ _ _).trans rfl
set_option maxRecDepth 100000 in
theorem k107_r95_r3_37 (d sl : Nat) (I : Nat → Nat → Int32) (A : Nat → Nat → Int32) (N : Nat → Nat → Int64) (V : Nat → Nat → Option Nat) (lt : Int64) (tw : Option Nat) (sp sr : Nat) (X : List AC) (a2 : Int32) (a3 : Int32) (a4 : Int32) (a5 : Int32) :
  R (d + 1) 107 (37, [some (.ref 95), some (.ref 3), some (.int a2), some (.int a3), some (.int a4), some (.int a5)], [], sl, (CH I A N V lt tw sp sr X)) =
    cond (decide (a3 ≤ a5)) (some (77, [some (.ref 95), some (.ref 3), some (.int a2), some (.int a3), some (.int a4), some (.int a5)], [.int (1 : Int32)], sl, (CH (up1 I 95 (up1 (I 95) 3 a3)) A N V lt tw sp sr X))) (bC (C d 111 [.ref 95, .ref 3, .int a4, .int (a3 - a5)] sl (CH I A N V lt tw sp sr X)) (fun vs sl h => R (d + 1) 107 (54, [some (.ref 95), some (.ref 3), some (.int a2), some (.int a3), some (.int a4), some (.int a5)], vs ++ [], sl, h))) :=
  (R_gob [5, 11, 37, 54] 400 _ _ _).trans rfl
set_option maxRecDepth 100000 in
theorem k107_r95_r3_54 (d sl : Nat) (I : Nat → Nat → Int32) (A : Nat → Nat → Int32) (N : Nat → Nat → Int64) (V : Nat → Nat → Option Nat) (lt : Int64) (tw : Option Nat) (sp sr : Nat) (X : List AC) (a2 : Int32) (a3 : Int32) (a4 : Int32) (a5 : Int32) (b0 : Int32) :
  R (d + 1) 107 (54, [some (.ref 95), some (.ref 3), some (.int a2), some (.int a3), some (.int a4), some (.int a5)], [.int b0], sl, (CH I A N V lt tw sp sr X)) =
    cond (x_in a5 6) (R (d + 1) 107 (37, [some (.ref 95), some (.ref 3), some (.int a2), some (.int a3), some (.int b0), some (.int (a5 + (1 : Int32)))], [], sl, (CH I (up1 A 98 (upd (A 98) a5.toNatClampNeg b0)) N V lt tw sp sr X))) none :=
  (R_gob [5, 11, 37, 54] 400 _ _ _).trans rfl
set_option maxRecDepth 100000 in
theorem k112_r95_r3_0 (d sl : Nat) (I : Nat → Nat → Int32) (A : Nat → Nat → Int32) (N : Nat → Nat → Int64) (V : Nat → Nat → Option Nat) (lt : Int64) (tw : Option Nat) (sp sr : Nat) (X : List AC)  :
  R (d + 1) 112 (0, [some (.ref 95), some (.ref 3), none, none, none, none], [], sl, (CH I A N V lt tw sp sr X)) =
    R (d + 1) 112 (23, [some (.ref 95), some (.ref 3), some (.int ((1 : Int32) <<< ((I 3 8) &&& 31))), some (.int (0 : Int32)), none, none], [], sl, (CH I (up1 (up1 A 99 (upd (A 99) (0 : Int32).toNatClampNeg (0 : Int32))) 100 (upd (A 100) (0 : Int32).toNatClampNeg (0 : Int32))) N V lt tw sp sr X)) :=
  (R_gob [23, 36, 41, 49, 99, 120] 400 _ _ _).trans rfl
set_option maxRecDepth 100000 in
theorem k112_r95_r3_23 (d sl : Nat) (I : Nat → Nat → Int32) (A : Nat → Nat → Int32) (N : Nat → Nat → Int64) (V : Nat → Nat → Option Nat) (lt : Int64) (tw : Option Nat) (sp sr : Nat) (X : List AC) (a2 : Int32) (a3 : Int32) :
  R (d + 1) 112 (23, [some (.ref 95), some (.ref 3), some (.int a2), some (.int a3), none, none], [], sl, (CH I A N V lt tw sp sr X)) =
    cond (decide ((I 3 8) ≤ a3)) (R (d + 1) 112 (99, [some (.ref 95), some (.ref 3), some (.int a2), some (.int (1 : Int32)), none, none], [], sl, (CH I A N V lt tw sp sr X))) (bC (C d 58 [.ref 3, .int a3] sl (CH I A N V lt tw sp sr X)) (fun vs sl h => R (d + 1) 112 (36, [some (.ref 95), some (.ref 3), some (.int a2), some (.int a3), none, none], vs ++ [], sl, h))) :=
  (R_gob [23, 36, 41, 49, 99, 120] 400 _ _ _).trans rfl
set_option maxRecDepth 100000 in
theorem k112_r95_r3_99 (d sl : Nat) (I : Nat → Nat → Int32) (A : Nat → Nat → Int32) (N : Nat → Nat → Int64) (V : Nat → Nat → Option Nat) (lt : Int64) (tw : Option Nat) (sp sr : Nat) (X : List AC) (a2 : Int32) (a3 : Int32) :
  R (d + 1) 112 (99, [some (.ref 95), some (.ref 3), some (.int a2), some (.int a3), none, none], [], sl, (CH I A N V lt tw sp sr X)) =
    cond (decide (a2 ≤ a3)) (cond (x_in (a2 - (1 : Int32)) 64) (some (155, [some (.ref 95), some (.ref 3), some (.int a2), some (.int a3), none, none], [.int ((I 3 8) - ((A 100) (a2 - (1 : Int32)).toNatClampNeg))], sl, (CH I A N V lt tw sp sr X))) none) (cond (decide ((64 : Int32) ≤ a3)) (cond (x_in (a2 - (1 : Int32)) 64) (some (155, [some (.ref 95), some (.ref 3), some (.int a2), some (.int a3), none, none], [.int ((I 3 8) - ((A 100) (a2 - (1 : Int32)).toNatClampNeg))], sl, (CH I A N V lt tw sp sr X))) none) (bC (C d 113 [.ref 95, .int a3] sl (CH I A N V lt tw sp sr X)) (fun vs sl h => R (d + 1) 112 (120, [some (.ref 95), some (.ref 3), some (.int a2), some (.int a3), none, none], vs ++ [.int a3, .ref 100], sl, h)))) :=
  (R_gob [23, 36, 41, 49, 99, 120] 400 _ _ _).trans rfl
set_option maxRecDepth 100000 in
theorem k112_r95_r3_36 (d sl : Nat) (I : Nat → Nat → Int32) (A : Nat → Nat → Int32) (N : Nat → Nat → Int64) (V : Nat → Nat → Option Nat) (lt : Int64) (tw : Option Nat) (sp sr : Nat) (X : List AC) (a2 : Int32) (a3 : Int32) (b0 : Int32) :
  R (d + 1) 112 (36, [some (.ref 95), some (.ref 3), some (.int a2), some (.int a3), none, none], [.int b0], sl, (CH I A N V lt tw sp sr X)) =
    bC (C d 57 [.ref 3, .int a3] sl (CH I A N V lt tw sp sr X)) (fun vs sl h => R (d + 1) 112 (41, [some (.ref 95), some (.ref 3), some (.int a2), some (.int a3), none, none], vs ++ [.int b0], sl, h)) :=
  (R_gob [23, 36, 41, 49, 99, 120] 400 _ _ _).trans rfl
set_option maxRecDepth 100000 in
theorem k112_r95_r3_120 (d sl : Nat) (I : Nat → Nat → Int32) (A : Nat → Nat → Int32) (N : Nat → Nat → Int64) (V : Nat → Nat → Option Nat) (lt : Int64) (tw : Option Nat) (sp sr : Nat) (X : List AC) (a2 : Int32) (a3 : Int32) (b0 : Int32) (b1 : Int32) :
  R (d + 1) 112 (120, [some (.ref 95), some (.ref 3), some (.int a2), some (.int a3), none, none], [.int b0, .int b1, .ref 100], sl, (CH I A N V lt tw sp sr X)) =
    cond (x_in a3 64) (cond (!decide (((A 99) a3.toNatClampNeg) = 0)) (cond (x_in b1 64) (R (d + 1) 112 (99, [some (.ref 95), some (.ref 3), some (.int a2), some (.int (a3 + (1 : Int32))), none, none], [], sl, (CH I (up1 A 100 (upd (A 100) b1.toNatClampNeg (b0 + (0 : Int32)))) N V lt tw sp sr X))) none) (cond (x_in b1 64) (R (d + 1) 112 (99, [some (.ref 95), some (.ref 3), some (.int a2), some (.int (a3 + (1 : Int32))), none, none], [], sl, (CH I (up1 A 100 (upd (A 100) b1.toNatClampNeg (b0 + (1 : Int32)))) N V lt tw sp sr X))) none)) none :=
  (R_gob [23, 36, 41, 49, 99, 120] 400 _ _ _).trans rfl
set_option maxRecDepth 100000 in
theorem k112_r95_r3_41 (d sl : Nat) (I : Nat → Nat → Int32) (A : Nat → Nat → Int32) (N : Nat → Nat → Int64) (V : Nat → Nat → Option Nat) (lt : Int64) (tw : Option Nat) (sp sr : Nat) (X : List AC) (a2 : Int32) (a3 : Int32) (b0 : Int32) (b1 : Int32) :
  R (d + 1) 112 (41, [some (.ref 95), some (.ref 3), some (.int a2), some (.int a3), none, none], [.int b0, .int b1], sl, (CH I A N V lt tw sp sr X)) =
    R (d + 1) 112 (49, [some (.ref 95), some (.ref 3), some (.int a2), some (.int a3), some (.int (b1 - b0)), some (.int ((1 : Int32) <<< (a3 &&& 31)))], [], sl, (CH I A N V lt tw sp sr X)) :=
  (R_gob [23, 36, 41, 49, 99, 120] 400 _ _ _).trans rfl
set_option maxRecDepth 100000 in
theorem k112_r95_r3_49 (d sl : Nat) (I : Nat → Nat → Int32) (A : Nat → Nat → Int32) (N : Nat → Nat → Int64) (V : Nat → Nat → Option Nat) (lt : Int64) (tw : Option Nat) (sp sr : Nat) (X : List AC) (a2 : Int32) (a3 : Int32) (a4 : Int32) (a5 : Int32) :
  R (d + 1) 112 (49, [some (.ref 95), some (.ref 3), some (.int a2), some (.int a3), some (.int a4), some (.int a5)], [], sl, (CH I A N V lt tw sp sr X)) =
    cond (decide (((2 : Int32) <<< (a3 &&& 31)) ≤ a5)) (R (d + 1) 112 (23, [some (.ref 95), some (.ref 3), some (.int a2), some (.int (a3 + (1 : Int32))), some (.int a4), some (.int a5)], [], sl, (CH I A N V lt tw sp sr X))) (cond (decide ((64 : Int32) ≤ a5)) (R (d + 1) 112 (23, [some (.ref 95), some (.ref 3), some (.int a2), some (.int (a3 + (1 : Int32))), some (.int a4), some (.int a5)], [], sl, (CH I A N V lt tw sp sr X))) (cond (x_in (a5 - ((1 : Int32) <<< (a3 &&& 31))) 64) (cond (x_in a5 64) (R (d + 1) 112 (49, [some (.ref 95), some (.ref 3), some (.int a2), some (.int a3), some (.int a4), some (.int (a5 + (1 : Int32)))], [], sl, (CH I (up1 A 99 (upd (A 99) a5.toNatClampNeg (((A 99) (a5 - ((1 : Int32) <<< (a3 &&& 31))).toNatClampNeg) + a4))) N V lt tw sp sr X))) none) none)) :=
  (R_gob [23, 36, 41, 49, 99, 120] 400 _ _ _).trans rfl
set_option maxRecDepth 100000 in
theorem k112_r95_r3_23_1 (d sl : Nat) (I : Nat → Nat → Int32) (A : Nat → Nat → Int32) (N : Nat → Nat → Int64) (V : Nat → Nat → Option Nat) (lt : Int64) (tw : Option Nat) (sp sr : Nat) (X : List AC) (a2 : Int32) (a3 : Int32) (a4 : Int32) (a5 : Int32) :
  R (d + 1) 112 (23, [some (.ref 95), some (.ref 3), some (.int a2), some (.int a3), some (.int a4), some (.int a5)], [], sl, (CH I A N V lt tw sp sr X)) =
    cond (decide ((I 3 8) ≤ a3)) (R (d + 1) 112 (99, [some (.ref 95), some (.ref 3), some (.int a2), some (.int (1 : Int32)), some (.int a4), some (.int a5)], [], sl, (CH I A N V lt tw sp sr X))) (bC (C d 58 [.ref 3, .int a3] sl (CH I A N V lt tw sp sr X)) (fun vs sl h => R (d + 1) 112 (36, [some (.ref 95), some (.ref 3), some (.int a2), some (.int a3), some (.int a4), some (.int a5)], vs ++ [], sl, h))) :=
  (R_gob [23, 36, 41, 49, 99, 120] 400 _ _ _).trans rfl
set_option maxRecDepth 100000 in
theorem k112_r95_r3_99_1 (d sl : Nat) (I : Nat → Nat → Int32) (A : Nat → Nat → Int32) (N : Nat → Nat → Int64) (V : Nat → Nat → Option Nat) (lt : Int64) (tw : Option Nat) (sp sr : Nat) (X : List AC) (a2 : Int32) (a3 : Int32) (a4 : Int32) (a5 : Int32) :
  R (d + 1) 112 (99, [some (.ref 95), some (.ref 3), some (.int a2), some (.int a3), some (.int a4), some (.int a5)], [], sl, (CH I A N V lt tw sp sr X)) =
    cond (decide (a2 ≤ a3)) (cond (x_in (a2 - (1 : Int32)) 64) (some (155, [some (.ref 95), some (.ref 3), some (.int a2), some (.int a3), some (.int a4), some (.int a5)], [.int ((I 3 8) - ((A 100) (a2 - (1 : Int32)).toNatClampNeg))], sl, (CH I A N V lt tw sp sr X))) none) (cond (decide ((64 : Int32) ≤ a3)) (cond (x_in (a2 - (1 : Int32)) 64) (some (155, [some (.ref 95), some (.ref 3), some (.int a2), some (.int a3), some (.int a4), some (.int a5)], [.int ((I 3 8) - ((A 100) (a2 - (1 : Int32)).toNatClampNeg))], sl, (CH I A N V lt tw sp sr X))) none) (bC (C d 113 [.ref 95, .int a3] sl (CH I A N V lt tw sp sr X)) (fun vs sl h => R (d + 1) 112 (120, [some (.ref 95), some (.ref 3), some (.int a2), some (.int a3), some (.int a4), some (.int a5)], vs ++ [.int a3, .ref 100], sl, h)))) :=
  (R_gob [23, 36, 41, 49, 99, 120] 400 _ _ _).trans rfl
set_option maxRecDepth 100000 in
theorem k112_r95_r3_36_1 (d sl : Nat) (I : Nat → Nat → Int32) (A : Nat → Nat → Int32) (N : Nat → Nat → Int64) (V : Nat → Nat → Option Nat) (lt : Int64) (tw : Option Nat) (sp sr : Nat) (X : List AC) (a2 : Int32) (a3 : Int32) (a4 : Int32) (a5 : Int32) (b0 : Int32) :
  R (d + 1) 112 (36, [some (.ref 95), some (.ref 3), some (.int a2), some (.int a3), some (.int a4), some (.int a5)], [.int b0], sl, (CH I A N V lt tw sp sr X)) =
    bC (C d 57 [.ref 3, .int a3] sl (CH I A N V lt tw sp sr X)) (fun vs sl h => R (d + 1) 112 (41, [some (.ref 95), some (.ref 3), some (.int a2), some (.int a3), some (.int a4), some (.int a5)], vs ++ [.int b0], sl, h)) :=
  (R_gob [23, 36, 41, 49, 99, 120] 400 _ _ _).trans rfl
set_option maxRecDepth 100000 in
theorem k112_r95_r3_120_1 (d sl : Nat) (I : Nat → Nat → Int32) (A : Nat → Nat → Int32) (N : Nat → Nat → Int64) (V : Nat → Nat → Option Nat) (lt : Int64) (tw : Option Nat) (sp sr : Nat) (X : List AC) (a2 : Int32) (a3 : Int32) (a4 : Int32) (a5 : Int32) (b0 : Int32) (b1 : Int32) :
  R (d + 1) 112 (120, [some (.ref 95), some (.ref 3), some (.int a2), some (.int a3), some (.int a4), some (.int a5)], [.int b0, .int b1, .ref 100], sl, (CH I A N V lt tw sp sr X)) =
    cond (x_in a3 64) (cond (!decide (((A 99) a3.toNatClampNeg) = 0)) (cond (x_in b1 64) (R (d + 1) 112 (99, [some (.ref 95), some (.ref 3), some (.int a2), some (.int (a3 + (1 : Int32))), some (.int a4), some (.int a5)], [], sl, (CH I (up1 A 100 (upd (A 100) b1.toNatClampNeg (b0 + (0 : Int32)))) N V lt tw sp sr X))) none) (cond (x_in b1 64) (R (d + 1) 112 (99, [some (.ref 95), some (.ref 3), some (.int a2), some (.int (a3 + (1 : Int32))), some (.int a4), some (.int a5)], [], sl, (CH I (up1 A 100 (upd (A 100) b1.toNatClampNeg (b0 + (1 : Int32)))) N V lt tw sp sr X))) none)) none :=
  (R_gob [23, 36, 41, 49, 99, 120] 400 _ _ _).trans rfl
set_option maxRecDepth 100000 in
theorem k112_r95_r3_41_1 (d sl : Nat) (I : Nat → Nat → Int32) (A : Nat → Nat → Int32) (N : Nat → Nat → Int64) (V : Nat → Nat → Option Nat) (lt : Int64) (tw : Option Nat) (sp sr : Nat) (X : List AC) (a2 : Int32) (a3 : Int32) (a4 : Int32) (a5 : Int32) (b0 : Int32) (b1 : Int32) :
  R (d + 1) 112 (41, [some (.ref 95), some (.ref 3), some (.int a2), some (.int a3), some (.int a4), some (.int a5)], [.int b0, .int b1], sl, (CH I A N V lt tw sp sr X)) =
    R (d + 1) 112 (49, [some (.ref 95), some (.ref 3), some (.int a2), some (.int a3), some (.int (b1 - b0)), some (.int ((1 : Int32) <<< (a3 &&& 31)))], [], sl, (CH I A N V lt tw sp sr X)) :=
  (R_gob [23, 36, 41, 49, 99, 120] 400 _ _ _).trans rfl
set_option maxRecDepth 100000 in
theorem k145_0 (d sl : Nat) (I : Nat → Nat → Int32) (A : Nat → Nat → Int32) (N : Nat → Nat → Int64) (V : Nat → Nat → Option Nat) (lt : Int64) (tw : Option Nat) (sp sr : Nat) (X : List AC) (a0 : Int32) (a1 : Int32) :
  R d 145 (0, [some (.int a0), some (.int a1), none], [], sl, (CH I A N V lt tw sp sr X)) =
    R d 145 (2, [some (.int a0), some (.int a1), some (.int a1)], [], sl, (CH I A N V lt tw sp sr X)) :=
  (R_gob [2] 400 _ _ _).trans rfl
set_option maxRecDepth 100000 in
theorem k145_2 (d sl : Nat) (I : Nat → Nat → Int32) (A : Nat → Nat → Int32) (N : Nat → Nat → Int64) (V : Nat → Nat → Option Nat) (lt : Int64) (tw : Option Nat) (sp sr : Nat) (X : List AC) (a0 : Int32) (a1 : Int32) (a2 : Int32) :
  R d 145 (2, [some (.int a0), some (.int a1), some (.int a2)], [], sl, (CH I A N V lt tw sp sr X)) =
    cond (decide (a2 ≤ (1 : Int32))) (some (28, [some (.int a0), some (.int a1), some (.int a2)], [.int (1 : Int32)], sl, (CH I A N V lt tw sp sr X))) (cond (!decide (a2 = 0)) (cond (!decide ((a0 - a0 / a2 * a2) = 0)) (R d 145 (2, [some (.int a0), some (.int a1), some (.int (a2 + (-1 : Int32)))], [], sl, (CH I A N V lt tw sp sr X))) (cond (!decide (a2 = 0)) (cond (!decide ((a1 - a1 / a2 * a2) = 0)) (R d 145 (2, [some (.int a0), some (.int a1), some (.int (a2 + (-1 : Int32)))], [], sl, (CH I A N V lt tw sp sr X))) (some (20, [some (.int a0), some (.int a1), some (.int a2)], [.int a2], sl, (CH I A N V lt tw sp sr X)))) none)) none) :=
  (R_gob [2] 400 _ _ _).trans rfl
set_option maxRecDepth 100000 in
theorem k61_r3_0 (d sl : Nat) (I : Nat → Nat → Int32) (A : Nat → Nat → Int32) (N : Nat → Nat → Int64) (V : Nat → Nat → Option Nat) (lt : Int64) (tw : Option Nat) (sp sr : Nat) (X : List AC) (a1 : Int32) :
  R (d + 1) 61 (0, [some (.ref 3), some (.int a1), none, none], [], sl, (CH I A N V lt tw sp sr X)) =
    R (d + 1) 61 (4, [some (.ref 3), some (.int a1), some (.int (0 : Int32)), some (.int (0 : Int32))], [], sl, (CH I A N V lt tw sp sr X)) :=
  (R_gob [4, 18] 400 _ _ _).trans rfl
set_option maxRecDepth 100000 in
theorem k61_r3_4 (d sl : Nat) (I : Nat → Nat → Int32) (A : Nat → Nat → Int32) (N : Nat → Nat → Int64) (V : Nat → Nat → Option Nat) (lt : Int64) (tw : Option Nat) (sp sr : Nat) (X : List AC) (a1 : Int32) (a2 : Int32) (a3 : Int32) :
  R (d + 1) 61 (4, [some (.ref 3), some (.int a1), some (.int a2), some (.int a3)], [], sl, (CH I A N V lt tw sp sr X)) =
    cond (decide ((I 3 9) ≤ a3)) (some (37, [some (.ref 3), some (.int a1), some (.int a2), some (.int a3)], [.int a2], sl, (CH I A N V lt tw sp sr X))) (bC (C d 51 [.ref 3, .int a1, .int a3] sl (CH I A N V lt tw sp sr X)) (fun vs sl h => R (d + 1) 61 (18, [some (.ref 3), some (.int a1), some (.int a2), some (.int a3)], vs ++ [], sl, h))) :=
  (R_gob [4, 18] 400 _ _ _).trans rfl
set_option maxRecDepth 100000 in
theorem k61_r3_18 (d sl : Nat) (I : Nat → Nat → Int32) (A : Nat → Nat → Int32) (N : Nat → Nat → Int64) (V : Nat → Nat → Option Nat) (lt : Int64) (tw : Option Nat) (sp sr : Nat) (X : List AC) (a1 : Int32) (a2 : Int32) (a3 : Int32) (b0 : Int32) :
  R (d + 1) 61 (18, [some (.ref 3), some (.int a1), some (.int a2), some (.int a3)], [.int b0], sl, (CH I A N V lt tw sp sr X)) =
    cond (decide (b0 = 0)) (R (d + 1) 61 (4, [some (.ref 3), some (.int a1), some (.int a2), some (.int (a3 + (1 : Int32)))], [], sl, (CH I A N V lt tw sp sr X))) (cond (x_in a3 12) (R (d + 1) 61 (4, [some (.ref 3), some (.int a1), some (.int (a2 + ((A 11) a3.toNatClampNeg))), some (.int (a3 + (1 : Int32)))], [], sl, (CH I A N V lt tw sp sr X))) none) :=
  (R_gob [4, 18] 400 _ _ _).trans rfl
set_option maxRecDepth 100000 in
theorem k150_0 (d sl : Nat) (I : Nat → Nat → Int32) (A : Nat → Nat → Int32) (N : Nat → Nat → Int64) (V : Nat → Nat → Option Nat) (lt : Int64) (tw : Option Nat) (sp sr : Nat) (X : List AC) (a1 : Int32) :
  R (d + 1) 150 (0, [some (.ref 0), some (.int a1), none, none, none, none], [], sl, (CH I A N V lt tw sp sr X)) =
    R (d + 1) 150 (8, [some (.ref 0), some (.int a1), some (.int (0 : Int32)), some (.int (13 : Int32)), some (.int (0 : Int32)), none], [], sl, (CH I A N V lt tw sp sr X)) :=
  (R_gob [8, 21] 400 _ _ _).trans rfl
set_option maxRecDepth 100000 in
theorem k150_8 (d sl : Nat) (I : Nat → Nat → Int32) (A : Nat → Nat → Int32) (N : Nat → Nat → Int64) (V : Nat → Nat → Option Nat) (lt : Int64) (tw : Option Nat) (sp sr : Nat) (X : List AC) (a1 : Int32) (a2 : Int32) (a3 : Int32) (a4 : Int32) :
  R (d + 1) 150 (8, [some (.ref 0), some (.int a1), some (.int a2), some (.int a3), some (.int a4), none], [], sl, (CH I A N V lt tw sp sr X)) =
    cond (decide ((5 : Int32) ≤ a4)) (some (42, [some (.ref 0), some (.int a1), some (.int a2), some (.int a3), some (.int a4), none], [.int a2], sl, (CH I A N V lt tw sp sr X))) (bC (C d 151 [.ref 0, .int a1, .int a4] sl (CH I A N V lt tw sp sr X)) (fun vs sl h => R (d + 1) 150 (21, [some (.ref 0), some (.int a1), some (.int a2), some (.int a3), some (.int a4), none], vs ++ [], sl, h))) :=
  (R_gob [8, 21] 400 _ _ _).trans rfl
set_option maxRecDepth 100000 in
theorem k150_21 (d sl : Nat) (I : Nat → Nat → Int32) (A : Nat → Nat → Int32) (N : Nat → Nat → Int64) (V : Nat → Nat → Option Nat) (lt : Int64) (tw : Option Nat) (sp sr : Nat) (X : List AC) (a1 : Int32) (a2 : Int32) (a3 : Int32) (a4 : Int32) (b0 : Int32) :
  R (d + 1) 150 (21, [some (.ref 0), some (.int a1), some (.int a2), some (.int a3), some (.int a4), none], [.int b0], sl, (CH I A N V lt tw sp sr X)) =
    cond (decide (a3 ≤ b0)) (R (d + 1) 150 (8, [some (.ref 0), some (.int a1), some (.int a2), some (.int a3), some (.int (a4 + (1 : Int32))), some (.int b0)], [], sl, (CH I A N V lt tw sp sr X))) (R (d + 1) 150 (8, [some (.ref 0), some (.int a1), some (.int a4), some (.int b0), some (.int (a4 + (1 : Int32))), some (.int b0)], [], sl, (CH I A N V lt tw sp sr X))) :=
  (R_gob [8, 21] 400 _ _ _).trans rfl
set_option maxRecDepth 100000 in
theorem k150_8_1 (d sl : Nat) (I : Nat → Nat → Int32) (A : Nat → Nat → Int32) (N : Nat → Nat → Int64) (V : Nat → Nat → Option Nat) (lt : Int64) (tw : Option Nat) (sp sr : Nat) (X : List AC) (a1 : Int32) (a2 : Int32) (a3 : Int32) (a4 : Int32) (a5 : Int32) :
  R (d + 1) 150 (8, [some (.ref 0), some (.int a1), some (.int a2), some (.int a3), some (.int a4), some (.int a5)], [], sl, (CH I A N V lt tw sp sr X)) =
    cond (decide ((5 : Int32) ≤ a4)) (some (42, [some (.ref 0), some (.int a1), some (.int a2), some (.int a3), some (.int a4), some (.int a5)], [.int a2], sl, (CH I A N V lt tw sp sr X))) (bC (C d 151 [.ref 0, .int a1, .int a4] sl (CH I A N V lt tw sp sr X)) (fun vs sl h => R (d + 1) 150 (21, [some (.ref 0), some (.int a1), some (.int a2), some (.int a3), some (.int a4), some (.int a5)], vs ++ [], sl, h))) :=
  (R_gob [8, 21] 400 _ _ _).trans rfl
set_option maxRecDepth 100000 in
theorem k150_21_1 (d sl : Nat) (I : Nat → Nat → Int32) (A : Nat → Nat → Int32) (N : Nat → Nat → Int64) (V : Nat → Nat → Option Nat) (lt : Int64) (tw : Option Nat) (sp sr : Nat) (X : List AC) (a1 : Int32) (a2 : Int32) (a3 : Int32) (a4 : Int32) (a5 : Int32) (b0 : Int32) :
  R (d + 1) 150 (21, [some (.ref 0), some (.int a1), some (.int a2), some (.int a3), some (.int a4), some (.int a5)], [.int b0], sl, (CH I A N V lt tw sp sr X)) =
    cond (decide (a3 ≤ b0)) (R (d + 1) 150 (8, [some (.ref 0), some (.int a1), some (.int a2), some (.int a3), some (.int (a4 + (1 : Int32))), some (.int b0)], [], sl, (CH I A N V lt tw sp sr X))) (R (d + 1) 150 (8, [some (.ref 0), some (.int a1), some (.int a4), some (.int b0), some (.int (a4 + (1 : Int32))), some (.int b0)], [], sl, (CH I A N V lt tw sp sr X))) :=
  (R_gob [8, 21] 400 _ _ _).trans rfl
set_option maxRecDepth 100000 in
theorem k148_0 (d sl : Nat) (I : Nat → Nat → Int32) (A : Nat → Nat → Int32) (N : Nat → Nat → Int64) (V : Nat → Nat → Option Nat) (lt : Int64) (tw : Option Nat) (sp sr : Nat) (X : List AC)  :
  R (d + 1) 148 (0, [some (.ref 0), none, none, none, none], [], sl, (CH I A N V lt tw sp sr X)) =
    cond (!decide (((I 1 1) - (I 1 1) / (2 : Int32) * (2 : Int32)) = 0)) (some (34, [some (.ref 0), some (.int ((I 1 1) / (2 : Int32))), none, none, none], [.int (-1 : Int32)], sl, (CH I A N V lt tw sp sr X))) (cond (decide (((I 1 1) / (2 : Int32)) < (1 : Int32))) (some (34, [some (.ref 0), some (.int ((I 1 1) / (2 : Int32))), none, none, none], [.int (-1 : Int32)], sl, (CH I A N V lt tw sp sr X))) (cond (decide (((I 1 1) / (2 : Int32)) ≤ (8 : Int32))) (bC (C d 65 [.ref 3] sl (CH I A N V lt tw sp sr X)) (fun vs sl h => R (d + 1) 148 (42, [some (.ref 0), some (.int ((I 1 1) / (2 : Int32))), none, none, none], vs ++ [], sl, h))) (some (34, [some (.ref 0), some (.int ((I 1 1) / (2 : Int32))), none, none, none], [.int (-1 : Int32)], sl, (CH I A N V lt tw sp sr X))))) :=
  (R_gob [42, 45, 60, 86, 89] 400 _ _ _).trans rfl
set_option maxRecDepth 100000 in
theorem k148_42 (d sl : Nat) (I : Nat → Nat → Int32) (A : Nat → Nat → Int32) (N : Nat → Nat → Int64) (V : Nat → Nat → Option Nat) (lt : Int64) (tw : Option Nat) (sp sr : Nat) (X : List AC) (a1 : Int32) (b0 : Int32) :
  R (d + 1) 148 (42, [some (.ref 0), some (.int a1), none, none, none], [.int b0], sl, (CH I A N V lt tw sp sr X)) =
    R (d + 1) 148 (45, [some (.ref 0), some (.int a1), some (.int b0), some (.int (0 : Int32)), none], [], sl, (CH I A N V lt tw sp sr X)) :=
  (R_gob [42, 45, 60, 86, 89] 400 _ _ _).trans rfl
set_option maxRecDepth 100000 in
theorem k148_45 (d sl : Nat) (I : Nat → Nat → Int32) (A : Nat → Nat → Int32) (N : Nat → Nat → Int64) (V : Nat → Nat → Option Nat) (lt : Int64) (tw : Option Nat) (sp sr : Nat) (X : List AC) (a1 : Int32) (a2 : Int32) (a3 : Int32) :
  R (d + 1) 148 (45, [some (.ref 0), some (.int a1), some (.int a2), some (.int a3), none], [], sl, (CH I A N V lt tw sp sr X)) =
    cond (decide (a1 ≤ a3)) (some (98, [some (.ref 0), some (.int a1), some (.int a2), some (.int a3), none], [.int a2], sl, (CH I A N V lt tw sp sr X))) (bC (C d 88 [.ref 1, .int ((2 : Int32) * a3)] sl (CH I A N V lt tw sp sr X)) (fun vs sl h => R (d + 1) 148 (60, [some (.ref 0), some (.int a1), some (.int a2), some (.int a3), none], vs ++ [], sl, h))) :=
  (R_gob [42, 45, 60, 86, 89] 400 _ _ _).trans rfl
set_option maxRecDepth 100000 in
theorem k148_60 (d sl : Nat) (I : Nat → Nat → Int32) (A : Nat → Nat → Int32) (N : Nat → Nat → Int64) (V : Nat → Nat → Option Nat) (lt : Int64) (tw : Option Nat) (sp sr : Nat) (X : List AC) (a1 : Int32) (a2 : Int32) (a3 : Int32) (b0 : Int32) :
  R (d + 1) 148 (60, [some (.ref 0), some (.int a1), some (.int a2), some (.int a3), none], [.int b0], sl, (CH I A N V lt tw sp sr X)) =
    cond (decide (b0 < (5 : Int32))) (bC (C d 88 [.ref 1, .int (((2 : Int32) * a3) + (1 : Int32))] sl (CH I A N V lt tw sp sr X)) (fun vs sl h => R (d + 1) 148 (86, [some (.ref 0), some (.int a1), some (.int a2), some (.int a3), some (.int b0)], vs ++ [.int b0, .ref 0, .int a2], sl, h))) (some (69, [some (.ref 0), some (.int a1), some (.int a2), some (.int a3), some (.int b0)], [.int (-1 : Int32)], sl, (CH I A N V lt tw sp sr X))) :=
  (R_gob [42, 45, 60, 86, 89] 400 _ _ _).trans rfl
set_option maxRecDepth 100000 in
theorem k148_86 (d sl : Nat) (I : Nat → Nat → Int32) (A : Nat → Nat → Int32) (N : Nat → Nat → Int64) (V : Nat → Nat → Option Nat) (lt : Int64) (tw : Option Nat) (sp sr : Nat) (X : List AC) (a1 : Int32) (a2 : Int32) (a3 : Int32) (a4 : Int32) (b0 : Int32) (b1 : Int32) (b3 : Int32) :
  R (d + 1) 148 (86, [some (.ref 0), some (.int a1), some (.int a2), some (.int a3), some (.int a4)], [.int b0, .int b1, .ref 0, .int b3], sl, (CH I A N V lt tw sp sr X)) =
    bC (C d 149 [.ref 0, .int b1, .int b0] sl (CH I A N V lt tw sp sr X)) (fun vs sl h => R (d + 1) 148 (89, [some (.ref 0), some (.int a1), some (.int a2), some (.int a3), some (.int a4)], vs ++ [.int b3], sl, h)) :=
  (R_gob [42, 45, 60, 86, 89] 400 _ _ _).trans rfl
set_option maxRecDepth 100000 in
theorem k148_89 (d sl : Nat) (I : Nat → Nat → Int32) (A : Nat → Nat → Int32) (N : Nat → Nat → Int64) (V : Nat → Nat → Option Nat) (lt : Int64) (tw : Option Nat) (sp sr : Nat) (X : List AC) (a1 : Int32) (a2 : Int32) (a3 : Int32) (a4 : Int32) (b0 : Int32) (b1 : Int32) :
  R (d + 1) 148 (89, [some (.ref 0), some (.int a1), some (.int a2), some (.int a3), some (.int a4)], [.int b0, .int b1], sl, (CH I A N V lt tw sp sr X)) =
    R (d + 1) 148 (45, [some (.ref 0), some (.int a1), some (.int (b1 &&& b0)), some (.int (a3 + (1 : Int32))), some (.int a4)], [], sl, (CH I A N V lt tw sp sr X)) :=
  (R_gob [42, 45, 60, 86, 89] 400 _ _ _).trans rfl
set_option maxRecDepth 100000 in
theorem k148_45_1 (d sl : Nat) (I : Nat → Nat → Int32) (A : Nat → Nat → Int32) (N : Nat → Nat → Int64) (V : Nat → Nat → Option Nat) (lt : Int64) (tw : Option Nat) (sp sr : Nat) (X : List AC) (a1 : Int32) (a2 : Int32) (a3 : Int32) (a4 : Int32) :
  R (d + 1) 148 (45, [some (.ref 0), some (.int a1), some (.int a2), some (.int a3), some (.int a4)], [], sl, (CH I A N V lt tw sp sr X)) =
    cond (decide (a1 ≤ a3)) (some (98, [some (.ref 0), some (.int a1), some (.int a2), some (.int a3), some (.int a4)], [.int a2], sl, (CH I A N V lt tw sp sr X))) (bC (C d 88 [.ref 1, .int ((2 : Int32) * a3)] sl (CH I A N V lt tw sp sr X)) (fun vs sl h => R (d + 1) 148 (60, [some (.ref 0), some (.int a1), some (.int a2), some (.int a3), some (.int a4)], vs ++ [], sl, h))) :=
  (R_gob [42, 45, 60, 86, 89] 400 _ _ _).trans rfl
set_option maxRecDepth 100000 in
theorem k148_60_1 (d sl : Nat) (I : Nat → Nat → Int32) (A : Nat → Nat → Int32) (N : Nat → Nat → Int64) (V : Nat → Nat → Option Nat) (lt : Int64) (tw : Option Nat) (sp sr : Nat) (X : List AC) (a1 : Int32) (a2 : Int32) (a3 : Int32) (a4 : Int32) (b0 : Int32) :
  R (d + 1) 148 (60, [some (.ref 0), some (.int a1), some (.int a2), some (.int a3), some (.int a4)], [.int b0], sl, (CH I A N V lt tw sp sr X)) =
    cond (decide (b0 < (5 : Int32))) (bC (C d 88 [.ref 1, .int (((2 : Int32) * a3) + (1 : Int32))] sl (CH I A N V lt tw sp sr X)) (fun vs sl h => R (d + 1) 148 (86, [some (.ref 0), some (.int a1), some (.int a2), some (.int a3), some (.int b0)], vs ++ [.int b0, .ref 0, .int a2], sl, h))) (some (69, [some (.ref 0), some (.int a1), some (.int a2), some (.int a3), some (.int b0)], [.int (-1 : Int32)], sl, (CH I A N V lt tw sp sr X))) :=
  (R_gob [42, 45, 60, 86, 89] 400 _ _ _).trans rfl
set_option maxRecDepth 100000 in
theorem k20_r106_r3_0 (d sl : Nat) (I : Nat → Nat → Int32) (A : Nat → Nat → Int32) (N : Nat → Nat → Int64) (V : Nat → Nat → Option Nat) (lt : Int64) (tw : Option Nat) (sp sr : Nat) (X : List AC) (a2 : Int32) :
  R (d + 1) 20 (0, [some (.ref 106), some (.ref 3), some (.int a2)], [], sl, (CH I A N V lt tw sp sr X)) =
    cond (x_in a2 12) (cond (x_in ((A 8) a2.toNatClampNeg) 6) (bC (C d 24 [.ref 106, .long ((N 4) ((A 8) a2.toNatClampNeg).toNatClampNeg)] sl (CH (up1 I 106 (up1 (I 106) 1 (0 : Int32))) A N V lt tw sp sr X)) (fun vs sl h => R (d + 1) 20 (20, [some (.ref 106), some (.ref 3), some (.int a2)], vs ++ [], sl, h))) none) none :=
  (R_gob [20, 26, 41, 46, 55, 65, 71, 81, 90] 400 _ _ _).trans rfl
set_option maxRecDepth 100000 in
theorem k20_r106_r3_20 (d sl : Nat) (I : Nat → Nat → Int32) (A : Nat → Nat → Int32) (N : Nat → Nat → Int64) (V : Nat → Nat → Option Nat) (lt : Int64) (tw : Option Nat) (sp sr : Nat) (X : List AC) (a2 : Int32) :
  R (d + 1) 20 (20, [some (.ref 106), some (.ref 3), some (.int a2)], [], sl, (CH I A N V lt tw sp sr X)) =
    bC (C d 23 [.ref 106, .ref 1000200] sl (CH I A N V lt tw sp sr X)) (fun vs sl h => R (d + 1) 20 (26, [some (.ref 106), some (.ref 3), some (.int a2)], vs ++ [], sl, h)) :=
  (R_gob [20, 26, 41, 46, 55, 65, 71, 81, 90] 400 _ _ _).trans rfl
set_option maxRecDepth 100000 in
theorem k20_r106_r3_26 (d sl : Nat) (I : Nat → Nat → Int32) (A : Nat → Nat → Int32) (N : Nat → Nat → Int64) (V : Nat → Nat → Option Nat) (lt : Int64) (tw : Option Nat) (sp sr : Nat) (X : List AC) (a2 : Int32) :
  R (d + 1) 20 (26, [some (.ref 106), some (.ref 3), some (.int a2)], [], sl, (CH I A N V lt tw sp sr X)) =
    cond (x_in a2 12) (cond (x_in ((A 9) a2.toNatClampNeg) 6) (bC (C d 24 [.ref 106, .long ((N 4) ((A 9) a2.toNatClampNeg).toNatClampNeg)] sl (CH I A N V lt tw sp sr X)) (fun vs sl h => R (d + 1) 20 (41, [some (.ref 106), some (.ref 3), some (.int a2)], vs ++ [], sl, h))) none) none :=
  (R_gob [20, 26, 41, 46, 55, 65, 71, 81, 90] 400 _ _ _).trans rfl
set_option maxRecDepth 100000 in
theorem k20_r106_r3_41 (d sl : Nat) (I : Nat → Nat → Int32) (A : Nat → Nat → Int32) (N : Nat → Nat → Int64) (V : Nat → Nat → Option Nat) (lt : Int64) (tw : Option Nat) (sp sr : Nat) (X : List AC) (a2 : Int32) :
  R (d + 1) 20 (41, [some (.ref 106), some (.ref 3), some (.int a2)], [], sl, (CH I A N V lt tw sp sr X)) =
    bC (C d 50 [.ref 3, .int a2] sl (CH I A N V lt tw sp sr X)) (fun vs sl h => R (d + 1) 20 (46, [some (.ref 106), some (.ref 3), some (.int a2)], vs ++ [], sl, h)) :=
  (R_gob [20, 26, 41, 46, 55, 65, 71, 81, 90] 400 _ _ _).trans rfl
set_option maxRecDepth 100000 in
theorem k20_r106_r3_46 (d sl : Nat) (I : Nat → Nat → Int32) (A : Nat → Nat → Int32) (N : Nat → Nat → Int64) (V : Nat → Nat → Option Nat) (lt : Int64) (tw : Option Nat) (sp sr : Nat) (X : List AC) (a2 : Int32) (b0 : Int32) :
  R (d + 1) 20 (46, [some (.ref 106), some (.ref 3), some (.int a2)], [.int b0], sl, (CH I A N V lt tw sp sr X)) =
    cond (decide (b0 = 0)) (bC (C d 23 [.ref 106, .ref 1000203] sl (CH I A N V lt tw sp sr X)) (fun vs sl h => R (d + 1) 20 (90, [some (.ref 106), some (.ref 3), some (.int a2)], vs ++ [], sl, h))) (bC (C d 23 [.ref 106, .ref 1000201] sl (CH I A N V lt tw sp sr X)) (fun vs sl h => R (d + 1) 20 (55, [some (.ref 106), some (.ref 3), some (.int a2)], vs ++ [], sl, h))) :=
  (R_gob [20, 26, 41, 46, 55, 65, 71, 81, 90] 400 _ _ _).trans rfl
set_option maxRecDepth 100000 in
theorem k20_r106_r3_90 (d sl : Nat) (I : Nat → Nat → Int32) (A : Nat → Nat → Int32) (N : Nat → Nat → Int64) (V : Nat → Nat → Option Nat) (lt : Int64) (tw : Option Nat) (sp sr : Nat) (X : List AC) (a2 : Int32) :
  R (d + 1) 20 (90, [some (.ref 106), some (.ref 3), some (.int a2)], [], sl, (CH I A N V lt tw sp sr X)) =
    some (90, [some (.ref 106), some (.ref 3), some (.int a2)], [], sl, (CH I A N V lt tw sp sr X)) :=
  (R_gob [20, 26, 41, 46, 55, 65, 71, 81, 90] 400 _ _ _).trans rfl
set_option maxRecDepth 100000 in
theorem k20_r106_r3_55 (d sl : Nat) (I : Nat → Nat → Int32) (A : Nat → Nat → Int32) (N : Nat → Nat → Int64) (V : Nat → Nat → Option Nat) (lt : Int64) (tw : Option Nat) (sp sr : Nat) (X : List AC) (a2 : Int32) :
  R (d + 1) 20 (55, [some (.ref 106), some (.ref 3), some (.int a2)], [], sl, (CH I A N V lt tw sp sr X)) =
    cond (x_in a2 12) (bC (C d 25 [.ref 106, .int ((A 10) a2.toNatClampNeg)] sl (CH I A N V lt tw sp sr X)) (fun vs sl h => R (d + 1) 20 (65, [some (.ref 106), some (.ref 3), some (.int a2)], vs ++ [], sl, h))) none :=
  (R_gob [20, 26, 41, 46, 55, 65, 71, 81, 90] 400 _ _ _).trans rfl
set_option maxRecDepth 100000 in
theorem k20_r106_r3_65 (d sl : Nat) (I : Nat → Nat → Int32) (A : Nat → Nat → Int32) (N : Nat → Nat → Int64) (V : Nat → Nat → Option Nat) (lt : Int64) (tw : Option Nat) (sp sr : Nat) (X : List AC) (a2 : Int32) :
  R (d + 1) 20 (65, [some (.ref 106), some (.ref 3), some (.int a2)], [], sl, (CH I A N V lt tw sp sr X)) =
    bC (C d 23 [.ref 106, .ref 1000202] sl (CH I A N V lt tw sp sr X)) (fun vs sl h => R (d + 1) 20 (71, [some (.ref 106), some (.ref 3), some (.int a2)], vs ++ [], sl, h)) :=
  (R_gob [20, 26, 41, 46, 55, 65, 71, 81, 90] 400 _ _ _).trans rfl
set_option maxRecDepth 100000 in
theorem k20_r106_r3_71 (d sl : Nat) (I : Nat → Nat → Int32) (A : Nat → Nat → Int32) (N : Nat → Nat → Int64) (V : Nat → Nat → Option Nat) (lt : Int64) (tw : Option Nat) (sp sr : Nat) (X : List AC) (a2 : Int32) :
  R (d + 1) 20 (71, [some (.ref 106), some (.ref 3), some (.int a2)], [], sl, (CH I A N V lt tw sp sr X)) =
    cond (x_in a2 12) (bC (C d 25 [.ref 106, .int ((A 11) a2.toNatClampNeg)] sl (CH I A N V lt tw sp sr X)) (fun vs sl h => R (d + 1) 20 (81, [some (.ref 106), some (.ref 3), some (.int a2)], vs ++ [], sl, h))) none :=
  (R_gob [20, 26, 41, 46, 55, 65, 71, 81, 90] 400 _ _ _).trans rfl
set_option maxRecDepth 100000 in
theorem k20_r106_r3_81 (d sl : Nat) (I : Nat → Nat → Int32) (A : Nat → Nat → Int32) (N : Nat → Nat → Int64) (V : Nat → Nat → Option Nat) (lt : Int64) (tw : Option Nat) (sp sr : Nat) (X : List AC) (a2 : Int32) :
  R (d + 1) 20 (81, [some (.ref 106), some (.ref 3), some (.int a2)], [], sl, (CH I A N V lt tw sp sr X)) =
    R (d + 1) 20 (90, [some (.ref 106), some (.ref 3), some (.int a2)], [], sl, (CH I A N V lt tw sp sr X)) :=
  (R_gob [20, 26, 41, 46, 55, 65, 71, 81, 90] 400 _ _ _).trans rfl
set_option maxRecDepth 100000 in
theorem k21_r106_0 (d sl : Nat) (I : Nat → Nat → Int32) (A : Nat → Nat → Int32) (N : Nat → Nat → Int64) (V : Nat → Nat → Option Nat) (lt : Int64) (tw : Option Nat) (sp sr : Nat) (X : List AC) (a1 : Int32) :
  R d 21 (0, [some (.ref 106), some (.int a1)], [], sl, (CH I A N V lt tw sp sr X)) =
    cond (decide (a1 < 0)) (some (22, [some (.ref 106), some (.int a1)], [.int (-1 : Int32)], sl, (CH I A N V lt tw sp sr X))) (cond (decide ((I 106 1) ≤ a1)) (some (22, [some (.ref 106), some (.int a1)], [.int (-1 : Int32)], sl, (CH I A N V lt tw sp sr X))) (cond (x_in a1 32) (some (22, [some (.ref 106), some (.int a1)], [.int ((A 107) a1.toNatClampNeg)], sl, (CH I A N V lt tw sp sr X))) none)) :=
  (R_gob [] 400 _ _ _).trans rfl
set_option maxRecDepth 100000 in
theorem k9_r101_r1_r3_0 (d sl : Nat) (I : Nat → Nat → Int32) (A : Nat → Nat → Int32) (N : Nat → Nat → Int64) (V : Nat → Nat → Option Nat) (lt : Int64) (tw : Option Nat) (sp sr : Nat) (X : List AC)  :
  R (d + 1) 9 (0, [some (.ref 101), some (.ref 1), some (.ref 3), none], [], sl, (CH I A N V lt tw sp sr X)) =
    R (d + 1) 9 (7, [some (.ref 101), some (.ref 1), some (.ref 3), some (.int (0 : Int32))], [], sl, (CH (up1 I 101 (up1 (I 101) 4 (0 : Int32))) A N V lt tw sp sr X)) :=
  (R_gob [7, 18, 29, 38] 400 _ _ _).trans rfl
set_option maxRecDepth 100000 in
theorem k9_r101_r1_r3_7 (d sl : Nat) (I : Nat → Nat → Int32) (A : Nat → Nat → Int32) (N : Nat → Nat → Int64) (V : Nat → Nat → Option Nat) (lt : Int64) (tw : Option Nat) (sp sr : Nat) (X : List AC) (a3 : Int32) :
  R (d + 1) 9 (7, [some (.ref 101), some (.ref 1), some (.ref 3), some (.int a3)], [], sl, (CH I A N V lt tw sp sr X)) =
    cond (decide ((940 : Int32) ≤ a3)) (some (50, [some (.ref 101), some (.ref 1), some (.ref 3), some (.int a3)], [.int (0 : Int32)], sl, (CH I A N V lt tw sp sr X))) (bC (C d 94 [.ref 1] sl (CH I A N V lt tw sp sr X)) (fun vs sl h => R (d + 1) 9 (18, [some (.ref 101), some (.ref 1), some (.ref 3), some (.int a3)], vs ++ [], sl, h))) :=
  (R_gob [7, 18, 29, 38] 400 _ _ _).trans rfl
set_option maxRecDepth 100000 in
theorem k9_r101_r1_r3_18 (d sl : Nat) (I : Nat → Nat → Int32) (A : Nat → Nat → Int32) (N : Nat → Nat → Int64) (V : Nat → Nat → Option Nat) (lt : Int64) (tw : Option Nat) (sp sr : Nat) (X : List AC) (a3 : Int32) (b0 : Int32) :
  R (d + 1) 9 (18, [some (.ref 101), some (.ref 1), some (.ref 3), some (.int a3)], [.int b0], sl, (CH I A N V lt tw sp sr X)) =
    cond (decide (b0 = 0)) (bC (C d 10 [.ref 101, .ref 1, .ref 3] sl (CH I A N V lt tw sp sr X)) (fun vs sl h => R (d + 1) 9 (29, [some (.ref 101), some (.ref 1), some (.ref 3), some (.int a3)], vs ++ [], sl, h))) (some (22, [some (.ref 101), some (.ref 1), some (.ref 3), some (.int a3)], [.int (1 : Int32)], sl, (CH I A N V lt tw sp sr X))) :=
  (R_gob [7, 18, 29, 38] 400 _ _ _).trans rfl
set_option maxRecDepth 100000 in
theorem k9_r101_r1_r3_29 (d sl : Nat) (I : Nat → Nat → Int32) (A : Nat → Nat → Int32) (N : Nat → Nat → Int64) (V : Nat → Nat → Option Nat) (lt : Int64) (tw : Option Nat) (sp sr : Nat) (X : List AC) (a3 : Int32) (b0 : Int32) :
  R (d + 1) 9 (29, [some (.ref 101), some (.ref 1), some (.ref 3), some (.int a3)], [.int b0], sl, (CH I A N V lt tw sp sr X)) =
    cond (decide (b0 = 0)) (some (42, [some (.ref 101), some (.ref 1), some (.ref 3), some (.int a3)], [.int (0 : Int32)], sl, (CH I A N V lt tw sp sr X))) (bC (C d 98 [.ref 1, .int (59 : Int32)] sl (CH I A N V lt tw sp sr X)) (fun vs sl h => R (d + 1) 9 (38, [some (.ref 101), some (.ref 1), some (.ref 3), some (.int a3)], vs ++ [], sl, h))) :=
  (R_gob [7, 18, 29, 38] 400 _ _ _).trans rfl
