set_option maxRecDepth 100000 in
theorem k33_r112_r3_28 (d sl : Nat) (I : Nat → Nat → Int32) (A : Nat → Nat → Int32) (N : Nat → Nat → Int64) (V : Nat → Nat → Option Nat) (lt : Int64) (tw : Option Nat) (sp sr : Nat) (X : List AC) (a2 : Int32) (a3 : Int32) (a4 : Int32) (a5 : Int32) (a6 : Int32) :
  R (d + 1) 33 (28, [some (.ref 112), some (.ref 3), some (.int a2), some (.int a3), some (.int a4), some (.int a5), some (.int a6)], [.null], sl, (CH I A N V lt tw sp sr X)) =
    cond (x_in a5 40) (R (d + 1) 33 (50, [some (.ref 112), some (.ref 3), some (.int a2), some (.int a3), some (.int a4), some (.int a5), some (.int a6)], [x_rf ((V 113) a5.toNatClampNeg)], sl, (CH I A N V lt tw sp sr X))) none :=
  (R_gob [6, 28, 50, 136] 400 _ _ _).trans rfl
set_option maxRecDepth 100000 in
theorem k33_r112_r3_28_1 (d sl : Nat) (I : Nat → Nat → Int32) (A : Nat → Nat → Int32) (N : Nat → Nat → Int64) (V : Nat → Nat → Option Nat) (lt : Int64) (tw : Option Nat) (sp sr : Nat) (X : List AC) (a2 : Int32) (a3 : Int32) (a4 : Int32) (a5 : Int32) (a6 : Int32) (b0 : Nat) :
  R (d + 1) 33 (28, [some (.ref 112), some (.ref 3), some (.int a2), some (.int a3), some (.int a4), some (.int a5), some (.int a6)], [.ref b0], sl, (CH I A N V lt tw sp sr X)) =
    R (d + 1) 33 (31, [some (.ref 112), some (.ref 3), some (.int a2), some (.int a3), some (.int a4), some (.int a5), some (.int a6)], [.ref 1000011, .ref b0], sl, (CH I A N V lt tw sp sr X)) :=
  (R_gob [6, 28, 31, 50, 136] 400 _ _ _).trans rfl
set_option maxRecDepth 100000 in
theorem k33_r112_r3_50 (d sl : Nat) (I : Nat → Nat → Int32) (A : Nat → Nat → Int32) (N : Nat → Nat → Int64) (V : Nat → Nat → Option Nat) (lt : Int64) (tw : Option Nat) (sp sr : Nat) (X : List AC) (a2 : Int32) (a3 : Int32) (a4 : Int32) (a5 : Int32) (a6 : Int32) :
  R (d + 1) 33 (50, [some (.ref 112), some (.ref 3), some (.int a2), some (.int a3), some (.int a4), some (.int a5), some (.int a6)], [.null], sl, (CH I A N V lt tw sp sr X)) =
    cond (x_in a5 40) (R (d + 1) 33 (78, [some (.ref 112), some (.ref 3), some (.int a2), some (.int a3), some (.int a4), some (.int a5), some (.int a6)], [x_rf ((V 113) a5.toNatClampNeg)], sl, (CH I A N V lt tw sp sr X))) none :=
  (R_gob [6, 28, 31, 50, 78, 136] 400 _ _ _).trans rfl
set_option maxRecDepth 100000 in
theorem k33_r112_r3_50_1 (d sl : Nat) (I : Nat → Nat → Int32) (A : Nat → Nat → Int32) (N : Nat → Nat → Int64) (V : Nat → Nat → Option Nat) (lt : Int64) (tw : Option Nat) (sp sr : Nat) (X : List AC) (a2 : Int32) (a3 : Int32) (a4 : Int32) (a5 : Int32) (a6 : Int32) (b0 : Nat) :
  R (d + 1) 33 (50, [some (.ref 112), some (.ref 3), some (.int a2), some (.int a3), some (.int a4), some (.int a5), some (.int a6)], [.ref b0], sl, (CH I A N V lt tw sp sr X)) =
    R (d + 1) 33 (53, [some (.ref 112), some (.ref 3), some (.int a2), some (.int a3), some (.int a4), some (.int a5), some (.int a6)], [.ref 1000010, .ref b0], sl, (CH I A N V lt tw sp sr X)) :=
  (R_gob [6, 28, 31, 50, 53, 78, 136] 400 _ _ _).trans rfl
set_option maxRecDepth 100000 in
theorem k33_r112_r3_31 (d sl : Nat) (I : Nat → Nat → Int32) (A : Nat → Nat → Int32) (N : Nat → Nat → Int64) (V : Nat → Nat → Option Nat) (lt : Int64) (tw : Option Nat) (sp sr : Nat) (X : List AC) (a2 : Int32) (a3 : Int32) (a4 : Int32) (a5 : Int32) (a6 : Int32) (b1 : Nat) (h_b1 : x_isw b1 = true) :
  R (d + 1) 33 (31, [some (.ref 112), some (.ref 3), some (.int a2), some (.int a3), some (.int a4), some (.int a5), some (.int a6)], [.ref 1000011, .ref b1], sl, (CH I A N V lt tw sp sr X)) =
    cond (!(Nat.beq b1 1000011)) (R (d + 1) 33 (43, [some (.ref 112), some (.ref 3), some (.int a2), some (.int a3), some (.int a4), some (.int a5), some (.int a6)], [], sl, (CH I A N V lt tw sp sr X))) (R (d + 1) 33 (34, [some (.ref 112), some (.ref 3), some (.int a2), some (.int a3), some (.int a4), some (.int a5), some (.int a6)], [], sl, (CH I A N V lt tw sp sr X))) :=
  R_acne (show xk 33 31 = (.if_acmp .ne 12, 34, [43], 0) by decide +kernel) h_b1 (by decide)
set_option maxRecDepth 100000 in
theorem k33_r112_r3_78 (d sl : Nat) (I : Nat → Nat → Int32) (A : Nat → Nat → Int32) (N : Nat → Nat → Int64) (V : Nat → Nat → Option Nat) (lt : Int64) (tw : Option Nat) (sp sr : Nat) (X : List AC) (a2 : Int32) (a3 : Int32) (a4 : Int32) (a5 : Int32) (a6 : Int32) :
  R (d + 1) 33 (78, [some (.ref 112), some (.ref 3), some (.int a2), some (.int a3), some (.int a4), some (.int a5), some (.int a6)], [.null], sl, (CH I A N V lt tw sp sr X)) =
    cond (x_in a5 40) (R (d + 1) 33 (103, [some (.ref 112), some (.ref 3), some (.int a2), some (.int a3), some (.int a4), some (.int a5), some (.int a6)], [x_rf ((V 113) a5.toNatClampNeg)], sl, (CH I A N V lt tw sp sr X))) none :=
  (R_gob [6, 28, 31, 34, 43, 50, 53, 78, 103, 136] 400 _ _ _).trans rfl
set_option maxRecDepth 100000 in
theorem k33_r112_r3_78_1 (d sl : Nat) (I : Nat → Nat → Int32) (A : Nat → Nat → Int32) (N : Nat → Nat → Int64) (V : Nat → Nat → Option Nat) (lt : Int64) (tw : Option Nat) (sp sr : Nat) (X : List AC) (a2 : Int32) (a3 : Int32) (a4 : Int32) (a5 : Int32) (a6 : Int32) (b0 : Nat) :
  R (d + 1) 33 (78, [some (.ref 112), some (.ref 3), some (.int a2), some (.int a3), some (.int a4), some (.int a5), some (.int a6)], [.ref b0], sl, (CH I A N V lt tw sp sr X)) =
    R (d + 1) 33 (81, [some (.ref 112), some (.ref 3), some (.int a2), some (.int a3), some (.int a4), some (.int a5), some (.int a6)], [.ref 1000009, .ref b0], sl, (CH I A N V lt tw sp sr X)) :=
  (R_gob [6, 28, 31, 34, 43, 50, 53, 78, 81, 103, 136] 400 _ _ _).trans rfl
set_option maxRecDepth 100000 in
theorem k33_r112_r3_53 (d sl : Nat) (I : Nat → Nat → Int32) (A : Nat → Nat → Int32) (N : Nat → Nat → Int64) (V : Nat → Nat → Option Nat) (lt : Int64) (tw : Option Nat) (sp sr : Nat) (X : List AC) (a2 : Int32) (a3 : Int32) (a4 : Int32) (a5 : Int32) (a6 : Int32) (b1 : Nat) (h_b1 : x_isw b1 = true) :
  R (d + 1) 33 (53, [some (.ref 112), some (.ref 3), some (.int a2), some (.int a3), some (.int a4), some (.int a5), some (.int a6)], [.ref 1000010, .ref b1], sl, (CH I A N V lt tw sp sr X)) =
    cond (!(Nat.beq b1 1000010)) (R (d + 1) 33 (71, [some (.ref 112), some (.ref 3), some (.int a2), some (.int a3), some (.int a4), some (.int a5), some (.int a6)], [], sl, (CH I A N V lt tw sp sr X))) (R (d + 1) 33 (56, [some (.ref 112), some (.ref 3), some (.int a2), some (.int a3), some (.int a4), some (.int a5), some (.int a6)], [], sl, (CH I A N V lt tw sp sr X))) :=
  R_acne (show xk 33 53 = (.if_acmp .ne 18, 56, [71], 0) by decide +kernel) h_b1 (by decide)
set_option maxRecDepth 100000 in
theorem k33_r112_r3_43 (d sl : Nat) (I : Nat → Nat → Int32) (A : Nat → Nat → Int32) (N : Nat → Nat → Int64) (V : Nat → Nat → Option Nat) (lt : Int64) (tw : Option Nat) (sp sr : Nat) (X : List AC) (a2 : Int32) (a3 : Int32) (a4 : Int32) (a5 : Int32) (a6 : Int32) :
  R (d + 1) 33 (43, [some (.ref 112), some (.ref 3), some (.int a2), some (.int a3), some (.int a4), some (.int a5), some (.int a6)], [], sl, (CH I A N V lt tw sp sr X)) =
    cond (x_in a5 40) (R (d + 1) 33 (50, [some (.ref 112), some (.ref 3), some (.int a2), some (.int a3), some (.int a4), some (.int a5), some (.int a6)], [x_rf ((V 113) a5.toNatClampNeg)], sl, (CH I A N V lt tw sp sr X))) none :=
  (R_gob [6, 28, 31, 34, 43, 50, 53, 56, 71, 78, 81, 103, 136] 400 _ _ _).trans rfl
set_option maxRecDepth 100000 in
theorem k33_r112_r3_34 (d sl : Nat) (I : Nat → Nat → Int32) (A : Nat → Nat → Int32) (N : Nat → Nat → Int64) (V : Nat → Nat → Option Nat) (lt : Int64) (tw : Option Nat) (sp sr : Nat) (X : List AC) (a2 : Int32) (a3 : Int32) (a4 : Int32) (a5 : Int32) (a6 : Int32) :
  R (d + 1) 33 (34, [some (.ref 112), some (.ref 3), some (.int a2), some (.int a3), some (.int a4), some (.int a5), some (.int a6)], [], sl, (CH I A N V lt tw sp sr X)) =
    R (d + 1) 33 (6, [some (.ref 112), some (.ref 3), some (.int a2), some (.int a3), some (.int (a4 ^^^ (nI 1))), some (.int (a5 + (nI 1))), some (.int a6)], [], sl, (CH I A N V lt tw sp sr X)) :=
  (R_gob [6, 28, 31, 34, 43, 50, 53, 56, 71, 78, 81, 103, 136] 400 _ _ _).trans rfl
set_option maxRecDepth 100000 in
theorem k33_r112_r3_103 (d sl : Nat) (I : Nat → Nat → Int32) (A : Nat → Nat → Int32) (N : Nat → Nat → Int64) (V : Nat → Nat → Option Nat) (lt : Int64) (tw : Option Nat) (sp sr : Nat) (X : List AC) (a2 : Int32) (a3 : Int32) (a4 : Int32) (a5 : Int32) (a6 : Int32) :
  R (d + 1) 33 (103, [some (.ref 112), some (.ref 3), some (.int a2), some (.int a3), some (.int a4), some (.int a5), some (.int a6)], [.null], sl, (CH I A N V lt tw sp sr X)) =
    bC (C d 34 [.ref 112, .int a5, .ref 3, .int a2] sl (CH I A N V lt tw sp sr X)) (fun vs sl h => R (d + 1) 33 (136, [some (.ref 112), some (.ref 3), some (.int a2), some (.int a3), some (.int a4), some (.int a5), some (.int a6)], vs ++ [.int (a4 <<< ((nI 1) &&& nI 31))], sl, h)) :=
  (R_gob [6, 28, 31, 34, 43, 50, 53, 56, 71, 78, 81, 103, 136] 400 _ _ _).trans rfl
set_option maxRecDepth 100000 in
theorem k33_r112_r3_103_1 (d sl : Nat) (I : Nat → Nat → Int32) (A : Nat → Nat → Int32) (N : Nat → Nat → Int64) (V : Nat → Nat → Option Nat) (lt : Int64) (tw : Option Nat) (sp sr : Nat) (X : List AC) (a2 : Int32) (a3 : Int32) (a4 : Int32) (a5 : Int32) (a6 : Int32) (b0 : Nat) :
  R (d + 1) 33 (103, [some (.ref 112), some (.ref 3), some (.int a2), some (.int a3), some (.int a4), some (.int a5), some (.int a6)], [.ref b0], sl, (CH I A N V lt tw sp sr X)) =
    R (d + 1) 33 (106, [some (.ref 112), some (.ref 3), some (.int a2), some (.int a3), some (.int a4), some (.int a5), some (.int a6)], [.ref 1000015, .ref b0], sl, (CH I A N V lt tw sp sr X)) :=
  (R_gob [6, 28, 31, 34, 43, 50, 53, 56, 71, 78, 81, 103, 106, 136] 400 _ _ _).trans rfl
set_option maxRecDepth 100000 in
theorem k33_r112_r3_81 (d sl : Nat) (I : Nat → Nat → Int32) (A : Nat → Nat → Int32) (N : Nat → Nat → Int64) (V : Nat → Nat → Option Nat) (lt : Int64) (tw : Option Nat) (sp sr : Nat) (X : List AC) (a2 : Int32) (a3 : Int32) (a4 : Int32) (a5 : Int32) (a6 : Int32) (b1 : Nat) (h_b1 : x_isw b1 = true) :
  R (d + 1) 33 (81, [some (.ref 112), some (.ref 3), some (.int a2), some (.int a3), some (.int a4), some (.int a5), some (.int a6)], [.ref 1000009, .ref b1], sl, (CH I A N V lt tw sp sr X)) =
    cond (!(Nat.beq b1 1000009)) (R (d + 1) 33 (96, [some (.ref 112), some (.ref 3), some (.int a2), some (.int a3), some (.int a4), some (.int a5), some (.int a6)], [], sl, (CH I A N V lt tw sp sr X))) (R (d + 1) 33 (84, [some (.ref 112), some (.ref 3), some (.int a2), some (.int a3), some (.int a4), some (.int a5), some (.int a6)], [], sl, (CH I A N V lt tw sp sr X))) :=
  R_acne (show xk 33 81 = (.if_acmp .ne 15, 84, [96], 0) by decide +kernel) h_b1 (by decide)
set_option maxRecDepth 100000 in
theorem k33_r112_r3_71 (d sl : Nat) (I : Nat → Nat → Int32) (A : Nat → Nat → Int32) (N : Nat → Nat → Int64) (V : Nat → Nat → Option Nat) (lt : Int64) (tw : Option Nat) (sp sr : Nat) (X : List AC) (a2 : Int32) (a3 : Int32) (a4 : Int32) (a5 : Int32) (a6 : Int32) :
  R (d + 1) 33 (71, [some (.ref 112), some (.ref 3), some (.int a2), some (.int a3), some (.int a4), some (.int a5), some (.int a6)], [], sl, (CH I A N V lt tw sp sr X)) =
    cond (x_in a5 40) (R (d + 1) 33 (78, [some (.ref 112), some (.ref 3), some (.int a2), some (.int a3), some (.int a4), some (.int a5), some (.int a6)], [x_rf ((V 113) a5.toNatClampNeg)], sl, (CH I A N V lt tw sp sr X))) none :=
  (R_gob [6, 28, 31, 34, 43, 50, 53, 56, 71, 78, 81, 84, 96, 103, 106, 136] 400 _ _ _).trans rfl
set_option maxRecDepth 100000 in
theorem k33_r112_r3_56 (d sl : Nat) (I : Nat → Nat → Int32) (A : Nat → Nat → Int32) (N : Nat → Nat → Int64) (V : Nat → Nat → Option Nat) (lt : Int64) (tw : Option Nat) (sp sr : Nat) (X : List AC) (a2 : Int32) (a3 : Int32) (a4 : Int32) (a5 : Int32) (a6 : Int32) :
  R (d + 1) 33 (56, [some (.ref 112), some (.ref 3), some (.int a2), some (.int a3), some (.int a4), some (.int a5), some (.int a6)], [], sl, (CH I A N V lt tw sp sr X)) =
    R (d + 1) 33 (6, [some (.ref 112), some (.ref 3), some (.int a2), some (.int a3), some (.int ((a4.toUInt32 >>> ((nI 1).toUInt32 &&& Int32.toUInt32 31)).toInt32 &&& (a6 ||| (-2 : Int32)))), some (.int (a5 + (nI 1))), some (.int a6)], [], sl, (CH I A N V lt tw sp sr X)) :=
  (R_gob [6, 28, 31, 34, 43, 50, 53, 56, 71, 78, 81, 84, 96, 103, 106, 136] 400 _ _ _).trans rfl
set_option maxRecDepth 100000 in
theorem k33_r112_r3_6_1 (d sl : Nat) (I : Nat → Nat → Int32) (A : Nat → Nat → Int32) (N : Nat → Nat → Int64) (V : Nat → Nat → Option Nat) (lt : Int64) (tw : Option Nat) (sp sr : Nat) (X : List AC) (a2 : Int32) (a3 : Int32) (a4 : Int32) (a5 : Int32) (a6 : Int32) :
  R (d + 1) 33 (6, [some (.ref 112), some (.ref 3), some (.int a2), some (.int a3), some (.int a4), some (.int a5), some (.int a6)], [], sl, (CH I A N V lt tw sp sr X)) =
    cond (decide ((I 112 3) ≤ a5)) (cond (!decide (a4 = (nI 1))) (some (164, [some (.ref 112), some (.ref 3), some (.int a2), some (.int a3), some (.int a4), some (.int a5), some (.int a6)], [.int (nI 0)], sl, (CH I A N V lt tw sp sr X))) (some (164, [some (.ref 112), some (.ref 3), some (.int a2), some (.int a3), some (.int a4), some (.int a5), some (.int a6)], [.int (nI 1)], sl, (CH I A N V lt tw sp sr X)))) (cond (x_in a5 40) (R (d + 1) 33 (28, [some (.ref 112), some (.ref 3), some (.int a2), some (.int a3), some (.int a4), some (.int a5), some (.int (a4 &&& (nI 1)))], [x_rf ((V 113) a5.toNatClampNeg)], sl, (CH I A N V lt tw sp sr X))) none) :=
  (R_gob [6, 28, 31, 34, 43, 50, 53, 56, 71, 78, 81, 84, 96, 103, 106, 136] 400 _ _ _).trans rfl
set_option maxRecDepth 100000 in
theorem k33_r112_r3_136 (d sl : Nat) (I : Nat → Nat → Int32) (A : Nat → Nat → Int32) (N : Nat → Nat → Int64) (V : Nat → Nat → Option Nat) (lt : Int64) (tw : Option Nat) (sp sr : Nat) (X : List AC) (a2 : Int32) (a3 : Int32) (a4 : Int32) (a5 : Int32) (a6 : Int32) (b0 : Int32) (b1 : Int32) :
  R (d + 1) 33 (136, [some (.ref 112), some (.ref 3), some (.int a2), some (.int a3), some (.int a4), some (.int a5), some (.int a6)], [.int b0, .int b1], sl, (CH I A N V lt tw sp sr X)) =
    cond (decide (b0 = (nI 0))) (R (d + 1) 33 (6, [some (.ref 112), some (.ref 3), some (.int a2), some (.int a3), some (.int (b1 ||| (nI 0))), some (.int (a5 + (nI 1))), some (.int a6)], [], sl, (CH I A N V lt tw sp sr X))) (R (d + 1) 33 (6, [some (.ref 112), some (.ref 3), some (.int a2), some (.int a3), some (.int (b1 ||| (nI 1))), some (.int (a5 + (nI 1))), some (.int a6)], [], sl, (CH I A N V lt tw sp sr X))) :=
  (R_gob [6, 28, 31, 34, 43, 50, 53, 56, 71, 78, 81, 84, 96, 103, 106, 136] 400 _ _ _).trans rfl
set_option maxRecDepth 100000 in
theorem k33_r112_r3_106 (d sl : Nat) (I : Nat → Nat → Int32) (A : Nat → Nat → Int32) (N : Nat → Nat → Int64) (V : Nat → Nat → Option Nat) (lt : Int64) (tw : Option Nat) (sp sr : Nat) (X : List AC) (a2 : Int32) (a3 : Int32) (a4 : Int32) (a5 : Int32) (a6 : Int32) (b1 : Nat) (h_b1 : x_isw b1 = true) :
  R (d + 1) 33 (106, [some (.ref 112), some (.ref 3), some (.int a2), some (.int a3), some (.int a4), some (.int a5), some (.int a6)], [.ref 1000015, .ref b1], sl, (CH I A N V lt tw sp sr X)) =
    cond (!(Nat.beq b1 1000015)) (R (d + 1) 33 (124, [some (.ref 112), some (.ref 3), some (.int a2), some (.int a3), some (.int a4), some (.int a5), some (.int a6)], [], sl, (CH I A N V lt tw sp sr X))) (R (d + 1) 33 (109, [some (.ref 112), some (.ref 3), some (.int a2), some (.int a3), some (.int a4), some (.int a5), some (.int a6)], [], sl, (CH I A N V lt tw sp sr X))) :=
  R_acne (show xk 33 106 = (.if_acmp .ne 18, 109, [124], 0) by decide +kernel) h_b1 (by decide)
set_option maxRecDepth 100000 in
theorem k33_r112_r3_96 (d sl : Nat) (I : Nat → Nat → Int32) (A : Nat → Nat → Int32) (N : Nat → Nat → Int64) (V : Nat → Nat → Option Nat) (lt : Int64) (tw : Option Nat) (sp sr : Nat) (X : List AC) (a2 : Int32) (a3 : Int32) (a4 : Int32) (a5 : Int32) (a6 : Int32) :
  R (d + 1) 33 (96, [some (.ref 112), some (.ref 3), some (.int a2), some (.int a3), some (.int a4), some (.int a5), some (.int a6)], [], sl, (CH I A N V lt tw sp sr X)) =
    cond (x_in a5 40) (R (d + 1) 33 (103, [some (.ref 112), some (.ref 3), some (.int a2), some (.int a3), some (.int a4), some (.int a5), some (.int a6)], [x_rf ((V 113) a5.toNatClampNeg)], sl, (CH I A N V lt tw sp sr X))) none :=
  (R_gob [6, 28, 31, 34, 43, 50, 53, 56, 71, 78, 81, 84, 96, 103, 106, 109, 124, 136] 400 _ _ _).trans rfl
set_option maxRecDepth 100000 in
theorem k33_r112_r3_84 (d sl : Nat) (I : Nat → Nat → Int32) (A : Nat → Nat → Int32) (N : Nat → Nat → Int64) (V : Nat → Nat → Option Nat) (lt : Int64) (tw : Option Nat) (sp sr : Nat) (X : List AC) (a2 : Int32) (a3 : Int32) (a4 : Int32) (a5 : Int32) (a6 : Int32) :
  R (d + 1) 33 (84, [some (.ref 112), some (.ref 3), some (.int a2), some (.int a3), some (.int a4), some (.int a5), some (.int a6)], [], sl, (CH I A N V lt tw sp sr X)) =
    R (d + 1) 33 (6, [some (.ref 112), some (.ref 3), some (.int a2), some (.int a3), some (.int ((a4.toUInt32 >>> ((nI 1).toUInt32 &&& Int32.toUInt32 31)).toInt32 ||| a6)), some (.int (a5 + (nI 1))), some (.int a6)], [], sl, (CH I A N V lt tw sp sr X)) :=
  (R_gob [6, 28, 31, 34, 43, 50, 53, 56, 71, 78, 81, 84, 96, 103, 106, 109, 124, 136] 400 _ _ _).trans rfl
set_option maxRecDepth 100000 in
theorem k33_r112_r3_124 (d sl : Nat) (I : Nat → Nat → Int32) (A : Nat → Nat → Int32) (N : Nat → Nat → Int64) (V : Nat → Nat → Option Nat) (lt : Int64) (tw : Option Nat) (sp sr : Nat) (X : List AC) (a2 : Int32) (a3 : Int32) (a4 : Int32) (a5 : Int32) (a6 : Int32) :
  R (d + 1) 33 (124, [some (.ref 112), some (.ref 3), some (.int a2), some (.int a3), some (.int a4), some (.int a5), some (.int a6)], [], sl, (CH I A N V lt tw sp sr X)) =
    bC (C d 34 [.ref 112, .int a5, .ref 3, .int a2] sl (CH I A N V lt tw sp sr X)) (fun vs sl h => R (d + 1) 33 (136, [some (.ref 112), some (.ref 3), some (.int a2), some (.int a3), some (.int a4), some (.int a5), some (.int a6)], vs ++ [.int (a4 <<< ((nI 1) &&& nI 31))], sl, h)) :=
  (R_gob [6, 28, 31, 34, 43, 50, 53, 56, 71, 78, 81, 84, 96, 103, 106, 109, 124, 136] 400 _ _ _).trans rfl
set_option maxRecDepth 100000 in
theorem k33_r112_r3_109 (d sl : Nat) (I : Nat → Nat → Int32) (A : Nat → Nat → Int32) (N : Nat → Nat → Int64) (V : Nat → Nat → Option Nat) (lt : Int64) (tw : Option Nat) (sp sr : Nat) (X : List AC) (a2 : Int32) (a3 : Int32) (a4 : Int32) (a5 : Int32) (a6 : Int32) :
  R (d + 1) 33 (109, [some (.ref 112), some (.ref 3), some (.int a2), some (.int a3), some (.int a4), some (.int a5), some (.int a6)], [], sl, (CH I A N V lt tw sp sr X)) =
    R (d + 1) 33 (6, [some (.ref 112), some (.ref 3), some (.int a2), some (.int a3), some (.int ((a4 <<< ((nI 1) &&& nI 31)) ||| ((a3 >>> (a2 &&& nI 31)) &&& (nI 1)))), some (.int (a5 + (nI 1))), some (.int a6)], [], sl, (CH I A N V lt tw sp sr X)) :=
  (R_gob [6, 28, 31, 34, 43, 50, 53, 56, 71, 78, 81, 84, 96, 103, 106, 109, 124, 136] 400 _ _ _).trans rfl
set_option maxRecDepth 100000 in
theorem k32_r142_r108_0 (d sl : Nat) (I : Nat → Nat → Int32) (A : Nat → Nat → Int32) (N : Nat → Nat → Int64) (V : Nat → Nat → Option Nat) (lt : Int64) (tw : Option Nat) (sp sr : Nat) (X : List AC)  :
  R (d + 1) 32 (0, [some (.ref 142), some (.ref 108), none], [], sl, (CH I A N V lt tw sp sr X)) =
    R (d + 1) 32 (7, [some (.ref 142), some (.ref 108), some (.int (nI 0))], [], sl, (CH (up1 I 142 (up1 (I 142) 3 (nI 0))) A N V lt tw sp sr X)) :=
  (R_gob [7, 37] 400 _ _ _).trans rfl
set_option maxRecDepth 100000 in
theorem k32_r142_r108_7 (d sl : Nat) (I : Nat → Nat → Int32) (A : Nat → Nat → Int32) (N : Nat → Nat → Int64) (V : Nat → Nat → Option Nat) (lt : Int64) (tw : Option Nat) (sp sr : Nat) (X : List AC) (a2 : Int32) :
  R (d + 1) 32 (7, [some (.ref 142), some (.ref 108), some (.int a2)], [], sl, (CH I A N V lt tw sp sr X)) =
    cond (decide ((I 108 3) ≤ a2)) (some (43, [some (.ref 142), some (.ref 108), some (.int a2)], [], sl, (CH I A N V lt tw sp sr X))) (cond (x_in a2 40) (R (d + 1) 32 (22, [some (.ref 142), some (.ref 108), some (.int a2)], [x_rf ((V 109) a2.toNatClampNeg), .ref 142], sl, (CH I A N V lt tw sp sr X))) none) :=
  (R_gob [7, 22, 37] 400 _ _ _).trans rfl
set_option maxRecDepth 100000 in
theorem k32_r142_r108_22 (d sl : Nat) (I : Nat → Nat → Int32) (A : Nat → Nat → Int32) (N : Nat → Nat → Int64) (V : Nat → Nat → Option Nat) (lt : Int64) (tw : Option Nat) (sp sr : Nat) (X : List AC) (a2 : Int32) :
  R (d + 1) 32 (22, [some (.ref 142), some (.ref 108), some (.int a2)], [.null, .ref 142], sl, (CH I A N V lt tw sp sr X)) =
    cond (x_in a2 40) (cond (x_in a2 40) (bC (C d 31 [.ref 142, .null, .int ((A 110) a2.toNatClampNeg), .int ((A 111) a2.toNatClampNeg)] sl (CH I A N V lt tw sp sr X)) (fun vs sl h => R (d + 1) 32 (37, [some (.ref 142), some (.ref 108), some (.int a2)], vs ++ [], sl, h))) none) none :=
  (R_gob [7, 22, 37] 400 _ _ _).trans rfl
set_option maxRecDepth 100000 in
theorem k32_r142_r108_22_1 (d sl : Nat) (I : Nat → Nat → Int32) (A : Nat → Nat → Int32) (N : Nat → Nat → Int64) (V : Nat → Nat → Option Nat) (lt : Int64) (tw : Option Nat) (sp sr : Nat) (X : List AC) (a2 : Int32) (b0 : Nat) :
  R (d + 1) 32 (22, [some (.ref 142), some (.ref 108), some (.int a2)], [.ref b0, .ref 142], sl, (CH I A N V lt tw sp sr X)) =
    cond (x_in a2 40) (cond (x_in a2 40) (bC (C d 31 [.ref 142, .ref b0, .int ((A 110) a2.toNatClampNeg), .int ((A 111) a2.toNatClampNeg)] sl (CH I A N V lt tw sp sr X)) (fun vs sl h => R (d + 1) 32 (37, [some (.ref 142), some (.ref 108), some (.int a2)], vs ++ [], sl, h))) none) none :=
  (R_gob [7, 22, 37] 400 _ _ _).trans rfl
set_option maxRecDepth 100000 in
theorem k32_r142_r108_37 (d sl : Nat) (I : Nat → Nat → Int32) (A : Nat → Nat → Int32) (N : Nat → Nat → Int64) (V : Nat → Nat → Option Nat) (lt : Int64) (tw : Option Nat) (sp sr : Nat) (X : List AC) (a2 : Int32) :
  R (d + 1) 32 (37, [some (.ref 142), some (.ref 108), some (.int a2)], [], sl, (CH I A N V lt tw sp sr X)) =
    R (d + 1) 32 (7, [some (.ref 142), some (.ref 108), some (.int (a2 + (nI 1)))], [], sl, (CH I A N V lt tw sp sr X)) :=
  (R_gob [7, 22, 37] 400 _ _ _).trans rfl
set_option maxRecDepth 100000 in
theorem k32_r142_r112_0 (d sl : Nat) (I : Nat → Nat → Int32) (A : Nat → Nat → Int32) (N : Nat → Nat → Int64) (V : Nat → Nat → Option Nat) (lt : Int64) (tw : Option Nat) (sp sr : Nat) (X : List AC)  :
  R (d + 1) 32 (0, [some (.ref 142), some (.ref 112), none], [], sl, (CH I A N V lt tw sp sr X)) =
    R (d + 1) 32 (7, [some (.ref 142), some (.ref 112), some (.int (nI 0))], [], sl, (CH (up1 I 142 (up1 (I 142) 3 (nI 0))) A N V lt tw sp sr X)) :=
  (R_gob [7, 37] 400 _ _ _).trans rfl
set_option maxRecDepth 100000 in
theorem k32_r142_r112_7 (d sl : Nat) (I : Nat → Nat → Int32) (A : Nat → Nat → Int32) (N : Nat → Nat → Int64) (V : Nat → Nat → Option Nat) (lt : Int64) (tw : Option Nat) (sp sr : Nat) (X : List AC) (a2 : Int32) :
  R (d + 1) 32 (7, [some (.ref 142), some (.ref 112), some (.int a2)], [], sl, (CH I A N V lt tw sp sr X)) =
    cond (decide ((I 112 3) ≤ a2)) (some (43, [some (.ref 142), some (.ref 112), some (.int a2)], [], sl, (CH I A N V lt tw sp sr X))) (cond (x_in a2 40) (R (d + 1) 32 (22, [some (.ref 142), some (.ref 112), some (.int a2)], [x_rf ((V 113) a2.toNatClampNeg), .ref 142], sl, (CH I A N V lt tw sp sr X))) none) :=
  (R_gob [7, 22, 37] 400 _ _ _).trans rfl
set_option maxRecDepth 100000 in
theorem k32_r142_r112_22 (d sl : Nat) (I : Nat → Nat → Int32) (A : Nat → Nat → Int32) (N : Nat → Nat → Int64) (V : Nat → Nat → Option Nat) (lt : Int64) (tw : Option Nat) (sp sr : Nat) (X : List AC) (a2 : Int32) :
  R (d + 1) 32 (22, [some (.ref 142), some (.ref 112), some (.int a2)], [.null, .ref 142], sl, (CH I A N V lt tw sp sr X)) =
    cond (x_in a2 40) (cond (x_in a2 40) (bC (C d 31 [.ref 142, .null, .int ((A 114) a2.toNatClampNeg), .int ((A 115) a2.toNatClampNeg)] sl (CH I A N V lt tw sp sr X)) (fun vs sl h => R (d + 1) 32 (37, [some (.ref 142), some (.ref 112), some (.int a2)], vs ++ [], sl, h))) none) none :=
  (R_gob [7, 22, 37] 400 _ _ _).trans rfl
set_option maxRecDepth 100000 in
theorem k32_r142_r112_22_1 (d sl : Nat) (I : Nat → Nat → Int32) (A : Nat → Nat → Int32) (N : Nat → Nat → Int64) (V : Nat → Nat → Option Nat) (lt : Int64) (tw : Option Nat) (sp sr : Nat) (X : List AC) (a2 : Int32) (b0 : Nat) :
  R (d + 1) 32 (22, [some (.ref 142), some (.ref 112), some (.int a2)], [.ref b0, .ref 142], sl, (CH I A N V lt tw sp sr X)) =
    cond (x_in a2 40) (cond (x_in a2 40) (bC (C d 31 [.ref 142, .ref b0, .int ((A 114) a2.toNatClampNeg), .int ((A 115) a2.toNatClampNeg)] sl (CH I A N V lt tw sp sr X)) (fun vs sl h => R (d + 1) 32 (37, [some (.ref 142), some (.ref 112), some (.int a2)], vs ++ [], sl, h))) none) none :=
  (R_gob [7, 22, 37] 400 _ _ _).trans rfl
set_option maxRecDepth 100000 in
theorem k32_r142_r112_37 (d sl : Nat) (I : Nat → Nat → Int32) (A : Nat → Nat → Int32) (N : Nat → Nat → Int64) (V : Nat → Nat → Option Nat) (lt : Int64) (tw : Option Nat) (sp sr : Nat) (X : List AC) (a2 : Int32) :
  R (d + 1) 32 (37, [some (.ref 142), some (.ref 112), some (.int a2)], [], sl, (CH I A N V lt tw sp sr X)) =
    R (d + 1) 32 (7, [some (.ref 142), some (.ref 112), some (.int (a2 + (nI 1)))], [], sl, (CH I A N V lt tw sp sr X)) :=
  (R_gob [7, 22, 37] 400 _ _ _).trans rfl
set_option maxRecDepth 100000 in
theorem k32_r129_r108_0 (d sl : Nat) (I : Nat → Nat → Int32) (A : Nat → Nat → Int32) (N : Nat → Nat → Int64) (V : Nat → Nat → Option Nat) (lt : Int64) (tw : Option Nat) (sp sr : Nat) (X : List AC)  :
  R (d + 1) 32 (0, [some (.ref 129), some (.ref 108), none], [], sl, (CH I A N V lt tw sp sr X)) =
    R (d + 1) 32 (7, [some (.ref 129), some (.ref 108), some (.int (nI 0))], [], sl, (CH (up1 I 129 (up1 (I 129) 3 (nI 0))) A N V lt tw sp sr X)) :=
  (R_gob [7, 37] 400 _ _ _).trans rfl
set_option maxRecDepth 100000 in
theorem k32_r129_r108_7 (d sl : Nat) (I : Nat → Nat → Int32) (A : Nat → Nat → Int32) (N : Nat → Nat → Int64) (V : Nat → Nat → Option Nat) (lt : Int64) (tw : Option Nat) (sp sr : Nat) (X : List AC) (a2 : Int32) :
  R (d + 1) 32 (7, [some (.ref 129), some (.ref 108), some (.int a2)], [], sl, (CH I A N V lt tw sp sr X)) =
    cond (decide ((I 108 3) ≤ a2)) (some (43, [some (.ref 129), some (.ref 108), some (.int a2)], [], sl, (CH I A N V lt tw sp sr X))) (cond (x_in a2 40) (R (d + 1) 32 (22, [some (.ref 129), some (.ref 108), some (.int a2)], [x_rf ((V 109) a2.toNatClampNeg), .ref 129], sl, (CH I A N V lt tw sp sr X))) none) :=
  (R_gob [7, 22, 37] 400 _ _ _).trans rfl
set_option maxRecDepth 100000 in
theorem k32_r129_r108_22 (d sl : Nat) (I : Nat → Nat → Int32) (A : Nat → Nat → Int32) (N : Nat → Nat → Int64) (V : Nat → Nat → Option Nat) (lt : Int64) (tw : Option Nat) (sp sr : Nat) (X : List AC) (a2 : Int32) :
  R (d + 1) 32 (22, [some (.ref 129), some (.ref 108), some (.int a2)], [.null, .ref 129], sl, (CH I A N V lt tw sp sr X)) =
    cond (x_in a2 40) (cond (x_in a2 40) (bC (C d 31 [.ref 129, .null, .int ((A 110) a2.toNatClampNeg), .int ((A 111) a2.toNatClampNeg)] sl (CH I A N V lt tw sp sr X)) (fun vs sl h => R (d + 1) 32 (37, [some (.ref 129), some (.ref 108), some (.int a2)], vs ++ [], sl, h))) none) none :=
  (R_gob [7, 22, 37] 400 _ _ _).trans rfl
set_option maxRecDepth 100000 in
theorem k32_r129_r108_22_1 (d sl : Nat) (I : Nat → Nat → Int32) (A : Nat → Nat → Int32) (N : Nat → Nat → Int64) (V : Nat → Nat → Option Nat) (lt : Int64) (tw : Option Nat) (sp sr : Nat) (X : List AC) (a2 : Int32) (b0 : Nat) :
  R (d + 1) 32 (22, [some (.ref 129), some (.ref 108), some (.int a2)], [.ref b0, .ref 129], sl, (CH I A N V lt tw sp sr X)) =
    cond (x_in a2 40) (cond (x_in a2 40) (bC (C d 31 [.ref 129, .ref b0, .int ((A 110) a2.toNatClampNeg), .int ((A 111) a2.toNatClampNeg)] sl (CH I A N V lt tw sp sr X)) (fun vs sl h => R (d + 1) 32 (37, [some (.ref 129), some (.ref 108), some (.int a2)], vs ++ [], sl, h))) none) none :=
  (R_gob [7, 22, 37] 400 _ _ _).trans rfl
set_option maxRecDepth 100000 in
theorem k32_r129_r108_37 (d sl : Nat) (I : Nat → Nat → Int32) (A : Nat → Nat → Int32) (N : Nat → Nat → Int64) (V : Nat → Nat → Option Nat) (lt : Int64) (tw : Option Nat) (sp sr : Nat) (X : List AC) (a2 : Int32) :
  R (d + 1) 32 (37, [some (.ref 129), some (.ref 108), some (.int a2)], [], sl, (CH I A N V lt tw sp sr X)) =
    R (d + 1) 32 (7, [some (.ref 129), some (.ref 108), some (.int (a2 + (nI 1)))], [], sl, (CH I A N V lt tw sp sr X)) :=
  (R_gob [7, 22, 37] 400 _ _ _).trans rfl
set_option maxRecDepth 100000 in
theorem k44_r120_r3_0 (d sl : Nat) (I : Nat → Nat → Int32) (A : Nat → Nat → Int32) (N : Nat → Nat → Int64) (V : Nat → Nat → Option Nat) (lt : Int64) (tw : Option Nat) (sp sr : Nat) (X : List AC)  :
  R d 44 (0, [some (.ref 120), some (.ref 3)], [], sl, (CH I A N V lt tw sp sr X)) =
    some (168, [some (.ref 120), some (.ref 3)], [], sl, (CH (up1 I 120 (up1 (up1 (up1 (up1 (up1 (up1 (I 120) 8 (I 3 8)) 9 (I 3 9)) 10 (I 3 10)) 11 (I 3 11)) 12 (I 3 12)) 13 (I 3 13))) (up1 (up1 (up1 (up1 (up1 (up1 (up1 A 122 (va_cpy (A 5) (A 122) 0 0 6)) 123 (va_cpy (A 6) (A 123) 0 0 6)) 124 (va_cpy (A 7) (A 124) 0 0 6)) 125 (va_cpy (A 8) (A 125) 0 0 12)) 126 (va_cpy (A 9) (A 126) 0 0 12)) 127 (va_cpy (A 10) (A 127) 0 0 12)) 128 (va_cpy (A 11) (A 128) 0 0 12)) (up1 N 121 (va_cpy (N 4) (N 121) 0 0 6)) V lt tw sp sr X)) :=
  (R_gob [] 400 _ _ _).trans rfl
set_option maxRecDepth 100000 in
theorem k32_r129_r112_0 (d sl : Nat) (I : Nat → Nat → Int32) (A : Nat → Nat → Int32) (N : Nat → Nat → Int64) (V : Nat → Nat → Option Nat) (lt : Int64) (tw : Option Nat) (sp sr : Nat) (X : List AC)  :
  R (d + 1) 32 (0, [some (.ref 129), some (.ref 112), none], [], sl, (CH I A N V lt tw sp sr X)) =
    R (d + 1) 32 (7, [some (.ref 129), some (.ref 112), some (.int (nI 0))], [], sl, (CH (up1 I 129 (up1 (I 129) 3 (nI 0))) A N V lt tw sp sr X)) :=
  (R_gob [7, 37] 400 _ _ _).trans rfl
set_option maxRecDepth 100000 in
theorem k32_r129_r112_7 (d sl : Nat) (I : Nat → Nat → Int32) (A : Nat → Nat → Int32) (N : Nat → Nat → Int64) (V : Nat → Nat → Option Nat) (lt : Int64) (tw : Option Nat) (sp sr : Nat) (X : List AC) (a2 : Int32) :
  R (d + 1) 32 (7, [some (.ref 129), some (.ref 112), some (.int a2)], [], sl, (CH I A N V lt tw sp sr X)) =
    cond (decide ((I 112 3) ≤ a2)) (some (43, [some (.ref 129), some (.ref 112), some (.int a2)], [], sl, (CH I A N V lt tw sp sr X))) (cond (x_in a2 40) (R (d + 1) 32 (22, [some (.ref 129), some (.ref 112), some (.int a2)], [x_rf ((V 113) a2.toNatClampNeg), .ref 129], sl, (CH I A N V lt tw sp sr X))) none) :=
  (R_gob [7, 22, 37] 400 _ _ _).trans rfl
set_option maxRecDepth 100000 in
theorem k32_r129_r112_22 (d sl : Nat) (I : Nat → Nat → Int32) (A : Nat → Nat → Int32) (N : Nat → Nat → Int64) (V : Nat → Nat → Option Nat) (lt : Int64) (tw : Option Nat) (sp sr : Nat) (X : List AC) (a2 : Int32) :
  R (d + 1) 32 (22, [some (.ref 129), some (.ref 112), some (.int a2)], [.null, .ref 129], sl, (CH I A N V lt tw sp sr X)) =
    cond (x_in a2 40) (cond (x_in a2 40) (bC (C d 31 [.ref 129, .null, .int ((A 114) a2.toNatClampNeg), .int ((A 115) a2.toNatClampNeg)] sl (CH I A N V lt tw sp sr X)) (fun vs sl h => R (d + 1) 32 (37, [some (.ref 129), some (.ref 112), some (.int a2)], vs ++ [], sl, h))) none) none :=
  (R_gob [7, 22, 37] 400 _ _ _).trans rfl
set_option maxRecDepth 100000 in
theorem k32_r129_r112_22_1 (d sl : Nat) (I : Nat → Nat → Int32) (A : Nat → Nat → Int32) (N : Nat → Nat → Int64) (V : Nat → Nat → Option Nat) (lt : Int64) (tw : Option Nat) (sp sr : Nat) (X : List AC) (a2 : Int32) (b0 : Nat) :
  R (d + 1) 32 (22, [some (.ref 129), some (.ref 112), some (.int a2)], [.ref b0, .ref 129], sl, (CH I A N V lt tw sp sr X)) =
    cond (x_in a2 40) (cond (x_in a2 40) (bC (C d 31 [.ref 129, .ref b0, .int ((A 114) a2.toNatClampNeg), .int ((A 115) a2.toNatClampNeg)] sl (CH I A N V lt tw sp sr X)) (fun vs sl h => R (d + 1) 32 (37, [some (.ref 129), some (.ref 112), some (.int a2)], vs ++ [], sl, h))) none) none :=
  (R_gob [7, 22, 37] 400 _ _ _).trans rfl
set_option maxRecDepth 100000 in
theorem k32_r129_r112_37 (d sl : Nat) (I : Nat → Nat → Int32) (A : Nat → Nat → Int32) (N : Nat → Nat → Int64) (V : Nat → Nat → Option Nat) (lt : Int64) (tw : Option Nat) (sp sr : Nat) (X : List AC) (a2 : Int32) :
  R (d + 1) 32 (37, [some (.ref 129), some (.ref 112), some (.int a2)], [], sl, (CH I A N V lt tw sp sr X)) =
    R (d + 1) 32 (7, [some (.ref 129), some (.ref 112), some (.int (a2 + (nI 1)))], [], sl, (CH I A N V lt tw sp sr X)) :=
  (R_gob [7, 22, 37] 400 _ _ _).trans rfl
set_option maxRecDepth 100000 in
theorem k44_r133_r3_0 (d sl : Nat) (I : Nat → Nat → Int32) (A : Nat → Nat → Int32) (N : Nat → Nat → Int64) (V : Nat → Nat → Option Nat) (lt : Int64) (tw : Option Nat) (sp sr : Nat) (X : List AC)  :
  R d 44 (0, [some (.ref 133), some (.ref 3)], [], sl, (CH I A N V lt tw sp sr X)) =
    some (168, [some (.ref 133), some (.ref 3)], [], sl, (CH (up1 I 133 (up1 (up1 (up1 (up1 (up1 (up1 (I 133) 8 (I 3 8)) 9 (I 3 9)) 10 (I 3 10)) 11 (I 3 11)) 12 (I 3 12)) 13 (I 3 13))) (up1 (up1 (up1 (up1 (up1 (up1 (up1 A 135 (va_cpy (A 5) (A 135) 0 0 6)) 136 (va_cpy (A 6) (A 136) 0 0 6)) 137 (va_cpy (A 7) (A 137) 0 0 6)) 138 (va_cpy (A 8) (A 138) 0 0 12)) 139 (va_cpy (A 9) (A 139) 0 0 12)) 140 (va_cpy (A 10) (A 140) 0 0 12)) 141 (va_cpy (A 11) (A 141) 0 0 12)) (up1 N 134 (va_cpy (N 4) (N 134) 0 0 6)) V lt tw sp sr X)) :=
  (R_gob [] 400 _ _ _).trans rfl
set_option maxRecDepth 100000 in
theorem k44_r3_r133_0 (d sl : Nat) (I : Nat → Nat → Int32) (A : Nat → Nat → Int32) (N : Nat → Nat → Int64) (V : Nat → Nat → Option Nat) (lt : Int64) (tw : Option Nat) (sp sr : Nat) (X : List AC)  :
  R d 44 (0, [some (.ref 3), some (.ref 133)], [], sl, (CH I A N V lt tw sp sr X)) =
    some (168, [some (.ref 3), some (.ref 133)], [], sl, (CH (up1 I 3 (up1 (up1 (up1 (up1 (up1 (up1 (I 3) 8 (I 133 8)) 9 (I 133 9)) 10 (I 133 10)) 11 (I 133 11)) 12 (I 133 12)) 13 (I 133 13))) (up1 (up1 (up1 (up1 (up1 (up1 (up1 A 5 (va_cpy (A 135) (A 5) 0 0 6)) 6 (va_cpy (A 136) (A 6) 0 0 6)) 7 (va_cpy (A 137) (A 7) 0 0 6)) 8 (va_cpy (A 138) (A 8) 0 0 12)) 9 (va_cpy (A 139) (A 9) 0 0 12)) 10 (va_cpy (A 140) (A 10) 0 0 12)) 11 (va_cpy (A 141) (A 11) 0 0 12)) (up1 N 4 (va_cpy (N 134) (N 4) 0 0 6)) V lt tw sp sr X)) :=
  (R_gob [] 400 _ _ _).trans rfl
set_option maxRecDepth 100000 in
theorem k32_r112_r142_0 (d sl : Nat) (I : Nat → Nat → Int32) (A : Nat → Nat → Int32) (N : Nat → Nat → Int64) (V : Nat → Nat → Option Nat) (lt : Int64) (tw : Option Nat) (sp sr : Nat) (X : List AC)  :
  R (d + 1) 32 (0, [some (.ref 112), some (.ref 142), none], [], sl, (CH I A N V lt tw sp sr X)) =
    R (d + 1) 32 (7, [some (.ref 112), some (.ref 142), some (.int (nI 0))], [], sl, (CH (up1 I 112 (up1 (I 112) 3 (nI 0))) A N V lt tw sp sr X)) :=
  (R_gob [7, 37] 400 _ _ _).trans rfl
set_option maxRecDepth 100000 in
theorem k32_r112_r142_7 (d sl : Nat) (I : Nat → Nat → Int32) (A : Nat → Nat → Int32) (N : Nat → Nat → Int64) (V : Nat → Nat → Option Nat) (lt : Int64) (tw : Option Nat) (sp sr : Nat) (X : List AC) (a2 : Int32) :
  R (d + 1) 32 (7, [some (.ref 112), some (.ref 142), some (.int a2)], [], sl, (CH I A N V lt tw sp sr X)) =
    cond (decide ((I 142 3) ≤ a2)) (some (43, [some (.ref 112), some (.ref 142), some (.int a2)], [], sl, (CH I A N V lt tw sp sr X))) (cond (x_in a2 40) (R (d + 1) 32 (22, [some (.ref 112), some (.ref 142), some (.int a2)], [x_rf ((V 143) a2.toNatClampNeg), .ref 112], sl, (CH I A N V lt tw sp sr X))) none) :=
  (R_gob [7, 22, 37] 400 _ _ _).trans rfl
set_option maxRecDepth 100000 in
theorem k32_r112_r142_22 (d sl : Nat) (I : Nat → Nat → Int32) (A : Nat → Nat → Int32) (N : Nat → Nat → Int64) (V : Nat → Nat → Option Nat) (lt : Int64) (tw : Option Nat) (sp sr : Nat) (X : List AC) (a2 : Int32) :
  R (d + 1) 32 (22, [some (.ref 112), some (.ref 142), some (.int a2)], [.null, .ref 112], sl, (CH I A N V lt tw sp sr X)) =
    cond (x_in a2 40) (cond (x_in a2 40) (bC (C d 31 [.ref 112, .null, .int ((A 144) a2.toNatClampNeg), .int ((A 145) a2.toNatClampNeg)] sl (CH I A N V lt tw sp sr X)) (fun vs sl h => R (d + 1) 32 (37, [some (.ref 112), some (.ref 142), some (.int a2)], vs ++ [], sl, h))) none) none :=
  (R_gob [7, 22, 37] 400 _ _ _).trans rfl
set_option maxRecDepth 100000 in
theorem k32_r112_r142_22_1 (d sl : Nat) (I : Nat → Nat → Int32) (A : Nat → Nat → Int32) (N : Nat → Nat → Int64) (V : Nat → Nat → Option Nat) (lt : Int64) (tw : Option Nat) (sp sr : Nat) (X : List AC) (a2 : Int32) (b0 : Nat) :
  R (d + 1) 32 (22, [some (.ref 112), some (.ref 142), some (.int a2)], [.ref b0, .ref 112], sl, (CH I A N V lt tw sp sr X)) =
    cond (x_in a2 40) (cond (x_in a2 40) (bC (C d 31 [.ref 112, .ref b0, .int ((A 144) a2.toNatClampNeg), .int ((A 145) a2.toNatClampNeg)] sl (CH I A N V lt tw sp sr X)) (fun vs sl h => R (d + 1) 32 (37, [some (.ref 112), some (.ref 142), some (.int a2)], vs ++ [], sl, h))) none) none :=
  (R_gob [7, 22, 37] 400 _ _ _).trans rfl
set_option maxRecDepth 100000 in
theorem k32_r112_r142_37 (d sl : Nat) (I : Nat → Nat → Int32) (A : Nat → Nat → Int32) (N : Nat → Nat → Int64) (V : Nat → Nat → Option Nat) (lt : Int64) (tw : Option Nat) (sp sr : Nat) (X : List AC) (a2 : Int32) :
  R (d + 1) 32 (37, [some (.ref 112), some (.ref 142), some (.int a2)], [], sl, (CH I A N V lt tw sp sr X)) =
    R (d + 1) 32 (7, [some (.ref 112), some (.ref 142), some (.int (a2 + (nI 1)))], [], sl, (CH I A N V lt tw sp sr X)) :=
  (R_gob [7, 22, 37] 400 _ _ _).trans rfl
set_option maxRecDepth 100000 in
theorem k32_r108_r142_0 (d sl : Nat) (I : Nat → Nat → Int32) (A : Nat → Nat → Int32) (N : Nat → Nat → Int64) (V : Nat → Nat → Option Nat) (lt : Int64) (tw : Option Nat) (sp sr : Nat) (X : List AC)  :
  R (d + 1) 32 (0, [some (.ref 108), some (.ref 142), none], [], sl, (CH I A N V lt tw sp sr X)) =
    R (d + 1) 32 (7, [some (.ref 108), some (.ref 142), some (.int (nI 0))], [], sl, (CH (up1 I 108 (up1 (I 108) 3 (nI 0))) A N V lt tw sp sr X)) :=
  (R_gob [7, 37] 400 _ _ _).trans rfl
set_option maxRecDepth 100000 in
theorem k32_r108_r142_7 (d sl : Nat) (I : Nat → Nat → Int32) (A : Nat → Nat → Int32) (N : Nat → Nat → Int64) (V : Nat → Nat → Option Nat) (lt : Int64) (tw : Option Nat) (sp sr : Nat) (X : List AC) (a2 : Int32) :
  R (d + 1) 32 (7, [some (.ref 108), some (.ref 142), some (.int a2)], [], sl, (CH I A N V lt tw sp sr X)) =
    cond (decide ((I 142 3) ≤ a2)) (some (43, [some (.ref 108), some (.ref 142), some (.int a2)], [], sl, (CH I A N V lt tw sp sr X))) (cond (x_in a2 40) (R (d + 1) 32 (22, [some (.ref 108), some (.ref 142), some (.int a2)], [x_rf ((V 143) a2.toNatClampNeg), .ref 108], sl, (CH I A N V lt tw sp sr X))) none) :=
  (R_gob [7, 22, 37] 400 _ _ _).trans rfl
set_option maxRecDepth 100000 in
theorem k32_r108_r142_22 (d sl : Nat) (I : Nat → Nat → Int32) (A : Nat → Nat → Int32) (N : Nat → Nat → Int64) (V : Nat → Nat → Option Nat) (lt : Int64) (tw : Option Nat) (sp sr : Nat) (X : List AC) (a2 : Int32) :
  R (d + 1) 32 (22, [some (.ref 108), some (.ref 142), some (.int a2)], [.null, .ref 108], sl, (CH I A N V lt tw sp sr X)) =
    cond (x_in a2 40) (cond (x_in a2 40) (bC (C d 31 [.ref 108, .null, .int ((A 144) a2.toNatClampNeg), .int ((A 145) a2.toNatClampNeg)] sl (CH I A N V lt tw sp sr X)) (fun vs sl h => R (d + 1) 32 (37, [some (.ref 108), some (.ref 142), some (.int a2)], vs ++ [], sl, h))) none) none :=
  (R_gob [7, 22, 37] 400 _ _ _).trans rfl
set_option maxRecDepth 100000 in
theorem k32_r108_r142_22_1 (d sl : Nat) (I : Nat → Nat → Int32) (A : Nat → Nat → Int32) (N : Nat → Nat → Int64) (V : Nat → Nat → Option Nat) (lt : Int64) (tw : Option Nat) (sp sr : Nat) (X : List AC) (a2 : Int32) (b0 : Nat) :
  R (d + 1) 32 (22, [some (.ref 108), some (.ref 142), some (.int a2)], [.ref b0, .ref 108], sl, (CH I A N V lt tw sp sr X)) =
    cond (x_in a2 40) (cond (x_in a2 40) (bC (C d 31 [.ref 108, .ref b0, .int ((A 144) a2.toNatClampNeg), .int ((A 145) a2.toNatClampNeg)] sl (CH I A N V lt tw sp sr X)) (fun vs sl h => R (d + 1) 32 (37, [some (.ref 108), some (.ref 142), some (.int a2)], vs ++ [], sl, h))) none) none :=
  (R_gob [7, 22, 37] 400 _ _ _).trans rfl
set_option maxRecDepth 100000 in
theorem k32_r108_r142_37 (d sl : Nat) (I : Nat → Nat → Int32) (A : Nat → Nat → Int32) (N : Nat → Nat → Int64) (V : Nat → Nat → Option Nat) (lt : Int64) (tw : Option Nat) (sp sr : Nat) (X : List AC) (a2 : Int32) :
  R (d + 1) 32 (37, [some (.ref 108), some (.ref 142), some (.int a2)], [], sl, (CH I A N V lt tw sp sr X)) =
    R (d + 1) 32 (7, [some (.ref 108), some (.ref 142), some (.int (a2 + (nI 1)))], [], sl, (CH I A N V lt tw sp sr X)) :=
  (R_gob [7, 22, 37] 400 _ _ _).trans rfl
set_option maxRecDepth 100000 in
theorem k32_r112_r129_0 (d sl : Nat) (I : Nat → Nat → Int32) (A : Nat → Nat → Int32) (N : Nat → Nat → Int64) (V : Nat → Nat → Option Nat) (lt : Int64) (tw : Option Nat) (sp sr : Nat) (X : List AC)  :
  R (d + 1) 32 (0, [some (.ref 112), some (.ref 129), none], [], sl, (CH I A N V lt tw sp sr X)) =
    R (d + 1) 32 (7, [some (.ref 112), some (.ref 129), some (.int (nI 0))], [], sl, (CH (up1 I 112 (up1 (I 112) 3 (nI 0))) A N V lt tw sp sr X)) :=
  (R_gob [7, 37] 400 _ _ _).trans rfl
set_option maxRecDepth 100000 in
theorem k32_r112_r129_7 (d sl : Nat) (I : Nat → Nat → Int32) (A : Nat → Nat → Int32) (N : Nat → Nat → Int64) (V : Nat → Nat → Option Nat) (lt : Int64) (tw : Option Nat) (sp sr : Nat) (X : List AC) (a2 : Int32) :
  R (d + 1) 32 (7, [some (.ref 112), some (.ref 129), some (.int a2)], [], sl, (CH I A N V lt tw sp sr X)) =
    cond (decide ((I 129 3) ≤ a2)) (some (43, [some (.ref 112), some (.ref 129), some (.int a2)], [], sl, (CH I A N V lt tw sp sr X))) (cond (x_in a2 40) (R (d + 1) 32 (22, [some (.ref 112), some (.ref 129), some (.int a2)], [x_rf ((V 130) a2.toNatClampNeg), .ref 112], sl, (CH I A N V lt tw sp sr X))) none) :=
  (R_gob [7, 22, 37] 400 _ _ _).trans rfl
set_option maxRecDepth 100000 in
theorem k32_r112_r129_22 (d sl : Nat) (I : Nat → Nat → Int32) (A : Nat → Nat → Int32) (N : Nat → Nat → Int64) (V : Nat → Nat → Option Nat) (lt : Int64) (tw : Option Nat) (sp sr : Nat) (X : List AC) (a2 : Int32) :
  R (d + 1) 32 (22, [some (.ref 112), some (.ref 129), some (.int a2)], [.null, .ref 112], sl, (CH I A N V lt tw sp sr X)) =
    cond (x_in a2 40) (cond (x_in a2 40) (bC (C d 31 [.ref 112, .null, .int ((A 131) a2.toNatClampNeg), .int ((A 132) a2.toNatClampNeg)] sl (CH I A N V lt tw sp sr X)) (fun vs sl h => R (d + 1) 32 (37, [some (.ref 112), some (.ref 129), some (.int a2)], vs ++ [], sl, h))) none) none :=
  (R_gob [7, 22, 37] 400 _ _ _).trans rfl
set_option maxRecDepth 100000 in
theorem k32_r112_r129_22_1 (d sl : Nat) (I : Nat → Nat → Int32) (A : Nat → Nat → Int32) (N : Nat → Nat → Int64) (V : Nat → Nat → Option Nat) (lt : Int64) (tw : Option Nat) (sp sr : Nat) (X : List AC) (a2 : Int32) (b0 : Nat) :
  R (d + 1) 32 (22, [some (.ref 112), some (.ref 129), some (.int a2)], [.ref b0, .ref 112], sl, (CH I A N V lt tw sp sr X)) =
    cond (x_in a2 40) (cond (x_in a2 40) (bC (C d 31 [.ref 112, .ref b0, .int ((A 131) a2.toNatClampNeg), .int ((A 132) a2.toNatClampNeg)] sl (CH I A N V lt tw sp sr X)) (fun vs sl h => R (d + 1) 32 (37, [some (.ref 112), some (.ref 129), some (.int a2)], vs ++ [], sl, h))) none) none :=
  (R_gob [7, 22, 37] 400 _ _ _).trans rfl
set_option maxRecDepth 100000 in
theorem k32_r112_r129_37 (d sl : Nat) (I : Nat → Nat → Int32) (A : Nat → Nat → Int32) (N : Nat → Nat → Int64) (V : Nat → Nat → Option Nat) (lt : Int64) (tw : Option Nat) (sp sr : Nat) (X : List AC) (a2 : Int32) :
  R (d + 1) 32 (37, [some (.ref 112), some (.ref 129), some (.int a2)], [], sl, (CH I A N V lt tw sp sr X)) =
    R (d + 1) 32 (7, [some (.ref 112), some (.ref 129), some (.int (a2 + (nI 1)))], [], sl, (CH I A N V lt tw sp sr X)) :=
  (R_gob [7, 22, 37] 400 _ _ _).trans rfl
set_option maxRecDepth 100000 in
theorem k32_r108_r129_0 (d sl : Nat) (I : Nat → Nat → Int32) (A : Nat → Nat → Int32) (N : Nat → Nat → Int64) (V : Nat → Nat → Option Nat) (lt : Int64) (tw : Option Nat) (sp sr : Nat) (X : List AC)  :
  R (d + 1) 32 (0, [some (.ref 108), some (.ref 129), none], [], sl, (CH I A N V lt tw sp sr X)) =
    R (d + 1) 32 (7, [some (.ref 108), some (.ref 129), some (.int (nI 0))], [], sl, (CH (up1 I 108 (up1 (I 108) 3 (nI 0))) A N V lt tw sp sr X)) :=
  (R_gob [7, 37] 400 _ _ _).trans rfl
set_option maxRecDepth 100000 in
theorem k32_r108_r129_7 (d sl : Nat) (I : Nat → Nat → Int32) (A : Nat → Nat → Int32) (N : Nat → Nat → Int64) (V : Nat → Nat → Option Nat) (lt : Int64) (tw : Option Nat) (sp sr : Nat) (X : List AC) (a2 : Int32) :
  R (d + 1) 32 (7, [some (.ref 108), some (.ref 129), some (.int a2)], [], sl, (CH I A N V lt tw sp sr X)) =
    cond (decide ((I 129 3) ≤ a2)) (some (43, [some (.ref 108), some (.ref 129), some (.int a2)], [], sl, (CH I A N V lt tw sp sr X))) (cond (x_in a2 40) (R (d + 1) 32 (22, [some (.ref 108), some (.ref 129), some (.int a2)], [x_rf ((V 130) a2.toNatClampNeg), .ref 108], sl, (CH I A N V lt tw sp sr X))) none) :=
  (R_gob [7, 22, 37] 400 _ _ _).trans rfl
set_option maxRecDepth 100000 in
theorem k32_r108_r129_22 (d sl : Nat) (I : Nat → Nat → Int32) (A : Nat → Nat → Int32) (N : Nat → Nat → Int64) (V : Nat → Nat → Option Nat) (lt : Int64) (tw : Option Nat) (sp sr : Nat) (X : List AC) (a2 : Int32) :
  R (d + 1) 32 (22, [some (.ref 108), some (.ref 129), some (.int a2)], [.null, .ref 108], sl, (CH I A N V lt tw sp sr X)) =
    cond (x_in a2 40) (cond (x_in a2 40) (bC (C d 31 [.ref 108, .null, .int ((A 131) a2.toNatClampNeg), .int ((A 132) a2.toNatClampNeg)] sl (CH I A N V lt tw sp sr X)) (fun vs sl h => R (d + 1) 32 (37, [some (.ref 108), some (.ref 129), some (.int a2)], vs ++ [], sl, h))) none) none :=
  (R_gob [7, 22, 37] 400 _ _ _).trans rfl
set_option maxRecDepth 100000 in
theorem k32_r108_r129_22_1 (d sl : Nat) (I : Nat → Nat → Int32) (A : Nat → Nat → Int32) (N : Nat → Nat → Int64) (V : Nat → Nat → Option Nat) (lt : Int64) (tw : Option Nat) (sp sr : Nat) (X : List AC) (a2 : Int32) (b0 : Nat) :
  R (d + 1) 32 (22, [some (.ref 108), some (.ref 129), some (.int a2)], [.ref b0, .ref 108], sl, (CH I A N V lt tw sp sr X)) =
    cond (x_in a2 40) (cond (x_in a2 40) (bC (C d 31 [.ref 108, .ref b0, .int ((A 131) a2.toNatClampNeg), .int ((A 132) a2.toNatClampNeg)] sl (CH I A N V lt tw sp sr X)) (fun vs sl h => R (d + 1) 32 (37, [some (.ref 108), some (.ref 129), some (.int a2)], vs ++ [], sl, h))) none) none :=
  (R_gob [7, 22, 37] 400 _ _ _).trans rfl
set_option maxRecDepth 100000 in
theorem k32_r108_r129_37 (d sl : Nat) (I : Nat → Nat → Int32) (A : Nat → Nat → Int32) (N : Nat → Nat → Int64) (V : Nat → Nat → Option Nat) (lt : Int64) (tw : Option Nat) (sp sr : Nat) (X : List AC) (a2 : Int32) :
  R (d + 1) 32 (37, [some (.ref 108), some (.ref 129), some (.int a2)], [], sl, (CH I A N V lt tw sp sr X)) =
    R (d + 1) 32 (7, [some (.ref 108), some (.ref 129), some (.int (a2 + (nI 1)))], [], sl, (CH I A N V lt tw sp sr X)) :=
  (R_gob [7, 22, 37] 400 _ _ _).trans rfl
set_option maxRecDepth 100000 in
theorem k44_r3_r120_0 (d sl : Nat) (I : Nat → Nat → Int32) (A : Nat → Nat → Int32) (N : Nat → Nat → Int64) (V : Nat → Nat → Option Nat) (lt : Int64) (tw : Option Nat) (sp sr : Nat) (X : List AC)  :
  R d 44 (0, [some (.ref 3), some (.ref 120)], [], sl, (CH I A N V lt tw sp sr X)) =
    some (168, [some (.ref 3), some (.ref 120)], [], sl, (CH (up1 I 3 (up1 (up1 (up1 (up1 (up1 (up1 (I 3) 8 (I 120 8)) 9 (I 120 9)) 10 (I 120 10)) 11 (I 120 11)) 12 (I 120 12)) 13 (I 120 13))) (up1 (up1 (up1 (up1 (up1 (up1 (up1 A 5 (va_cpy (A 122) (A 5) 0 0 6)) 6 (va_cpy (A 123) (A 6) 0 0 6)) 7 (va_cpy (A 124) (A 7) 0 0 6)) 8 (va_cpy (A 125) (A 8) 0 0 12)) 9 (va_cpy (A 126) (A 9) 0 0 12)) 10 (va_cpy (A 127) (A 10) 0 0 12)) 11 (va_cpy (A 128) (A 11) 0 0 12)) (up1 N 4 (va_cpy (N 121) (N 4) 0 0 6)) V lt tw sp sr X)) :=
  (R_gob [] 400 _ _ _).trans rfl
set_option maxRecDepth 100000 in
theorem k43_r12_0 (d sl : Nat) (I : Nat → Nat → Int32) (A : Nat → Nat → Int32) (N : Nat → Nat → Int64) (V : Nat → Nat → Option Nat) (lt : Int64) (tw : Option Nat) (sp sr : Nat) (X : List AC)  :
  R d 43 (0, [some (.ref 12)], [], sl, (CH I A N V lt tw sp sr X)) =
    some (30, [some (.ref 12)], [], sl, (CH (up1 I 12 (up1 (up1 (up1 (up1 (up1 (up1 (I 12) 8 (nI 0)) 9 (nI 0)) 10 (nI 1)) 11 (nI 5)) 12 (nI 0)) 13 (nI 0))) A N V lt tw sp sr X)) :=
  (R_gob [] 400 _ _ _).trans rfl
set_option maxRecDepth 100000 in
theorem k82_r146_0 (d sl : Nat) (I : Nat → Nat → Int32) (A : Nat → Nat → Int32) (N : Nat → Nat → Int64) (V : Nat → Nat → Option Nat) (lt : Int64) (sp sr : Nat) (x0_2 : Int32) :
  R (d + 1) 82 (0, [some (.ref 146)], [], sl, (CH I A N V lt none sp sr [.inr (7, [.ref 1, .ref 12, .int x0_2])])) =
    bC (C d 97 [.ref 1, .int (nI 1)] sl (CH I A N V lt none sp sr [.inr (7, [.ref 1, .ref 12, .int x0_2])])) (fun vs sl h => R (d + 1) 82 (62, [some (.ref 146)], vs ++ [], sl, h)) :=
  (R_gob [17, 35, 53, 62] 400 _ _ _).trans rfl
set_option maxRecDepth 100000 in
theorem k82_r146_0_1 (d sl : Nat) (I : Nat → Nat → Int32) (A : Nat → Nat → Int32) (N : Nat → Nat → Int64) (V : Nat → Nat → Option Nat) (lt : Int64) (tw : Nat) (sp sr : Nat) (x0_2 : Int32) :
  R (d + 1) 82 (0, [some (.ref 146)], [], sl, (CH I A N V lt (some tw) sp sr [.inr (7, [.ref 1, .ref 12, .int x0_2])])) =
    R (d + 1) 82 (10, [some (.ref 146)], [.ref 1000000, .ref tw], sl, (CH I A N V lt (some tw) sp sr [.inr (7, [.ref 1, .ref 12, .int x0_2])])) :=
  (R_gob [10, 17, 35, 53, 62] 400 _ _ _).trans rfl
set_option maxRecDepth 100000 in
theorem k82_r146_62 (d sl : Nat) (I : Nat → Nat → Int32) (A : Nat → Nat → Int32) (N : Nat → Nat → Int64) (V : Nat → Nat → Option Nat) (lt : Int64) (tw : Option Nat) (sp sr : Nat) (b0 : Int32) (x0_2 : Int32) :
  R (d + 1) 82 (62, [some (.ref 146)], [.int b0], sl, (CH I A N V lt tw sp sr [.inr (7, [.ref 1, .ref 12, .int x0_2])])) =
    some (62, [some (.ref 146)], [.int b0], sl, (CH I A N V lt tw sp sr [.inr (7, [.ref 1, .ref 12, .int x0_2])])) :=
  (R_gob [10, 17, 35, 53, 62] 400 _ _ _).trans rfl
set_option maxRecDepth 100000 in
theorem k82_r146_10 (d sl : Nat) (I : Nat → Nat → Int32) (A : Nat → Nat → Int32) (N : Nat → Nat → Int64) (V : Nat → Nat → Option Nat) (lt : Int64) (tw : Option Nat) (sp sr : Nat) (b1 : Nat) (x0_2 : Int32) (h_b1 : x_isw b1 = true) :
  R (d + 1) 82 (10, [some (.ref 146)], [.ref 1000000, .ref b1], sl, (CH I A N V lt tw sp sr [.inr (7, [.ref 1, .ref 12, .int x0_2])])) =
    cond (!(Nat.beq b1 1000000)) (R (d + 1) 82 (18, [some (.ref 146)], [], sl, (CH I A N V lt tw sp sr [.inr (7, [.ref 1, .ref 12, .int x0_2])]))) (R (d + 1) 82 (13, [some (.ref 146)], [], sl, (CH I A N V lt tw sp sr [.inr (7, [.ref 1, .ref 12, .int x0_2])]))) :=
  R_acne (show xk 82 10 = (.if_acmp .ne 8, 13, [18], 0) by decide +kernel) h_b1 (by decide)
set_option maxRecDepth 100000 in
theorem k82_r146_13 (d sl : Nat) (I : Nat → Nat → Int32) (A : Nat → Nat → Int32) (N : Nat → Nat → Int64) (V : Nat → Nat → Option Nat) (lt : Int64) (tw : Option Nat) (sp sr : Nat) (x0_2 : Int32) :
  R (d + 1) 82 (13, [some (.ref 146)], [], sl, (CH I A N V lt tw sp sr [.inr (7, [.ref 1, .ref 12, .int x0_2])])) =
    bC (C d 83 [.ref 146] sl (CH I A N V lt tw sp sr [.inr (7, [.ref 1, .ref 12, .int x0_2])])) (fun vs sl h => R (d + 1) 82 (17, [some (.ref 146)], vs ++ [], sl, h)) :=
  (R_gob [10, 13, 17, 18, 35, 53, 62] 400 _ _ _).trans rfl
set_option maxRecDepth 100000 in
theorem k82_r146_18 (d sl : Nat) (I : Nat → Nat → Int32) (A : Nat → Nat → Int32) (N : Nat → Nat → Int64) (V : Nat → Nat → Option Nat) (lt : Int64) (sp sr : Nat) (x0_2 : Int32) :
  R (d + 1) 82 (18, [some (.ref 146)], [], sl, (CH I A N V lt none sp sr [.inr (7, [.ref 1, .ref 12, .int x0_2])])) =
    bC (C d 97 [.ref 1, .int (nI 1)] sl (CH I A N V lt none sp sr [.inr (7, [.ref 1, .ref 12, .int x0_2])])) (fun vs sl h => R (d + 1) 82 (62, [some (.ref 146)], vs ++ [], sl, h)) :=
  (R_gob [10, 13, 17, 18, 35, 53, 62] 400 _ _ _).trans rfl
set_option maxRecDepth 100000 in
theorem k82_r146_18_1 (d sl : Nat) (I : Nat → Nat → Int32) (A : Nat → Nat → Int32) (N : Nat → Nat → Int64) (V : Nat → Nat → Option Nat) (lt : Int64) (tw : Nat) (sp sr : Nat) (x0_2 : Int32) :
  R (d + 1) 82 (18, [some (.ref 146)], [], sl, (CH I A N V lt (some tw) sp sr [.inr (7, [.ref 1, .ref 12, .int x0_2])])) =
    R (d + 1) 82 (28, [some (.ref 146)], [.ref 1000001, .ref tw], sl, (CH I A N V lt (some tw) sp sr [.inr (7, [.ref 1, .ref 12, .int x0_2])])) :=
  (R_gob [10, 13, 17, 18, 28, 35, 53, 62] 400 _ _ _).trans rfl
set_option maxRecDepth 100000 in
theorem k82_r146_17 (d sl : Nat) (I : Nat → Nat → Int32) (A : Nat → Nat → Int32) (N : Nat → Nat → Int64) (V : Nat → Nat → Option Nat) (lt : Int64) (tw : Option Nat) (sp sr : Nat) (b0 : Int32) (x0_2 : Int32) :
  R (d + 1) 82 (17, [some (.ref 146)], [.int b0], sl, (CH I A N V lt tw sp sr [.inr (7, [.ref 1, .ref 12, .int x0_2])])) =
    some (17, [some (.ref 146)], [.int b0], sl, (CH I A N V lt tw sp sr [.inr (7, [.ref 1, .ref 12, .int x0_2])])) :=
  (R_gob [10, 13, 17, 18, 28, 35, 53, 62] 400 _ _ _).trans rfl
set_option maxRecDepth 100000 in
theorem k82_r146_28 (d sl : Nat) (I : Nat → Nat → Int32) (A : Nat → Nat → Int32) (N : Nat → Nat → Int64) (V : Nat → Nat → Option Nat) (lt : Int64) (tw : Option Nat) (sp sr : Nat) (b1 : Nat) (x0_2 : Int32) (h_b1 : x_isw b1 = true) :
  R (d + 1) 82 (28, [some (.ref 146)], [.ref 1000001, .ref b1], sl, (CH I A N V lt tw sp sr [.inr (7, [.ref 1, .ref 12, .int x0_2])])) =
    cond (!(Nat.beq b1 1000001)) (R (d + 1) 82 (36, [some (.ref 146)], [], sl, (CH I A N V lt tw sp sr [.inr (7, [.ref 1, .ref 12, .int x0_2])]))) (R (d + 1) 82 (31, [some (.ref 146)], [], sl, (CH I A N V lt tw sp sr [.inr (7, [.ref 1, .ref 12, .int x0_2])]))) :=
  R_acne (show xk 82 28 = (.if_acmp .ne 8, 31, [36], 0) by decide +kernel) h_b1 (by decide)
set_option maxRecDepth 100000 in
theorem k82_r146_31 (d sl : Nat) (I : Nat → Nat → Int32) (A : Nat → Nat → Int32) (N : Nat → Nat → Int64) (V : Nat → Nat → Option Nat) (lt : Int64) (tw : Option Nat) (sp sr : Nat) (x0_2 : Int32) :
  R (d + 1) 82 (31, [some (.ref 146)], [], sl, (CH I A N V lt tw sp sr [.inr (7, [.ref 1, .ref 12, .int x0_2])])) =
    bC (C d 84 [.ref 146] sl (CH I A N V lt tw sp sr [.inr (7, [.ref 1, .ref 12, .int x0_2])])) (fun vs sl h => R (d + 1) 82 (35, [some (.ref 146)], vs ++ [], sl, h)) :=
  (R_gob [10, 13, 17, 18, 28, 31, 35, 36, 53, 62] 400 _ _ _).trans rfl
set_option maxRecDepth 100000 in
theorem k82_r146_36 (d sl : Nat) (I : Nat → Nat → Int32) (A : Nat → Nat → Int32) (N : Nat → Nat → Int64) (V : Nat → Nat → Option Nat) (lt : Int64) (sp sr : Nat) (x0_2 : Int32) :
  R (d + 1) 82 (36, [some (.ref 146)], [], sl, (CH I A N V lt none sp sr [.inr (7, [.ref 1, .ref 12, .int x0_2])])) =
    bC (C d 97 [.ref 1, .int (nI 1)] sl (CH I A N V lt none sp sr [.inr (7, [.ref 1, .ref 12, .int x0_2])])) (fun vs sl h => R (d + 1) 82 (62, [some (.ref 146)], vs ++ [], sl, h)) :=
  (R_gob [10, 13, 17, 18, 28, 31, 35, 36, 53, 62] 400 _ _ _).trans rfl
set_option maxRecDepth 100000 in
theorem k82_r146_36_1 (d sl : Nat) (I : Nat → Nat → Int32) (A : Nat → Nat → Int32) (N : Nat → Nat → Int64) (V : Nat → Nat → Option Nat) (lt : Int64) (tw : Nat) (sp sr : Nat) (x0_2 : Int32) :
  R (d + 1) 82 (36, [some (.ref 146)], [], sl, (CH I A N V lt (some tw) sp sr [.inr (7, [.ref 1, .ref 12, .int x0_2])])) =
    R (d + 1) 82 (46, [some (.ref 146)], [.ref 1000002, .ref tw], sl, (CH I A N V lt (some tw) sp sr [.inr (7, [.ref 1, .ref 12, .int x0_2])])) :=
  (R_gob [10, 13, 17, 18, 28, 31, 35, 36, 46, 53, 62] 400 _ _ _).trans rfl
set_option maxRecDepth 100000 in
theorem k82_r146_35 (d sl : Nat) (I : Nat → Nat → Int32) (A : Nat → Nat → Int32) (N : Nat → Nat → Int64) (V : Nat → Nat → Option Nat) (lt : Int64) (tw : Option Nat) (sp sr : Nat) (b0 : Int32) (x0_2 : Int32) :
  R (d + 1) 82 (35, [some (.ref 146)], [.int b0], sl, (CH I A N V lt tw sp sr [.inr (7, [.ref 1, .ref 12, .int x0_2])])) =
    some (35, [some (.ref 146)], [.int b0], sl, (CH I A N V lt tw sp sr [.inr (7, [.ref 1, .ref 12, .int x0_2])])) :=
  (R_gob [10, 13, 17, 18, 28, 31, 35, 36, 46, 53, 62] 400 _ _ _).trans rfl
set_option maxRecDepth 100000 in
theorem k82_r146_46 (d sl : Nat) (I : Nat → Nat → Int32) (A : Nat → Nat → Int32) (N : Nat → Nat → Int64) (V : Nat → Nat → Option Nat) (lt : Int64) (tw : Option Nat) (sp sr : Nat) (b1 : Nat) (x0_2 : Int32) (h_b1 : x_isw b1 = true) :
  R (d + 1) 82 (46, [some (.ref 146)], [.ref 1000002, .ref b1], sl, (CH I A N V lt tw sp sr [.inr (7, [.ref 1, .ref 12, .int x0_2])])) =
    cond (!(Nat.beq b1 1000002)) (R (d + 1) 82 (54, [some (.ref 146)], [], sl, (CH I A N V lt tw sp sr [.inr (7, [.ref 1, .ref 12, .int x0_2])]))) (R (d + 1) 82 (49, [some (.ref 146)], [], sl, (CH I A N V lt tw sp sr [.inr (7, [.ref 1, .ref 12, .int x0_2])]))) :=
  R_acne (show xk 82 46 = (.if_acmp .ne 8, 49, [54], 0) by decide +kernel) h_b1 (by decide)
set_option maxRecDepth 100000 in
theorem k82_r146_54 (d sl : Nat) (I : Nat → Nat → Int32) (A : Nat → Nat → Int32) (N : Nat → Nat → Int64) (V : Nat → Nat → Option Nat) (lt : Int64) (tw : Option Nat) (sp sr : Nat) (x0_2 : Int32) :
  R (d + 1) 82 (54, [some (.ref 146)], [], sl, (CH I A N V lt tw sp sr [.inr (7, [.ref 1, .ref 12, .int x0_2])])) =
    bC (C d 97 [.ref 1, .int (nI 1)] sl (CH I A N V lt tw sp sr [.inr (7, [.ref 1, .ref 12, .int x0_2])])) (fun vs sl h => R (d + 1) 82 (62, [some (.ref 146)], vs ++ [], sl, h)) :=
  (R_gob [10, 13, 17, 18, 28, 31, 35, 36, 46, 49, 53, 54, 62] 400 _ _ _).trans rfl
set_option maxRecDepth 100000 in
theorem k82_r146_49 (d sl : Nat) (I : Nat → Nat → Int32) (A : Nat → Nat → Int32) (N : Nat → Nat → Int64) (V : Nat → Nat → Option Nat) (lt : Int64) (tw : Option Nat) (sp sr : Nat) (x0_2 : Int32) :
  R (d + 1) 82 (49, [some (.ref 146)], [], sl, (CH I A N V lt tw sp sr [.inr (7, [.ref 1, .ref 12, .int x0_2])])) =
    bC (C d 85 [.ref 146] sl (CH I A N V lt tw sp sr [.inr (7, [.ref 1, .ref 12, .int x0_2])])) (fun vs sl h => R (d + 1) 82 (53, [some (.ref 146)], vs ++ [], sl, h)) :=
  (R_gob [10, 13, 17, 18, 28, 31, 35, 36, 46, 49, 53, 54, 62] 400 _ _ _).trans rfl
set_option maxRecDepth 100000 in
theorem k82_r146_53 (d sl : Nat) (I : Nat → Nat → Int32) (A : Nat → Nat → Int32) (N : Nat → Nat → Int64) (V : Nat → Nat → Option Nat) (lt : Int64) (tw : Option Nat) (sp sr : Nat) (b0 : Int32) (x0_2 : Int32) :
  R (d + 1) 82 (53, [some (.ref 146)], [.int b0], sl, (CH I A N V lt tw sp sr [.inr (7, [.ref 1, .ref 12, .int x0_2])])) =
    some (53, [some (.ref 146)], [.int b0], sl, (CH I A N V lt tw sp sr [.inr (7, [.ref 1, .ref 12, .int x0_2])])) :=
  (R_gob [10, 13, 17, 18, 28, 31, 35, 36, 46, 49, 53, 54, 62] 400 _ _ _).trans rfl
set_option maxRecDepth 100000 in
theorem k94_r1_0 (d sl : Nat) (I : Nat → Nat → Int32) (A : Nat → Nat → Int32) (N : Nat → Nat → Int64) (V : Nat → Nat → Option Nat) (lt : Int64) (tw : Option Nat) (sp sr : Nat) (X : List AC)  :
  R d 94 (0, [some (.ref 1)], [], sl, (CH I A N V lt tw sp sr X)) =
    cond (!decide ((I 1 4) = (nI 0))) (some (12, [some (.ref 1)], [.int (nI 0)], sl, (CH I A N V lt tw sp sr X))) (some (12, [some (.ref 1)], [.int (nI 1)], sl, (CH I A N V lt tw sp sr X))) :=
  (R_gob [] 400 _ _ _).trans rfl
set_option maxRecDepth 100000 in
theorem k98_r1_0 (d sl : Nat) (I : Nat → Nat → Int32) (A : Nat → Nat → Int32) (N : Nat → Nat → Int64) (V : Nat → Nat → Option Nat) (lt : Int64) (tw : Option Nat) (sp sr : Nat) (X : List AC) (a1 : Int32) :
  R (d + 1) 98 (0, [some (.ref 1), some (.int a1)], [], sl, (CH I A N V lt tw sp sr X)) =
    bC (C d 96 [.ref 1, .int a1] sl (CH I A N V lt tw sp sr X)) (fun vs sl h => R (d + 1) 98 (5, [some (.ref 1), some (.int a1)], vs ++ [], sl, h)) :=
  (R_gob [5, 13, 18] 400 _ _ _).trans rfl
set_option maxRecDepth 100000 in
theorem k98_r1_5 (d sl : Nat) (I : Nat → Nat → Int32) (A : Nat → Nat → Int32) (N : Nat → Nat → Int64) (V : Nat → Nat → Option Nat) (lt : Int64) (tw : Option Nat) (sp sr : Nat) (X : List AC) (a1 : Int32) (b0 : Int32) :
  R (d + 1) 98 (5, [some (.ref 1), some (.int a1)], [.int b0], sl, (CH I A N V lt tw sp sr X)) =
    cond (!decide (b0 = (nI 0))) (bC (C d 90 [.ref 1] sl (CH I A N V lt tw sp sr X)) (fun vs sl h => R (d + 1) 98 (18, [some (.ref 1), some (.int a1)], vs ++ [], sl, h))) (bC (C d 97 [.ref 1, .int (nI 1)] sl (CH I A N V lt tw sp sr X)) (fun vs sl h => R (d + 1) 98 (13, [some (.ref 1), some (.int a1)], vs ++ [], sl, h))) :=
  (R_gob [5, 13, 18] 400 _ _ _).trans rfl
set_option maxRecDepth 100000 in
theorem k98_r1_18 (d sl : Nat) (I : Nat → Nat → Int32) (A : Nat → Nat → Int32) (N : Nat → Nat → Int64) (V : Nat → Nat → Option Nat) (lt : Int64) (tw : Option Nat) (sp sr : Nat) (X : List AC) (a1 : Int32) :
  R (d + 1) 98 (18, [some (.ref 1), some (.int a1)], [], sl, (CH I A N V lt tw sp sr X)) =
    some (19, [some (.ref 1), some (.int a1)], [.int (nI 1)], sl, (CH I A N V lt tw sp sr X)) :=
  (R_gob [5, 13, 18] 400 _ _ _).trans rfl
set_option maxRecDepth 100000 in
theorem k98_r1_13 (d sl : Nat) (I : Nat → Nat → Int32) (A : Nat → Nat → Int32) (N : Nat → Nat → Int64) (V : Nat → Nat → Option Nat) (lt : Int64) (tw : Option Nat) (sp sr : Nat) (X : List AC) (a1 : Int32) (b0 : Int32) :
  R (d + 1) 98 (13, [some (.ref 1), some (.int a1)], [.int b0], sl, (CH I A N V lt tw sp sr X)) =
    some (13, [some (.ref 1), some (.int a1)], [.int b0], sl, (CH I A N V lt tw sp sr X)) :=
  (R_gob [5, 13, 18] 400 _ _ _).trans rfl
set_option maxRecDepth 100000 in
theorem k90_r1_0 (d sl : Nat) (I : Nat → Nat → Int32) (A : Nat → Nat → Int32) (N : Nat → Nat → Int64) (V : Nat → Nat → Option Nat) (lt : Int64) (tw : Option Nat) (sp sr : Nat) (X : List AC)  :
  R (d + 1) 90 (0, [some (.ref 1)], [], sl, (CH I A N V lt tw sp sr X)) =
    bC (C d 91 [.ref 1] sl (CH I A N V lt none sp sr X)) (fun vs sl h => R (d + 1) 90 (9, [some (.ref 1)], vs ++ [], sl, h)) :=
  (R_gob [9, 78, 97, 130] 400 _ _ _).trans rfl
set_option maxRecDepth 100000 in
theorem k90_r1_9 (d sl : Nat) (I : Nat → Nat → Int32) (A : Nat → Nat → Int32) (N : Nat → Nat → Int64) (V : Nat → Nat → Option Nat) (lt : Int64) (tw : Option Nat) (sp sr : Nat) (X : List AC)  :
  R (d + 1) 90 (9, [some (.ref 1)], [], sl, (CH I A N V lt tw sp sr X)) =
    cond (decide ((I 1 1) ≤ (I 1 2))) (cond (decide ((I 1 3) < (I 1 1))) (bC (C d 92 [.ref 1] sl (CH (up1 I 1 (up1 (I 1) 5 (I 1 3))) A N V lt tw sp sr X)) (fun vs sl h => R (d + 1) 90 (78, [some (.ref 1)], vs ++ [], sl, h))) (R (d + 1) 90 (130, [some (.ref 1)], [], sl, (CH (up1 I 1 (up1 (up1 (I 1) 4 (nI 0)) 5 (I 1 3))) A N V lt tw sp sr X)))) (cond (decide ((I 1 3) < (I 1 2))) (cond (decide ((I 1 3) < (I 1 1))) (bC (C d 92 [.ref 1] sl (CH (up1 I 1 (up1 (I 1) 5 (I 1 3))) A N V lt tw sp sr X)) (fun vs sl h => R (d + 1) 90 (78, [some (.ref 1)], vs ++ [], sl, h))) (R (d + 1) 90 (130, [some (.ref 1)], [], sl, (CH (up1 I 1 (up1 (up1 (I 1) 4 (nI 0)) 5 (I 1 3))) A N V lt tw sp sr X)))) (R (d + 1) 90 (130, [some (.ref 1)], [], sl, (CH (up1 I 1 (up1 (up1 (I 1) 4 (nI 1)) 5 (I 1 2))) A N V lt tw sp sr X)))) :=
  (R_gob [9, 78, 97, 130] 400 _ _ _).trans rfl
set_option maxRecDepth 100000 in
theorem k90_r1_78 (d sl : Nat) (I : Nat → Nat → Int32) (A : Nat → Nat → Int32) (N : Nat → Nat → Int64) (V : Nat → Nat → Option Nat) (lt : Int64) (tw : Option Nat) (sp sr : Nat) (X : List AC) (b0 : Int32) :
  R (d + 1) 90 (78, [some (.ref 1)], [.int b0], sl, (CH I A N V lt tw sp sr X)) =
    cond (decide (b0 = (nI 0))) (bC (C d 93 [.ref 1] sl (CH I A N V lt tw sp sr X)) (fun vs sl h => R (d + 1) 90 (130, [some (.ref 1)], vs ++ [], sl, h))) (cond (!decide ((I 1 4) = (nI 3))) (R (d + 1) 90 (130, [some (.ref 1)], [], sl, (CH (up1 I 1 (up1 (I 1) 4 (I 1 4))) A N V lt none sp sr X))) (bC (C d 3 [.long lt] sl (CH I A N V lt tw sp sr X)) (fun vs sl h => R (d + 1) 90 (97, [some (.ref 1)], vs ++ [.ref 1], sl, h)))) :=
  (R_gob [9, 78, 97, 130] 400 _ _ _).trans rfl
set_option maxRecDepth 100000 in
theorem k90_r1_130 (d sl : Nat) (I : Nat → Nat → Int32) (A : Nat → Nat → Int32) (N : Nat → Nat → Int64) (V : Nat → Nat → Option Nat) (lt : Int64) (tw : Option Nat) (sp sr : Nat) (X : List AC)  :
  R (d + 1) 90 (130, [some (.ref 1)], [], sl, (CH I A N V lt tw sp sr X)) =
    some (130, [some (.ref 1)], [], sl, (CH I A N V lt tw sp sr X)) :=
  (R_gob [9, 78, 97, 130] 400 _ _ _).trans rfl
set_option maxRecDepth 100000 in
theorem k90_r1_97 (d sl : Nat) (I : Nat → Nat → Int32) (A : Nat → Nat → Int32) (N : Nat → Nat → Int64) (V : Nat → Nat → Option Nat) (lt : Int64) (tw : Option Nat) (sp sr : Nat) (X : List AC)  :
  R (d + 1) 90 (97, [some (.ref 1)], [.null, .ref 1], sl, (CH I A N V lt tw sp sr X)) =
    R (d + 1) 90 (130, [some (.ref 1)], [], sl, (CH (up1 I 1 (up1 (I 1) 4 (I 1 4))) A N V lt none sp sr X)) :=
  (R_gob [9, 78, 97, 130] 400 _ _ _).trans rfl
set_option maxRecDepth 100000 in
theorem k90_r1_97_1 (d sl : Nat) (I : Nat → Nat → Int32) (A : Nat → Nat → Int32) (N : Nat → Nat → Int64) (V : Nat → Nat → Option Nat) (lt : Int64) (tw : Option Nat) (sp sr : Nat) (X : List AC) (b0 : Nat) :
  R (d + 1) 90 (97, [some (.ref 1)], [.ref b0, .ref 1], sl, (CH I A N V lt tw sp sr X)) =
    R (d + 1) 90 (130, [some (.ref 1)], [], sl, (CH (up1 I 1 (up1 (I 1) 4 (nI 2))) A N V lt (some b0) sp sr X)) :=
  (R_gob [9, 78, 97, 130] 400 _ _ _).trans rfl
set_option maxRecDepth 100000 in
theorem k51_r3_0 (d sl : Nat) (I : Nat → Nat → Int32) (A : Nat → Nat → Int32) (N : Nat → Nat → Int64) (V : Nat → Nat → Option Nat) (lt : Int64) (tw : Option Nat) (sp sr : Nat) (X : List AC) (a1 : Int32) (a2 : Int32) :
  R d 51 (0, [some (.ref 3), some (.int a1), some (.int a2)], [], sl, (CH I A N V lt tw sp sr X)) =
    cond (x_in a2 12) (cond (!decide (((A 8) a2.toNatClampNeg) = a1)) (some (24, [some (.ref 3), some (.int a1), some (.int a2)], [.int (nI 0)], sl, (CH I A N V lt tw sp sr X))) (cond (x_in a2 12) (cond (decide (((A 10) a2.toNatClampNeg) ≤ (nI 0))) (some (24, [some (.ref 3), some (.int a1), some (.int a2)], [.int (nI 0)], sl, (CH I A N V lt tw sp sr X))) (some (24, [some (.ref 3), some (.int a1), some (.int a2)], [.int (nI 1)], sl, (CH I A N V lt tw sp sr X)))) none)) none :=
  (R_gob [] 400 _ _ _).trans rfl
set_option maxRecDepth 100000 in
theorem k53_r3_0 (d sl : Nat) (I : Nat → Nat → Int32) (A : Nat → Nat → Int32) (N : Nat → Nat → Int64) (V : Nat → Nat → Option Nat) (lt : Int64) (tw : Option Nat) (sp sr : Nat) (X : List AC) (a1 : Int32) :
  R (d + 1) 53 (0, [some (.ref 3), some (.int a1), none, none], [], sl, (CH I A N V lt tw sp sr X)) =
    bC (C d 50 [.ref 3, .int a1] sl (CH I A N V lt tw sp sr X)) (fun vs sl h => R (d + 1) 53 (5, [some (.ref 3), some (.int a1), none, none], vs ++ [], sl, h)) :=
  (R_gob [5, 14, 28] 400 _ _ _).trans rfl
set_option maxRecDepth 100000 in
theorem k53_r3_5 (d sl : Nat) (I : Nat → Nat → Int32) (A : Nat → Nat → Int32) (N : Nat → Nat → Int64) (V : Nat → Nat → Option Nat) (lt : Int64) (tw : Option Nat) (sp sr : Nat) (X : List AC) (a1 : Int32) (b0 : Int32) :
  R (d + 1) 53 (5, [some (.ref 3), some (.int a1), none, none], [.int b0], sl, (CH I A N V lt tw sp sr X)) =
    cond (!decide (b0 = (nI 0))) (R (d + 1) 53 (14, [some (.ref 3), some (.int a1), some (.int (nI 0)), some (.int (nI 0))], [], sl, (CH I A N V lt tw sp sr X))) (some (9, [some (.ref 3), some (.int a1), none, none], [.int (-1 : Int32)], sl, (CH I A N V lt tw sp sr X))) :=
  (R_gob [5, 14, 28] 400 _ _ _).trans rfl
set_option maxRecDepth 100000 in
theorem k53_r3_14 (d sl : Nat) (I : Nat → Nat → Int32) (A : Nat → Nat → Int32) (N : Nat → Nat → Int64) (V : Nat → Nat → Option Nat) (lt : Int64) (tw : Option Nat) (sp sr : Nat) (X : List AC) (a1 : Int32) (a2 : Int32) (a3 : Int32) :
  R (d + 1) 53 (14, [some (.ref 3), some (.int a1), some (.int a2), some (.int a3)], [], sl, (CH I A N V lt tw sp sr X)) =
    cond (decide ((I 3 9) ≤ a3)) (some (41, [some (.ref 3), some (.int a1), some (.int a2), some (.int a3)], [.int a2], sl, (CH I A N V lt tw sp sr X))) (bC (C d 52 [.ref 3, .int a3, .int a1] sl (CH I A N V lt tw sp sr X)) (fun vs sl h => R (d + 1) 53 (28, [some (.ref 3), some (.int a1), some (.int a2), some (.int a3)], vs ++ [], sl, h))) :=
  (R_gob [5, 14, 28] 400 _ _ _).trans rfl
set_option maxRecDepth 100000 in
theorem k53_r3_28 (d sl : Nat) (I : Nat → Nat → Int32) (A : Nat → Nat → Int32) (N : Nat → Nat → Int64) (V : Nat → Nat → Option Nat) (lt : Int64) (tw : Option Nat) (sp sr : Nat) (X : List AC) (a1 : Int32) (a2 : Int32) (a3 : Int32) (b0 : Int32) :
  R (d + 1) 53 (28, [some (.ref 3), some (.int a1), some (.int a2), some (.int a3)], [.int b0], sl, (CH I A N V lt tw sp sr X)) =
    cond (decide (b0 = (nI 0))) (R (d + 1) 53 (14, [some (.ref 3), some (.int a1), some (.int a2), some (.int (a3 + (nI 1)))], [], sl, (CH I A N V lt tw sp sr X))) (R (d + 1) 53 (14, [some (.ref 3), some (.int a1), some (.int (a2 + (nI 1))), some (.int (a3 + (nI 1)))], [], sl, (CH I A N V lt tw sp sr X))) :=
  (R_gob [5, 14, 28] 400 _ _ _).trans rfl
set_option maxRecDepth 100000 in
theorem k109_r95_r3_0 (d sl : Nat) (I : Nat → Nat → Int32) (A : Nat → Nat → Int32) (N : Nat → Nat → Int64) (V : Nat → Nat → Option Nat) (lt : Int64) (tw : Option Nat) (sp sr : Nat) (X : List AC) (a2 : Int32) :
  R (d + 1) 109 (0, [some (.ref 95), some (.ref 3), some (.int a2), none, none], [], sl, (CH I A N V lt tw sp sr X)) =
    R (d + 1) 109 (2, [some (.ref 95), some (.ref 3), some (.int a2), some (.int (nI 0)), none], [], sl, (CH I A N V lt tw sp sr X)) :=
  (R_gob [2, 35, 70] 400 _ _ _).trans rfl
set_option maxRecDepth 100000 in
theorem k109_r95_r3_2 (d sl : Nat) (I : Nat → Nat → Int32) (A : Nat → Nat → Int32) (N : Nat → Nat → Int64) (V : Nat → Nat → Option Nat) (lt : Int64) (tw : Option Nat) (sp sr : Nat) (X : List AC) (a2 : Int32) (a3 : Int32) :
  R (d + 1) 109 (2, [some (.ref 95), some (.ref 3), some (.int a2), some (.int a3), none], [], sl, (CH I A N V lt tw sp sr X)) =
    cond (decide ((nI 6) ≤ a3)) (cond (x_in a2 6) (R (d + 1) 109 (35, [some (.ref 95), some (.ref 3), some (.int a2), some (.int ((nI 1) <<< (a2 &&& nI 31))), some (.int (nI 1))], [], sl, (CH I (up1 A 97 (upd (A 97) a2.toNatClampNeg (nI 0))) N V lt tw sp sr X))) none) (cond (x_in a3 6) (R (d + 1) 109 (2, [some (.ref 95), some (.ref 3), some (.int a2), some (.int (a3 + (nI 1))), none], [], sl, (CH I (up1 A 97 (upd (A 97) a3.toNatClampNeg (-1 : Int32))) N V lt tw sp sr X))) none) :=
  (R_gob [2, 35, 70] 400 _ _ _).trans rfl
set_option maxRecDepth 100000 in
theorem k109_r95_r3_35 (d sl : Nat) (I : Nat → Nat → Int32) (A : Nat → Nat → Int32) (N : Nat → Nat → Int64) (V : Nat → Nat → Option Nat) (lt : Int64) (tw : Option Nat) (sp sr : Nat) (X : List AC) (a2 : Int32) (a3 : Int32) (a4 : Int32) :
  R (d + 1) 109 (35, [some (.ref 95), some (.ref 3), some (.int a2), some (.int a3), some (.int a4)], [], sl, (CH I A N V lt tw sp sr X)) =
    cond (decide ((I 3 8) < a4)) (some (78, [some (.ref 95), some (.ref 3), some (.int a2), some (.int a3), some (.int a4)], [.int (nI 0)], sl, (CH I A N V lt tw sp sr X))) (cond (decide (a3 = (nI 0))) (some (78, [some (.ref 95), some (.ref 3), some (.int a2), some (.int a3), some (.int a4)], [.int (nI 0)], sl, (CH I A N V lt tw sp sr X))) (cond (x_in a2 6) (cond (decide ((((A 96) a2.toNatClampNeg) &&& a3) = (nI 0))) (bC (C d 110 [.ref 95, .ref 3, .int a3, .int a4] sl (CH I A N V lt tw sp sr X)) (fun vs sl h => R (d + 1) 109 (70, [some (.ref 95), some (.ref 3), some (.int a2), some (.int a3), some (.int a4)], vs ++ [], sl, h))) (some (61, [some (.ref 95), some (.ref 3), some (.int a2), some (.int a3), some (.int a4)], [.int a4], sl, (CH I A N V lt tw sp sr X)))) none)) :=
  (R_gob [2, 35, 70] 400 _ _ _).trans rfl
set_option maxRecDepth 100000 in
theorem k109_r95_r3_70 (d sl : Nat) (I : Nat → Nat → Int32) (A : Nat → Nat → Int32) (N : Nat → Nat → Int64) (V : Nat → Nat → Option Nat) (lt : Int64) (tw : Option Nat) (sp sr : Nat) (X : List AC) (a2 : Int32) (a3 : Int32) (a4 : Int32) (b0 : Int32) :
  R (d + 1) 109 (70, [some (.ref 95), some (.ref 3), some (.int a2), some (.int a3), some (.int a4)], [.int b0], sl, (CH I A N V lt tw sp sr X)) =
    R (d + 1) 109 (35, [some (.ref 95), some (.ref 3), some (.int a2), some (.int b0), some (.int (a4 + (nI 1)))], [], sl, (CH I A N V lt tw sp sr X)) :=
  (R_gob [2, 35, 70] 400 _ _ _).trans rfl
set_option maxRecDepth 100000 in
theorem k108_r95_r3_0 (d sl : Nat) (I : Nat → Nat → Int32) (A : Nat → Nat → Int32) (N : Nat → Nat → Int64) (V : Nat → Nat → Option Nat) (lt : Int64) (tw : Option Nat) (sp sr : Nat) (X : List AC)  :
  R (d + 1) 108 (0, [some (.ref 95), some (.ref 3), none], [], sl, (CH I A N V lt tw sp sr X)) =
    R (d + 1) 108 (2, [some (.ref 95), some (.ref 3), some (.int (nI 0))], [], sl, (CH I A N V lt tw sp sr X)) :=
  (R_gob [2, 23, 36] 400 _ _ _).trans rfl
set_option maxRecDepth 100000 in
theorem k108_r95_r3_2 (d sl : Nat) (I : Nat → Nat → Int32) (A : Nat → Nat → Int32) (N : Nat → Nat → Int64) (V : Nat → Nat → Option Nat) (lt : Int64) (tw : Option Nat) (sp sr : Nat) (X : List AC) (a2 : Int32) :
  R (d + 1) 108 (2, [some (.ref 95), some (.ref 3), some (.int a2)], [], sl, (CH I A N V lt tw sp sr X)) =
    cond (decide ((nI 6) ≤ a2)) (R (d + 1) 108 (23, [some (.ref 95), some (.ref 3), some (.int (nI 0))], [], sl, (CH I A N V lt tw sp sr X))) (cond (x_in a2 6) (R (d + 1) 108 (2, [some (.ref 95), some (.ref 3), some (.int (a2 + (nI 1)))], [], sl, (CH I (up1 A 96 (upd (A 96) a2.toNatClampNeg (nI 0))) N V lt tw sp sr X))) none) :=
  (R_gob [2, 23, 36] 400 _ _ _).trans rfl
set_option maxRecDepth 100000 in
theorem k108_r95_r3_23 (d sl : Nat) (I : Nat → Nat → Int32) (A : Nat → Nat → Int32) (N : Nat → Nat → Int64) (V : Nat → Nat → Option Nat) (lt : Int64) (tw : Option Nat) (sp sr : Nat) (X : List AC) (a2 : Int32) :
  R (d + 1) 108 (23, [some (.ref 95), some (.ref 3), some (.int a2)], [], sl, (CH I A N V lt tw sp sr X)) =
    cond (decide ((I 3 9) ≤ a2)) (some (67, [some (.ref 95), some (.ref 3), some (.int a2)], [], sl, (CH I A N V lt tw sp sr X))) (bC (C d 50 [.ref 3, .int a2] sl (CH I A N V lt tw sp sr X)) (fun vs sl h => R (d + 1) 108 (36, [some (.ref 95), some (.ref 3), some (.int a2)], vs ++ [], sl, h))) :=
  (R_gob [2, 23, 36] 400 _ _ _).trans rfl
set_option maxRecDepth 100000 in
theorem k108_r95_r3_36 (d sl : Nat) (I : Nat → Nat → Int32) (A : Nat → Nat → Int32) (N : Nat → Nat → Int64) (V : Nat → Nat → Option Nat) (lt : Int64) (tw : Option Nat) (sp sr : Nat) (X : List AC) (a2 : Int32) (b0 : Int32) :
  R (d + 1) 108 (36, [some (.ref 95), some (.ref 3), some (.int a2)], [.int b0], sl, (CH I A N V lt tw sp sr X)) =
    cond (decide (b0 = (nI 0))) (R (d + 1) 108 (23, [some (.ref 95), some (.ref 3), some (.int (a2 + (nI 1)))], [], sl, (CH I A N V lt tw sp sr X))) (cond (x_in a2 12) (cond (x_in ((A 8) a2.toNatClampNeg) 6) (cond (x_in a2 12) (cond (x_in ((A 8) a2.toNatClampNeg) 6) (R (d + 1) 108 (23, [some (.ref 95), some (.ref 3), some (.int (a2 + (nI 1)))], [], sl, (CH I (up1 A 96 (upd (A 96) ((A 8) a2.toNatClampNeg).toNatClampNeg (((A 96) ((A 8) a2.toNatClampNeg).toNatClampNeg) ||| ((nI 1) <<< (((A 9) a2.toNatClampNeg) &&& nI 31))))) N V lt tw sp sr X))) none) none) none) none) :=
  (R_gob [2, 23, 36] 400 _ _ _).trans rfl
set_option maxRecDepth 100000 in
theorem k62_r3_0 (d sl : Nat) (I : Nat → Nat → Int32) (A : Nat → Nat → Int32) (N : Nat → Nat → Int64) (V : Nat → Nat → Option Nat) (lt : Int64) (tw : Option Nat) (sp sr : Nat) (X : List AC) (a1 : Int32) :
  R (d + 1) 62 (0, [some (.ref 3), some (.int a1)], [], sl, (CH I A N V lt tw sp sr X)) =
    bC (C d 57 [.ref 3, .int a1] sl (CH I A N V lt tw sp sr X)) (fun vs sl h => R (d + 1) 62 (5, [some (.ref 3), some (.int a1)], vs ++ [], sl, h)) :=
  (R_gob [5] 400 _ _ _).trans rfl
set_option maxRecDepth 100000 in
theorem k62_r3_5 (d sl : Nat) (I : Nat → Nat → Int32) (A : Nat → Nat → Int32) (N : Nat → Nat → Int64) (V : Nat → Nat → Option Nat) (lt : Int64) (tw : Option Nat) (sp sr : Nat) (X : List AC) (a1 : Int32) (b0 : Int32) :
  R (d + 1) 62 (5, [some (.ref 3), some (.int a1)], [.int b0], sl, (CH I A N V lt tw sp sr X)) =
    cond (x_in a1 6) (cond (decide (b0 ≤ ((A 5) a1.toNatClampNeg))) (some (19, [some (.ref 3), some (.int a1)], [.int (nI 0)], sl, (CH I A N V lt tw sp sr X))) (some (19, [some (.ref 3), some (.int a1)], [.int (nI 1)], sl, (CH I A N V lt tw sp sr X)))) none :=
  (R_gob [5] 400 _ _ _).trans rfl
set_option maxRecDepth 100000 in
theorem k75_r3_0 (d sl : Nat) (I : Nat → Nat → Int32) (A : Nat → Nat → Int32) (N : Nat → Nat → Int64) (V : Nat → Nat → Option Nat) (lt : Int64) (tw : Option Nat) (sp sr : Nat) (X : List AC) (a1 : Int32) (a2 : Int32) (a3 : Int32) :
  R d 75 (0, [some (.ref 3), some (.int a1), some (.int a2), some (.int a3)], [], sl, (CH I A N V lt tw sp sr X)) =
    cond (x_in a1 6) (cond (x_in a1 6) (cond (x_in a2 6) (cond (x_in a2 6) (some (20, [some (.ref 3), some (.int a1), some (.int a2), some (.int a3)], [], sl, (CH I (up1 A 5 (upd (upd (A 5) a1.toNatClampNeg (((A 5) a1.toNatClampNeg) - a3)) a2.toNatClampNeg (((upd (A 5) a1.toNatClampNeg (((A 5) a1.toNatClampNeg) - a3)) a2.toNatClampNeg) + a3))) N V lt tw sp sr X))) none) none) none) none :=
  (R_gob [] 400 _ _ _).trans rfl
set_option maxRecDepth 100000 in
theorem k49_r3_0 (d sl : Nat) (I : Nat → Nat → Int32) (A : Nat → Nat → Int32) (N : Nat → Nat → Int64) (V : Nat → Nat → Option Nat) (lt : Int64) (tw : Option Nat) (sp sr : Nat) (X : List AC) (a1 : Int32) (a2 : Int32) (a3 : Int32) (a4 : Int32) :
  R d 49 (0, [some (.ref 3), some (.int a1), some (.int a2), some (.int a3), some (.int a4)], [], sl, (CH I A N V lt tw sp sr X)) =
    cond (decide ((nI 12) ≤ (I 3 9))) (some (60, [some (.ref 3), some (.int a1), some (.int a2), some (.int a3), some (.int a4)], [], sl, (CH I A N V lt tw sp sr X))) (cond (x_in (I 3 9) 12) (cond (x_in (I 3 9) 12) (cond (x_in (I 3 9) 12) (cond (x_in (I 3 9) 12) (some (60, [some (.ref 3), some (.int a1), some (.int a2), some (.int a3), some (.int a4)], [], sl, (CH (up1 I 3 (up1 (I 3) 9 ((I 3 9) + (nI 1)))) (up1 (up1 (up1 (up1 A 8 (upd (A 8) (I 3 9).toNatClampNeg a1)) 9 (upd (A 9) (I 3 9).toNatClampNeg a2)) 10 (upd (A 10) (I 3 9).toNatClampNeg a3)) 11 (upd (A 11) (I 3 9).toNatClampNeg a4)) N V lt tw sp sr X))) none) none) none) none) :=
  (R_gob [] 400 _ _ _).trans rfl
set_option maxRecDepth 100000 in
theorem k44_r23_r3_0 (d sl : Nat) (I : Nat → Nat → Int32) (A : Nat → Nat → Int32) (N : Nat → Nat → Int64) (V : Nat → Nat → Option Nat) (lt : Int64) (tw : Option Nat) (sp sr : Nat) (X : List AC)  :
  R d 44 (0, [some (.ref 23), some (.ref 3)], [], sl, (CH I A N V lt tw sp sr X)) =
    some (168, [some (.ref 23), some (.ref 3)], [], sl, (CH (up1 I 23 (up1 (up1 (up1 (up1 (up1 (up1 (I 23) 8 (I 3 8)) 9 (I 3 9)) 10 (I 3 10)) 11 (I 3 11)) 12 (I 3 12)) 13 (I 3 13))) (up1 (up1 (up1 (up1 (up1 (up1 (up1 A 25 (va_cpy (A 5) (A 25) 0 0 6)) 26 (va_cpy (A 6) (A 26) 0 0 6)) 27 (va_cpy (A 7) (A 27) 0 0 6)) 28 (va_cpy (A 8) (A 28) 0 0 12)) 29 (va_cpy (A 9) (A 29) 0 0 12)) 30 (va_cpy (A 10) (A 30) 0 0 12)) 31 (va_cpy (A 11) (A 31) 0 0 12)) (up1 N 24 (va_cpy (N 4) (N 24) 0 0 6)) V lt tw sp sr X)) :=
  (R_gob [] 400 _ _ _).trans rfl
set_option maxRecDepth 100000 in
theorem k44_r41_r3_0 (d sl : Nat) (I : Nat → Nat → Int32) (A : Nat → Nat → Int32) (N : Nat → Nat → Int64) (V : Nat → Nat → Option Nat) (lt : Int64) (tw : Option Nat) (sp sr : Nat) (X : List AC)  :
  R d 44 (0, [some (.ref 41), some (.ref 3)], [], sl, (CH I A N V lt tw sp sr X)) =
    some (168, [some (.ref 41), some (.ref 3)], [], sl, (CH (up1 I 41 (up1 (up1 (up1 (up1 (up1 (up1 (I 41) 8 (I 3 8)) 9 (I 3 9)) 10 (I 3 10)) 11 (I 3 11)) 12 (I 3 12)) 13 (I 3 13))) (up1 (up1 (up1 (up1 (up1 (up1 (up1 A 43 (va_cpy (A 5) (A 43) 0 0 6)) 44 (va_cpy (A 6) (A 44) 0 0 6)) 45 (va_cpy (A 7) (A 45) 0 0 6)) 46 (va_cpy (A 8) (A 46) 0 0 12)) 47 (va_cpy (A 9) (A 47) 0 0 12)) 48 (va_cpy (A 10) (A 48) 0 0 12)) 49 (va_cpy (A 11) (A 49) 0 0 12)) (up1 N 42 (va_cpy (N 4) (N 42) 0 0 6)) V lt tw sp sr X)) :=
  (R_gob [] 400 _ _ _).trans rfl
set_option maxRecDepth 100000 in
theorem k44_r77_r3_0 (d sl : Nat) (I : Nat → Nat → Int32) (A : Nat → Nat → Int32) (N : Nat → Nat → Int64) (V : Nat → Nat → Option Nat) (lt : Int64) (tw : Option Nat) (sp sr : Nat) (X : List AC)  :
  R d 44 (0, [some (.ref 77), some (.ref 3)], [], sl, (CH I A N V lt tw sp sr X)) =
    some (168, [some (.ref 77), some (.ref 3)], [], sl, (CH (up1 I 77 (up1 (up1 (up1 (up1 (up1 (up1 (I 77) 8 (I 3 8)) 9 (I 3 9)) 10 (I 3 10)) 11 (I 3 11)) 12 (I 3 12)) 13 (I 3 13))) (up1 (up1 (up1 (up1 (up1 (up1 (up1 A 79 (va_cpy (A 5) (A 79) 0 0 6)) 80 (va_cpy (A 6) (A 80) 0 0 6)) 81 (va_cpy (A 7) (A 81) 0 0 6)) 82 (va_cpy (A 8) (A 82) 0 0 12)) 83 (va_cpy (A 9) (A 83) 0 0 12)) 84 (va_cpy (A 10) (A 84) 0 0 12)) 85 (va_cpy (A 11) (A 85) 0 0 12)) (up1 N 78 (va_cpy (N 4) (N 78) 0 0 6)) V lt tw sp sr X)) :=
  (R_gob [] 400 _ _ _).trans rfl
set_option maxRecDepth 100000 in
theorem k44_r50_r3_0 (d sl : Nat) (I : Nat → Nat → Int32) (A : Nat → Nat → Int32) (N : Nat → Nat → Int64) (V : Nat → Nat → Option Nat) (lt : Int64) (tw : Option Nat) (sp sr : Nat) (X : List AC)  :
  R d 44 (0, [some (.ref 50), some (.ref 3)], [], sl, (CH I A N V lt tw sp sr X)) =
    some (168, [some (.ref 50), some (.ref 3)], [], sl, (CH (up1 I 50 (up1 (up1 (up1 (up1 (up1 (up1 (I 50) 8 (I 3 8)) 9 (I 3 9)) 10 (I 3 10)) 11 (I 3 11)) 12 (I 3 12)) 13 (I 3 13))) (up1 (up1 (up1 (up1 (up1 (up1 (up1 A 52 (va_cpy (A 5) (A 52) 0 0 6)) 53 (va_cpy (A 6) (A 53) 0 0 6)) 54 (va_cpy (A 7) (A 54) 0 0 6)) 55 (va_cpy (A 8) (A 55) 0 0 12)) 56 (va_cpy (A 9) (A 56) 0 0 12)) 57 (va_cpy (A 10) (A 57) 0 0 12)) 58 (va_cpy (A 11) (A 58) 0 0 12)) (up1 N 51 (va_cpy (N 4) (N 51) 0 0 6)) V lt tw sp sr X)) :=
  (R_gob [] 400 _ _ _).trans rfl
set_option maxRecDepth 100000 in
theorem k44_r59_r3_0 (d sl : Nat) (I : Nat → Nat → Int32) (A : Nat → Nat → Int32) (N : Nat → Nat → Int64) (V : Nat → Nat → Option Nat) (lt : Int64) (tw : Option Nat) (sp sr : Nat) (X : List AC)  :
  R d 44 (0, [some (.ref 59), some (.ref 3)], [], sl, (CH I A N V lt tw sp sr X)) =
    some (168, [some (.ref 59), some (.ref 3)], [], sl, (CH (up1 I 59 (up1 (up1 (up1 (up1 (up1 (up1 (I 59) 8 (I 3 8)) 9 (I 3 9)) 10 (I 3 10)) 11 (I 3 11)) 12 (I 3 12)) 13 (I 3 13))) (up1 (up1 (up1 (up1 (up1 (up1 (up1 A 61 (va_cpy (A 5) (A 61) 0 0 6)) 62 (va_cpy (A 6) (A 62) 0 0 6)) 63 (va_cpy (A 7) (A 63) 0 0 6)) 64 (va_cpy (A 8) (A 64) 0 0 12)) 65 (va_cpy (A 9) (A 65) 0 0 12)) 66 (va_cpy (A 10) (A 66) 0 0 12)) 67 (va_cpy (A 11) (A 67) 0 0 12)) (up1 N 60 (va_cpy (N 4) (N 60) 0 0 6)) V lt tw sp sr X)) :=
  (R_gob [] 400 _ _ _).trans rfl
set_option maxRecDepth 100000 in
theorem k44_r68_r3_0 (d sl : Nat) (I : Nat → Nat → Int32) (A : Nat → Nat → Int32) (N : Nat → Nat → Int64) (V : Nat → Nat → Option Nat) (lt : Int64) (tw : Option Nat) (sp sr : Nat) (X : List AC)  :
  R d 44 (0, [some (.ref 68), some (.ref 3)], [], sl, (CH I A N V lt tw sp sr X)) =
    some (168, [some (.ref 68), some (.ref 3)], [], sl, (CH (up1 I 68 (up1 (up1 (up1 (up1 (up1 (up1 (I 68) 8 (I 3 8)) 9 (I 3 9)) 10 (I 3 10)) 11 (I 3 11)) 12 (I 3 12)) 13 (I 3 13))) (up1 (up1 (up1 (up1 (up1 (up1 (up1 A 70 (va_cpy (A 5) (A 70) 0 0 6)) 71 (va_cpy (A 6) (A 71) 0 0 6)) 72 (va_cpy (A 7) (A 72) 0 0 6)) 73 (va_cpy (A 8) (A 73) 0 0 12)) 74 (va_cpy (A 9) (A 74) 0 0 12)) 75 (va_cpy (A 10) (A 75) 0 0 12)) 76 (va_cpy (A 11) (A 76) 0 0 12)) (up1 N 69 (va_cpy (N 4) (N 69) 0 0 6)) V lt tw sp sr X)) :=
  (R_gob [] 400 _ _ _).trans rfl
set_option maxRecDepth 100000 in
theorem k44_r32_r3_0 (d sl : Nat) (I : Nat → Nat → Int32) (A : Nat → Nat → Int32) (N : Nat → Nat → Int64) (V : Nat → Nat → Option Nat) (lt : Int64) (tw : Option Nat) (sp sr : Nat) (X : List AC)  :
  R d 44 (0, [some (.ref 32), some (.ref 3)], [], sl, (CH I A N V lt tw sp sr X)) =
    some (168, [some (.ref 32), some (.ref 3)], [], sl, (CH (up1 I 32 (up1 (up1 (up1 (up1 (up1 (up1 (I 32) 8 (I 3 8)) 9 (I 3 9)) 10 (I 3 10)) 11 (I 3 11)) 12 (I 3 12)) 13 (I 3 13))) (up1 (up1 (up1 (up1 (up1 (up1 (up1 A 34 (va_cpy (A 5) (A 34) 0 0 6)) 35 (va_cpy (A 6) (A 35) 0 0 6)) 36 (va_cpy (A 7) (A 36) 0 0 6)) 37 (va_cpy (A 8) (A 37) 0 0 12)) 38 (va_cpy (A 9) (A 38) 0 0 12)) 39 (va_cpy (A 10) (A 39) 0 0 12)) 40 (va_cpy (A 11) (A 40) 0 0 12)) (up1 N 33 (va_cpy (N 4) (N 33) 0 0 6)) V lt tw sp sr X)) :=
  (R_gob [] 400 _ _ _).trans rfl
