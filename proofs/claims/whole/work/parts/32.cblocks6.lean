set_option maxRecDepth 100000 in
theorem k24_r106_0 (d sl : Nat) (I : Nat → Nat → Int32) (A : Nat → Nat → Int32) (N : Nat → Nat → Int64) (V : Nat → Nat → Option Nat) (lt : Int64) (tw : Option Nat) (sp sr : Nat) (X : List AC) (a1 : Int64) :
  R (d + 1) 24 (0, [some (.ref 106), some (.long a1), none, none, none], [], sl, (CH I A N V lt tw sp sr X)) =
    R (d + 1) 24 (3, [some (.ref 106), some (.long a1), none, some (.int (48 : Int32)), none], [], sl, (CH I A N V lt tw sp sr X)) :=
  (R_gob [3, 28] 400 _ _ _).trans rfl
set_option maxRecDepth 100000 in
theorem k24_r106_3 (d sl : Nat) (I : Nat → Nat → Int32) (A : Nat → Nat → Int32) (N : Nat → Nat → Int64) (V : Nat → Nat → Option Nat) (lt : Int64) (tw : Option Nat) (sp sr : Nat) (X : List AC) (a1 : Int64) (a3 : Int32) :
  R (d + 1) 24 (3, [some (.ref 106), some (.long a1), none, some (.int a3), none], [], sl, (CH I A N V lt tw sp sr X)) =
    cond (decide (a3 < 0)) (some (34, [some (.ref 106), some (.long a1), none, some (.int a3), none], [], sl, (CH I A N V lt tw sp sr X))) (cond (decide ((((a1.toUInt64 >>> (a3.toInt64.toUInt64 &&& Int64.toUInt64 63)).toInt64) &&& (255 : Int32).toInt64).toInt32 = 0)) (R (d + 1) 24 (28, [some (.ref 106), some (.long a1), none, some (.int a3), some (.int (((a1.toUInt64 >>> (a3.toInt64.toUInt64 &&& Int64.toUInt64 63)).toInt64) &&& (255 : Int32).toInt64).toInt32)], [], sl, (CH I A N V lt tw sp sr X))) (bC (C d 22 [.ref 106, .int (((a1.toUInt64 >>> (a3.toInt64.toUInt64 &&& Int64.toUInt64 63)).toInt64) &&& (255 : Int32).toInt64).toInt32] sl (CH I A N V lt tw sp sr X)) (fun vs sl h => R (d + 1) 24 (28, [some (.ref 106), some (.long a1), none, some (.int a3), some (.int (((a1.toUInt64 >>> (a3.toInt64.toUInt64 &&& Int64.toUInt64 63)).toInt64) &&& (255 : Int32).toInt64).toInt32)], vs ++ [], sl, h)))) :=
  (R_gob [3, 28] 400 _ _ _).trans rfl
set_option maxRecDepth 100000 in
theorem k24_r106_28 (d sl : Nat) (I : Nat → Nat → Int32) (A : Nat → Nat → Int32) (N : Nat → Nat → Int64) (V : Nat → Nat → Option Nat) (lt : Int64) (tw : Option Nat) (sp sr : Nat) (X : List AC) (a1 : Int64) (a3 : Int32) (a4 : Int32) :
  R (d + 1) 24 (28, [some (.ref 106), some (.long a1), none, some (.int a3), some (.int a4)], [], sl, (CH I A N V lt tw sp sr X)) =
    R (d + 1) 24 (3, [some (.ref 106), some (.long a1), none, some (.int (a3 + (-8 : Int32))), some (.int a4)], [], sl, (CH I A N V lt tw sp sr X)) :=
  (R_gob [3, 28] 400 _ _ _).trans rfl
set_option maxRecDepth 100000 in
theorem k24_r106_3_1 (d sl : Nat) (I : Nat → Nat → Int32) (A : Nat → Nat → Int32) (N : Nat → Nat → Int64) (V : Nat → Nat → Option Nat) (lt : Int64) (tw : Option Nat) (sp sr : Nat) (X : List AC) (a1 : Int64) (a3 : Int32) (a4 : Int32) :
  R (d + 1) 24 (3, [some (.ref 106), some (.long a1), none, some (.int a3), some (.int a4)], [], sl, (CH I A N V lt tw sp sr X)) =
    cond (decide (a3 < 0)) (some (34, [some (.ref 106), some (.long a1), none, some (.int a3), some (.int a4)], [], sl, (CH I A N V lt tw sp sr X))) (cond (decide ((((a1.toUInt64 >>> (a3.toInt64.toUInt64 &&& Int64.toUInt64 63)).toInt64) &&& (255 : Int32).toInt64).toInt32 = 0)) (R (d + 1) 24 (28, [some (.ref 106), some (.long a1), none, some (.int a3), some (.int (((a1.toUInt64 >>> (a3.toInt64.toUInt64 &&& Int64.toUInt64 63)).toInt64) &&& (255 : Int32).toInt64).toInt32)], [], sl, (CH I A N V lt tw sp sr X))) (bC (C d 22 [.ref 106, .int (((a1.toUInt64 >>> (a3.toInt64.toUInt64 &&& Int64.toUInt64 63)).toInt64) &&& (255 : Int32).toInt64).toInt32] sl (CH I A N V lt tw sp sr X)) (fun vs sl h => R (d + 1) 24 (28, [some (.ref 106), some (.long a1), none, some (.int a3), some (.int (((a1.toUInt64 >>> (a3.toInt64.toUInt64 &&& Int64.toUInt64 63)).toInt64) &&& (255 : Int32).toInt64).toInt32)], vs ++ [], sl, h)))) :=
  (R_gob [3, 28] 400 _ _ _).trans rfl
set_option maxRecDepth 100000 in
theorem k10_r101_r1_r3_0 (d sl : Nat) (I : Nat → Nat → Int32) (A : Nat → Nat → Int32) (N : Nat → Nat → Int64) (V : Nat → Nat → Option Nat) (lt : Int64) (tw : Option Nat) (sp sr : Nat) (X : List AC)  :
  R (d + 1) 10 (0, [some (.ref 101), some (.ref 1), some (.ref 3), none, none, none], [], sl, (CH I A N V lt tw sp sr X)) =
    bC (C d 95 [.ref 1] sl (CH I A N V lt tw sp sr X)) (fun vs sl h => R (d + 1) 10 (4, [some (.ref 101), some (.ref 1), some (.ref 3), none, none, none], vs ++ [], sl, h)) :=
  (R_gob [4, 19, 30, 45, 54, 69, 82, 87, 100, 107, 126, 143] 400 _ _ _).trans rfl
set_option maxRecDepth 100000 in
theorem k10_r101_r1_r3_4 (d sl : Nat) (I : Nat → Nat → Int32) (A : Nat → Nat → Int32) (N : Nat → Nat → Int64) (V : Nat → Nat → Option Nat) (lt : Int64) (sp sr : Nat) (X : List AC) (b0 : Int32) :
  R (d + 1) 10 (4, [some (.ref 101), some (.ref 1), some (.ref 3), none, none, none], [.int b0], sl, (CH I A N V lt none sp sr X)) =
    cond (decide (b0 = 0)) (bC (C d 11 [.null] sl (CH I A N V lt none sp sr X)) (fun vs sl h => R (d + 1) 10 (19, [some (.ref 101), some (.ref 1), some (.ref 3), none, none, none], vs ++ [], sl, h))) (R (d + 1) 10 (19, [some (.ref 101), some (.ref 1), some (.ref 3), none, none, none], [.int (10 : Int32)], sl, (CH I A N V lt none sp sr X))) :=
  (R_gob [4, 19, 30, 45, 54, 69, 82, 87, 100, 107, 126, 143] 400 _ _ _).trans rfl
set_option maxRecDepth 100000 in
theorem k10_r101_r1_r3_4_1 (d sl : Nat) (I : Nat → Nat → Int32) (A : Nat → Nat → Int32) (N : Nat → Nat → Int64) (V : Nat → Nat → Option Nat) (lt : Int64) (tw : Nat) (sp sr : Nat) (X : List AC) (b0 : Int32) :
  R (d + 1) 10 (4, [some (.ref 101), some (.ref 1), some (.ref 3), none, none, none], [.int b0], sl, (CH I A N V lt (some tw) sp sr X)) =
    cond (decide (b0 = 0)) (bC (C d 11 [.ref tw] sl (CH I A N V lt (some tw) sp sr X)) (fun vs sl h => R (d + 1) 10 (19, [some (.ref 101), some (.ref 1), some (.ref 3), none, none, none], vs ++ [], sl, h))) (R (d + 1) 10 (19, [some (.ref 101), some (.ref 1), some (.ref 3), none, none, none], [.int (10 : Int32)], sl, (CH I A N V lt (some tw) sp sr X))) :=
  (R_gob [4, 19, 30, 45, 54, 69, 82, 87, 100, 107, 126, 143] 400 _ _ _).trans rfl
set_option maxRecDepth 100000 in
theorem k10_r101_r1_r3_19 (d sl : Nat) (I : Nat → Nat → Int32) (A : Nat → Nat → Int32) (N : Nat → Nat → Int64) (V : Nat → Nat → Option Nat) (lt : Int64) (tw : Option Nat) (sp sr : Nat) (X : List AC) (b0 : Int32) :
  R (d + 1) 10 (19, [some (.ref 101), some (.ref 1), some (.ref 3), none, none, none], [.int b0], sl, (CH I A N V lt tw sp sr X)) =
    cond (!decide (b0 = (-1 : Int32))) (cond (!decide (b0 = (10 : Int32))) (cond (decide ((I 101 4) < (40 : Int32))) (cond (!decide (b0 = (10 : Int32))) (bC (C d 90 [.ref 1] sl (CH I A N V lt tw sp sr X)) (fun vs sl h => R (d + 1) 10 (87, [some (.ref 101), some (.ref 1), some (.ref 3), some (.int b0), none, none], vs ++ [], sl, h))) (bC (C d 13 [.ref 101, .ref 1, .ref 3] sl (CH I A N V lt tw sp sr X)) (fun vs sl h => R (d + 1) 10 (82, [some (.ref 101), some (.ref 1), some (.ref 3), some (.int b0), none, none], vs ++ [], sl, h)))) (bC (C d 97 [.ref 1, .int (4 : Int32)] sl (CH I A N V lt tw sp sr X)) (fun vs sl h => R (d + 1) 10 (69, [some (.ref 101), some (.ref 1), some (.ref 3), some (.int b0), none, none], vs ++ [], sl, h)))) (bC (C d 47 [.ref 3, .long lt] sl (CH I A N V lt tw sp sr X)) (fun vs sl h => R (d + 1) 10 (45, [some (.ref 101), some (.ref 1), some (.ref 3), some (.int b0), none, none], vs ++ [], sl, h)))) (bC (C d 97 [.ref 1, .int (1 : Int32)] sl (CH I A N V lt tw sp sr X)) (fun vs sl h => R (d + 1) 10 (30, [some (.ref 101), some (.ref 1), some (.ref 3), some (.int b0), none, none], vs ++ [], sl, h))) :=
  (R_gob [4, 19, 30, 45, 54, 69, 82, 87, 100, 107, 126, 143] 400 _ _ _).trans rfl
set_option maxRecDepth 100000 in
theorem k10_r101_r1_r3_87 (d sl : Nat) (I : Nat → Nat → Int32) (A : Nat → Nat → Int32) (N : Nat → Nat → Int64) (V : Nat → Nat → Option Nat) (lt : Int64) (tw : Option Nat) (sp sr : Nat) (X : List AC) (a3 : Int32) :
  R (d + 1) 10 (87, [some (.ref 101), some (.ref 1), some (.ref 3), some (.int a3), none, none], [], sl, (CH I A N V lt tw sp sr X)) =
    cond (!decide (a3 = (50 : Int32))) (bC (C d 103 [.ref 1] sl (CH I A N V lt tw sp sr X)) (fun vs sl h => R (d + 1) 10 (107, [some (.ref 101), some (.ref 1), some (.ref 3), some (.int a3), none, none], vs ++ [], sl, h))) (bC (C d 102 [.ref 1, .int (1 : Int32), .int (60 : Int32)] sl (CH I A N V lt tw sp sr X)) (fun vs sl h => R (d + 1) 10 (100, [some (.ref 101), some (.ref 1), some (.ref 3), some (.int a3), none, none], vs ++ [], sl, h))) :=
  (R_gob [4, 19, 30, 45, 54, 69, 82, 87, 100, 107, 126, 143] 400 _ _ _).trans rfl
set_option maxRecDepth 100000 in
theorem k10_r101_r1_r3_82 (d sl : Nat) (I : Nat → Nat → Int32) (A : Nat → Nat → Int32) (N : Nat → Nat → Int64) (V : Nat → Nat → Option Nat) (lt : Int64) (tw : Option Nat) (sp sr : Nat) (X : List AC) (a3 : Int32) (b0 : Int32) :
  R (d + 1) 10 (82, [some (.ref 101), some (.ref 1), some (.ref 3), some (.int a3), none, none], [.int b0], sl, (CH I A N V lt tw sp sr X)) =
    some (82, [some (.ref 101), some (.ref 1), some (.ref 3), some (.int a3), none, none], [.int b0], sl, (CH I A N V lt tw sp sr X)) :=
  (R_gob [4, 19, 30, 45, 54, 69, 82, 87, 100, 107, 126, 143] 400 _ _ _).trans rfl
set_option maxRecDepth 100000 in
theorem k10_r101_r1_r3_69 (d sl : Nat) (I : Nat → Nat → Int32) (A : Nat → Nat → Int32) (N : Nat → Nat → Int64) (V : Nat → Nat → Option Nat) (lt : Int64) (tw : Option Nat) (sp sr : Nat) (X : List AC) (a3 : Int32) (b0 : Int32) :
  R (d + 1) 10 (69, [some (.ref 101), some (.ref 1), some (.ref 3), some (.int a3), none, none], [.int b0], sl, (CH I A N V lt tw sp sr X)) =
    some (69, [some (.ref 101), some (.ref 1), some (.ref 3), some (.int a3), none, none], [.int b0], sl, (CH I A N V lt tw sp sr X)) :=
  (R_gob [4, 19, 30, 45, 54, 69, 82, 87, 100, 107, 126, 143] 400 _ _ _).trans rfl
set_option maxRecDepth 100000 in
theorem k10_r101_r1_r3_45 (d sl : Nat) (I : Nat → Nat → Int32) (A : Nat → Nat → Int32) (N : Nat → Nat → Int64) (V : Nat → Nat → Option Nat) (lt : Int64) (tw : Option Nat) (sp sr : Nat) (X : List AC) (a3 : Int32) (b0 : Int32) :
  R (d + 1) 10 (45, [some (.ref 101), some (.ref 1), some (.ref 3), some (.int a3), none, none], [.int b0], sl, (CH I A N V lt tw sp sr X)) =
    cond (!decide (b0 = (-1 : Int32))) (cond (decide ((I 101 4) < (40 : Int32))) (cond (!decide (a3 = (10 : Int32))) (bC (C d 90 [.ref 1] sl (CH I A N V lt tw sp sr X)) (fun vs sl h => R (d + 1) 10 (87, [some (.ref 101), some (.ref 1), some (.ref 3), some (.int a3), none, none], vs ++ [], sl, h))) (bC (C d 13 [.ref 101, .ref 1, .ref 3] sl (CH I A N V lt tw sp sr X)) (fun vs sl h => R (d + 1) 10 (82, [some (.ref 101), some (.ref 1), some (.ref 3), some (.int a3), none, none], vs ++ [], sl, h)))) (bC (C d 97 [.ref 1, .int (4 : Int32)] sl (CH I A N V lt tw sp sr X)) (fun vs sl h => R (d + 1) 10 (69, [some (.ref 101), some (.ref 1), some (.ref 3), some (.int a3), none, none], vs ++ [], sl, h)))) (bC (C d 97 [.ref 1, .int (3 : Int32)] sl (CH I A N V lt tw sp sr X)) (fun vs sl h => R (d + 1) 10 (54, [some (.ref 101), some (.ref 1), some (.ref 3), some (.int a3), none, none], vs ++ [], sl, h))) :=
  (R_gob [4, 19, 30, 45, 54, 69, 82, 87, 100, 107, 126, 143] 400 _ _ _).trans rfl
set_option maxRecDepth 100000 in
theorem k10_r101_r1_r3_30 (d sl : Nat) (I : Nat → Nat → Int32) (A : Nat → Nat → Int32) (N : Nat → Nat → Int64) (V : Nat → Nat → Option Nat) (lt : Int64) (tw : Option Nat) (sp sr : Nat) (X : List AC) (a3 : Int32) (b0 : Int32) :
  R (d + 1) 10 (30, [some (.ref 101), some (.ref 1), some (.ref 3), some (.int a3), none, none], [.int b0], sl, (CH I A N V lt tw sp sr X)) =
    some (30, [some (.ref 101), some (.ref 1), some (.ref 3), some (.int a3), none, none], [.int b0], sl, (CH I A N V lt tw sp sr X)) :=
  (R_gob [4, 19, 30, 45, 54, 69, 82, 87, 100, 107, 126, 143] 400 _ _ _).trans rfl
set_option maxRecDepth 100000 in
theorem k10_r101_r1_r3_107 (d sl : Nat) (I : Nat → Nat → Int32) (A : Nat → Nat → Int32) (N : Nat → Nat → Int64) (V : Nat → Nat → Option Nat) (lt : Int64) (tw : Option Nat) (sp sr : Nat) (X : List AC) (a3 : Int32) (b0 : Int32) :
  R (d + 1) 10 (107, [some (.ref 101), some (.ref 1), some (.ref 3), some (.int a3), none, none], [.int b0], sl, (CH I A N V lt tw sp sr X)) =
    cond (decide (b0 = 0)) (some (130, [some (.ref 101), some (.ref 1), some (.ref 3), some (.int a3), some (.int b0), some (.int (I 1 9))], [.int (0 : Int32)], sl, (CH I A N V lt tw sp sr X))) (bC (C d 12 [.ref 1, .ref 3, .int a3] sl (CH I A N V lt tw sp sr X)) (fun vs sl h => R (d + 1) 10 (126, [some (.ref 101), some (.ref 1), some (.ref 3), some (.int a3), some (.int b0), some (.int (I 1 9))], vs ++ [], sl, h))) :=
  (R_gob [4, 19, 30, 45, 54, 69, 82, 87, 100, 107, 126, 143] 400 _ _ _).trans rfl
set_option maxRecDepth 100000 in
theorem k10_r101_r1_r3_100 (d sl : Nat) (I : Nat → Nat → Int32) (A : Nat → Nat → Int32) (N : Nat → Nat → Int64) (V : Nat → Nat → Option Nat) (lt : Int64) (tw : Option Nat) (sp sr : Nat) (X : List AC) (a3 : Int32) (b0 : Int32) :
  R (d + 1) 10 (100, [some (.ref 101), some (.ref 1), some (.ref 3), some (.int a3), none, none], [.int b0], sl, (CH I A N V lt tw sp sr X)) =
    R (d + 1) 10 (107, [some (.ref 101), some (.ref 1), some (.ref 3), some (.int a3), none, none], [.int b0], sl, (CH I A N V lt tw sp sr X)) :=
  (R_gob [4, 19, 30, 45, 54, 69, 82, 87, 100, 107, 126, 143] 400 _ _ _).trans rfl
set_option maxRecDepth 100000 in
theorem k10_r101_r1_r3_54 (d sl : Nat) (I : Nat → Nat → Int32) (A : Nat → Nat → Int32) (N : Nat → Nat → Int64) (V : Nat → Nat → Option Nat) (lt : Int64) (tw : Option Nat) (sp sr : Nat) (X : List AC) (a3 : Int32) (b0 : Int32) :
  R (d + 1) 10 (54, [some (.ref 101), some (.ref 1), some (.ref 3), some (.int a3), none, none], [.int b0], sl, (CH I A N V lt tw sp sr X)) =
    some (54, [some (.ref 101), some (.ref 1), some (.ref 3), some (.int a3), none, none], [.int b0], sl, (CH I A N V lt tw sp sr X)) :=
  (R_gob [4, 19, 30, 45, 54, 69, 82, 87, 100, 107, 126, 143] 400 _ _ _).trans rfl
set_option maxRecDepth 100000 in
theorem k10_r101_r1_r3_126 (d sl : Nat) (I : Nat → Nat → Int32) (A : Nat → Nat → Int32) (N : Nat → Nat → Int64) (V : Nat → Nat → Option Nat) (lt : Int64) (tw : Option Nat) (sp sr : Nat) (X : List AC) (a3 : Int32) (a4 : Int32) (a5 : Int32) (b0 : Int32) :
  R (d + 1) 10 (126, [some (.ref 101), some (.ref 1), some (.ref 3), some (.int a3), some (.int a4), some (.int a5)], [.int b0], sl, (CH I A N V lt tw sp sr X)) =
    cond (!decide (b0 = 0)) (bC (C d 14 [.ref 101, .int a3, .int a5, .int (I 1 9), .int (0 : Int32)] sl (CH I A N V lt tw sp sr X)) (fun vs sl h => R (d + 1) 10 (143, [some (.ref 101), some (.ref 1), some (.ref 3), some (.int a3), some (.int a4), some (.int a5)], vs ++ [], sl, h))) (some (130, [some (.ref 101), some (.ref 1), some (.ref 3), some (.int a3), some (.int a4), some (.int a5)], [.int (0 : Int32)], sl, (CH I A N V lt tw sp sr X))) :=
  (R_gob [4, 19, 30, 45, 54, 69, 82, 87, 100, 107, 126, 143] 400 _ _ _).trans rfl
set_option maxRecDepth 100000 in
theorem k10_r101_r1_r3_143 (d sl : Nat) (I : Nat → Nat → Int32) (A : Nat → Nat → Int32) (N : Nat → Nat → Int64) (V : Nat → Nat → Option Nat) (lt : Int64) (tw : Option Nat) (sp sr : Nat) (X : List AC) (a3 : Int32) (a4 : Int32) (a5 : Int32) :
  R (d + 1) 10 (143, [some (.ref 101), some (.ref 1), some (.ref 3), some (.int a3), some (.int a4), some (.int a5)], [], sl, (CH I A N V lt tw sp sr X)) =
    some (144, [some (.ref 101), some (.ref 1), some (.ref 3), some (.int a3), some (.int a4), some (.int a5)], [.int (1 : Int32)], sl, (CH I A N V lt tw sp sr X)) :=
  (R_gob [4, 19, 30, 45, 54, 69, 82, 87, 100, 107, 126, 143] 400 _ _ _).trans rfl
set_option maxRecDepth 100000 in
theorem k66_r12_0 (d sl : Nat) (I : Nat → Nat → Int32) (A : Nat → Nat → Int32) (N : Nat → Nat → Int64) (V : Nat → Nat → Option Nat) (lt : Int64) (tw : Option Nat) (sp sr : Nat) (X : List AC)  :
  R d 66 (0, [some (.ref 12), none, none], [], sl, (CH I A N V lt tw sp sr X)) =
    R d 66 (4, [some (.ref 12), some (.int (0 : Int32)), some (.int (0 : Int32))], [], sl, (CH I A N V lt tw sp sr X)) :=
  (R_gob [4] 400 _ _ _).trans rfl
set_option maxRecDepth 100000 in
theorem k66_r12_4 (d sl : Nat) (I : Nat → Nat → Int32) (A : Nat → Nat → Int32) (N : Nat → Nat → Int64) (V : Nat → Nat → Option Nat) (lt : Int64) (tw : Option Nat) (sp sr : Nat) (X : List AC) (a1 : Int32) (a2 : Int32) :
  R d 66 (4, [some (.ref 12), some (.int a1), some (.int a2)], [], sl, (CH I A N V lt tw sp sr X)) =
    cond (decide ((I 12 9) ≤ a2)) (some (28, [some (.ref 12), some (.int a1), some (.int a2)], [.int a1], sl, (CH I A N V lt tw sp sr X))) (cond (x_in a2 12) (R d 66 (4, [some (.ref 12), some (.int (a1 + ((A 19) a2.toNatClampNeg))), some (.int (a2 + (1 : Int32)))], [], sl, (CH I A N V lt tw sp sr X))) none) :=
  (R_gob [4] 400 _ _ _).trans rfl
set_option maxRecDepth 100000 in
theorem k16_r101_r12_0 (d sl : Nat) (I : Nat → Nat → Int32) (A : Nat → Nat → Int32) (N : Nat → Nat → Int64) (V : Nat → Nat → Option Nat) (lt : Int64) (tw : Option Nat) (sp sr : Nat) (X : List AC) (a2 : Int32) :
  R (d + 1) 16 (0, [some (.ref 101), some (.ref 12), some (.int a2), none, none], [], sl, (CH I A N V lt tw sp sr X)) =
    cond (x_in a2 40) (cond (!decide (((A 102) a2.toNatClampNeg) = (10 : Int32))) (cond (!decide (((A 102) a2.toNatClampNeg) = (50 : Int32))) (cond (x_in a2 40) (cond (x_in a2 40) (bC (C d 18 [.ref 12, .int ((A 102) a2.toNatClampNeg), .int ((A 103) a2.toNatClampNeg), .int ((A 104) a2.toNatClampNeg)] sl (CH I A N V lt tw sp sr X)) (fun vs sl h => R (d + 1) 16 (81, [some (.ref 101), some (.ref 12), some (.int a2), some (.int ((A 102) a2.toNatClampNeg)), some (.int (0 : Int32))], vs ++ [], sl, h))) none) none) (cond (x_in a2 40) (bC (C d 17 [.ref 12, .int ((A 103) a2.toNatClampNeg)] sl (CH I A N V lt tw sp sr X)) (fun vs sl h => R (d + 1) 16 (59, [some (.ref 101), some (.ref 12), some (.int a2), some (.int ((A 102) a2.toNatClampNeg)), some (.int (0 : Int32))], vs ++ [], sl, h))) none)) (cond (x_in a2 40) (cond (x_in a2 40) (cond (x_in a2 40) (bC (C d 71 [.ref 12, .int ((A 103) a2.toNatClampNeg), .int ((A 104) a2.toNatClampNeg), .int ((A 105) a2.toNatClampNeg)] sl (CH I A N V lt tw sp sr X)) (fun vs sl h => R (d + 1) 16 (38, [some (.ref 101), some (.ref 12), some (.int a2), some (.int ((A 102) a2.toNatClampNeg)), some (.int (0 : Int32))], vs ++ [], sl, h))) none) none) none)) none :=
  (R_gob [38, 59, 81] 400 _ _ _).trans rfl
set_option maxRecDepth 100000 in
theorem k16_r101_r12_81 (d sl : Nat) (I : Nat → Nat → Int32) (A : Nat → Nat → Int32) (N : Nat → Nat → Int64) (V : Nat → Nat → Option Nat) (lt : Int64) (tw : Option Nat) (sp sr : Nat) (X : List AC) (a2 : Int32) (a3 : Int32) (a4 : Int32) (b0 : Int32) :
  R (d + 1) 16 (81, [some (.ref 101), some (.ref 12), some (.int a2), some (.int a3), some (.int a4)], [.int b0], sl, (CH I A N V lt tw sp sr X)) =
    cond (!decide (b0 = 0)) (some (96, [some (.ref 101), some (.ref 12), some (.int a2), some (.int a3), some (.int b0)], [.int (a3 + b0)], sl, (CH I A N V lt tw sp sr X))) (some (96, [some (.ref 101), some (.ref 12), some (.int a2), some (.int a3), some (.int b0)], [.int (0 : Int32)], sl, (CH I A N V lt tw sp sr X))) :=
  (R_gob [38, 59, 81] 400 _ _ _).trans rfl
set_option maxRecDepth 100000 in
theorem k16_r101_r12_59 (d sl : Nat) (I : Nat → Nat → Int32) (A : Nat → Nat → Int32) (N : Nat → Nat → Int64) (V : Nat → Nat → Option Nat) (lt : Int64) (tw : Option Nat) (sp sr : Nat) (X : List AC) (a2 : Int32) (a3 : Int32) (a4 : Int32) (b0 : Int32) :
  R (d + 1) 16 (59, [some (.ref 101), some (.ref 12), some (.int a2), some (.int a3), some (.int a4)], [.int b0], sl, (CH I A N V lt tw sp sr X)) =
    cond (!decide (b0 = 0)) (some (96, [some (.ref 101), some (.ref 12), some (.int a2), some (.int a3), some (.int b0)], [.int (a3 + b0)], sl, (CH I A N V lt tw sp sr X))) (some (96, [some (.ref 101), some (.ref 12), some (.int a2), some (.int a3), some (.int b0)], [.int (0 : Int32)], sl, (CH I A N V lt tw sp sr X))) :=
  (R_gob [38, 59, 81] 400 _ _ _).trans rfl
set_option maxRecDepth 100000 in
theorem k16_r101_r12_38 (d sl : Nat) (I : Nat → Nat → Int32) (A : Nat → Nat → Int32) (N : Nat → Nat → Int64) (V : Nat → Nat → Option Nat) (lt : Int64) (tw : Option Nat) (sp sr : Nat) (X : List AC) (a2 : Int32) (a3 : Int32) (a4 : Int32) (b0 : Int32) :
  R (d + 1) 16 (38, [some (.ref 101), some (.ref 12), some (.int a2), some (.int a3), some (.int a4)], [.int b0], sl, (CH I A N V lt tw sp sr X)) =
    cond (!decide (b0 = 0)) (some (96, [some (.ref 101), some (.ref 12), some (.int a2), some (.int a3), some (.int b0)], [.int (a3 + b0)], sl, (CH I A N V lt tw sp sr X))) (some (96, [some (.ref 101), some (.ref 12), some (.int a2), some (.int a3), some (.int b0)], [.int (0 : Int32)], sl, (CH I A N V lt tw sp sr X))) :=
  (R_gob [38, 59, 81] 400 _ _ _).trans rfl
set_option maxRecDepth 100000 in
theorem k97_r1_0 (d sl : Nat) (I : Nat → Nat → Int32) (A : Nat → Nat → Int32) (N : Nat → Nat → Int64) (V : Nat → Nat → Option Nat) (lt : Int64) (tw : Option Nat) (sp sr : Nat) (X : List AC) (a1 : Int32) :
  R d 97 (0, [some (.ref 1), some (.int a1)], [], sl, (CH I A N V lt tw sp sr X)) =
    some (14, [some (.ref 1), some (.int a1)], [.int (0 : Int32)], sl, (CH (up1 I 1 (up1 (up1 (I 1) 10 a1) 11 (I 1 5))) A N V lt tw sp sr X)) :=
  (R_gob [] 400 _ _ _).trans rfl
set_option maxRecDepth 100000 in
theorem k38_r146_v0_0 (d sl : Nat) (I : Nat → Nat → Int32) (A : Nat → Nat → Int32) (N : Nat → Nat → Int64) (V : Nat → Nat → Option Nat) (lt : Int64) (tw : Option Nat) (a1 : Int32) (x0_3 : Int32) :
  R (d + 1) 38 (0, [some (.ref 146), some (.int a1), none], [], sl, (CH I A N V lt tw 108 112 [.inr (5, [.ref 1, .ref 3, .ref 112, .int x0_3])])) =
    bC (C d 39 [.ref 146, .int a1] sl (CH I A N V lt tw 108 112 [.inr (5, [.ref 1, .ref 3, .ref 112, .int x0_3])])) (fun vs sl h => R (d + 1) 38 (5, [some (.ref 146), some (.int a1), none], vs ++ [], sl, h)) :=
  (R_gob [5, 12, 38, 43, 60] 400 _ _ _).trans rfl
set_option maxRecDepth 100000 in
theorem k38_r146_v0_5 (d sl : Nat) (I : Nat → Nat → Int32) (A : Nat → Nat → Int32) (N : Nat → Nat → Int64) (V : Nat → Nat → Option Nat) (lt : Int64) (tw : Option Nat) (a1 : Int32) (b0 : Int32) (x0_3 : Int32) :
  R (d + 1) 38 (5, [some (.ref 146), some (.int a1), none], [.int b0], sl, (CH I A N V lt tw 108 112 [.inr (5, [.ref 1, .ref 3, .ref 112, .int x0_3])])) =
    cond (!decide (b0 = 0)) (R (d + 1) 38 (12, [some (.ref 146), some (.int a1), some (.int (0 : Int32))], [], sl, (CH I A N V lt tw 108 112 [.inr (5, [.ref 1, .ref 3, .ref 112, .int x0_3])]))) (some (9, [some (.ref 146), some (.int a1), none], [.int (0 : Int32)], sl, (CH I A N V lt tw 108 112 [.inr (5, [.ref 1, .ref 3, .ref 112, .int x0_3])]))) :=
  (R_gob [5, 12, 38, 43, 60] 400 _ _ _).trans rfl
set_option maxRecDepth 100000 in
theorem k38_r146_v0_12 (d sl : Nat) (I : Nat → Nat → Int32) (A : Nat → Nat → Int32) (N : Nat → Nat → Int64) (V : Nat → Nat → Option Nat) (lt : Int64) (a1 : Int32) (a2 : Int32) (x0_3 : Int32) :
  R (d + 1) 38 (12, [some (.ref 146), some (.int a1), some (.int a2)], [], sl, (CH I A N V lt none 108 112 [.inr (5, [.ref 1, .ref 3, .ref 112, .int x0_3])])) =
    cond (decide ((20 : Int32) ≤ a2)) (some (67, [some (.ref 146), some (.int a1), some (.int a2)], [.int (1 : Int32)], sl, (CH I A N V lt none 108 112 [.inr (5, [.ref 1, .ref 3, .ref 112, .int x0_3])]))) (some (67, [some (.ref 146), some (.int a1), some (.int a2)], [.int (1 : Int32)], sl, (CH I A N V lt none 108 112 [.inr (5, [.ref 1, .ref 3, .ref 112, .int x0_3])]))) :=
  (R_gob [5, 12, 38, 43, 60] 400 _ _ _).trans rfl
set_option maxRecDepth 100000 in
theorem k38_r146_v0_12_1 (d sl : Nat) (I : Nat → Nat → Int32) (A : Nat → Nat → Int32) (N : Nat → Nat → Int64) (V : Nat → Nat → Option Nat) (lt : Int64) (tw : Nat) (a1 : Int32) (a2 : Int32) (x0_3 : Int32) :
  R (d + 1) 38 (12, [some (.ref 146), some (.int a1), some (.int a2)], [], sl, (CH I A N V lt (some tw) 108 112 [.inr (5, [.ref 1, .ref 3, .ref 112, .int x0_3])])) =
    cond (decide ((20 : Int32) ≤ a2)) (some (67, [some (.ref 146), some (.int a1), some (.int a2)], [.int (1 : Int32)], sl, (CH I A N V lt (some tw) 108 112 [.inr (5, [.ref 1, .ref 3, .ref 112, .int x0_3])]))) (cond (x_isw tw && x_isw 1000010) (cond (!(Nat.beq tw 1000010)) (some (67, [some (.ref 146), some (.int a1), some (.int a2)], [.int (1 : Int32)], sl, (CH I A N V lt (some tw) 108 112 [.inr (5, [.ref 1, .ref 3, .ref 112, .int x0_3])]))) (bC (C d 90 [.ref 1] sl (CH I A N V lt (some tw) 108 112 [.inr (5, [.ref 1, .ref 3, .ref 112, .int x0_3])])) (fun vs sl h => R (d + 1) 38 (38, [some (.ref 146), some (.int a1), some (.int a2)], vs ++ [], sl, h)))) none) :=
  (R_gob [5, 12, 38, 43, 60] 400 _ _ _).trans rfl
set_option maxRecDepth 100000 in
theorem k38_r146_v0_38 (d sl : Nat) (I : Nat → Nat → Int32) (A : Nat → Nat → Int32) (N : Nat → Nat → Int64) (V : Nat → Nat → Option Nat) (lt : Int64) (tw : Option Nat) (a1 : Int32) (a2 : Int32) (x0_3 : Int32) :
  R (d + 1) 38 (38, [some (.ref 146), some (.int a1), some (.int a2)], [], sl, (CH I A N V lt tw 108 112 [.inr (5, [.ref 1, .ref 3, .ref 112, .int x0_3])])) =
    bC (C d 39 [.ref 146, .int a1] sl (CH I A N V lt tw 108 112 [.inr (5, [.ref 1, .ref 3, .ref 112, .int x0_3])])) (fun vs sl h => R (d + 1) 38 (43, [some (.ref 146), some (.int a1), some (.int a2)], vs ++ [], sl, h)) :=
  (R_gob [5, 12, 38, 43, 60] 400 _ _ _).trans rfl
set_option maxRecDepth 100000 in
theorem k38_r146_v0_43 (d sl : Nat) (I : Nat → Nat → Int32) (A : Nat → Nat → Int32) (N : Nat → Nat → Int64) (V : Nat → Nat → Option Nat) (lt : Int64) (tw : Option Nat) (a1 : Int32) (a2 : Int32) (b0 : Int32) (x0_3 : Int32) :
  R (d + 1) 38 (43, [some (.ref 146), some (.int a1), some (.int a2)], [.int b0], sl, (CH I A N V lt tw 108 112 [.inr (5, [.ref 1, .ref 3, .ref 112, .int x0_3])])) =
    cond (!decide (b0 = 0)) (bC (C d 31 [.ref 112, .ref 1000010, .int (0 : Int32), .int (0 : Int32)] sl (CH I A N V lt tw 108 112 [.inr (5, [.ref 1, .ref 3, .ref 112, .int x0_3])])) (fun vs sl h => R (d + 1) 38 (60, [some (.ref 146), some (.int a1), some (.int a2)], vs ++ [], sl, h))) (some (47, [some (.ref 146), some (.int a1), some (.int a2)], [.int (0 : Int32)], sl, (CH I A N V lt tw 108 112 [.inr (5, [.ref 1, .ref 3, .ref 112, .int x0_3])]))) :=
  (R_gob [5, 12, 38, 43, 60] 400 _ _ _).trans rfl
set_option maxRecDepth 100000 in
theorem k38_r146_v0_60 (d sl : Nat) (I : Nat → Nat → Int32) (A : Nat → Nat → Int32) (N : Nat → Nat → Int64) (V : Nat → Nat → Option Nat) (lt : Int64) (tw : Option Nat) (a1 : Int32) (a2 : Int32) (x0_3 : Int32) :
  R (d + 1) 38 (60, [some (.ref 146), some (.int a1), some (.int a2)], [], sl, (CH I A N V lt tw 108 112 [.inr (5, [.ref 1, .ref 3, .ref 112, .int x0_3])])) =
    R (d + 1) 38 (12, [some (.ref 146), some (.int a1), some (.int (a2 + (1 : Int32)))], [], sl, (CH I A N V lt tw 108 112 [.inr (5, [.ref 1, .ref 3, .ref 112, .int x0_3])])) :=
  (R_gob [5, 12, 38, 43, 60] 400 _ _ _).trans rfl
set_option maxRecDepth 100000 in
theorem k38_r146_v1_0 (d sl : Nat) (I : Nat → Nat → Int32) (A : Nat → Nat → Int32) (N : Nat → Nat → Int64) (V : Nat → Nat → Option Nat) (lt : Int64) (tw : Option Nat) (a1 : Int32) (x0_3 : Int32) :
  R (d + 1) 38 (0, [some (.ref 146), some (.int a1), none], [], sl, (CH I A N V lt tw 112 108 [.inr (5, [.ref 1, .ref 3, .ref 108, .int x0_3])])) =
    bC (C d 39 [.ref 146, .int a1] sl (CH I A N V lt tw 112 108 [.inr (5, [.ref 1, .ref 3, .ref 108, .int x0_3])])) (fun vs sl h => R (d + 1) 38 (5, [some (.ref 146), some (.int a1), none], vs ++ [], sl, h)) :=
  (R_gob [5, 12, 38, 43, 60] 400 _ _ _).trans rfl
set_option maxRecDepth 100000 in
theorem k38_r146_v1_5 (d sl : Nat) (I : Nat → Nat → Int32) (A : Nat → Nat → Int32) (N : Nat → Nat → Int64) (V : Nat → Nat → Option Nat) (lt : Int64) (tw : Option Nat) (a1 : Int32) (b0 : Int32) (x0_3 : Int32) :
  R (d + 1) 38 (5, [some (.ref 146), some (.int a1), none], [.int b0], sl, (CH I A N V lt tw 112 108 [.inr (5, [.ref 1, .ref 3, .ref 108, .int x0_3])])) =
    cond (!decide (b0 = 0)) (R (d + 1) 38 (12, [some (.ref 146), some (.int a1), some (.int (0 : Int32))], [], sl, (CH I A N V lt tw 112 108 [.inr (5, [.ref 1, .ref 3, .ref 108, .int x0_3])]))) (some (9, [some (.ref 146), some (.int a1), none], [.int (0 : Int32)], sl, (CH I A N V lt tw 112 108 [.inr (5, [.ref 1, .ref 3, .ref 108, .int x0_3])]))) :=
  (R_gob [5, 12, 38, 43, 60] 400 _ _ _).trans rfl
set_option maxRecDepth 100000 in
theorem k38_r146_v1_12 (d sl : Nat) (I : Nat → Nat → Int32) (A : Nat → Nat → Int32) (N : Nat → Nat → Int64) (V : Nat → Nat → Option Nat) (lt : Int64) (a1 : Int32) (a2 : Int32) (x0_3 : Int32) :
  R (d + 1) 38 (12, [some (.ref 146), some (.int a1), some (.int a2)], [], sl, (CH I A N V lt none 112 108 [.inr (5, [.ref 1, .ref 3, .ref 108, .int x0_3])])) =
    cond (decide ((20 : Int32) ≤ a2)) (some (67, [some (.ref 146), some (.int a1), some (.int a2)], [.int (1 : Int32)], sl, (CH I A N V lt none 112 108 [.inr (5, [.ref 1, .ref 3, .ref 108, .int x0_3])]))) (some (67, [some (.ref 146), some (.int a1), some (.int a2)], [.int (1 : Int32)], sl, (CH I A N V lt none 112 108 [.inr (5, [.ref 1, .ref 3, .ref 108, .int x0_3])]))) :=
  (R_gob [5, 12, 38, 43, 60] 400 _ _ _).trans rfl
set_option maxRecDepth 100000 in
theorem k38_r146_v1_12_1 (d sl : Nat) (I : Nat → Nat → Int32) (A : Nat → Nat → Int32) (N : Nat → Nat → Int64) (V : Nat → Nat → Option Nat) (lt : Int64) (tw : Nat) (a1 : Int32) (a2 : Int32) (x0_3 : Int32) :
  R (d + 1) 38 (12, [some (.ref 146), some (.int a1), some (.int a2)], [], sl, (CH I A N V lt (some tw) 112 108 [.inr (5, [.ref 1, .ref 3, .ref 108, .int x0_3])])) =
    cond (decide ((20 : Int32) ≤ a2)) (some (67, [some (.ref 146), some (.int a1), some (.int a2)], [.int (1 : Int32)], sl, (CH I A N V lt (some tw) 112 108 [.inr (5, [.ref 1, .ref 3, .ref 108, .int x0_3])]))) (cond (x_isw tw && x_isw 1000010) (cond (!(Nat.beq tw 1000010)) (some (67, [some (.ref 146), some (.int a1), some (.int a2)], [.int (1 : Int32)], sl, (CH I A N V lt (some tw) 112 108 [.inr (5, [.ref 1, .ref 3, .ref 108, .int x0_3])]))) (bC (C d 90 [.ref 1] sl (CH I A N V lt (some tw) 112 108 [.inr (5, [.ref 1, .ref 3, .ref 108, .int x0_3])])) (fun vs sl h => R (d + 1) 38 (38, [some (.ref 146), some (.int a1), some (.int a2)], vs ++ [], sl, h)))) none) :=
  (R_gob [5, 12, 38, 43, 60] 400 _ _ _).trans rfl
set_option maxRecDepth 100000 in
theorem k38_r146_v1_38 (d sl : Nat) (I : Nat → Nat → Int32) (A : Nat → Nat → Int32) (N : Nat → Nat → Int64) (V : Nat → Nat → Option Nat) (lt : Int64) (tw : Option Nat) (a1 : Int32) (a2 : Int32) (x0_3 : Int32) :
  R (d + 1) 38 (38, [some (.ref 146), some (.int a1), some (.int a2)], [], sl, (CH I A N V lt tw 112 108 [.inr (5, [.ref 1, .ref 3, .ref 108, .int x0_3])])) =
    bC (C d 39 [.ref 146, .int a1] sl (CH I A N V lt tw 112 108 [.inr (5, [.ref 1, .ref 3, .ref 108, .int x0_3])])) (fun vs sl h => R (d + 1) 38 (43, [some (.ref 146), some (.int a1), some (.int a2)], vs ++ [], sl, h)) :=
  (R_gob [5, 12, 38, 43, 60] 400 _ _ _).trans rfl
set_option maxRecDepth 100000 in
theorem k38_r146_v1_43 (d sl : Nat) (I : Nat → Nat → Int32) (A : Nat → Nat → Int32) (N : Nat → Nat → Int64) (V : Nat → Nat → Option Nat) (lt : Int64) (tw : Option Nat) (a1 : Int32) (a2 : Int32) (b0 : Int32) (x0_3 : Int32) :
  R (d + 1) 38 (43, [some (.ref 146), some (.int a1), some (.int a2)], [.int b0], sl, (CH I A N V lt tw 112 108 [.inr (5, [.ref 1, .ref 3, .ref 108, .int x0_3])])) =
    cond (!decide (b0 = 0)) (bC (C d 31 [.ref 108, .ref 1000010, .int (0 : Int32), .int (0 : Int32)] sl (CH I A N V lt tw 112 108 [.inr (5, [.ref 1, .ref 3, .ref 108, .int x0_3])])) (fun vs sl h => R (d + 1) 38 (60, [some (.ref 146), some (.int a1), some (.int a2)], vs ++ [], sl, h))) (some (47, [some (.ref 146), some (.int a1), some (.int a2)], [.int (0 : Int32)], sl, (CH I A N V lt tw 112 108 [.inr (5, [.ref 1, .ref 3, .ref 108, .int x0_3])]))) :=
  (R_gob [5, 12, 38, 43, 60] 400 _ _ _).trans rfl
set_option maxRecDepth 100000 in
theorem k38_r146_v1_60 (d sl : Nat) (I : Nat → Nat → Int32) (A : Nat → Nat → Int32) (N : Nat → Nat → Int64) (V : Nat → Nat → Option Nat) (lt : Int64) (tw : Option Nat) (a1 : Int32) (a2 : Int32) (x0_3 : Int32) :
  R (d + 1) 38 (60, [some (.ref 146), some (.int a1), some (.int a2)], [], sl, (CH I A N V lt tw 112 108 [.inr (5, [.ref 1, .ref 3, .ref 108, .int x0_3])])) =
    R (d + 1) 38 (12, [some (.ref 146), some (.int a1), some (.int (a2 + (1 : Int32)))], [], sl, (CH I A N V lt tw 112 108 [.inr (5, [.ref 1, .ref 3, .ref 108, .int x0_3])])) :=
  (R_gob [5, 12, 38, 43, 60] 400 _ _ _).trans rfl
set_option maxRecDepth 100000 in
theorem k31_r112_r1000009_0 (d sl : Nat) (I : Nat → Nat → Int32) (A : Nat → Nat → Int32) (N : Nat → Nat → Int64) (V : Nat → Nat → Option Nat) (lt : Int64) (tw : Option Nat) (sp sr : Nat) (X : List AC) (a2 : Int32) (a3 : Int32) :
  R d 31 (0, [some (.ref 112), some (.ref 1000009), some (.int a2), some (.int a3)], [], sl, (CH I A N V lt tw sp sr X)) =
    cond (decide ((40 : Int32) ≤ (I 112 3))) (some (49, [some (.ref 112), some (.ref 1000009), some (.int a2), some (.int a3)], [], sl, (CH I A N V lt tw sp sr X))) (cond (x_in (I 112 3) 40) (cond (x_in (I 112 3) 40) (cond (x_in (I 112 3) 40) (some (49, [some (.ref 112), some (.ref 1000009), some (.int a2), some (.int a3)], [], sl, (CH (up1 I 112 (up1 (I 112) 3 ((I 112 3) + (1 : Int32)))) (up1 (up1 A 114 (upd (A 114) (I 112 3).toNatClampNeg a2)) 115 (upd (A 115) (I 112 3).toNatClampNeg a3)) N (up1 V 113 (va_up (V 113) (I 112 3).toNatClampNeg (some 1000009))) lt tw sp sr X))) none) none) none) :=
  (R_gob [] 400 _ _ _).trans rfl
set_option maxRecDepth 100000 in
theorem k31_r108_r1000009_0 (d sl : Nat) (I : Nat → Nat → Int32) (A : Nat → Nat → Int32) (N : Nat → Nat → Int64) (V : Nat → Nat → Option Nat) (lt : Int64) (tw : Option Nat) (sp sr : Nat) (X : List AC) (a2 : Int32) (a3 : Int32) :
  R d 31 (0, [some (.ref 108), some (.ref 1000009), some (.int a2), some (.int a3)], [], sl, (CH I A N V lt tw sp sr X)) =
    cond (decide ((40 : Int32) ≤ (I 108 3))) (some (49, [some (.ref 108), some (.ref 1000009), some (.int a2), some (.int a3)], [], sl, (CH I A N V lt tw sp sr X))) (cond (x_in (I 108 3) 40) (cond (x_in (I 108 3) 40) (cond (x_in (I 108 3) 40) (some (49, [some (.ref 108), some (.ref 1000009), some (.int a2), some (.int a3)], [], sl, (CH (up1 I 108 (up1 (I 108) 3 ((I 108 3) + (1 : Int32)))) (up1 (up1 A 110 (upd (A 110) (I 108 3).toNatClampNeg a2)) 111 (upd (A 111) (I 108 3).toNatClampNeg a3)) N (up1 V 109 (va_up (V 109) (I 108 3).toNatClampNeg (some 1000009))) lt tw sp sr X))) none) none) none) :=
  (R_gob [] 400 _ _ _).trans rfl
set_option maxRecDepth 100000 in
theorem k34_r108_r3_0 (d sl : Nat) (I : Nat → Nat → Int32) (A : Nat → Nat → Int32) (N : Nat → Nat → Int64) (V : Nat → Nat → Option Nat) (lt : Int64) (tw : Option Nat) (sp sr : Nat) (X : List AC) (a1 : Int32) (a3 : Int32) :
  R (d + 1) 34 (0, [some (.ref 108), some (.int a1), some (.ref 3), some (.int a3), none], [], sl, (CH I A N V lt tw sp sr X)) =
    cond (x_in a1 40) (R (d + 1) 34 (6, [some (.ref 108), some (.int a1), some (.ref 3), some (.int a3), none], [x_rf ((V 109) a1.toNatClampNeg)], sl, (CH I A N V lt tw sp sr X))) none :=
  (R_gob [6, 24, 77, 91, 97, 123, 135, 142, 146, 158, 165] 400 _ _ _).trans rfl
set_option maxRecDepth 100000 in
theorem k34_r108_r3_6 (d sl : Nat) (I : Nat → Nat → Int32) (A : Nat → Nat → Int32) (N : Nat → Nat → Int64) (V : Nat → Nat → Option Nat) (lt : Int64) (tw : Option Nat) (sp sr : Nat) (X : List AC) (a1 : Int32) (a3 : Int32) :
  R (d + 1) 34 (6, [some (.ref 108), some (.int a1), some (.ref 3), some (.int a3), none], [.null], sl, (CH I A N V lt tw sp sr X)) =
    some (14, [some (.ref 108), some (.int a1), some (.ref 3), some (.int a3), some (.null)], [.int (0 : Int32)], sl, (CH I A N V lt tw sp sr X)) :=
  (R_gob [6, 24, 77, 91, 97, 123, 135, 142, 146, 158, 165] 400 _ _ _).trans rfl
set_option maxRecDepth 100000 in
theorem k34_r108_r3_6_1 (d sl : Nat) (I : Nat → Nat → Int32) (A : Nat → Nat → Int32) (N : Nat → Nat → Int64) (V : Nat → Nat → Option Nat) (lt : Int64) (tw : Option Nat) (sp sr : Nat) (X : List AC) (a1 : Int32) (a3 : Int32) (b0 : Nat) :
  R (d + 1) 34 (6, [some (.ref 108), some (.int a1), some (.ref 3), some (.int a3), none], [.ref b0], sl, (CH I A N V lt tw sp sr X)) =
    cond (x_isw b0 && Nat.ble (x_cat [.ref 1000101]) 8) (cond (x_in (Int32.ofNat (b0 - 1000000)) 21) (R (d + 1) 34 (24, [some (.ref 108), some (.int a1), some (.ref 3), some (.int a3), some (.ref b0)], [.int (x_swm (Int32.ofNat (b0 - 1000000)).toNatClampNeg)], sl, (CH I A N V lt tw sp sr X))) none) none :=
  (R_gob [6, 24, 77, 91, 97, 123, 135, 142, 146, 158, 165] 400 _ _ _).trans rfl
set_option maxRecDepth 100000 in
theorem k34_r108_r3_24_out (d sl : Nat) (I : Nat → Nat → Int32) (A : Nat → Nat → Int32) (N : Nat → Nat → Int64) (V : Nat → Nat → Option Nat) (lt : Int64) (tw : Option Nat) (sp sr : Nat) (X : List AC) (a1 : Int32) (a3 : Int32) (a4 : Nat) (x : Int32) (hx : (decide (x.toInt < (1)) || decide ((8) < x.toInt)) = true) :
  R (d + 1) 34 (24, [some (.ref 108), some (.int a1), some (.ref 3), some (.int a3), some (.ref a4)], .int x :: [], sl, (CH I A N V lt tw sp sr X)) = R (d + 1) 34 (166, [some (.ref 108), some (.int a1), some (.ref 3), some (.int a3), some (.ref a4)], [], sl, (CH I A N V lt tw sp sr X)) :=
  (R_tsw (show xk 34 24 = (.tableswitch 142 1 8 #[48, 62, 68, 88, 100, 112, 123, 135], 72, [], 0) by decide +kernel)).trans (congrArg (fun q => R (d + 1) 34 (q, [some (.ref 108), some (.int a1), some (.ref 3), some (.int a3), some (.ref a4)], [], sl, (CH I A N V lt tw sp sr X))) ((x_tsw_out hx).trans (by decide +kernel)))
set_option maxRecDepth 100000 in
theorem k34_r108_r3_24_c1 (d sl : Nat) (I : Nat → Nat → Int32) (A : Nat → Nat → Int32) (N : Nat → Nat → Int64) (V : Nat → Nat → Option Nat) (lt : Int64) (tw : Option Nat) (sp sr : Nat) (X : List AC) (a1 : Int32) (a3 : Int32) (a4 : Nat)  :
  R (d + 1) 34 (24, [some (.ref 108), some (.int a1), some (.ref 3), some (.int a3), some (.ref a4)], .int (1 : Int32) :: [], sl, (CH I A N V lt tw sp sr X)) = R (d + 1) 34 (72, [some (.ref 108), some (.int a1), some (.ref 3), some (.int a3), some (.ref a4)], [], sl, (CH I A N V lt tw sp sr X)) :=
  (R_tsw (show xk 34 24 = (.tableswitch 142 1 8 #[48, 62, 68, 88, 100, 112, 123, 135], 72, [], 0) by decide +kernel)).trans (congrArg (fun q => R (d + 1) 34 (q, [some (.ref 108), some (.int a1), some (.ref 3), some (.int a3), some (.ref a4)], [], sl, (CH I A N V lt tw sp sr X))) (by decide +kernel))
set_option maxRecDepth 100000 in
theorem k34_r108_r3_24_c2 (d sl : Nat) (I : Nat → Nat → Int32) (A : Nat → Nat → Int32) (N : Nat → Nat → Int64) (V : Nat → Nat → Option Nat) (lt : Int64) (tw : Option Nat) (sp sr : Nat) (X : List AC) (a1 : Int32) (a3 : Int32) (a4 : Nat)  :
  R (d + 1) 34 (24, [some (.ref 108), some (.int a1), some (.ref 3), some (.int a3), some (.ref a4)], .int (2 : Int32) :: [], sl, (CH I A N V lt tw sp sr X)) = R (d + 1) 34 (86, [some (.ref 108), some (.int a1), some (.ref 3), some (.int a3), some (.ref a4)], [], sl, (CH I A N V lt tw sp sr X)) :=
  (R_tsw (show xk 34 24 = (.tableswitch 142 1 8 #[48, 62, 68, 88, 100, 112, 123, 135], 72, [], 0) by decide +kernel)).trans (congrArg (fun q => R (d + 1) 34 (q, [some (.ref 108), some (.int a1), some (.ref 3), some (.int a3), some (.ref a4)], [], sl, (CH I A N V lt tw sp sr X))) (by decide +kernel))
set_option maxRecDepth 100000 in
theorem k34_r108_r3_24_c3 (d sl : Nat) (I : Nat → Nat → Int32) (A : Nat → Nat → Int32) (N : Nat → Nat → Int64) (V : Nat → Nat → Option Nat) (lt : Int64) (tw : Option Nat) (sp sr : Nat) (X : List AC) (a1 : Int32) (a3 : Int32) (a4 : Nat)  :
  R (d + 1) 34 (24, [some (.ref 108), some (.int a1), some (.ref 3), some (.int a3), some (.ref a4)], .int (3 : Int32) :: [], sl, (CH I A N V lt tw sp sr X)) = R (d + 1) 34 (92, [some (.ref 108), some (.int a1), some (.ref 3), some (.int a3), some (.ref a4)], [], sl, (CH I A N V lt tw sp sr X)) :=
  (R_tsw (show xk 34 24 = (.tableswitch 142 1 8 #[48, 62, 68, 88, 100, 112, 123, 135], 72, [], 0) by decide +kernel)).trans (congrArg (fun q => R (d + 1) 34 (q, [some (.ref 108), some (.int a1), some (.ref 3), some (.int a3), some (.ref a4)], [], sl, (CH I A N V lt tw sp sr X))) (by decide +kernel))
set_option maxRecDepth 100000 in
theorem k34_r108_r3_24_c4 (d sl : Nat) (I : Nat → Nat → Int32) (A : Nat → Nat → Int32) (N : Nat → Nat → Int64) (V : Nat → Nat → Option Nat) (lt : Int64) (tw : Option Nat) (sp sr : Nat) (X : List AC) (a1 : Int32) (a3 : Int32) (a4 : Nat)  :
  R (d + 1) 34 (24, [some (.ref 108), some (.int a1), some (.ref 3), some (.int a3), some (.ref a4)], .int (4 : Int32) :: [], sl, (CH I A N V lt tw sp sr X)) = R (d + 1) 34 (112, [some (.ref 108), some (.int a1), some (.ref 3), some (.int a3), some (.ref a4)], [], sl, (CH I A N V lt tw sp sr X)) :=
  (R_tsw (show xk 34 24 = (.tableswitch 142 1 8 #[48, 62, 68, 88, 100, 112, 123, 135], 72, [], 0) by decide +kernel)).trans (congrArg (fun q => R (d + 1) 34 (q, [some (.ref 108), some (.int a1), some (.ref 3), some (.int a3), some (.ref a4)], [], sl, (CH I A N V lt tw sp sr X))) (by decide +kernel))
set_option maxRecDepth 100000 in
theorem k34_r108_r3_24_c5 (d sl : Nat) (I : Nat → Nat → Int32) (A : Nat → Nat → Int32) (N : Nat → Nat → Int64) (V : Nat → Nat → Option Nat) (lt : Int64) (tw : Option Nat) (sp sr : Nat) (X : List AC) (a1 : Int32) (a3 : Int32) (a4 : Nat)  :
  R (d + 1) 34 (24, [some (.ref 108), some (.int a1), some (.ref 3), some (.int a3), some (.ref a4)], .int (5 : Int32) :: [], sl, (CH I A N V lt tw sp sr X)) = R (d + 1) 34 (124, [some (.ref 108), some (.int a1), some (.ref 3), some (.int a3), some (.ref a4)], [], sl, (CH I A N V lt tw sp sr X)) :=
  (R_tsw (show xk 34 24 = (.tableswitch 142 1 8 #[48, 62, 68, 88, 100, 112, 123, 135], 72, [], 0) by decide +kernel)).trans (congrArg (fun q => R (d + 1) 34 (q, [some (.ref 108), some (.int a1), some (.ref 3), some (.int a3), some (.ref a4)], [], sl, (CH I A N V lt tw sp sr X))) (by decide +kernel))
set_option maxRecDepth 100000 in
theorem k34_r108_r3_24_c6 (d sl : Nat) (I : Nat → Nat → Int32) (A : Nat → Nat → Int32) (N : Nat → Nat → Int64) (V : Nat → Nat → Option Nat) (lt : Int64) (tw : Option Nat) (sp sr : Nat) (X : List AC) (a1 : Int32) (a3 : Int32) (a4 : Nat)  :
  R (d + 1) 34 (24, [some (.ref 108), some (.int a1), some (.ref 3), some (.int a3), some (.ref a4)], .int (6 : Int32) :: [], sl, (CH I A N V lt tw sp sr X)) = R (d + 1) 34 (136, [some (.ref 108), some (.int a1), some (.ref 3), some (.int a3), some (.ref a4)], [], sl, (CH I A N V lt tw sp sr X)) :=
  (R_tsw (show xk 34 24 = (.tableswitch 142 1 8 #[48, 62, 68, 88, 100, 112, 123, 135], 72, [], 0) by decide +kernel)).trans (congrArg (fun q => R (d + 1) 34 (q, [some (.ref 108), some (.int a1), some (.ref 3), some (.int a3), some (.ref a4)], [], sl, (CH I A N V lt tw sp sr X))) (by decide +kernel))
set_option maxRecDepth 100000 in
theorem k34_r108_r3_24_c7 (d sl : Nat) (I : Nat → Nat → Int32) (A : Nat → Nat → Int32) (N : Nat → Nat → Int64) (V : Nat → Nat → Option Nat) (lt : Int64) (tw : Option Nat) (sp sr : Nat) (X : List AC) (a1 : Int32) (a3 : Int32) (a4 : Nat)  :
  R (d + 1) 34 (24, [some (.ref 108), some (.int a1), some (.ref 3), some (.int a3), some (.ref a4)], .int (7 : Int32) :: [], sl, (CH I A N V lt tw sp sr X)) = R (d + 1) 34 (147, [some (.ref 108), some (.int a1), some (.ref 3), some (.int a3), some (.ref a4)], [], sl, (CH I A N V lt tw sp sr X)) :=
  (R_tsw (show xk 34 24 = (.tableswitch 142 1 8 #[48, 62, 68, 88, 100, 112, 123, 135], 72, [], 0) by decide +kernel)).trans (congrArg (fun q => R (d + 1) 34 (q, [some (.ref 108), some (.int a1), some (.ref 3), some (.int a3), some (.ref a4)], [], sl, (CH I A N V lt tw sp sr X))) (by decide +kernel))
set_option maxRecDepth 100000 in
theorem k34_r108_r3_24_c8 (d sl : Nat) (I : Nat → Nat → Int32) (A : Nat → Nat → Int32) (N : Nat → Nat → Int64) (V : Nat → Nat → Option Nat) (lt : Int64) (tw : Option Nat) (sp sr : Nat) (X : List AC) (a1 : Int32) (a3 : Int32) (a4 : Nat)  :
  R (d + 1) 34 (24, [some (.ref 108), some (.int a1), some (.ref 3), some (.int a3), some (.ref a4)], .int (8 : Int32) :: [], sl, (CH I A N V lt tw sp sr X)) = R (d + 1) 34 (159, [some (.ref 108), some (.int a1), some (.ref 3), some (.int a3), some (.ref a4)], [], sl, (CH I A N V lt tw sp sr X)) :=
  (R_tsw (show xk 34 24 = (.tableswitch 142 1 8 #[48, 62, 68, 88, 100, 112, 123, 135], 72, [], 0) by decide +kernel)).trans (congrArg (fun q => R (d + 1) 34 (q, [some (.ref 108), some (.int a1), some (.ref 3), some (.int a3), some (.ref a4)], [], sl, (CH I A N V lt tw sp sr X))) (by decide +kernel))
set_option maxRecDepth 100000 in
theorem k34_r108_r3_166 (d sl : Nat) (I : Nat → Nat → Int32) (A : Nat → Nat → Int32) (N : Nat → Nat → Int64) (V : Nat → Nat → Option Nat) (lt : Int64) (tw : Option Nat) (sp sr : Nat) (X : List AC) (a1 : Int32) (a3 : Int32) (a4 : Nat) :
  R (d + 1) 34 (166, [some (.ref 108), some (.int a1), some (.ref 3), some (.int a3), some (.ref a4)], [], sl, (CH I A N V lt tw sp sr X)) =
    some (167, [some (.ref 108), some (.int a1), some (.ref 3), some (.int a3), some (.ref a4)], [.int (0 : Int32)], sl, (CH I A N V lt tw sp sr X)) :=
  (R_gob [6, 24, 72, 77, 86, 91, 92, 97, 112, 123, 124, 135, 136, 142, 146, 147, 158, 159, 165, 166] 400 _ _ _).trans rfl
set_option maxRecDepth 100000 in
theorem k34_r108_r3_72 (d sl : Nat) (I : Nat → Nat → Int32) (A : Nat → Nat → Int32) (N : Nat → Nat → Int64) (V : Nat → Nat → Option Nat) (lt : Int64) (tw : Option Nat) (sp sr : Nat) (X : List AC) (a1 : Int32) (a3 : Int32) (a4 : Nat) :
  R (d + 1) 34 (72, [some (.ref 108), some (.int a1), some (.ref 3), some (.int a3), some (.ref a4)], [], sl, (CH I A N V lt tw sp sr X)) =
    bC (C d 59 [.ref 3, .int a3] sl (CH I A N V lt tw sp sr X)) (fun vs sl h => R (d + 1) 34 (77, [some (.ref 108), some (.int a1), some (.ref 3), some (.int a3), some (.ref a4)], vs ++ [], sl, h)) :=
  (R_gob [6, 24, 72, 77, 86, 91, 92, 97, 112, 123, 124, 135, 136, 142, 146, 147, 158, 159, 165, 166] 400 _ _ _).trans rfl
set_option maxRecDepth 100000 in
theorem k34_r108_r3_86 (d sl : Nat) (I : Nat → Nat → Int32) (A : Nat → Nat → Int32) (N : Nat → Nat → Int64) (V : Nat → Nat → Option Nat) (lt : Int64) (tw : Option Nat) (sp sr : Nat) (X : List AC) (a1 : Int32) (a3 : Int32) (a4 : Nat) :
  R (d + 1) 34 (86, [some (.ref 108), some (.int a1), some (.ref 3), some (.int a3), some (.ref a4)], [], sl, (CH I A N V lt tw sp sr X)) =
    bC (C d 62 [.ref 3, .int a3] sl (CH I A N V lt tw sp sr X)) (fun vs sl h => R (d + 1) 34 (91, [some (.ref 108), some (.int a1), some (.ref 3), some (.int a3), some (.ref a4)], vs ++ [], sl, h)) :=
  (R_gob [6, 24, 72, 77, 86, 91, 92, 97, 112, 123, 124, 135, 136, 142, 146, 147, 158, 159, 165, 166] 400 _ _ _).trans rfl
set_option maxRecDepth 100000 in
theorem k34_r108_r3_92 (d sl : Nat) (I : Nat → Nat → Int32) (A : Nat → Nat → Int32) (N : Nat → Nat → Int64) (V : Nat → Nat → Option Nat) (lt : Int64) (tw : Option Nat) (sp sr : Nat) (X : List AC) (a1 : Int32) (a3 : Int32) (a4 : Nat) :
  R (d + 1) 34 (92, [some (.ref 108), some (.int a1), some (.ref 3), some (.int a3), some (.ref a4)], [], sl, (CH I A N V lt tw sp sr X)) =
    bC (C d 60 [.ref 3, .int a3] sl (CH I A N V lt tw sp sr X)) (fun vs sl h => R (d + 1) 34 (97, [some (.ref 108), some (.int a1), some (.ref 3), some (.int a3), some (.ref a4)], vs ++ [], sl, h)) :=
  (R_gob [6, 24, 72, 77, 86, 91, 92, 97, 112, 123, 124, 135, 136, 142, 146, 147, 158, 159, 165, 166] 400 _ _ _).trans rfl
set_option maxRecDepth 100000 in
theorem k34_r108_r3_112 (d sl : Nat) (I : Nat → Nat → Int32) (A : Nat → Nat → Int32) (N : Nat → Nat → Int64) (V : Nat → Nat → Option Nat) (lt : Int64) (tw : Option Nat) (sp sr : Nat) (X : List AC) (a1 : Int32) (a3 : Int32) (a4 : Nat) :
  R (d + 1) 34 (112, [some (.ref 108), some (.int a1), some (.ref 3), some (.int a3), some (.ref a4)], [], sl, (CH I A N V lt tw sp sr X)) =
    cond (x_in a1 40) (bC (C d 63 [.ref 3, .int a3, .int ((A 111) a1.toNatClampNeg)] sl (CH I A N V lt tw sp sr X)) (fun vs sl h => R (d + 1) 34 (123, [some (.ref 108), some (.int a1), some (.ref 3), some (.int a3), some (.ref a4)], vs ++ [], sl, h))) none :=
  (R_gob [6, 24, 72, 77, 86, 91, 92, 97, 112, 123, 124, 135, 136, 142, 146, 147, 158, 159, 165, 166] 400 _ _ _).trans rfl
set_option maxRecDepth 100000 in
theorem k34_r108_r3_124 (d sl : Nat) (I : Nat → Nat → Int32) (A : Nat → Nat → Int32) (N : Nat → Nat → Int64) (V : Nat → Nat → Option Nat) (lt : Int64) (tw : Option Nat) (sp sr : Nat) (X : List AC) (a1 : Int32) (a3 : Int32) (a4 : Nat) :
  R (d + 1) 34 (124, [some (.ref 108), some (.int a1), some (.ref 3), some (.int a3), some (.ref a4)], [], sl, (CH I A N V lt tw sp sr X)) =
    cond (x_in a3 6) (bC (C d 35 [.ref 108, .int ((A 5) a3.toNatClampNeg), .int a1] sl (CH I A N V lt tw sp sr X)) (fun vs sl h => R (d + 1) 34 (135, [some (.ref 108), some (.int a1), some (.ref 3), some (.int a3), some (.ref a4)], vs ++ [], sl, h))) none :=
  (R_gob [6, 24, 72, 77, 86, 91, 92, 97, 112, 123, 124, 135, 136, 142, 146, 147, 158, 159, 165, 166] 400 _ _ _).trans rfl
set_option maxRecDepth 100000 in
theorem k34_r108_r3_136 (d sl : Nat) (I : Nat → Nat → Int32) (A : Nat → Nat → Int32) (N : Nat → Nat → Int64) (V : Nat → Nat → Option Nat) (lt : Int64) (tw : Option Nat) (sp sr : Nat) (X : List AC) (a1 : Int32) (a3 : Int32) (a4 : Nat) :
  R (d + 1) 34 (136, [some (.ref 108), some (.int a1), some (.ref 3), some (.int a3), some (.ref a4)], [], sl, (CH I A N V lt tw sp sr X)) =
    bC (C d 60 [.ref 3, .int a3] sl (CH I A N V lt tw sp sr X)) (fun vs sl h => R (d + 1) 34 (142, [some (.ref 108), some (.int a1), some (.ref 3), some (.int a3), some (.ref a4)], vs ++ [.ref 108], sl, h)) :=
  (R_gob [6, 24, 72, 77, 86, 91, 92, 97, 112, 123, 124, 135, 136, 142, 146, 147, 158, 159, 165, 166] 400 _ _ _).trans rfl
set_option maxRecDepth 100000 in
theorem k34_r108_r3_147 (d sl : Nat) (I : Nat → Nat → Int32) (A : Nat → Nat → Int32) (N : Nat → Nat → Int64) (V : Nat → Nat → Option Nat) (lt : Int64) (tw : Option Nat) (sp sr : Nat) (X : List AC) (a1 : Int32) (a3 : Int32) (a4 : Nat) :
  R (d + 1) 34 (147, [some (.ref 108), some (.int a1), some (.ref 3), some (.int a3), some (.ref a4)], [], sl, (CH I A N V lt tw sp sr X)) =
    cond (x_in a3 6) (bC (C d 35 [.ref 108, .int ((A 7) a3.toNatClampNeg), .int a1] sl (CH I A N V lt tw sp sr X)) (fun vs sl h => R (d + 1) 34 (158, [some (.ref 108), some (.int a1), some (.ref 3), some (.int a3), some (.ref a4)], vs ++ [], sl, h))) none :=
  (R_gob [6, 24, 72, 77, 86, 91, 92, 97, 112, 123, 124, 135, 136, 142, 146, 147, 158, 159, 165, 166] 400 _ _ _).trans rfl
set_option maxRecDepth 100000 in
theorem k34_r108_r3_159 (d sl : Nat) (I : Nat → Nat → Int32) (A : Nat → Nat → Int32) (N : Nat → Nat → Int64) (V : Nat → Nat → Option Nat) (lt : Int64) (tw : Option Nat) (sp sr : Nat) (X : List AC) (a1 : Int32) (a3 : Int32) (a4 : Nat) :
  R (d + 1) 34 (159, [some (.ref 108), some (.int a1), some (.ref 3), some (.int a3), some (.ref a4)], [], sl, (CH I A N V lt tw sp sr X)) =
    bC (C d 35 [.ref 108, .int a3, .int a1] sl (CH I A N V lt tw sp sr X)) (fun vs sl h => R (d + 1) 34 (165, [some (.ref 108), some (.int a1), some (.ref 3), some (.int a3), some (.ref a4)], vs ++ [], sl, h)) :=
  (R_gob [6, 24, 72, 77, 86, 91, 92, 97, 112, 123, 124, 135, 136, 142, 146, 147, 158, 159, 165, 166] 400 _ _ _).trans rfl
set_option maxRecDepth 100000 in
theorem k34_r108_r3_77 (d sl : Nat) (I : Nat → Nat → Int32) (A : Nat → Nat → Int32) (N : Nat → Nat → Int64) (V : Nat → Nat → Option Nat) (lt : Int64) (tw : Option Nat) (sp sr : Nat) (X : List AC) (a1 : Int32) (a3 : Int32) (a4 : Nat) (b0 : Int32) :
  R (d + 1) 34 (77, [some (.ref 108), some (.int a1), some (.ref 3), some (.int a3), some (.ref a4)], [.int b0], sl, (CH I A N V lt tw sp sr X)) =
    cond (!decide (b0 = 0)) (some (85, [some (.ref 108), some (.int a1), some (.ref 3), some (.int a3), some (.ref a4)], [.int (0 : Int32)], sl, (CH I A N V lt tw sp sr X))) (some (85, [some (.ref 108), some (.int a1), some (.ref 3), some (.int a3), some (.ref a4)], [.int (1 : Int32)], sl, (CH I A N V lt tw sp sr X))) :=
  (R_gob [6, 24, 72, 77, 86, 91, 92, 97, 112, 123, 124, 135, 136, 142, 146, 147, 158, 159, 165, 166] 400 _ _ _).trans rfl
set_option maxRecDepth 100000 in
theorem k34_r108_r3_91 (d sl : Nat) (I : Nat → Nat → Int32) (A : Nat → Nat → Int32) (N : Nat → Nat → Int64) (V : Nat → Nat → Option Nat) (lt : Int64) (tw : Option Nat) (sp sr : Nat) (X : List AC) (a1 : Int32) (a3 : Int32) (a4 : Nat) (b0 : Int32) :
  R (d + 1) 34 (91, [some (.ref 108), some (.int a1), some (.ref 3), some (.int a3), some (.ref a4)], [.int b0], sl, (CH I A N V lt tw sp sr X)) =
    some (91, [some (.ref 108), some (.int a1), some (.ref 3), some (.int a3), some (.ref a4)], [.int b0], sl, (CH I A N V lt tw sp sr X)) :=
  (R_gob [6, 24, 72, 77, 86, 91, 92, 97, 112, 123, 124, 135, 136, 142, 146, 147, 158, 159, 165, 166] 400 _ _ _).trans rfl
set_option maxRecDepth 100000 in
theorem k34_r108_r3_97 (d sl : Nat) (I : Nat → Nat → Int32) (A : Nat → Nat → Int32) (N : Nat → Nat → Int64) (V : Nat → Nat → Option Nat) (lt : Int64) (tw : Option Nat) (sp sr : Nat) (X : List AC) (a1 : Int32) (a3 : Int32) (a4 : Nat) (b0 : Int32) :
  R (d + 1) 34 (97, [some (.ref 108), some (.int a1), some (.ref 3), some (.int a3), some (.ref a4)], [.int b0], sl, (CH I A N V lt tw sp sr X)) =
    cond (x_in a3 6) (cond (decide (b0 < ((A 7) a3.toNatClampNeg))) (some (111, [some (.ref 108), some (.int a1), some (.ref 3), some (.int a3), some (.ref a4)], [.int (0 : Int32)], sl, (CH I A N V lt tw sp sr X))) (some (111, [some (.ref 108), some (.int a1), some (.ref 3), some (.int a3), some (.ref a4)], [.int (1 : Int32)], sl, (CH I A N V lt tw sp sr X)))) none :=
  (R_gob [6, 24, 72, 77, 86, 91, 92, 97, 112, 123, 124, 135, 136, 142, 146, 147, 158, 159, 165, 166] 400 _ _ _).trans rfl
set_option maxRecDepth 100000 in
theorem k34_r108_r3_123 (d sl : Nat) (I : Nat → Nat → Int32) (A : Nat → Nat → Int32) (N : Nat → Nat → Int64) (V : Nat → Nat → Option Nat) (lt : Int64) (tw : Option Nat) (sp sr : Nat) (X : List AC) (a1 : Int32) (a3 : Int32) (a4 : Nat) (b0 : Int32) :
  R (d + 1) 34 (123, [some (.ref 108), some (.int a1), some (.ref 3), some (.int a3), some (.ref a4)], [.int b0], sl, (CH I A N V lt tw sp sr X)) =
    some (123, [some (.ref 108), some (.int a1), some (.ref 3), some (.int a3), some (.ref a4)], [.int b0], sl, (CH I A N V lt tw sp sr X)) :=
  (R_gob [6, 24, 72, 77, 86, 91, 92, 97, 112, 123, 124, 135, 136, 142, 146, 147, 158, 159, 165, 166] 400 _ _ _).trans rfl
set_option maxRecDepth 100000 in
theorem k34_r108_r3_135 (d sl : Nat) (I : Nat → Nat → Int32) (A : Nat → Nat → Int32) (N : Nat → Nat → Int64) (V : Nat → Nat → Option Nat) (lt : Int64) (tw : Option Nat) (sp sr : Nat) (X : List AC) (a1 : Int32) (a3 : Int32) (a4 : Nat) (b0 : Int32) :
  R (d + 1) 34 (135, [some (.ref 108), some (.int a1), some (.ref 3), some (.int a3), some (.ref a4)], [.int b0], sl, (CH I A N V lt tw sp sr X)) =
    some (135, [some (.ref 108), some (.int a1), some (.ref 3), some (.int a3), some (.ref a4)], [.int b0], sl, (CH I A N V lt tw sp sr X)) :=
  (R_gob [6, 24, 72, 77, 86, 91, 92, 97, 112, 123, 124, 135, 136, 142, 146, 147, 158, 159, 165, 166] 400 _ _ _).trans rfl
set_option maxRecDepth 100000 in
theorem k34_r108_r3_142 (d sl : Nat) (I : Nat → Nat → Int32) (A : Nat → Nat → Int32) (N : Nat → Nat → Int64) (V : Nat → Nat → Option Nat) (lt : Int64) (tw : Option Nat) (sp sr : Nat) (X : List AC) (a1 : Int32) (a3 : Int32) (a4 : Nat) (b0 : Int32) :
  R (d + 1) 34 (142, [some (.ref 108), some (.int a1), some (.ref 3), some (.int a3), some (.ref a4)], [.int b0, .ref 108], sl, (CH I A N V lt tw sp sr X)) =
    bC (C d 35 [.ref 108, .int b0, .int a1] sl (CH I A N V lt tw sp sr X)) (fun vs sl h => R (d + 1) 34 (146, [some (.ref 108), some (.int a1), some (.ref 3), some (.int a3), some (.ref a4)], vs ++ [], sl, h)) :=
  (R_gob [6, 24, 72, 77, 86, 91, 92, 97, 112, 123, 124, 135, 136, 142, 146, 147, 158, 159, 165, 166] 400 _ _ _).trans rfl
set_option maxRecDepth 100000 in
theorem k34_r108_r3_158 (d sl : Nat) (I : Nat → Nat → Int32) (A : Nat → Nat → Int32) (N : Nat → Nat → Int64) (V : Nat → Nat → Option Nat) (lt : Int64) (tw : Option Nat) (sp sr : Nat) (X : List AC) (a1 : Int32) (a3 : Int32) (a4 : Nat) (b0 : Int32) :
  R (d + 1) 34 (158, [some (.ref 108), some (.int a1), some (.ref 3), some (.int a3), some (.ref a4)], [.int b0], sl, (CH I A N V lt tw sp sr X)) =
    some (158, [some (.ref 108), some (.int a1), some (.ref 3), some (.int a3), some (.ref a4)], [.int b0], sl, (CH I A N V lt tw sp sr X)) :=
  (R_gob [6, 24, 72, 77, 86, 91, 92, 97, 112, 123, 124, 135, 136, 142, 146, 147, 158, 159, 165, 166] 400 _ _ _).trans rfl
set_option maxRecDepth 100000 in
theorem k34_r108_r3_165 (d sl : Nat) (I : Nat → Nat → Int32) (A : Nat → Nat → Int32) (N : Nat → Nat → Int64) (V : Nat → Nat → Option Nat) (lt : Int64) (tw : Option Nat) (sp sr : Nat) (X : List AC) (a1 : Int32) (a3 : Int32) (a4 : Nat) (b0 : Int32) :
  R (d + 1) 34 (165, [some (.ref 108), some (.int a1), some (.ref 3), some (.int a3), some (.ref a4)], [.int b0], sl, (CH I A N V lt tw sp sr X)) =
    some (165, [some (.ref 108), some (.int a1), some (.ref 3), some (.int a3), some (.ref a4)], [.int b0], sl, (CH I A N V lt tw sp sr X)) :=
  (R_gob [6, 24, 72, 77, 86, 91, 92, 97, 112, 123, 124, 135, 136, 142, 146, 147, 158, 159, 165, 166] 400 _ _ _).trans rfl
set_option maxRecDepth 100000 in
theorem k34_r108_r3_146 (d sl : Nat) (I : Nat → Nat → Int32) (A : Nat → Nat → Int32) (N : Nat → Nat → Int64) (V : Nat → Nat → Option Nat) (lt : Int64) (tw : Option Nat) (sp sr : Nat) (X : List AC) (a1 : Int32) (a3 : Int32) (a4 : Nat) (b0 : Int32) :
  R (d + 1) 34 (146, [some (.ref 108), some (.int a1), some (.ref 3), some (.int a3), some (.ref a4)], [.int b0], sl, (CH I A N V lt tw sp sr X)) =
    some (146, [some (.ref 108), some (.int a1), some (.ref 3), some (.int a3), some (.ref a4)], [.int b0], sl, (CH I A N V lt tw sp sr X)) :=
  (R_gob [6, 24, 72, 77, 86, 91, 92, 97, 112, 123, 124, 135, 136, 142, 146, 147, 158, 159, 165, 166] 400 _ _ _).trans rfl
set_option maxRecDepth 100000 in
theorem k34_r112_r3_0 (d sl : Nat) (I : Nat → Nat → Int32) (A : Nat → Nat → Int32) (N : Nat → Nat → Int64) (V : Nat → Nat → Option Nat) (lt : Int64) (tw : Option Nat) (sp sr : Nat) (X : List AC) (a1 : Int32) (a3 : Int32) :
  R (d + 1) 34 (0, [some (.ref 112), some (.int a1), some (.ref 3), some (.int a3), none], [], sl, (CH I A N V lt tw sp sr X)) =
    cond (x_in a1 40) (R (d + 1) 34 (6, [some (.ref 112), some (.int a1), some (.ref 3), some (.int a3), none], [x_rf ((V 113) a1.toNatClampNeg)], sl, (CH I A N V lt tw sp sr X))) none :=
  (R_gob [6, 24, 77, 91, 97, 123, 135, 142, 146, 158, 165] 400 _ _ _).trans rfl
set_option maxRecDepth 100000 in
theorem k34_r112_r3_6 (d sl : Nat) (I : Nat → Nat → Int32) (A : Nat → Nat → Int32) (N : Nat → Nat → Int64) (V : Nat → Nat → Option Nat) (lt : Int64) (tw : Option Nat) (sp sr : Nat) (X : List AC) (a1 : Int32) (a3 : Int32) :
  R (d + 1) 34 (6, [some (.ref 112), some (.int a1), some (.ref 3), some (.int a3), none], [.null], sl, (CH I A N V lt tw sp sr X)) =
    some (14, [some (.ref 112), some (.int a1), some (.ref 3), some (.int a3), some (.null)], [.int (0 : Int32)], sl, (CH I A N V lt tw sp sr X)) :=
  (R_gob [6, 24, 77, 91, 97, 123, 135, 142, 146, 158, 165] 400 _ _ _).trans rfl
set_option maxRecDepth 100000 in
theorem k34_r112_r3_6_1 (d sl : Nat) (I : Nat → Nat → Int32) (A : Nat → Nat → Int32) (N : Nat → Nat → Int64) (V : Nat → Nat → Option Nat) (lt : Int64) (tw : Option Nat) (sp sr : Nat) (X : List AC) (a1 : Int32) (a3 : Int32) (b0 : Nat) :
  R (d + 1) 34 (6, [some (.ref 112), some (.int a1), some (.ref 3), some (.int a3), none], [.ref b0], sl, (CH I A N V lt tw sp sr X)) =
    cond (x_isw b0 && Nat.ble (x_cat [.ref 1000101]) 8) (cond (x_in (Int32.ofNat (b0 - 1000000)) 21) (R (d + 1) 34 (24, [some (.ref 112), some (.int a1), some (.ref 3), some (.int a3), some (.ref b0)], [.int (x_swm (Int32.ofNat (b0 - 1000000)).toNatClampNeg)], sl, (CH I A N V lt tw sp sr X))) none) none :=
  (R_gob [6, 24, 77, 91, 97, 123, 135, 142, 146, 158, 165] 400 _ _ _).trans rfl
set_option maxRecDepth 100000 in
theorem k34_r112_r3_24_out (d sl : Nat) (I : Nat → Nat → Int32) (A : Nat → Nat → Int32) (N : Nat → Nat → Int64) (V : Nat → Nat → Option Nat) (lt : Int64) (tw : Option Nat) (sp sr : Nat) (X : List AC) (a1 : Int32) (a3 : Int32) (a4 : Nat) (x : Int32) (hx : (decide (x.toInt < (1)) || decide ((8) < x.toInt)) = true) :
  R (d + 1) 34 (24, [some (.ref 112), some (.int a1), some (.ref 3), some (.int a3), some (.ref a4)], .int x :: [], sl, (CH I A N V lt tw sp sr X)) = R (d + 1) 34 (166, [some (.ref 112), some (.int a1), some (.ref 3), some (.int a3), some (.ref a4)], [], sl, (CH I A N V lt tw sp sr X)) :=
  (R_tsw (show xk 34 24 = (.tableswitch 142 1 8 #[48, 62, 68, 88, 100, 112, 123, 135], 72, [], 0) by decide +kernel)).trans (congrArg (fun q => R (d + 1) 34 (q, [some (.ref 112), some (.int a1), some (.ref 3), some (.int a3), some (.ref a4)], [], sl, (CH I A N V lt tw sp sr X))) ((x_tsw_out hx).trans (by decide +kernel)))
set_option maxRecDepth 100000 in
theorem k34_r112_r3_24_c1 (d sl : Nat) (I : Nat → Nat → Int32) (A : Nat → Nat → Int32) (N : Nat → Nat → Int64) (V : Nat → Nat → Option Nat) (lt : Int64) (tw : Option Nat) (sp sr : Nat) (X : List AC) (a1 : Int32) (a3 : Int32) (a4 : Nat)  :
  R (d + 1) 34 (24, [some (.ref 112), some (.int a1), some (.ref 3), some (.int a3), some (.ref a4)], .int (1 : Int32) :: [], sl, (CH I A N V lt tw sp sr X)) = R (d + 1) 34 (72, [some (.ref 112), some (.int a1), some (.ref 3), some (.int a3), some (.ref a4)], [], sl, (CH I A N V lt tw sp sr X)) :=
  (R_tsw (show xk 34 24 = (.tableswitch 142 1 8 #[48, 62, 68, 88, 100, 112, 123, 135], 72, [], 0) by decide +kernel)).trans (congrArg (fun q => R (d + 1) 34 (q, [some (.ref 112), some (.int a1), some (.ref 3), some (.int a3), some (.ref a4)], [], sl, (CH I A N V lt tw sp sr X))) (by decide +kernel))
set_option maxRecDepth 100000 in
theorem k34_r112_r3_24_c2 (d sl : Nat) (I : Nat → Nat → Int32) (A : Nat → Nat → Int32) (N : Nat → Nat → Int64) (V : Nat → Nat → Option Nat) (lt : Int64) (tw : Option Nat) (sp sr : Nat) (X : List AC) (a1 : Int32) (a3 : Int32) (a4 : Nat)  :
  R (d + 1) 34 (24, [some (.ref 112), some (.int a1), some (.ref 3), some (.int a3), some (.ref a4)], .int (2 : Int32) :: [], sl, (CH I A N V lt tw sp sr X)) = R (d + 1) 34 (86, [some (.ref 112), some (.int a1), some (.ref 3), some (.int a3), some (.ref a4)], [], sl, (CH I A N V lt tw sp sr X)) :=
  (R_tsw (show xk 34 24 = (.tableswitch 142 1 8 #[48, 62, 68, 88, 100, 112, 123, 135], 72, [], 0) by decide +kernel)).trans (congrArg (fun q => R (d + 1) 34 (q, [some (.ref 112), some (.int a1), some (.ref 3), some (.int a3), some (.ref a4)], [], sl, (CH I A N V lt tw sp sr X))) (by decide +kernel))
set_option maxRecDepth 100000 in
theorem k34_r112_r3_24_c3 (d sl : Nat) (I : Nat → Nat → Int32) (A : Nat → Nat → Int32) (N : Nat → Nat → Int64) (V : Nat → Nat → Option Nat) (lt : Int64) (tw : Option Nat) (sp sr : Nat) (X : List AC) (a1 : Int32) (a3 : Int32) (a4 : Nat)  :
  R (d + 1) 34 (24, [some (.ref 112), some (.int a1), some (.ref 3), some (.int a3), some (.ref a4)], .int (3 : Int32) :: [], sl, (CH I A N V lt tw sp sr X)) = R (d + 1) 34 (92, [some (.ref 112), some (.int a1), some (.ref 3), some (.int a3), some (.ref a4)], [], sl, (CH I A N V lt tw sp sr X)) :=
  (R_tsw (show xk 34 24 = (.tableswitch 142 1 8 #[48, 62, 68, 88, 100, 112, 123, 135], 72, [], 0) by decide +kernel)).trans (congrArg (fun q => R (d + 1) 34 (q, [some (.ref 112), some (.int a1), some (.ref 3), some (.int a3), some (.ref a4)], [], sl, (CH I A N V lt tw sp sr X))) (by decide +kernel))
set_option maxRecDepth 100000 in
theorem k34_r112_r3_24_c4 (d sl : Nat) (I : Nat → Nat → Int32) (A : Nat → Nat → Int32) (N : Nat → Nat → Int64) (V : Nat → Nat → Option Nat) (lt : Int64) (tw : Option Nat) (sp sr : Nat) (X : List AC) (a1 : Int32) (a3 : Int32) (a4 : Nat)  :
  R (d + 1) 34 (24, [some (.ref 112), some (.int a1), some (.ref 3), some (.int a3), some (.ref a4)], .int (4 : Int32) :: [], sl, (CH I A N V lt tw sp sr X)) = R (d + 1) 34 (112, [some (.ref 112), some (.int a1), some (.ref 3), some (.int a3), some (.ref a4)], [], sl, (CH I A N V lt tw sp sr X)) :=
  (R_tsw (show xk 34 24 = (.tableswitch 142 1 8 #[48, 62, 68, 88, 100, 112, 123, 135], 72, [], 0) by decide +kernel)).trans (congrArg (fun q => R (d + 1) 34 (q, [some (.ref 112), some (.int a1), some (.ref 3), some (.int a3), some (.ref a4)], [], sl, (CH I A N V lt tw sp sr X))) (by decide +kernel))
set_option maxRecDepth 100000 in
theorem k34_r112_r3_24_c5 (d sl : Nat) (I : Nat → Nat → Int32) (A : Nat → Nat → Int32) (N : Nat → Nat → Int64) (V : Nat → Nat → Option Nat) (lt : Int64) (tw : Option Nat) (sp sr : Nat) (X : List AC) (a1 : Int32) (a3 : Int32) (a4 : Nat)  :
  R (d + 1) 34 (24, [some (.ref 112), some (.int a1), some (.ref 3), some (.int a3), some (.ref a4)], .int (5 : Int32) :: [], sl, (CH I A N V lt tw sp sr X)) = R (d + 1) 34 (124, [some (.ref 112), some (.int a1), some (.ref 3), some (.int a3), some (.ref a4)], [], sl, (CH I A N V lt tw sp sr X)) :=
  (R_tsw (show xk 34 24 = (.tableswitch 142 1 8 #[48, 62, 68, 88, 100, 112, 123, 135], 72, [], 0) by decide +kernel)).trans (congrArg (fun q => R (d + 1) 34 (q, [some (.ref 112), some (.int a1), some (.ref 3), some (.int a3), some (.ref a4)], [], sl, (CH I A N V lt tw sp sr X))) (by decide +kernel))
set_option maxRecDepth 100000 in
theorem k34_r112_r3_24_c6 (d sl : Nat) (I : Nat → Nat → Int32) (A : Nat → Nat → Int32) (N : Nat → Nat → Int64) (V : Nat → Nat → Option Nat) (lt : Int64) (tw : Option Nat) (sp sr : Nat) (X : List AC) (a1 : Int32) (a3 : Int32) (a4 : Nat)  :
  R (d + 1) 34 (24, [some (.ref 112), some (.int a1), some (.ref 3), some (.int a3), some (.ref a4)], .int (6 : Int32) :: [], sl, (CH I A N V lt tw sp sr X)) = R (d + 1) 34 (136, [some (.ref 112), some (.int a1), some (.ref 3), some (.int a3), some (.ref a4)], [], sl, (CH I A N V lt tw sp sr X)) :=
  (R_tsw (show xk 34 24 = (.tableswitch 142 1 8 #[48, 62, 68, 88, 100, 112, 123, 135], 72, [], 0) by decide +kernel)).trans (congrArg (fun q => R (d + 1) 34 (q, [some (.ref 112), some (.int a1), some (.ref 3), some (.int a3), some (.ref a4)], [], sl, (CH I A N V lt tw sp sr X))) (by decide +kernel))
set_option maxRecDepth 100000 in
theorem k34_r112_r3_24_c7 (d sl : Nat) (I : Nat → Nat → Int32) (A : Nat → Nat → Int32) (N : Nat → Nat → Int64) (V : Nat → Nat → Option Nat) (lt : Int64) (tw : Option Nat) (sp sr : Nat) (X : List AC) (a1 : Int32) (a3 : Int32) (a4 : Nat)  :
  R (d + 1) 34 (24, [some (.ref 112), some (.int a1), some (.ref 3), some (.int a3), some (.ref a4)], .int (7 : Int32) :: [], sl, (CH I A N V lt tw sp sr X)) = R (d + 1) 34 (147, [some (.ref 112), some (.int a1), some (.ref 3), some (.int a3), some (.ref a4)], [], sl, (CH I A N V lt tw sp sr X)) :=
  (R_tsw (show xk 34 24 = (.tableswitch 142 1 8 #[48, 62, 68, 88, 100, 112, 123, 135], 72, [], 0) by decide +kernel)).trans (congrArg (fun q => R (d + 1) 34 (q, [some (.ref 112), some (.int a1), some (.ref 3), some (.int a3), some (.ref a4)], [], sl, (CH I A N V lt tw sp sr X))) (by decide +kernel))
set_option maxRecDepth 100000 in
theorem k34_r112_r3_24_c8 (d sl : Nat) (I : Nat → Nat → Int32) (A : Nat → Nat → Int32) (N : Nat → Nat → Int64) (V : Nat → Nat → Option Nat) (lt : Int64) (tw : Option Nat) (sp sr : Nat) (X : List AC) (a1 : Int32) (a3 : Int32) (a4 : Nat)  :
  R (d + 1) 34 (24, [some (.ref 112), some (.int a1), some (.ref 3), some (.int a3), some (.ref a4)], .int (8 : Int32) :: [], sl, (CH I A N V lt tw sp sr X)) = R (d + 1) 34 (159, [some (.ref 112), some (.int a1), some (.ref 3), some (.int a3), some (.ref a4)], [], sl, (CH I A N V lt tw sp sr X)) :=
  (R_tsw (show xk 34 24 = (.tableswitch 142 1 8 #[48, 62, 68, 88, 100, 112, 123, 135], 72, [], 0) by decide +kernel)).trans (congrArg (fun q => R (d + 1) 34 (q, [some (.ref 112), some (.int a1), some (.ref 3), some (.int a3), some (.ref a4)], [], sl, (CH I A N V lt tw sp sr X))) (by decide +kernel))
set_option maxRecDepth 100000 in
theorem k34_r112_r3_166 (d sl : Nat) (I : Nat → Nat → Int32) (A : Nat → Nat → Int32) (N : Nat → Nat → Int64) (V : Nat → Nat → Option Nat) (lt : Int64) (tw : Option Nat) (sp sr : Nat) (X : List AC) (a1 : Int32) (a3 : Int32) (a4 : Nat) :
  R (d + 1) 34 (166, [some (.ref 112), some (.int a1), some (.ref 3), some (.int a3), some (.ref a4)], [], sl, (CH I A N V lt tw sp sr X)) =
    some (167, [some (.ref 112), some (.int a1), some (.ref 3), some (.int a3), some (.ref a4)], [.int (0 : Int32)], sl, (CH I A N V lt tw sp sr X)) :=
  (R_gob [6, 24, 72, 77, 86, 91, 92, 97, 112, 123, 124, 135, 136, 142, 146, 147, 158, 159, 165, 166] 400 _ _ _).trans rfl
set_option maxRecDepth 100000 in
theorem k34_r112_r3_72 (d sl : Nat) (I : Nat → Nat → Int32) (A : Nat → Nat → Int32) (N : Nat → Nat → Int64) (V : Nat → Nat → Option Nat) (lt : Int64) (tw : Option Nat) (sp sr : Nat) (X : List AC) (a1 : Int32) (a3 : Int32) (a4 : Nat) :
  R (d + 1) 34 (72, [some (.ref 112), some (.int a1), some (.ref 3), some (.int a3), some (.ref a4)], [], sl, (CH I A N V lt tw sp sr X)) =
    bC (C d 59 [.ref 3, .int a3] sl (CH I A N V lt tw sp sr X)) (fun vs sl h => R (d + 1) 34 (77, [some (.ref 112), some (.int a1), some (.ref 3), some (.int a3), some (.ref a4)], vs ++ [], sl, h)) :=
  (R_gob [6, 24, 72, 77, 86, 91, 92, 97, 112, 123, 124, 135, 136, 142, 146, 147, 158, 159, 165, 166] 400 _ _ _).trans rfl
set_option maxRecDepth 100000 in
theorem k34_r112_r3_86 (d sl : Nat) (I : Nat → Nat → Int32) (A : Nat → Nat → Int32) (N : Nat → Nat → Int64) (V : Nat → Nat → Option Nat) (lt : Int64) (tw : Option Nat) (sp sr : Nat) (X : List AC) (a1 : Int32) (a3 : Int32) (a4 : Nat) :
  R (d + 1) 34 (86, [some (.ref 112), some (.int a1), some (.ref 3), some (.int a3), some (.ref a4)], [], sl, (CH I A N V lt tw sp sr X)) =
    bC (C d 62 [.ref 3, .int a3] sl (CH I A N V lt tw sp sr X)) (fun vs sl h => R (d + 1) 34 (91, [some (.ref 112), some (.int a1), some (.ref 3), some (.int a3), some (.ref a4)], vs ++ [], sl, h)) :=
  (R_gob [6, 24, 72, 77, 86, 91, 92, 97, 112, 123, 124, 135, 136, 142, 146, 147, 158, 159, 165, 166] 400 _ _ _).trans rfl
set_option maxRecDepth 100000 in
theorem k34_r112_r3_92 (d sl : Nat) (I : Nat → Nat → Int32) (A : Nat → Nat → Int32) (N : Nat → Nat → Int64) (V : Nat → Nat → Option Nat) (lt : Int64) (tw : Option Nat) (sp sr : Nat) (X : List AC) (a1 : Int32) (a3 : Int32) (a4 : Nat) :
  R (d + 1) 34 (92, [some (.ref 112), some (.int a1), some (.ref 3), some (.int a3), some (.ref a4)], [], sl, (CH I A N V lt tw sp sr X)) =
    bC (C d 60 [.ref 3, .int a3] sl (CH I A N V lt tw sp sr X)) (fun vs sl h => R (d + 1) 34 (97, [some (.ref 112), some (.int a1), some (.ref 3), some (.int a3), some (.ref a4)], vs ++ [], sl, h)) :=
  (R_gob [6, 24, 72, 77, 86, 91, 92, 97, 112, 123, 124, 135, 136, 142, 146, 147, 158, 159, 165, 166] 400 _ _ _).trans rfl
set_option maxRecDepth 100000 in
theorem k34_r112_r3_112 (d sl : Nat) (I : Nat → Nat → Int32) (A : Nat → Nat → Int32) (N : Nat → Nat → Int64) (V : Nat → Nat → Option Nat) (lt : Int64) (tw : Option Nat) (sp sr : Nat) (X : List AC) (a1 : Int32) (a3 : Int32) (a4 : Nat) :
  R (d + 1) 34 (112, [some (.ref 112), some (.int a1), some (.ref 3), some (.int a3), some (.ref a4)], [], sl, (CH I A N V lt tw sp sr X)) =
    cond (x_in a1 40) (bC (C d 63 [.ref 3, .int a3, .int ((A 115) a1.toNatClampNeg)] sl (CH I A N V lt tw sp sr X)) (fun vs sl h => R (d + 1) 34 (123, [some (.ref 112), some (.int a1), some (.ref 3), some (.int a3), some (.ref a4)], vs ++ [], sl, h))) none :=
  (R_gob [6, 24, 72, 77, 86, 91, 92, 97, 112, 123, 124, 135, 136, 142, 146, 147, 158, 159, 165, 166] 400 _ _ _).trans rfl
set_option maxRecDepth 100000 in
theorem k34_r112_r3_124 (d sl : Nat) (I : Nat → Nat → Int32) (A : Nat → Nat → Int32) (N : Nat → Nat → Int64) (V : Nat → Nat → Option Nat) (lt : Int64) (tw : Option Nat) (sp sr : Nat) (X : List AC) (a1 : Int32) (a3 : Int32) (a4 : Nat) :
  R (d + 1) 34 (124, [some (.ref 112), some (.int a1), some (.ref 3), some (.int a3), some (.ref a4)], [], sl, (CH I A N V lt tw sp sr X)) =
    cond (x_in a3 6) (bC (C d 35 [.ref 112, .int ((A 5) a3.toNatClampNeg), .int a1] sl (CH I A N V lt tw sp sr X)) (fun vs sl h => R (d + 1) 34 (135, [some (.ref 112), some (.int a1), some (.ref 3), some (.int a3), some (.ref a4)], vs ++ [], sl, h))) none :=
  (R_gob [6, 24, 72, 77, 86, 91, 92, 97, 112, 123, 124, 135, 136, 142, 146, 147, 158, 159, 165, 166] 400 _ _ _).trans rfl
set_option maxRecDepth 100000 in
theorem k34_r112_r3_136 (d sl : Nat) (I : Nat → Nat → Int32) (A : Nat → Nat → Int32) (N : Nat → Nat → Int64) (V : Nat → Nat → Option Nat) (lt : Int64) (tw : Option Nat) (sp sr : Nat) (X : List AC) (a1 : Int32) (a3 : Int32) (a4 : Nat) :
  R (d + 1) 34 (136, [some (.ref 112), some (.int a1), some (.ref 3), some (.int a3), some (.ref a4)], [], sl, (CH I A N V lt tw sp sr X)) =
    bC (C d 60 [.ref 3, .int a3] sl (CH I A N V lt tw sp sr X)) (fun vs sl h => R (d + 1) 34 (142, [some (.ref 112), some (.int a1), some (.ref 3), some (.int a3), some (.ref a4)], vs ++ [.ref 112], sl, h)) :=
  (R_gob [6, 24, 72, 77, 86, 91, 92, 97, 112, 123, 124, 135, 136, 142, 146, 147, 158, 159, 165, 166] 400 _ _ _).trans rfl
set_option maxRecDepth 100000 in
theorem k34_r112_r3_147 (d sl : Nat) (I : Nat → Nat → Int32) (A : Nat → Nat → Int32) (N : Nat → Nat → Int64) (V : Nat → Nat → Option Nat) (lt : Int64) (tw : Option Nat) (sp sr : Nat) (X : List AC) (a1 : Int32) (a3 : Int32) (a4 : Nat) :
  R (d + 1) 34 (147, [some (.ref 112), some (.int a1), some (.ref 3), some (.int a3), some (.ref a4)], [], sl, (CH I A N V lt tw sp sr X)) =
    cond (x_in a3 6) (bC (C d 35 [.ref 112, .int ((A 7) a3.toNatClampNeg), .int a1] sl (CH I A N V lt tw sp sr X)) (fun vs sl h => R (d + 1) 34 (158, [some (.ref 112), some (.int a1), some (.ref 3), some (.int a3), some (.ref a4)], vs ++ [], sl, h))) none :=
  (R_gob [6, 24, 72, 77, 86, 91, 92, 97, 112, 123, 124, 135, 136, 142, 146, 147, 158, 159, 165, 166] 400 _ _ _).trans rfl
set_option maxRecDepth 100000 in
theorem k34_r112_r3_159 (d sl : Nat) (I : Nat → Nat → Int32) (A : Nat → Nat → Int32) (N : Nat → Nat → Int64) (V : Nat → Nat → Option Nat) (lt : Int64) (tw : Option Nat) (sp sr : Nat) (X : List AC) (a1 : Int32) (a3 : Int32) (a4 : Nat) :
  R (d + 1) 34 (159, [some (.ref 112), some (.int a1), some (.ref 3), some (.int a3), some (.ref a4)], [], sl, (CH I A N V lt tw sp sr X)) =
    bC (C d 35 [.ref 112, .int a3, .int a1] sl (CH I A N V lt tw sp sr X)) (fun vs sl h => R (d + 1) 34 (165, [some (.ref 112), some (.int a1), some (.ref 3), some (.int a3), some (.ref a4)], vs ++ [], sl, h)) :=
  (R_gob [6, 24, 72, 77, 86, 91, 92, 97, 112, 123, 124, 135, 136, 142, 146, 147, 158, 159, 165, 166] 400 _ _ _).trans rfl
set_option maxRecDepth 100000 in
theorem k34_r112_r3_77 (d sl : Nat) (I : Nat → Nat → Int32) (A : Nat → Nat → Int32) (N : Nat → Nat → Int64) (V : Nat → Nat → Option Nat) (lt : Int64) (tw : Option Nat) (sp sr : Nat) (X : List AC) (a1 : Int32) (a3 : Int32) (a4 : Nat) (b0 : Int32) :
  R (d + 1) 34 (77, [some (.ref 112), some (.int a1), some (.ref 3), some (.int a3), some (.ref a4)], [.int b0], sl, (CH I A N V lt tw sp sr X)) =
    cond (!decide (b0 = 0)) (some (85, [some (.ref 112), some (.int a1), some (.ref 3), some (.int a3), some (.ref a4)], [.int (0 : Int32)], sl, (CH I A N V lt tw sp sr X))) (some (85, [some (.ref 112), some (.int a1), some (.ref 3), some (.int a3), some (.ref a4)], [.int (1 : Int32)], sl, (CH I A N V lt tw sp sr X))) :=
  (R_gob [6, 24, 72, 77, 86, 91, 92, 97, 112, 123, 124, 135, 136, 142, 146, 147, 158, 159, 165, 166] 400 _ _ _).trans rfl
set_option maxRecDepth 100000 in
theorem k34_r112_r3_91 (d sl : Nat) (I : Nat → Nat → Int32) (A : Nat → Nat → Int32) (N : Nat → Nat → Int64) (V : Nat → Nat → Option Nat) (lt : Int64) (tw : Option Nat) (sp sr : Nat) (X : List AC) (a1 : Int32) (a3 : Int32) (a4 : Nat) (b0 : Int32) :
  R (d + 1) 34 (91, [some (.ref 112), some (.int a1), some (.ref 3), some (.int a3), some (.ref a4)], [.int b0], sl, (CH I A N V lt tw sp sr X)) =
    some (91, [some (.ref 112), some (.int a1), some (.ref 3), some (.int a3), some (.ref a4)], [.int b0], sl, (CH I A N V lt tw sp sr X)) :=
  (R_gob [6, 24, 72, 77, 86, 91, 92, 97, 112, 123, 124, 135, 136, 142, 146, 147, 158, 159, 165, 166] 400 _ _ _).trans rfl
set_option maxRecDepth 100000 in
theorem k34_r112_r3_97 (d sl : Nat) (I : Nat → Nat → Int32) (A : Nat → Nat → Int32) (N : Nat → Nat → Int64) (V : Nat → Nat → Option Nat) (lt : Int64) (tw : Option Nat) (sp sr : Nat) (X : List AC) (a1 : Int32) (a3 : Int32) (a4 : Nat) (b0 : Int32) :
  R (d + 1) 34 (97, [some (.ref 112), some (.int a1), some (.ref 3), some (.int a3), some (.ref a4)], [.int b0], sl, (CH I A N V lt tw sp sr X)) =
    cond (x_in a3 6) (cond (decide (b0 < ((A 7) a3.toNatClampNeg))) (some (111, [some (.ref 112), some (.int a1), some (.ref 3), some (.int a3), some (.ref a4)], [.int (0 : Int32)], sl, (CH I A N V lt tw sp sr X))) (some (111, [some (.ref 112), some (.int a1), some (.ref 3), some (.int a3), some (.ref a4)], [.int (1 : Int32)], sl, (CH I A N V lt tw sp sr X)))) none :=
  (R_gob [6, 24, 72, 77, 86, 91, 92, 97, 112, 123, 124, 135, 136, 142, 146, 147, 158, 159, 165, 166] 400 _ _ _).trans rfl
set_option maxRecDepth 100000 in
theorem k34_r112_r3_123 (d sl : Nat) (I : Nat → Nat → Int32) (A : Nat → Nat → Int32) (N : Nat → Nat → Int64) (V : Nat → Nat → Option Nat) (lt : Int64) (tw : Option Nat) (sp sr : Nat) (X : List AC) (a1 : Int32) (a3 : Int32) (a4 : Nat) (b0 : Int32) :
  R (d + 1) 34 (123, [some (.ref 112), some (.int a1), some (.ref 3), some (.int a3), some (.ref a4)], [.int b0], sl, (CH I A N V lt tw sp sr X)) =
    some (123, [some (.ref 112), some (.int a1), some (.ref 3), some (.int a3), some (.ref a4)], [.int b0], sl, (CH I A N V lt tw sp sr X)) :=
  (R_gob [6, 24, 72, 77, 86, 91, 92, 97, 112, 123, 124, 135, 136, 142, 146, 147, 158, 159, 165, 166] 400 _ _ _).trans rfl
set_option maxRecDepth 100000 in
theorem k34_r112_r3_135 (d sl : Nat) (I : Nat → Nat → Int32) (A : Nat → Nat → Int32) (N : Nat → Nat → Int64) (V : Nat → Nat → Option Nat) (lt : Int64) (tw : Option Nat) (sp sr : Nat) (X : List AC) (a1 : Int32) (a3 : Int32) (a4 : Nat) (b0 : Int32) :
  R (d + 1) 34 (135, [some (.ref 112), some (.int a1), some (.ref 3), some (.int a3), some (.ref a4)], [.int b0], sl, (CH I A N V lt tw sp sr X)) =
    some (135, [some (.ref 112), some (.int a1), some (.ref 3), some (.int a3), some (.ref a4)], [.int b0], sl, (CH I A N V lt tw sp sr X)) :=
  (R_gob [6, 24, 72, 77, 86, 91, 92, 97, 112, 123, 124, 135, 136, 142, 146, 147, 158, 159, 165, 166] 400 _ _ _).trans rfl
set_option maxRecDepth 100000 in
theorem k34_r112_r3_142 (d sl : Nat) (I : Nat → Nat → Int32) (A : Nat → Nat → Int32) (N : Nat → Nat → Int64) (V : Nat → Nat → Option Nat) (lt : Int64) (tw : Option Nat) (sp sr : Nat) (X : List AC) (a1 : Int32) (a3 : Int32) (a4 : Nat) (b0 : Int32) :
  R (d + 1) 34 (142, [some (.ref 112), some (.int a1), some (.ref 3), some (.int a3), some (.ref a4)], [.int b0, .ref 112], sl, (CH I A N V lt tw sp sr X)) =
    bC (C d 35 [.ref 112, .int b0, .int a1] sl (CH I A N V lt tw sp sr X)) (fun vs sl h => R (d + 1) 34 (146, [some (.ref 112), some (.int a1), some (.ref 3), some (.int a3), some (.ref a4)], vs ++ [], sl, h)) :=
  (R_gob [6, 24, 72, 77, 86, 91, 92, 97, 112, 123, 124, 135, 136, 142, 146, 147, 158, 159, 165, 166] 400 _ _ _).trans rfl
set_option maxRecDepth 100000 in
theorem k34_r112_r3_158 (d sl : Nat) (I : Nat → Nat → Int32) (A : Nat → Nat → Int32) (N : Nat → Nat → Int64) (V : Nat → Nat → Option Nat) (lt : Int64) (tw : Option Nat) (sp sr : Nat) (X : List AC) (a1 : Int32) (a3 : Int32) (a4 : Nat) (b0 : Int32) :
  R (d + 1) 34 (158, [some (.ref 112), some (.int a1), some (.ref 3), some (.int a3), some (.ref a4)], [.int b0], sl, (CH I A N V lt tw sp sr X)) =
    some (158, [some (.ref 112), some (.int a1), some (.ref 3), some (.int a3), some (.ref a4)], [.int b0], sl, (CH I A N V lt tw sp sr X)) :=
  (R_gob [6, 24, 72, 77, 86, 91, 92, 97, 112, 123, 124, 135, 136, 142, 146, 147, 158, 159, 165, 166] 400 _ _ _).trans rfl
set_option maxRecDepth 100000 in
theorem k34_r112_r3_165 (d sl : Nat) (I : Nat → Nat → Int32) (A : Nat → Nat → Int32) (N : Nat → Nat → Int64) (V : Nat → Nat → Option Nat) (lt : Int64) (tw : Option Nat) (sp sr : Nat) (X : List AC) (a1 : Int32) (a3 : Int32) (a4 : Nat) (b0 : Int32) :
  R (d + 1) 34 (165, [some (.ref 112), some (.int a1), some (.ref 3), some (.int a3), some (.ref a4)], [.int b0], sl, (CH I A N V lt tw sp sr X)) =
    some (165, [some (.ref 112), some (.int a1), some (.ref 3), some (.int a3), some (.ref a4)], [.int b0], sl, (CH I A N V lt tw sp sr X)) :=
  (R_gob [6, 24, 72, 77, 86, 91, 92, 97, 112, 123, 124, 135, 136, 142, 146, 147, 158, 159, 165, 166] 400 _ _ _).trans rfl
set_option maxRecDepth 100000 in
theorem k34_r112_r3_146 (d sl : Nat) (I : Nat → Nat → Int32) (A : Nat → Nat → Int32) (N : Nat → Nat → Int64) (V : Nat → Nat → Option Nat) (lt : Int64) (tw : Option Nat) (sp sr : Nat) (X : List AC) (a1 : Int32) (a3 : Int32) (a4 : Nat) (b0 : Int32) :
  R (d + 1) 34 (146, [some (.ref 112), some (.int a1), some (.ref 3), some (.int a3), some (.ref a4)], [.int b0], sl, (CH I A N V lt tw sp sr X)) =
    some (146, [some (.ref 112), some (.int a1), some (.ref 3), some (.int a3), some (.ref a4)], [.int b0], sl, (CH I A N V lt tw sp sr X)) :=
  (R_gob [6, 24, 72, 77, 86, 91, 92, 97, 112, 123, 124, 135, 136, 142, 146, 147, 158, 159, 165, 166] 400 _ _ _).trans rfl
set_option maxRecDepth 100000 in
theorem k31_r142_0 (d sl : Nat) (I : Nat → Nat → Int32) (A : Nat → Nat → Int32) (N : Nat → Nat → Int64) (V : Nat → Nat → Option Nat) (lt : Int64) (tw : Option Nat) (sp sr : Nat) (X : List AC) (a1 : Nat) (a2 : Int32) (a3 : Int32) :
  R d 31 (0, [some (.ref 142), some (.ref a1), some (.int a2), some (.int a3)], [], sl, (CH I A N V lt tw sp sr X)) =
    cond (decide ((40 : Int32) ≤ (I 142 3))) (some (49, [some (.ref 142), some (.ref a1), some (.int a2), some (.int a3)], [], sl, (CH I A N V lt tw sp sr X))) (cond (x_in (I 142 3) 40) (cond (x_in (I 142 3) 40) (cond (x_in (I 142 3) 40) (some (49, [some (.ref 142), some (.ref a1), some (.int a2), some (.int a3)], [], sl, (CH (up1 I 142 (up1 (I 142) 3 ((I 142 3) + (1 : Int32)))) (up1 (up1 A 144 (upd (A 144) (I 142 3).toNatClampNeg a2)) 145 (upd (A 145) (I 142 3).toNatClampNeg a3)) N (up1 V 143 (va_up (V 143) (I 142 3).toNatClampNeg (some a1))) lt tw sp sr X))) none) none) none) :=
  (R_gob [] 400 _ _ _).trans rfl
set_option maxRecDepth 100000 in
theorem k31_r129_0 (d sl : Nat) (I : Nat → Nat → Int32) (A : Nat → Nat → Int32) (N : Nat → Nat → Int64) (V : Nat → Nat → Option Nat) (lt : Int64) (tw : Option Nat) (sp sr : Nat) (X : List AC) (a1 : Nat) (a2 : Int32) (a3 : Int32) :
  R d 31 (0, [some (.ref 129), some (.ref a1), some (.int a2), some (.int a3)], [], sl, (CH I A N V lt tw sp sr X)) =
    cond (decide ((40 : Int32) ≤ (I 129 3))) (some (49, [some (.ref 129), some (.ref a1), some (.int a2), some (.int a3)], [], sl, (CH I A N V lt tw sp sr X))) (cond (x_in (I 129 3) 40) (cond (x_in (I 129 3) 40) (cond (x_in (I 129 3) 40) (some (49, [some (.ref 129), some (.ref a1), some (.int a2), some (.int a3)], [], sl, (CH (up1 I 129 (up1 (I 129) 3 ((I 129 3) + (1 : Int32)))) (up1 (up1 A 131 (upd (A 131) (I 129 3).toNatClampNeg a2)) 132 (upd (A 132) (I 129 3).toNatClampNeg a3)) N (up1 V 130 (va_up (V 130) (I 129 3).toNatClampNeg (some a1))) lt tw sp sr X))) none) none) none) :=
  (R_gob [] 400 _ _ _).trans rfl
set_option maxRecDepth 100000 in
theorem k31_r108_0 (d sl : Nat) (I : Nat → Nat → Int32) (A : Nat → Nat → Int32) (N : Nat → Nat → Int64) (V : Nat → Nat → Option Nat) (lt : Int64) (tw : Option Nat) (sp sr : Nat) (X : List AC) (a1 : Nat) (a2 : Int32) (a3 : Int32) :
  R d 31 (0, [some (.ref 108), some (.ref a1), some (.int a2), some (.int a3)], [], sl, (CH I A N V lt tw sp sr X)) =
    cond (decide ((40 : Int32) ≤ (I 108 3))) (some (49, [some (.ref 108), some (.ref a1), some (.int a2), some (.int a3)], [], sl, (CH I A N V lt tw sp sr X))) (cond (x_in (I 108 3) 40) (cond (x_in (I 108 3) 40) (cond (x_in (I 108 3) 40) (some (49, [some (.ref 108), some (.ref a1), some (.int a2), some (.int a3)], [], sl, (CH (up1 I 108 (up1 (I 108) 3 ((I 108 3) + (1 : Int32)))) (up1 (up1 A 110 (upd (A 110) (I 108 3).toNatClampNeg a2)) 111 (upd (A 111) (I 108 3).toNatClampNeg a3)) N (up1 V 109 (va_up (V 109) (I 108 3).toNatClampNeg (some a1))) lt tw sp sr X))) none) none) none) :=
  (R_gob [] 400 _ _ _).trans rfl
set_option maxRecDepth 100000 in
theorem k31_r112_0 (d sl : Nat) (I : Nat → Nat → Int32) (A : Nat → Nat → Int32) (N : Nat → Nat → Int64) (V : Nat → Nat → Option Nat) (lt : Int64) (tw : Option Nat) (sp sr : Nat) (X : List AC) (a1 : Nat) (a2 : Int32) (a3 : Int32) :
  R d 31 (0, [some (.ref 112), some (.ref a1), some (.int a2), some (.int a3)], [], sl, (CH I A N V lt tw sp sr X)) =
    cond (decide ((40 : Int32) ≤ (I 112 3))) (some (49, [some (.ref 112), some (.ref a1), some (.int a2), some (.int a3)], [], sl, (CH I A N V lt tw sp sr X))) (cond (x_in (I 112 3) 40) (cond (x_in (I 112 3) 40) (cond (x_in (I 112 3) 40) (some (49, [some (.ref 112), some (.ref a1), some (.int a2), some (.int a3)], [], sl, (CH (up1 I 112 (up1 (I 112) 3 ((I 112 3) + (1 : Int32)))) (up1 (up1 A 114 (upd (A 114) (I 112 3).toNatClampNeg a2)) 115 (upd (A 115) (I 112 3).toNatClampNeg a3)) N (up1 V 113 (va_up (V 113) (I 112 3).toNatClampNeg (some a1))) lt tw sp sr X))) none) none) none) :=
  (R_gob [] 400 _ _ _).trans rfl
