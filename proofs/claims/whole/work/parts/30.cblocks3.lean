set_option maxRecDepth 100000 in
theorem k54_r3_0 (d sl : Nat) (I : Nat → Nat → Int32) (A : Nat → Nat → Int32) (N : Nat → Nat → Int64) (V : Nat → Nat → Option Nat) (lt : Int64) (tw : Option Nat) (sp sr : Nat) (X : List AC) (a1 : Int32) :
  R (d + 1) 54 (0, [some (.ref 3), some (.int a1), none, none], [], sl, (CH I A N V lt tw sp sr X)) =
    R (d + 1) 54 (4, [some (.ref 3), some (.int a1), some (.int (nI 0)), some (.int (nI 0))], [], sl, (CH I A N V lt tw sp sr X)) :=
  (R_gob [4, 18] 400 _ _ _).trans rfl
set_option maxRecDepth 100000 in
theorem k54_r3_4 (d sl : Nat) (I : Nat → Nat → Int32) (A : Nat → Nat → Int32) (N : Nat → Nat → Int64) (V : Nat → Nat → Option Nat) (lt : Int64) (tw : Option Nat) (sp sr : Nat) (X : List AC) (a1 : Int32) (a2 : Int32) (a3 : Int32) :
  R (d + 1) 54 (4, [some (.ref 3), some (.int a1), some (.int a2), some (.int a3)], [], sl, (CH I A N V lt tw sp sr X)) =
    cond (decide ((I 3 9) ≤ a3)) (some (37, [some (.ref 3), some (.int a1), some (.int a2), some (.int a3)], [.int a2], sl, (CH I A N V lt tw sp sr X))) (bC (C d 52 [.ref 3, .int a3, .int a1] sl (CH I A N V lt tw sp sr X)) (fun vs sl h => R (d + 1) 54 (18, [some (.ref 3), some (.int a1), some (.int a2), some (.int a3)], vs ++ [], sl, h))) :=
  (R_gob [4, 18] 400 _ _ _).trans rfl
set_option maxRecDepth 100000 in
theorem k54_r3_18 (d sl : Nat) (I : Nat → Nat → Int32) (A : Nat → Nat → Int32) (N : Nat → Nat → Int64) (V : Nat → Nat → Option Nat) (lt : Int64) (tw : Option Nat) (sp sr : Nat) (X : List AC) (a1 : Int32) (a2 : Int32) (a3 : Int32) (b0 : Int32) :
  R (d + 1) 54 (18, [some (.ref 3), some (.int a1), some (.int a2), some (.int a3)], [.int b0], sl, (CH I A N V lt tw sp sr X)) =
    cond (decide (b0 = (nI 0))) (R (d + 1) 54 (4, [some (.ref 3), some (.int a1), some (.int a2), some (.int (a3 + (nI 1)))], [], sl, (CH I A N V lt tw sp sr X))) (cond (x_in a3 12) (R (d + 1) 54 (4, [some (.ref 3), some (.int a1), some (.int (a2 + ((A 10) a3.toNatClampNeg))), some (.int (a3 + (nI 1)))], [], sl, (CH I A N V lt tw sp sr X))) none) :=
  (R_gob [4, 18] 400 _ _ _).trans rfl
set_option maxRecDepth 100000 in
theorem k50_r3_0 (d sl : Nat) (I : Nat → Nat → Int32) (A : Nat → Nat → Int32) (N : Nat → Nat → Int64) (V : Nat → Nat → Option Nat) (lt : Int64) (tw : Option Nat) (sp sr : Nat) (X : List AC) (a1 : Int32) :
  R d 50 (0, [some (.ref 3), some (.int a1)], [], sl, (CH I A N V lt tw sp sr X)) =
    cond (x_in a1 12) (cond (decide (((A 10) a1.toNatClampNeg) ≤ (nI 0))) (some (14, [some (.ref 3), some (.int a1)], [.int (nI 0)], sl, (CH I A N V lt tw sp sr X))) (some (14, [some (.ref 3), some (.int a1)], [.int (nI 1)], sl, (CH I A N V lt tw sp sr X)))) none :=
  (R_gob [] 400 _ _ _).trans rfl
set_option maxRecDepth 100000 in
theorem k68_r3_0 (d sl : Nat) (I : Nat → Nat → Int32) (A : Nat → Nat → Int32) (N : Nat → Nat → Int64) (V : Nat → Nat → Option Nat) (lt : Int64) (tw : Option Nat) (sp sr : Nat) (X : List AC) (a1 : Int32) :
  R (d + 1) 68 (0, [some (.ref 3), some (.int a1), none, none, none, none], [], sl, (CH I A N V lt tw sp sr X)) =
    cond (x_in a1 6) (R (d + 1) 68 (12, [some (.ref 3), some (.int a1), some (.int (nI 0)), some (.int ((A 5) a1.toNatClampNeg)), some (.int (nI 0)), none], [], sl, (CH I A N V lt tw sp sr X))) none :=
  (R_gob [12, 27] 400 _ _ _).trans rfl
set_option maxRecDepth 100000 in
theorem k68_r3_12 (d sl : Nat) (I : Nat → Nat → Int32) (A : Nat → Nat → Int32) (N : Nat → Nat → Int64) (V : Nat → Nat → Option Nat) (lt : Int64) (tw : Option Nat) (sp sr : Nat) (X : List AC) (a1 : Int32) (a2 : Int32) (a3 : Int32) (a4 : Int32) :
  R (d + 1) 68 (12, [some (.ref 3), some (.int a1), some (.int a2), some (.int a3), some (.int a4), none], [], sl, (CH I A N V lt tw sp sr X)) =
    cond (decide ((I 3 9) ≤ a4)) (some (72, [some (.ref 3), some (.int a1), some (.int a2), some (.int a3), some (.int a4), none], [.int a2], sl, (CH I A N V lt tw sp sr X))) (bC (C d 69 [.ref 3, .int a1, .int a2] sl (CH I A N V lt tw sp sr X)) (fun vs sl h => R (d + 1) 68 (27, [some (.ref 3), some (.int a1), some (.int a2), some (.int a3), some (.int a4), none], vs ++ [], sl, h))) :=
  (R_gob [12, 27] 400 _ _ _).trans rfl
set_option maxRecDepth 100000 in
theorem k68_r3_27 (d sl : Nat) (I : Nat → Nat → Int32) (A : Nat → Nat → Int32) (N : Nat → Nat → Int64) (V : Nat → Nat → Option Nat) (lt : Int64) (tw : Option Nat) (sp sr : Nat) (X : List AC) (a1 : Int32) (a2 : Int32) (a3 : Int32) (a4 : Int32) (b0 : Int32) :
  R (d + 1) 68 (27, [some (.ref 3), some (.int a1), some (.int a2), some (.int a3), some (.int a4), none], [.int b0], sl, (CH I A N V lt tw sp sr X)) =
    cond (decide (b0 = (-1 : Int32))) (some (47, [some (.ref 3), some (.int a1), some (.int a2), some (.int a3), some (.int a4), some (.int b0)], [.int a2], sl, (CH I A N V lt tw sp sr X))) (cond (x_in b0 12) (cond (decide (((A 10) b0.toNatClampNeg) ≤ a3)) (cond (x_in b0 12) (R (d + 1) 68 (12, [some (.ref 3), some (.int a1), some (.int (a2 ||| ((nI 1) <<< (b0 &&& nI 31)))), some (.int (a3 - ((A 10) b0.toNatClampNeg))), some (.int (a4 + (nI 1))), some (.int b0)], [], sl, (CH I A N V lt tw sp sr X))) none) (some (47, [some (.ref 3), some (.int a1), some (.int a2), some (.int a3), some (.int a4), some (.int b0)], [.int a2], sl, (CH I A N V lt tw sp sr X)))) none) :=
  (R_gob [12, 27] 400 _ _ _).trans rfl
set_option maxRecDepth 100000 in
theorem k68_r3_12_1 (d sl : Nat) (I : Nat → Nat → Int32) (A : Nat → Nat → Int32) (N : Nat → Nat → Int64) (V : Nat → Nat → Option Nat) (lt : Int64) (tw : Option Nat) (sp sr : Nat) (X : List AC) (a1 : Int32) (a2 : Int32) (a3 : Int32) (a4 : Int32) (a5 : Int32) :
  R (d + 1) 68 (12, [some (.ref 3), some (.int a1), some (.int a2), some (.int a3), some (.int a4), some (.int a5)], [], sl, (CH I A N V lt tw sp sr X)) =
    cond (decide ((I 3 9) ≤ a4)) (some (72, [some (.ref 3), some (.int a1), some (.int a2), some (.int a3), some (.int a4), some (.int a5)], [.int a2], sl, (CH I A N V lt tw sp sr X))) (bC (C d 69 [.ref 3, .int a1, .int a2] sl (CH I A N V lt tw sp sr X)) (fun vs sl h => R (d + 1) 68 (27, [some (.ref 3), some (.int a1), some (.int a2), some (.int a3), some (.int a4), some (.int a5)], vs ++ [], sl, h))) :=
  (R_gob [12, 27] 400 _ _ _).trans rfl
set_option maxRecDepth 100000 in
theorem k68_r3_27_1 (d sl : Nat) (I : Nat → Nat → Int32) (A : Nat → Nat → Int32) (N : Nat → Nat → Int64) (V : Nat → Nat → Option Nat) (lt : Int64) (tw : Option Nat) (sp sr : Nat) (X : List AC) (a1 : Int32) (a2 : Int32) (a3 : Int32) (a4 : Int32) (a5 : Int32) (b0 : Int32) :
  R (d + 1) 68 (27, [some (.ref 3), some (.int a1), some (.int a2), some (.int a3), some (.int a4), some (.int a5)], [.int b0], sl, (CH I A N V lt tw sp sr X)) =
    cond (decide (b0 = (-1 : Int32))) (some (47, [some (.ref 3), some (.int a1), some (.int a2), some (.int a3), some (.int a4), some (.int b0)], [.int a2], sl, (CH I A N V lt tw sp sr X))) (cond (x_in b0 12) (cond (decide (((A 10) b0.toNatClampNeg) ≤ a3)) (cond (x_in b0 12) (R (d + 1) 68 (12, [some (.ref 3), some (.int a1), some (.int (a2 ||| ((nI 1) <<< (b0 &&& nI 31)))), some (.int (a3 - ((A 10) b0.toNatClampNeg))), some (.int (a4 + (nI 1))), some (.int b0)], [], sl, (CH I A N V lt tw sp sr X))) none) (some (47, [some (.ref 3), some (.int a1), some (.int a2), some (.int a3), some (.int a4), some (.int b0)], [.int a2], sl, (CH I A N V lt tw sp sr X)))) none) :=
  (R_gob [12, 27] 400 _ _ _).trans rfl
set_option maxRecDepth 100000 in
theorem k2_0 (d sl : Nat) (I : Nat → Nat → Int32) (A : Nat → Nat → Int32) (N : Nat → Nat → Int64) (V : Nat → Nat → Option Nat) (lt : Int64) (tw : Option Nat) (sp sr : Nat) (X : List AC) (a0 : Int32) :
  R d 2 (0, [some (.int a0)], [], sl, (CH I A N V lt tw sp sr X)) =
    some (52, [some (.int (((((((a0 - ((a0.toUInt32 >>> ((nI 1).toUInt32 &&& Int32.toUInt32 31)).toInt32 &&& (nI 1431655765))) &&& (nI 858993459)) + (((a0 - ((a0.toUInt32 >>> ((nI 1).toUInt32 &&& Int32.toUInt32 31)).toInt32 &&& (nI 1431655765))).toUInt32 >>> ((nI 2).toUInt32 &&& Int32.toUInt32 31)).toInt32 &&& (nI 858993459))) + ((((a0 - ((a0.toUInt32 >>> ((nI 1).toUInt32 &&& Int32.toUInt32 31)).toInt32 &&& (nI 1431655765))) &&& (nI 858993459)) + (((a0 - ((a0.toUInt32 >>> ((nI 1).toUInt32 &&& Int32.toUInt32 31)).toInt32 &&& (nI 1431655765))).toUInt32 >>> ((nI 2).toUInt32 &&& Int32.toUInt32 31)).toInt32 &&& (nI 858993459))).toUInt32 >>> ((nI 4).toUInt32 &&& Int32.toUInt32 31)).toInt32) &&& (nI 252645135)) + ((((((a0 - ((a0.toUInt32 >>> ((nI 1).toUInt32 &&& Int32.toUInt32 31)).toInt32 &&& (nI 1431655765))) &&& (nI 858993459)) + (((a0 - ((a0.toUInt32 >>> ((nI 1).toUInt32 &&& Int32.toUInt32 31)).toInt32 &&& (nI 1431655765))).toUInt32 >>> ((nI 2).toUInt32 &&& Int32.toUInt32 31)).toInt32 &&& (nI 858993459))) + ((((a0 - ((a0.toUInt32 >>> ((nI 1).toUInt32 &&& Int32.toUInt32 31)).toInt32 &&& (nI 1431655765))) &&& (nI 858993459)) + (((a0 - ((a0.toUInt32 >>> ((nI 1).toUInt32 &&& Int32.toUInt32 31)).toInt32 &&& (nI 1431655765))).toUInt32 >>> ((nI 2).toUInt32 &&& Int32.toUInt32 31)).toInt32 &&& (nI 858993459))).toUInt32 >>> ((nI 4).toUInt32 &&& Int32.toUInt32 31)).toInt32) &&& (nI 252645135)).toUInt32 >>> ((nI 8).toUInt32 &&& Int32.toUInt32 31)).toInt32) + (((((((a0 - ((a0.toUInt32 >>> ((nI 1).toUInt32 &&& Int32.toUInt32 31)).toInt32 &&& (nI 1431655765))) &&& (nI 858993459)) + (((a0 - ((a0.toUInt32 >>> ((nI 1).toUInt32 &&& Int32.toUInt32 31)).toInt32 &&& (nI 1431655765))).toUInt32 >>> ((nI 2).toUInt32 &&& Int32.toUInt32 31)).toInt32 &&& (nI 858993459))) + ((((a0 - ((a0.toUInt32 >>> ((nI 1).toUInt32 &&& Int32.toUInt32 31)).toInt32 &&& (nI 1431655765))) &&& (nI 858993459)) + (((a0 - ((a0.toUInt32 >>> ((nI 1).toUInt32 &&& Int32.toUInt32 31)).toInt32 &&& (nI 1431655765))).toUInt32 >>> ((nI 2).toUInt32 &&& Int32.toUInt32 31)).toInt32 &&& (nI 858993459))).toUInt32 >>> ((nI 4).toUInt32 &&& Int32.toUInt32 31)).toInt32) &&& (nI 252645135)) + ((((((a0 - ((a0.toUInt32 >>> ((nI 1).toUInt32 &&& Int32.toUInt32 31)).toInt32 &&& (nI 1431655765))) &&& (nI 858993459)) + (((a0 - ((a0.toUInt32 >>> ((nI 1).toUInt32 &&& Int32.toUInt32 31)).toInt32 &&& (nI 1431655765))).toUInt32 >>> ((nI 2).toUInt32 &&& Int32.toUInt32 31)).toInt32 &&& (nI 858993459))) + ((((a0 - ((a0.toUInt32 >>> ((nI 1).toUInt32 &&& Int32.toUInt32 31)).toInt32 &&& (nI 1431655765))) &&& (nI 858993459)) + (((a0 - ((a0.toUInt32 >>> ((nI 1).toUInt32 &&& Int32.toUInt32 31)).toInt32 &&& (nI 1431655765))).toUInt32 >>> ((nI 2).toUInt32 &&& Int32.toUInt32 31)).toInt32 &&& (nI 858993459))).toUInt32 >>> ((nI 4).toUInt32 &&& Int32.toUInt32 31)).toInt32) &&& (nI 252645135)).toUInt32 >>> ((nI 8).toUInt32 &&& Int32.toUInt32 31)).toInt32).toUInt32 >>> ((nI 16).toUInt32 &&& Int32.toUInt32 31)).toInt32))], [.int ((((((((a0 - ((a0.toUInt32 >>> ((nI 1).toUInt32 &&& Int32.toUInt32 31)).toInt32 &&& (nI 1431655765))) &&& (nI 858993459)) + (((a0 - ((a0.toUInt32 >>> ((nI 1).toUInt32 &&& Int32.toUInt32 31)).toInt32 &&& (nI 1431655765))).toUInt32 >>> ((nI 2).toUInt32 &&& Int32.toUInt32 31)).toInt32 &&& (nI 858993459))) + ((((a0 - ((a0.toUInt32 >>> ((nI 1).toUInt32 &&& Int32.toUInt32 31)).toInt32 &&& (nI 1431655765))) &&& (nI 858993459)) + (((a0 - ((a0.toUInt32 >>> ((nI 1).toUInt32 &&& Int32.toUInt32 31)).toInt32 &&& (nI 1431655765))).toUInt32 >>> ((nI 2).toUInt32 &&& Int32.toUInt32 31)).toInt32 &&& (nI 858993459))).toUInt32 >>> ((nI 4).toUInt32 &&& Int32.toUInt32 31)).toInt32) &&& (nI 252645135)) + ((((((a0 - ((a0.toUInt32 >>> ((nI 1).toUInt32 &&& Int32.toUInt32 31)).toInt32 &&& (nI 1431655765))) &&& (nI 858993459)) + (((a0 - ((a0.toUInt32 >>> ((nI 1).toUInt32 &&& Int32.toUInt32 31)).toInt32 &&& (nI 1431655765))).toUInt32 >>> ((nI 2).toUInt32 &&& Int32.toUInt32 31)).toInt32 &&& (nI 858993459))) + ((((a0 - ((a0.toUInt32 >>> ((nI 1).toUInt32 &&& Int32.toUInt32 31)).toInt32 &&& (nI 1431655765))) &&& (nI 858993459)) + (((a0 - ((a0.toUInt32 >>> ((nI 1).toUInt32 &&& Int32.toUInt32 31)).toInt32 &&& (nI 1431655765))).toUInt32 >>> ((nI 2).toUInt32 &&& Int32.toUInt32 31)).toInt32 &&& (nI 858993459))).toUInt32 >>> ((nI 4).toUInt32 &&& Int32.toUInt32 31)).toInt32) &&& (nI 252645135)).toUInt32 >>> ((nI 8).toUInt32 &&& Int32.toUInt32 31)).toInt32) + (((((((a0 - ((a0.toUInt32 >>> ((nI 1).toUInt32 &&& Int32.toUInt32 31)).toInt32 &&& (nI 1431655765))) &&& (nI 858993459)) + (((a0 - ((a0.toUInt32 >>> ((nI 1).toUInt32 &&& Int32.toUInt32 31)).toInt32 &&& (nI 1431655765))).toUInt32 >>> ((nI 2).toUInt32 &&& Int32.toUInt32 31)).toInt32 &&& (nI 858993459))) + ((((a0 - ((a0.toUInt32 >>> ((nI 1).toUInt32 &&& Int32.toUInt32 31)).toInt32 &&& (nI 1431655765))) &&& (nI 858993459)) + (((a0 - ((a0.toUInt32 >>> ((nI 1).toUInt32 &&& Int32.toUInt32 31)).toInt32 &&& (nI 1431655765))).toUInt32 >>> ((nI 2).toUInt32 &&& Int32.toUInt32 31)).toInt32 &&& (nI 858993459))).toUInt32 >>> ((nI 4).toUInt32 &&& Int32.toUInt32 31)).toInt32) &&& (nI 252645135)) + ((((((a0 - ((a0.toUInt32 >>> ((nI 1).toUInt32 &&& Int32.toUInt32 31)).toInt32 &&& (nI 1431655765))) &&& (nI 858993459)) + (((a0 - ((a0.toUInt32 >>> ((nI 1).toUInt32 &&& Int32.toUInt32 31)).toInt32 &&& (nI 1431655765))).toUInt32 >>> ((nI 2).toUInt32 &&& Int32.toUInt32 31)).toInt32 &&& (nI 858993459))) + ((((a0 - ((a0.toUInt32 >>> ((nI 1).toUInt32 &&& Int32.toUInt32 31)).toInt32 &&& (nI 1431655765))) &&& (nI 858993459)) + (((a0 - ((a0.toUInt32 >>> ((nI 1).toUInt32 &&& Int32.toUInt32 31)).toInt32 &&& (nI 1431655765))).toUInt32 >>> ((nI 2).toUInt32 &&& Int32.toUInt32 31)).toInt32 &&& (nI 858993459))).toUInt32 >>> ((nI 4).toUInt32 &&& Int32.toUInt32 31)).toInt32) &&& (nI 252645135)).toUInt32 >>> ((nI 8).toUInt32 &&& Int32.toUInt32 31)).toInt32).toUInt32 >>> ((nI 16).toUInt32 &&& Int32.toUInt32 31)).toInt32) &&& (nI 63))], sl, (CH I A N V lt tw sp sr X)) :=
  (R_gob [] 400 _ _ _).trans rfl
set_option maxRecDepth 100000 in
theorem k77_r12_0 (d sl : Nat) (I : Nat → Nat → Int32) (A : Nat → Nat → Int32) (N : Nat → Nat → Int64) (V : Nat → Nat → Option Nat) (lt : Int64) (tw : Option Nat) (sp sr : Nat) (X : List AC)  :
  R d 77 (0, [some (.ref 12), none, none], [], sl, (CH I A N V lt tw sp sr X)) =
    R d 77 (2, [some (.ref 12), some (.int (nI 0)), none], [], sl, (CH I A N V lt tw sp sr X)) :=
  (R_gob [2, 90] 400 _ _ _).trans rfl
set_option maxRecDepth 100000 in
theorem k77_r12_2 (d sl : Nat) (I : Nat → Nat → Int32) (A : Nat → Nat → Int32) (N : Nat → Nat → Int64) (V : Nat → Nat → Option Nat) (lt : Int64) (tw : Option Nat) (sp sr : Nat) (X : List AC) (a1 : Int32) :
  R d 77 (2, [some (.ref 12), some (.int a1), none], [], sl, (CH I A N V lt tw sp sr X)) =
    cond (decide ((I 12 8) ≤ a1)) (cond (decide ((I 12 11) ≤ (nI 0))) (R d 77 (90, [some (.ref 12), some (.int (nI 0)), some (.int (nI 0))], [], sl, (CH (up1 I 12 (up1 (I 12) 12 ((I 12 12) + (nI 1)))) A N V lt tw sp sr X))) (cond (!decide ((I 12 11) = (nI 0))) (cond (!decide ((((I 12 12) + (nI 1)) - ((I 12 12) + (nI 1)) / (I 12 11) * (I 12 11)) = (nI 0))) (R d 77 (90, [some (.ref 12), some (.int (nI 0)), some (.int (nI 0))], [], sl, (CH (up1 I 12 (up1 (I 12) 12 ((I 12 12) + (nI 1)))) A N V lt tw sp sr X))) (R d 77 (90, [some (.ref 12), some (.int (nI 1)), some (.int (nI 0))], [], sl, (CH (up1 I 12 (up1 (I 12) 12 ((I 12 12) + (nI 1)))) A N V lt tw sp sr X)))) none)) (cond (x_in a1 6) (cond (decide ((nI 9999) ≤ ((A 14) a1.toNatClampNeg))) (R d 77 (2, [some (.ref 12), some (.int (a1 + (nI 1))), none], [], sl, (CH I A N V lt tw sp sr X))) (cond (x_in a1 6) (cond (x_in a1 6) (cond (x_in a1 6) (R d 77 (2, [some (.ref 12), some (.int (a1 + (nI 1))), none], [], sl, (CH I (up1 A 14 (upd (A 14) a1.toNatClampNeg (x_min (nI 9999) (((A 14) a1.toNatClampNeg) + ((A 15) a1.toNatClampNeg))))) N V lt tw sp sr X))) none) none) none)) none) :=
  (R_gob [2, 90] 400 _ _ _).trans rfl
set_option maxRecDepth 100000 in
theorem k77_r12_90 (d sl : Nat) (I : Nat → Nat → Int32) (A : Nat → Nat → Int32) (N : Nat → Nat → Int64) (V : Nat → Nat → Option Nat) (lt : Int64) (tw : Option Nat) (sp sr : Nat) (X : List AC) (a1 : Int32) (a2 : Int32) :
  R d 77 (90, [some (.ref 12), some (.int a1), some (.int a2)], [], sl, (CH I A N V lt tw sp sr X)) =
    cond (decide ((I 12 9) ≤ a2)) (some (160, [some (.ref 12), some (.int a1), some (.int a2)], [], sl, (CH I A N V lt tw sp sr X))) (cond (x_in a2 12) (cond (decide (((A 19) a2.toNatClampNeg) ≤ (nI 0))) (R d 77 (90, [some (.ref 12), some (.int a1), some (.int (a2 + (nI 1)))], [], sl, (CH I A N V lt tw sp sr X))) (cond (x_in a2 12) (cond (x_in a2 12) (cond (decide (a1 = (nI 0))) (R d 77 (90, [some (.ref 12), some (.int a1), some (.int (a2 + (nI 1)))], [], sl, (CH I (up1 A 20 (upd (A 20) a2.toNatClampNeg (x_min (nI 999) (((A 20) a2.toNatClampNeg) + (nI 1))))) N V lt tw sp sr X))) (cond (x_in a2 12) (cond (x_in a2 12) (R d 77 (90, [some (.ref 12), some (.int a1), some (.int (a2 + (nI 1)))], [], sl, (CH I (up1 (up1 A 19 (upd (A 19) a2.toNatClampNeg (x_min (nI 9999) (((A 19) a2.toNatClampNeg) + (I 12 10))))) 20 (upd (A 20) a2.toNatClampNeg (x_min (nI 999) (((A 20) a2.toNatClampNeg) + (nI 1))))) N V lt tw sp sr X))) none) none)) none) none)) none) :=
  (R_gob [2, 90] 400 _ _ _).trans rfl
set_option maxRecDepth 100000 in
theorem k107_r95_r3_0 (d sl : Nat) (I : Nat → Nat → Int32) (A : Nat → Nat → Int32) (N : Nat → Nat → Int64) (V : Nat → Nat → Option Nat) (lt : Int64) (tw : Option Nat) (sp sr : Nat) (X : List AC) (a2 : Int32) :
  R (d + 1) 107 (0, [some (.ref 95), some (.ref 3), some (.int a2), none, none, none], [], sl, (CH I A N V lt tw sp sr X)) =
    bC (C d 108 [.ref 95, .ref 3] sl (CH I A N V lt tw sp sr X)) (fun vs sl h => R (d + 1) 107 (5, [some (.ref 95), some (.ref 3), some (.int a2), none, none, none], vs ++ [], sl, h)) :=
  (R_gob [5, 11, 37, 54] 400 _ _ _).trans rfl
set_option maxRecDepth 100000 in
theorem k107_r95_r3_5 (d sl : Nat) (I : Nat → Nat → Int32) (A : Nat → Nat → Int32) (N : Nat → Nat → Int64) (V : Nat → Nat → Option Nat) (lt : Int64) (tw : Option Nat) (sp sr : Nat) (X : List AC) (a2 : Int32) :
  R (d + 1) 107 (5, [some (.ref 95), some (.ref 3), some (.int a2), none, none, none], [], sl, (CH I A N V lt tw sp sr X)) =
    bC (C d 109 [.ref 95, .ref 3, .int a2] sl (CH I A N V lt tw sp sr X)) (fun vs sl h => R (d + 1) 107 (11, [some (.ref 95), some (.ref 3), some (.int a2), none, none, none], vs ++ [], sl, h)) :=
  (R_gob [5, 11, 37, 54] 400 _ _ _).trans rfl
set_option maxRecDepth 100000 in
theorem k107_r95_r3_11 (d sl : Nat) (I : Nat → Nat → Int32) (A : Nat → Nat → Int32) (N : Nat → Nat → Int64) (V : Nat → Nat → Option Nat) (lt : Int64) (tw : Option Nat) (sp sr : Nat) (X : List AC) (a2 : Int32) (b0 : Int32) :
  R (d + 1) 107 (11, [some (.ref 95), some (.ref 3), some (.int a2), none, none, none], [.int b0], sl, (CH I A N V lt tw sp sr X)) =
    cond (decide (b0 = (nI 0))) (some (23, [some (.ref 95), some (.ref 3), some (.int a2), some (.int b0), none, none], [.int (nI 0)], sl, (CH I A N V lt tw sp sr X))) (cond (decide (b0 ≤ (nI 6))) (R (d + 1) 107 (37, [some (.ref 95), some (.ref 3), some (.int a2), some (.int b0), some (.int a2), some (.int (nI 1))], [], sl, (CH I (up1 A 98 (upd (A 98) 0 a2)) N V lt tw sp sr X))) (some (23, [some (.ref 95), some (.ref 3), some (.int a2), some (.int b0), none, none], [.int (nI 0)], sl, (CH I A N V lt tw sp sr X)))) :=
  (R_gob [5, 11, 37, 54] 400 _ _ _).trans rfl
set_option maxRecDepth 100000 in
theorem k107_r95_r3_37 (d sl : Nat) (I : Nat → Nat → Int32) (A : Nat → Nat → Int32) (N : Nat → Nat → Int64) (V : Nat → Nat → Option Nat) (lt : Int64) (tw : Option Nat) (sp sr : Nat) (X : List AC) (a2 : Int32) (a3 : Int32) (a4 : Int32) (a5 : Int32) :
  R (d + 1) 107 (37, [some (.ref 95), some (.ref 3), some (.int a2), some (.int a3), some (.int a4), some (.int a5)], [], sl, (CH I A N V lt tw sp sr X)) =
    cond (decide (a3 ≤ a5)) (some (77, [some (.ref 95), some (.ref 3), some (.int a2), some (.int a3), some (.int a4), some (.int a5)], [.int (nI 1)], sl, (CH (up1 I 95 (up1 (I 95) 3 a3)) A N V lt tw sp sr X))) (bC (C d 111 [.ref 95, .ref 3, .int a4, .int (a3 - a5)] sl (CH I A N V lt tw sp sr X)) (fun vs sl h => R (d + 1) 107 (54, [some (.ref 95), some (.ref 3), some (.int a2), some (.int a3), some (.int a4), some (.int a5)], vs ++ [], sl, h))) :=
  (R_gob [5, 11, 37, 54] 400 _ _ _).trans rfl
set_option maxRecDepth 100000 in
theorem k107_r95_r3_54 (d sl : Nat) (I : Nat → Nat → Int32) (A : Nat → Nat → Int32) (N : Nat → Nat → Int64) (V : Nat → Nat → Option Nat) (lt : Int64) (tw : Option Nat) (sp sr : Nat) (X : List AC) (a2 : Int32) (a3 : Int32) (a4 : Int32) (a5 : Int32) (b0 : Int32) :
  R (d + 1) 107 (54, [some (.ref 95), some (.ref 3), some (.int a2), some (.int a3), some (.int a4), some (.int a5)], [.int b0], sl, (CH I A N V lt tw sp sr X)) =
    cond (x_in a5 6) (R (d + 1) 107 (37, [some (.ref 95), some (.ref 3), some (.int a2), some (.int a3), some (.int b0), some (.int (a5 + (nI 1)))], [], sl, (CH I (up1 A 98 (upd (A 98) a5.toNatClampNeg b0)) N V lt tw sp sr X))) none :=
  (R_gob [5, 11, 37, 54] 400 _ _ _).trans rfl
set_option maxRecDepth 100000 in
theorem k112_r95_r3_0 (d sl : Nat) (I : Nat → Nat → Int32) (A : Nat → Nat → Int32) (N : Nat → Nat → Int64) (V : Nat → Nat → Option Nat) (lt : Int64) (tw : Option Nat) (sp sr : Nat) (X : List AC)  :
  R (d + 1) 112 (0, [some (.ref 95), some (.ref 3), none, none, none, none], [], sl, (CH I A N V lt tw sp sr X)) =
    R (d + 1) 112 (23, [some (.ref 95), some (.ref 3), some (.int ((nI 1) <<< ((I 3 8) &&& nI 31))), some (.int (nI 0)), none, none], [], sl, (CH I (up1 (up1 A 99 (upd (A 99) 0 (nI 0))) 100 (upd (A 100) 0 (nI 0))) N V lt tw sp sr X)) :=
  (R_gob [23, 36, 41, 49, 99, 120] 400 _ _ _).trans rfl
set_option maxRecDepth 100000 in
theorem k112_r95_r3_23 (d sl : Nat) (I : Nat → Nat → Int32) (A : Nat → Nat → Int32) (N : Nat → Nat → Int64) (V : Nat → Nat → Option Nat) (lt : Int64) (tw : Option Nat) (sp sr : Nat) (X : List AC) (a2 : Int32) (a3 : Int32) :
  R (d + 1) 112 (23, [some (.ref 95), some (.ref 3), some (.int a2), some (.int a3), none, none], [], sl, (CH I A N V lt tw sp sr X)) =
    cond (decide ((I 3 8) ≤ a3)) (R (d + 1) 112 (99, [some (.ref 95), some (.ref 3), some (.int a2), some (.int (nI 1)), none, none], [], sl, (CH I A N V lt tw sp sr X))) (bC (C d 58 [.ref 3, .int a3] sl (CH I A N V lt tw sp sr X)) (fun vs sl h => R (d + 1) 112 (36, [some (.ref 95), some (.ref 3), some (.int a2), some (.int a3), none, none], vs ++ [], sl, h))) :=
  (R_gob [23, 36, 41, 49, 99, 120] 400 _ _ _).trans rfl
set_option maxRecDepth 100000 in
theorem k112_r95_r3_99 (d sl : Nat) (I : Nat → Nat → Int32) (A : Nat → Nat → Int32) (N : Nat → Nat → Int64) (V : Nat → Nat → Option Nat) (lt : Int64) (tw : Option Nat) (sp sr : Nat) (X : List AC) (a2 : Int32) (a3 : Int32) :
  R (d + 1) 112 (99, [some (.ref 95), some (.ref 3), some (.int a2), some (.int a3), none, none], [], sl, (CH I A N V lt tw sp sr X)) =
    cond (decide (a2 ≤ a3)) (cond (x_in (a2 - (nI 1)) 64) (some (155, [some (.ref 95), some (.ref 3), some (.int a2), some (.int a3), none, none], [.int ((I 3 8) - ((A 100) (a2 - (nI 1)).toNatClampNeg))], sl, (CH I A N V lt tw sp sr X))) none) (cond (decide ((nI 64) ≤ a3)) (cond (x_in (a2 - (nI 1)) 64) (some (155, [some (.ref 95), some (.ref 3), some (.int a2), some (.int a3), none, none], [.int ((I 3 8) - ((A 100) (a2 - (nI 1)).toNatClampNeg))], sl, (CH I A N V lt tw sp sr X))) none) (bC (C d 113 [.ref 95, .int a3] sl (CH I A N V lt tw sp sr X)) (fun vs sl h => R (d + 1) 112 (120, [some (.ref 95), some (.ref 3), some (.int a2), some (.int a3), none, none], vs ++ [.int a3, .ref 100], sl, h)))) :=
  (R_gob [23, 36, 41, 49, 99, 120] 400 _ _ _).trans rfl
set_option maxRecDepth 100000 in
theorem k112_r95_r3_36 (d sl : Nat) (I : Nat → Nat → Int32) (A : Nat → Nat → Int32) (N : Nat → Nat → Int64) (V : Nat → Nat → Option Nat) (lt : Int64) (tw : Option Nat) (sp sr : Nat) (X : List AC) (a2 : Int32) (a3 : Int32) (b0 : Int32) :
  R (d + 1) 112 (36, [some (.ref 95), some (.ref 3), some (.int a2), some (.int a3), none, none], [.int b0], sl, (CH I A N V lt tw sp sr X)) =
    bC (C d 57 [.ref 3, .int a3] sl (CH I A N V lt tw sp sr X)) (fun vs sl h => R (d + 1) 112 (41, [some (.ref 95), some (.ref 3), some (.int a2), some (.int a3), none, none], vs ++ [.int b0], sl, h)) :=
  (R_gob [23, 36, 41, 49, 99, 120] 400 _ _ _).trans rfl
set_option maxRecDepth 100000 in
theorem k112_r95_r3_120 (d sl : Nat) (I : Nat → Nat → Int32) (A : Nat → Nat → Int32) (N : Nat → Nat → Int64) (V : Nat → Nat → Option Nat) (lt : Int64) (tw : Option Nat) (sp sr : Nat) (X : List AC) (a2 : Int32) (a3 : Int32) (b0 : Int32) (b1 : Int32) :
  R (d + 1) 112 (120, [some (.ref 95), some (.ref 3), some (.int a2), some (.int a3), none, none], [.int b0, .int b1, .ref 100], sl, (CH I A N V lt tw sp sr X)) =
    cond (x_in a3 64) (cond (!decide (((A 99) a3.toNatClampNeg) = (nI 0))) (cond (x_in b1 64) (R (d + 1) 112 (99, [some (.ref 95), some (.ref 3), some (.int a2), some (.int (a3 + (nI 1))), none, none], [], sl, (CH I (up1 A 100 (upd (A 100) b1.toNatClampNeg (b0 + (nI 0)))) N V lt tw sp sr X))) none) (cond (x_in b1 64) (R (d + 1) 112 (99, [some (.ref 95), some (.ref 3), some (.int a2), some (.int (a3 + (nI 1))), none, none], [], sl, (CH I (up1 A 100 (upd (A 100) b1.toNatClampNeg (b0 + (nI 1)))) N V lt tw sp sr X))) none)) none :=
  (R_gob [23, 36, 41, 49, 99, 120] 400 _ _ _).trans rfl
set_option maxRecDepth 100000 in
theorem k112_r95_r3_41 (d sl : Nat) (I : Nat → Nat → Int32) (A : Nat → Nat → Int32) (N : Nat → Nat → Int64) (V : Nat → Nat → Option Nat) (lt : Int64) (tw : Option Nat) (sp sr : Nat) (X : List AC) (a2 : Int32) (a3 : Int32) (b0 : Int32) (b1 : Int32) :
  R (d + 1) 112 (41, [some (.ref 95), some (.ref 3), some (.int a2), some (.int a3), none, none], [.int b0, .int b1], sl, (CH I A N V lt tw sp sr X)) =
    R (d + 1) 112 (49, [some (.ref 95), some (.ref 3), some (.int a2), some (.int a3), some (.int (b1 - b0)), some (.int ((nI 1) <<< (a3 &&& nI 31)))], [], sl, (CH I A N V lt tw sp sr X)) :=
  (R_gob [23, 36, 41, 49, 99, 120] 400 _ _ _).trans rfl
set_option maxRecDepth 100000 in
theorem k112_r95_r3_49 (d sl : Nat) (I : Nat → Nat → Int32) (A : Nat → Nat → Int32) (N : Nat → Nat → Int64) (V : Nat → Nat → Option Nat) (lt : Int64) (tw : Option Nat) (sp sr : Nat) (X : List AC) (a2 : Int32) (a3 : Int32) (a4 : Int32) (a5 : Int32) :
  R (d + 1) 112 (49, [some (.ref 95), some (.ref 3), some (.int a2), some (.int a3), some (.int a4), some (.int a5)], [], sl, (CH I A N V lt tw sp sr X)) =
    cond (decide (((nI 2) <<< (a3 &&& nI 31)) ≤ a5)) (R (d + 1) 112 (23, [some (.ref 95), some (.ref 3), some (.int a2), some (.int (a3 + (nI 1))), some (.int a4), some (.int a5)], [], sl, (CH I A N V lt tw sp sr X))) (cond (decide ((nI 64) ≤ a5)) (R (d + 1) 112 (23, [some (.ref 95), some (.ref 3), some (.int a2), some (.int (a3 + (nI 1))), some (.int a4), some (.int a5)], [], sl, (CH I A N V lt tw sp sr X))) (cond (x_in (a5 - ((nI 1) <<< (a3 &&& nI 31))) 64) (cond (x_in a5 64) (R (d + 1) 112 (49, [some (.ref 95), some (.ref 3), some (.int a2), some (.int a3), some (.int a4), some (.int (a5 + (nI 1)))], [], sl, (CH I (up1 A 99 (upd (A 99) a5.toNatClampNeg (((A 99) (a5 - ((nI 1) <<< (a3 &&& nI 31))).toNatClampNeg) + a4))) N V lt tw sp sr X))) none) none)) :=
  (R_gob [23, 36, 41, 49, 99, 120] 400 _ _ _).trans rfl
set_option maxRecDepth 100000 in
theorem k112_r95_r3_23_1 (d sl : Nat) (I : Nat → Nat → Int32) (A : Nat → Nat → Int32) (N : Nat → Nat → Int64) (V : Nat → Nat → Option Nat) (lt : Int64) (tw : Option Nat) (sp sr : Nat) (X : List AC) (a2 : Int32) (a3 : Int32) (a4 : Int32) (a5 : Int32) :
  R (d + 1) 112 (23, [some (.ref 95), some (.ref 3), some (.int a2), some (.int a3), some (.int a4), some (.int a5)], [], sl, (CH I A N V lt tw sp sr X)) =
    cond (decide ((I 3 8) ≤ a3)) (R (d + 1) 112 (99, [some (.ref 95), some (.ref 3), some (.int a2), some (.int (nI 1)), some (.int a4), some (.int a5)], [], sl, (CH I A N V lt tw sp sr X))) (bC (C d 58 [.ref 3, .int a3] sl (CH I A N V lt tw sp sr X)) (fun vs sl h => R (d + 1) 112 (36, [some (.ref 95), some (.ref 3), some (.int a2), some (.int a3), some (.int a4), some (.int a5)], vs ++ [], sl, h))) :=
  (R_gob [23, 36, 41, 49, 99, 120] 400 _ _ _).trans rfl
set_option maxRecDepth 100000 in
theorem k112_r95_r3_99_1 (d sl : Nat) (I : Nat → Nat → Int32) (A : Nat → Nat → Int32) (N : Nat → Nat → Int64) (V : Nat → Nat → Option Nat) (lt : Int64) (tw : Option Nat) (sp sr : Nat) (X : List AC) (a2 : Int32) (a3 : Int32) (a4 : Int32) (a5 : Int32) :
  R (d + 1) 112 (99, [some (.ref 95), some (.ref 3), some (.int a2), some (.int a3), some (.int a4), some (.int a5)], [], sl, (CH I A N V lt tw sp sr X)) =
    cond (decide (a2 ≤ a3)) (cond (x_in (a2 - (nI 1)) 64) (some (155, [some (.ref 95), some (.ref 3), some (.int a2), some (.int a3), some (.int a4), some (.int a5)], [.int ((I 3 8) - ((A 100) (a2 - (nI 1)).toNatClampNeg))], sl, (CH I A N V lt tw sp sr X))) none) (cond (decide ((nI 64) ≤ a3)) (cond (x_in (a2 - (nI 1)) 64) (some (155, [some (.ref 95), some (.ref 3), some (.int a2), some (.int a3), some (.int a4), some (.int a5)], [.int ((I 3 8) - ((A 100) (a2 - (nI 1)).toNatClampNeg))], sl, (CH I A N V lt tw sp sr X))) none) (bC (C d 113 [.ref 95, .int a3] sl (CH I A N V lt tw sp sr X)) (fun vs sl h => R (d + 1) 112 (120, [some (.ref 95), some (.ref 3), some (.int a2), some (.int a3), some (.int a4), some (.int a5)], vs ++ [.int a3, .ref 100], sl, h)))) :=
  (R_gob [23, 36, 41, 49, 99, 120] 400 _ _ _).trans rfl
set_option maxRecDepth 100000 in
theorem k112_r95_r3_36_1 (d sl : Nat) (I : Nat → Nat → Int32) (A : Nat → Nat → Int32) (N : Nat → Nat → Int64) (V : Nat → Nat → Option Nat) (lt : Int64) (tw : Option Nat) (sp sr : Nat) (X : List AC) (a2 : Int32) (a3 : Int32) (a4 : Int32) (a5 : Int32) (b0 : Int32) :
  R (d + 1) 112 (36, [some (.ref 95), some (.ref 3), some (.int a2), some (.int a3), some (.int a4), some (.int a5)], [.int b0], sl, (CH I A N V lt tw sp sr X)) =
    bC (C d 57 [.ref 3, .int a3] sl (CH I A N V lt tw sp sr X)) (fun vs sl h => R (d + 1) 112 (41, [some (.ref 95), some (.ref 3), some (.int a2), some (.int a3), some (.int a4), some (.int a5)], vs ++ [.int b0], sl, h)) :=
  (R_gob [23, 36, 41, 49, 99, 120] 400 _ _ _).trans rfl
set_option maxRecDepth 100000 in
theorem k112_r95_r3_120_1 (d sl : Nat) (I : Nat → Nat → Int32) (A : Nat → Nat → Int32) (N : Nat → Nat → Int64) (V : Nat → Nat → Option Nat) (lt : Int64) (tw : Option Nat) (sp sr : Nat) (X : List AC) (a2 : Int32) (a3 : Int32) (a4 : Int32) (a5 : Int32) (b0 : Int32) (b1 : Int32) :
  R (d + 1) 112 (120, [some (.ref 95), some (.ref 3), some (.int a2), some (.int a3), some (.int a4), some (.int a5)], [.int b0, .int b1, .ref 100], sl, (CH I A N V lt tw sp sr X)) =
    cond (x_in a3 64) (cond (!decide (((A 99) a3.toNatClampNeg) = (nI 0))) (cond (x_in b1 64) (R (d + 1) 112 (99, [some (.ref 95), some (.ref 3), some (.int a2), some (.int (a3 + (nI 1))), some (.int a4), some (.int a5)], [], sl, (CH I (up1 A 100 (upd (A 100) b1.toNatClampNeg (b0 + (nI 0)))) N V lt tw sp sr X))) none) (cond (x_in b1 64) (R (d + 1) 112 (99, [some (.ref 95), some (.ref 3), some (.int a2), some (.int (a3 + (nI 1))), some (.int a4), some (.int a5)], [], sl, (CH I (up1 A 100 (upd (A 100) b1.toNatClampNeg (b0 + (nI 1)))) N V lt tw sp sr X))) none)) none :=
  (R_gob [23, 36, 41, 49, 99, 120] 400 _ _ _).trans rfl
set_option maxRecDepth 100000 in
theorem k112_r95_r3_41_1 (d sl : Nat) (I : Nat → Nat → Int32) (A : Nat → Nat → Int32) (N : Nat → Nat → Int64) (V : Nat → Nat → Option Nat) (lt : Int64) (tw : Option Nat) (sp sr : Nat) (X : List AC) (a2 : Int32) (a3 : Int32) (a4 : Int32) (a5 : Int32) (b0 : Int32) (b1 : Int32) :
  R (d + 1) 112 (41, [some (.ref 95), some (.ref 3), some (.int a2), some (.int a3), some (.int a4), some (.int a5)], [.int b0, .int b1], sl, (CH I A N V lt tw sp sr X)) =
    R (d + 1) 112 (49, [some (.ref 95), some (.ref 3), some (.int a2), some (.int a3), some (.int (b1 - b0)), some (.int ((nI 1) <<< (a3 &&& nI 31)))], [], sl, (CH I A N V lt tw sp sr X)) :=
  (R_gob [23, 36, 41, 49, 99, 120] 400 _ _ _).trans rfl
set_option maxRecDepth 100000 in
theorem k145_0 (d sl : Nat) (I : Nat → Nat → Int32) (A : Nat → Nat → Int32) (N : Nat → Nat → Int64) (V : Nat → Nat → Option Nat) (lt : Int64) (tw : Option Nat) (sp sr : Nat) (X : List AC) (a0 : Int32) (a1 : Int32) :
  R d 145 (0, [some (.int a0), some (.int a1), none], [], sl, (CH I A N V lt tw sp sr X)) =
    R d 145 (2, [some (.int a0), some (.int a1), some (.int a1)], [], sl, (CH I A N V lt tw sp sr X)) :=
  (R_gob [2] 400 _ _ _).trans rfl
set_option maxRecDepth 100000 in
theorem k145_2 (d sl : Nat) (I : Nat → Nat → Int32) (A : Nat → Nat → Int32) (N : Nat → Nat → Int64) (V : Nat → Nat → Option Nat) (lt : Int64) (tw : Option Nat) (sp sr : Nat) (X : List AC) (a0 : Int32) (a1 : Int32) (a2 : Int32) :
  R d 145 (2, [some (.int a0), some (.int a1), some (.int a2)], [], sl, (CH I A N V lt tw sp sr X)) =
    cond (decide (a2 ≤ (nI 1))) (some (28, [some (.int a0), some (.int a1), some (.int a2)], [.int (nI 1)], sl, (CH I A N V lt tw sp sr X))) (cond (!decide (a2 = (nI 0))) (cond (!decide ((a0 - a0 / a2 * a2) = (nI 0))) (R d 145 (2, [some (.int a0), some (.int a1), some (.int (a2 + (-1 : Int32)))], [], sl, (CH I A N V lt tw sp sr X))) (cond (!decide (a2 = (nI 0))) (cond (!decide ((a1 - a1 / a2 * a2) = (nI 0))) (R d 145 (2, [some (.int a0), some (.int a1), some (.int (a2 + (-1 : Int32)))], [], sl, (CH I A N V lt tw sp sr X))) (some (20, [some (.int a0), some (.int a1), some (.int a2)], [.int a2], sl, (CH I A N V lt tw sp sr X)))) none)) none) :=
  (R_gob [2] 400 _ _ _).trans rfl
set_option maxRecDepth 100000 in
theorem k61_r3_0 (d sl : Nat) (I : Nat → Nat → Int32) (A : Nat → Nat → Int32) (N : Nat → Nat → Int64) (V : Nat → Nat → Option Nat) (lt : Int64) (tw : Option Nat) (sp sr : Nat) (X : List AC) (a1 : Int32) :
  R (d + 1) 61 (0, [some (.ref 3), some (.int a1), none, none], [], sl, (CH I A N V lt tw sp sr X)) =
    R (d + 1) 61 (4, [some (.ref 3), some (.int a1), some (.int (nI 0)), some (.int (nI 0))], [], sl, (CH I A N V lt tw sp sr X)) :=
  (R_gob [4, 18] 400 _ _ _).trans rfl
set_option maxRecDepth 100000 in
theorem k61_r3_4 (d sl : Nat) (I : Nat → Nat → Int32) (A : Nat → Nat → Int32) (N : Nat → Nat → Int64) (V : Nat → Nat → Option Nat) (lt : Int64) (tw : Option Nat) (sp sr : Nat) (X : List AC) (a1 : Int32) (a2 : Int32) (a3 : Int32) :
  R (d + 1) 61 (4, [some (.ref 3), some (.int a1), some (.int a2), some (.int a3)], [], sl, (CH I A N V lt tw sp sr X)) =
    cond (decide ((I 3 9) ≤ a3)) (some (37, [some (.ref 3), some (.int a1), some (.int a2), some (.int a3)], [.int a2], sl, (CH I A N V lt tw sp sr X))) (bC (C d 51 [.ref 3, .int a1, .int a3] sl (CH I A N V lt tw sp sr X)) (fun vs sl h => R (d + 1) 61 (18, [some (.ref 3), some (.int a1), some (.int a2), some (.int a3)], vs ++ [], sl, h))) :=
  (R_gob [4, 18] 400 _ _ _).trans rfl
set_option maxRecDepth 100000 in
theorem k61_r3_18 (d sl : Nat) (I : Nat → Nat → Int32) (A : Nat → Nat → Int32) (N : Nat → Nat → Int64) (V : Nat → Nat → Option Nat) (lt : Int64) (tw : Option Nat) (sp sr : Nat) (X : List AC) (a1 : Int32) (a2 : Int32) (a3 : Int32) (b0 : Int32) :
  R (d + 1) 61 (18, [some (.ref 3), some (.int a1), some (.int a2), some (.int a3)], [.int b0], sl, (CH I A N V lt tw sp sr X)) =
    cond (decide (b0 = (nI 0))) (R (d + 1) 61 (4, [some (.ref 3), some (.int a1), some (.int a2), some (.int (a3 + (nI 1)))], [], sl, (CH I A N V lt tw sp sr X))) (cond (x_in a3 12) (R (d + 1) 61 (4, [some (.ref 3), some (.int a1), some (.int (a2 + ((A 11) a3.toNatClampNeg))), some (.int (a3 + (nI 1)))], [], sl, (CH I A N V lt tw sp sr X))) none) :=
  (R_gob [4, 18] 400 _ _ _).trans rfl
set_option maxRecDepth 100000 in
theorem k150_0 (d sl : Nat) (I : Nat → Nat → Int32) (A : Nat → Nat → Int32) (N : Nat → Nat → Int64) (V : Nat → Nat → Option Nat) (lt : Int64) (tw : Option Nat) (sp sr : Nat) (X : List AC) (a1 : Int32) :
  R (d + 1) 150 (0, [some (.ref 0), some (.int a1), none, none, none, none], [], sl, (CH I A N V lt tw sp sr X)) =
    R (d + 1) 150 (8, [some (.ref 0), some (.int a1), some (.int (nI 0)), some (.int (nI 13)), some (.int (nI 0)), none], [], sl, (CH I A N V lt tw sp sr X)) :=
  (R_gob [8, 21] 400 _ _ _).trans rfl
set_option maxRecDepth 100000 in
theorem k150_8 (d sl : Nat) (I : Nat → Nat → Int32) (A : Nat → Nat → Int32) (N : Nat → Nat → Int64) (V : Nat → Nat → Option Nat) (lt : Int64) (tw : Option Nat) (sp sr : Nat) (X : List AC) (a1 : Int32) (a2 : Int32) (a3 : Int32) (a4 : Int32) :
  R (d + 1) 150 (8, [some (.ref 0), some (.int a1), some (.int a2), some (.int a3), some (.int a4), none], [], sl, (CH I A N V lt tw sp sr X)) =
    cond (decide ((nI 5) ≤ a4)) (some (42, [some (.ref 0), some (.int a1), some (.int a2), some (.int a3), some (.int a4), none], [.int a2], sl, (CH I A N V lt tw sp sr X))) (bC (C d 151 [.ref 0, .int a1, .int a4] sl (CH I A N V lt tw sp sr X)) (fun vs sl h => R (d + 1) 150 (21, [some (.ref 0), some (.int a1), some (.int a2), some (.int a3), some (.int a4), none], vs ++ [], sl, h))) :=
  (R_gob [8, 21] 400 _ _ _).trans rfl
set_option maxRecDepth 100000 in
theorem k150_21 (d sl : Nat) (I : Nat → Nat → Int32) (A : Nat → Nat → Int32) (N : Nat → Nat → Int64) (V : Nat → Nat → Option Nat) (lt : Int64) (tw : Option Nat) (sp sr : Nat) (X : List AC) (a1 : Int32) (a2 : Int32) (a3 : Int32) (a4 : Int32) (b0 : Int32) :
  R (d + 1) 150 (21, [some (.ref 0), some (.int a1), some (.int a2), some (.int a3), some (.int a4), none], [.int b0], sl, (CH I A N V lt tw sp sr X)) =
    cond (decide (a3 ≤ b0)) (R (d + 1) 150 (8, [some (.ref 0), some (.int a1), some (.int a2), some (.int a3), some (.int (a4 + (nI 1))), some (.int b0)], [], sl, (CH I A N V lt tw sp sr X))) (R (d + 1) 150 (8, [some (.ref 0), some (.int a1), some (.int a4), some (.int b0), some (.int (a4 + (nI 1))), some (.int b0)], [], sl, (CH I A N V lt tw sp sr X))) :=
  (R_gob [8, 21] 400 _ _ _).trans rfl
set_option maxRecDepth 100000 in
theorem k150_8_1 (d sl : Nat) (I : Nat → Nat → Int32) (A : Nat → Nat → Int32) (N : Nat → Nat → Int64) (V : Nat → Nat → Option Nat) (lt : Int64) (tw : Option Nat) (sp sr : Nat) (X : List AC) (a1 : Int32) (a2 : Int32) (a3 : Int32) (a4 : Int32) (a5 : Int32) :
  R (d + 1) 150 (8, [some (.ref 0), some (.int a1), some (.int a2), some (.int a3), some (.int a4), some (.int a5)], [], sl, (CH I A N V lt tw sp sr X)) =
    cond (decide ((nI 5) ≤ a4)) (some (42, [some (.ref 0), some (.int a1), some (.int a2), some (.int a3), some (.int a4), some (.int a5)], [.int a2], sl, (CH I A N V lt tw sp sr X))) (bC (C d 151 [.ref 0, .int a1, .int a4] sl (CH I A N V lt tw sp sr X)) (fun vs sl h => R (d + 1) 150 (21, [some (.ref 0), some (.int a1), some (.int a2), some (.int a3), some (.int a4), some (.int a5)], vs ++ [], sl, h))) :=
  (R_gob [8, 21] 400 _ _ _).trans rfl
set_option maxRecDepth 100000 in
theorem k150_21_1 (d sl : Nat) (I : Nat → Nat → Int32) (A : Nat → Nat → Int32) (N : Nat → Nat → Int64) (V : Nat → Nat → Option Nat) (lt : Int64) (tw : Option Nat) (sp sr : Nat) (X : List AC) (a1 : Int32) (a2 : Int32) (a3 : Int32) (a4 : Int32) (a5 : Int32) (b0 : Int32) :
  R (d + 1) 150 (21, [some (.ref 0), some (.int a1), some (.int a2), some (.int a3), some (.int a4), some (.int a5)], [.int b0], sl, (CH I A N V lt tw sp sr X)) =
    cond (decide (a3 ≤ b0)) (R (d + 1) 150 (8, [some (.ref 0), some (.int a1), some (.int a2), some (.int a3), some (.int (a4 + (nI 1))), some (.int b0)], [], sl, (CH I A N V lt tw sp sr X))) (R (d + 1) 150 (8, [some (.ref 0), some (.int a1), some (.int a4), some (.int b0), some (.int (a4 + (nI 1))), some (.int b0)], [], sl, (CH I A N V lt tw sp sr X))) :=
  (R_gob [8, 21] 400 _ _ _).trans rfl
set_option maxRecDepth 100000 in
theorem k148_0 (d sl : Nat) (I : Nat → Nat → Int32) (A : Nat → Nat → Int32) (N : Nat → Nat → Int64) (V : Nat → Nat → Option Nat) (lt : Int64) (tw : Option Nat) (sp sr : Nat) (X : List AC)  :
  R (d + 1) 148 (0, [some (.ref 0), none, none, none, none], [], sl, (CH I A N V lt tw sp sr X)) =
    cond (!decide (((I 1 1) - (I 1 1) / (nI 2) * (nI 2)) = (nI 0))) (some (34, [some (.ref 0), some (.int ((I 1 1) / (nI 2))), none, none, none], [.int (-1 : Int32)], sl, (CH I A N V lt tw sp sr X))) (cond (decide (((I 1 1) / (nI 2)) < (nI 1))) (some (34, [some (.ref 0), some (.int ((I 1 1) / (nI 2))), none, none, none], [.int (-1 : Int32)], sl, (CH I A N V lt tw sp sr X))) (cond (decide (((I 1 1) / (nI 2)) ≤ (nI 8))) (bC (C d 65 [.ref 3] sl (CH I A N V lt tw sp sr X)) (fun vs sl h => R (d + 1) 148 (42, [some (.ref 0), some (.int ((I 1 1) / (nI 2))), none, none, none], vs ++ [], sl, h))) (some (34, [some (.ref 0), some (.int ((I 1 1) / (nI 2))), none, none, none], [.int (-1 : Int32)], sl, (CH I A N V lt tw sp sr X))))) :=
  (R_gob [42, 45, 60, 86, 89] 400 _ _ _).trans rfl
set_option maxRecDepth 100000 in
theorem k148_42 (d sl : Nat) (I : Nat → Nat → Int32) (A : Nat → Nat → Int32) (N : Nat → Nat → Int64) (V : Nat → Nat → Option Nat) (lt : Int64) (tw : Option Nat) (sp sr : Nat) (X : List AC) (a1 : Int32) (b0 : Int32) :
  R (d + 1) 148 (42, [some (.ref 0), some (.int a1), none, none, none], [.int b0], sl, (CH I A N V lt tw sp sr X)) =
    R (d + 1) 148 (45, [some (.ref 0), some (.int a1), some (.int b0), some (.int (nI 0)), none], [], sl, (CH I A N V lt tw sp sr X)) :=
  (R_gob [42, 45, 60, 86, 89] 400 _ _ _).trans rfl
set_option maxRecDepth 100000 in
theorem k148_45 (d sl : Nat) (I : Nat → Nat → Int32) (A : Nat → Nat → Int32) (N : Nat → Nat → Int64) (V : Nat → Nat → Option Nat) (lt : Int64) (tw : Option Nat) (sp sr : Nat) (X : List AC) (a1 : Int32) (a2 : Int32) (a3 : Int32) :
  R (d + 1) 148 (45, [some (.ref 0), some (.int a1), some (.int a2), some (.int a3), none], [], sl, (CH I A N V lt tw sp sr X)) =
    cond (decide (a1 ≤ a3)) (some (98, [some (.ref 0), some (.int a1), some (.int a2), some (.int a3), none], [.int a2], sl, (CH I A N V lt tw sp sr X))) (bC (C d 88 [.ref 1, .int ((nI 2) * a3)] sl (CH I A N V lt tw sp sr X)) (fun vs sl h => R (d + 1) 148 (60, [some (.ref 0), some (.int a1), some (.int a2), some (.int a3), none], vs ++ [], sl, h))) :=
  (R_gob [42, 45, 60, 86, 89] 400 _ _ _).trans rfl
set_option maxRecDepth 100000 in
theorem k148_60 (d sl : Nat) (I : Nat → Nat → Int32) (A : Nat → Nat → Int32) (N : Nat → Nat → Int64) (V : Nat → Nat → Option Nat) (lt : Int64) (tw : Option Nat) (sp sr : Nat) (X : List AC) (a1 : Int32) (a2 : Int32) (a3 : Int32) (b0 : Int32) :
  R (d + 1) 148 (60, [some (.ref 0), some (.int a1), some (.int a2), some (.int a3), none], [.int b0], sl, (CH I A N V lt tw sp sr X)) =
    cond (decide (b0 < (nI 5))) (bC (C d 88 [.ref 1, .int (((nI 2) * a3) + (nI 1))] sl (CH I A N V lt tw sp sr X)) (fun vs sl h => R (d + 1) 148 (86, [some (.ref 0), some (.int a1), some (.int a2), some (.int a3), some (.int b0)], vs ++ [.int b0, .ref 0, .int a2], sl, h))) (some (69, [some (.ref 0), some (.int a1), some (.int a2), some (.int a3), some (.int b0)], [.int (-1 : Int32)], sl, (CH I A N V lt tw sp sr X))) :=
  (R_gob [42, 45, 60, 86, 89] 400 _ _ _).trans rfl
set_option maxRecDepth 100000 in
theorem k148_86 (d sl : Nat) (I : Nat → Nat → Int32) (A : Nat → Nat → Int32) (N : Nat → Nat → Int64) (V : Nat → Nat → Option Nat) (lt : Int64) (tw : Option Nat) (sp sr : Nat) (X : List AC) (a1 : Int32) (a2 : Int32) (a3 : Int32) (a4 : Int32) (b0 : Int32) (b1 : Int32) (b3 : Int32) :
  R (d + 1) 148 (86, [some (.ref 0), some (.int a1), some (.int a2), some (.int a3), some (.int a4)], [.int b0, .int b1, .ref 0, .int b3], sl, (CH I A N V lt tw sp sr X)) =
    bC (C d 149 [.ref 0, .int b1, .int b0] sl (CH I A N V lt tw sp sr X)) (fun vs sl h => R (d + 1) 148 (89, [some (.ref 0), some (.int a1), some (.int a2), some (.int a3), some (.int a4)], vs ++ [.int b3], sl, h)) :=
  (R_gob [42, 45, 60, 86, 89] 400 _ _ _).trans rfl
set_option maxRecDepth 100000 in
theorem k148_89 (d sl : Nat) (I : Nat → Nat → Int32) (A : Nat → Nat → Int32) (N : Nat → Nat → Int64) (V : Nat → Nat → Option Nat) (lt : Int64) (tw : Option Nat) (sp sr : Nat) (X : List AC) (a1 : Int32) (a2 : Int32) (a3 : Int32) (a4 : Int32) (b0 : Int32) (b1 : Int32) :
  R (d + 1) 148 (89, [some (.ref 0), some (.int a1), some (.int a2), some (.int a3), some (.int a4)], [.int b0, .int b1], sl, (CH I A N V lt tw sp sr X)) =
    R (d + 1) 148 (45, [some (.ref 0), some (.int a1), some (.int (b1 &&& b0)), some (.int (a3 + (nI 1))), some (.int a4)], [], sl, (CH I A N V lt tw sp sr X)) :=
  (R_gob [42, 45, 60, 86, 89] 400 _ _ _).trans rfl
set_option maxRecDepth 100000 in
theorem k148_45_1 (d sl : Nat) (I : Nat → Nat → Int32) (A : Nat → Nat → Int32) (N : Nat → Nat → Int64) (V : Nat → Nat → Option Nat) (lt : Int64) (tw : Option Nat) (sp sr : Nat) (X : List AC) (a1 : Int32) (a2 : Int32) (a3 : Int32) (a4 : Int32) :
  R (d + 1) 148 (45, [some (.ref 0), some (.int a1), some (.int a2), some (.int a3), some (.int a4)], [], sl, (CH I A N V lt tw sp sr X)) =
    cond (decide (a1 ≤ a3)) (some (98, [some (.ref 0), some (.int a1), some (.int a2), some (.int a3), some (.int a4)], [.int a2], sl, (CH I A N V lt tw sp sr X))) (bC (C d 88 [.ref 1, .int ((nI 2) * a3)] sl (CH I A N V lt tw sp sr X)) (fun vs sl h => R (d + 1) 148 (60, [some (.ref 0), some (.int a1), some (.int a2), some (.int a3), some (.int a4)], vs ++ [], sl, h))) :=
  (R_gob [42, 45, 60, 86, 89] 400 _ _ _).trans rfl
set_option maxRecDepth 100000 in
theorem k148_60_1 (d sl : Nat) (I : Nat → Nat → Int32) (A : Nat → Nat → Int32) (N : Nat → Nat → Int64) (V : Nat → Nat → Option Nat) (lt : Int64) (tw : Option Nat) (sp sr : Nat) (X : List AC) (a1 : Int32) (a2 : Int32) (a3 : Int32) (a4 : Int32) (b0 : Int32) :
  R (d + 1) 148 (60, [some (.ref 0), some (.int a1), some (.int a2), some (.int a3), some (.int a4)], [.int b0], sl, (CH I A N V lt tw sp sr X)) =
    cond (decide (b0 < (nI 5))) (bC (C d 88 [.ref 1, .int (((nI 2) * a3) + (nI 1))] sl (CH I A N V lt tw sp sr X)) (fun vs sl h => R (d + 1) 148 (86, [some (.ref 0), some (.int a1), some (.int a2), some (.int a3), some (.int b0)], vs ++ [.int b0, .ref 0, .int a2], sl, h))) (some (69, [some (.ref 0), some (.int a1), some (.int a2), some (.int a3), some (.int b0)], [.int (-1 : Int32)], sl, (CH I A N V lt tw sp sr X))) :=
  (R_gob [42, 45, 60, 86, 89] 400 _ _ _).trans rfl
set_option maxRecDepth 100000 in
theorem k20_r106_r3_0 (d sl : Nat) (I : Nat → Nat → Int32) (A : Nat → Nat → Int32) (N : Nat → Nat → Int64) (V : Nat → Nat → Option Nat) (lt : Int64) (tw : Option Nat) (sp sr : Nat) (X : List AC) (a2 : Int32) :
  R (d + 1) 20 (0, [some (.ref 106), some (.ref 3), some (.int a2)], [], sl, (CH I A N V lt tw sp sr X)) =
    cond (x_in a2 12) (cond (x_in ((A 8) a2.toNatClampNeg) 6) (bC (C d 24 [.ref 106, .long ((N 4) ((A 8) a2.toNatClampNeg).toNatClampNeg)] sl (CH (up1 I 106 (up1 (I 106) 1 (nI 0))) A N V lt tw sp sr X)) (fun vs sl h => R (d + 1) 20 (20, [some (.ref 106), some (.ref 3), some (.int a2)], vs ++ [], sl, h))) none) none :=
  (R_gob [20, 26, 41, 46, 55, 65, 71, 81, 90] 400 _ _ _).trans rfl
set_option maxRecDepth 100000 in
theorem k20_r106_r3_20 (d sl : Nat) (I : Nat → Nat → Int32) (A : Nat → Nat → Int32) (N : Nat → Nat → Int64) (V : Nat → Nat → Option Nat) (lt : Int64) (tw : Option Nat) (sp sr : Nat) (X : List AC) (a2 : Int32) :
  R (d + 1) 20 (20, [some (.ref 106), some (.ref 3), some (.int a2)], [], sl, (CH I A N V lt tw sp sr X)) =
    bC (C d 23 [.ref 106, .ref 1000200] sl (CH I A N V lt tw sp sr X)) (fun vs sl h => R (d + 1) 20 (26, [some (.ref 106), some (.ref 3), some (.int a2)], vs ++ [], sl, h)) :=
  (R_gob [20, 26, 41, 46, 55, 65, 71, 81, 90] 400 _ _ _).trans rfl
set_option maxRecDepth 100000 in
theorem k20_r106_r3_26 (d sl : Nat) (I : Nat → Nat → Int32) (A : Nat → Nat → Int32) (N : Nat → Nat → Int64) (V : Nat → Nat → Option Nat) (lt : Int64) (tw : Option Nat) (sp sr : Nat) (X : List AC) (a2 : Int32) :
  R (d + 1) 20 (26, [some (.ref 106), some (.ref 3), some (.int a2)], [], sl, (CH I A N V lt tw sp sr X)) =
    cond (x_in a2 12) (cond (x_in ((A 9) a2.toNatClampNeg) 6) (bC (C d 24 [.ref 106, .long ((N 4) ((A 9) a2.toNatClampNeg).toNatClampNeg)] sl (CH I A N V lt tw sp sr X)) (fun vs sl h => R (d + 1) 20 (41, [some (.ref 106), some (.ref 3), some (.int a2)], vs ++ [], sl, h))) none) none :=
  (R_gob [20, 26, 41, 46, 55, 65, 71, 81, 90] 400 _ _ _).trans rfl
set_option maxRecDepth 100000 in
theorem k20_r106_r3_41 (d sl : Nat) (I : Nat → Nat → Int32) (A : Nat → Nat → Int32) (N : Nat → Nat → Int64) (V : Nat → Nat → Option Nat) (lt : Int64) (tw : Option Nat) (sp sr : Nat) (X : List AC) (a2 : Int32) :
  R (d + 1) 20 (41, [some (.ref 106), some (.ref 3), some (.int a2)], [], sl, (CH I A N V lt tw sp sr X)) =
    bC (C d 50 [.ref 3, .int a2] sl (CH I A N V lt tw sp sr X)) (fun vs sl h => R (d + 1) 20 (46, [some (.ref 106), some (.ref 3), some (.int a2)], vs ++ [], sl, h)) :=
  (R_gob [20, 26, 41, 46, 55, 65, 71, 81, 90] 400 _ _ _).trans rfl
set_option maxRecDepth 100000 in
theorem k20_r106_r3_46 (d sl : Nat) (I : Nat → Nat → Int32) (A : Nat → Nat → Int32) (N : Nat → Nat → Int64) (V : Nat → Nat → Option Nat) (lt : Int64) (tw : Option Nat) (sp sr : Nat) (X : List AC) (a2 : Int32) (b0 : Int32) :
  R (d + 1) 20 (46, [some (.ref 106), some (.ref 3), some (.int a2)], [.int b0], sl, (CH I A N V lt tw sp sr X)) =
    cond (decide (b0 = (nI 0))) (bC (C d 23 [.ref 106, .ref 1000203] sl (CH I A N V lt tw sp sr X)) (fun vs sl h => R (d + 1) 20 (90, [some (.ref 106), some (.ref 3), some (.int a2)], vs ++ [], sl, h))) (bC (C d 23 [.ref 106, .ref 1000201] sl (CH I A N V lt tw sp sr X)) (fun vs sl h => R (d + 1) 20 (55, [some (.ref 106), some (.ref 3), some (.int a2)], vs ++ [], sl, h))) :=
  (R_gob [20, 26, 41, 46, 55, 65, 71, 81, 90] 400 _ _ _).trans rfl
set_option maxRecDepth 100000 in
theorem k20_r106_r3_90 (d sl : Nat) (I : Nat → Nat → Int32) (A : Nat → Nat → Int32) (N : Nat → Nat → Int64) (V : Nat → Nat → Option Nat) (lt : Int64) (tw : Option Nat) (sp sr : Nat) (X : List AC) (a2 : Int32) :
  R (d + 1) 20 (90, [some (.ref 106), some (.ref 3), some (.int a2)], [], sl, (CH I A N V lt tw sp sr X)) =
    some (90, [some (.ref 106), some (.ref 3), some (.int a2)], [], sl, (CH I A N V lt tw sp sr X)) :=
  (R_gob [20, 26, 41, 46, 55, 65, 71, 81, 90] 400 _ _ _).trans rfl
set_option maxRecDepth 100000 in
theorem k20_r106_r3_55 (d sl : Nat) (I : Nat → Nat → Int32) (A : Nat → Nat → Int32) (N : Nat → Nat → Int64) (V : Nat → Nat → Option Nat) (lt : Int64) (tw : Option Nat) (sp sr : Nat) (X : List AC) (a2 : Int32) :
  R (d + 1) 20 (55, [some (.ref 106), some (.ref 3), some (.int a2)], [], sl, (CH I A N V lt tw sp sr X)) =
    cond (x_in a2 12) (bC (C d 25 [.ref 106, .int ((A 10) a2.toNatClampNeg)] sl (CH I A N V lt tw sp sr X)) (fun vs sl h => R (d + 1) 20 (65, [some (.ref 106), some (.ref 3), some (.int a2)], vs ++ [], sl, h))) none :=
  (R_gob [20, 26, 41, 46, 55, 65, 71, 81, 90] 400 _ _ _).trans rfl
set_option maxRecDepth 100000 in
theorem k20_r106_r3_65 (d sl : Nat) (I : Nat → Nat → Int32) (A : Nat → Nat → Int32) (N : Nat → Nat → Int64) (V : Nat → Nat → Option Nat) (lt : Int64) (tw : Option Nat) (sp sr : Nat) (X : List AC) (a2 : Int32) :
  R (d + 1) 20 (65, [some (.ref 106), some (.ref 3), some (.int a2)], [], sl, (CH I A N V lt tw sp sr X)) =
    bC (C d 23 [.ref 106, .ref 1000202] sl (CH I A N V lt tw sp sr X)) (fun vs sl h => R (d + 1) 20 (71, [some (.ref 106), some (.ref 3), some (.int a2)], vs ++ [], sl, h)) :=
  (R_gob [20, 26, 41, 46, 55, 65, 71, 81, 90] 400 _ _ _).trans rfl
set_option maxRecDepth 100000 in
theorem k20_r106_r3_71 (d sl : Nat) (I : Nat → Nat → Int32) (A : Nat → Nat → Int32) (N : Nat → Nat → Int64) (V : Nat → Nat → Option Nat) (lt : Int64) (tw : Option Nat) (sp sr : Nat) (X : List AC) (a2 : Int32) :
  R (d + 1) 20 (71, [some (.ref 106), some (.ref 3), some (.int a2)], [], sl, (CH I A N V lt tw sp sr X)) =
    cond (x_in a2 12) (bC (C d 25 [.ref 106, .int ((A 11) a2.toNatClampNeg)] sl (CH I A N V lt tw sp sr X)) (fun vs sl h => R (d + 1) 20 (81, [some (.ref 106), some (.ref 3), some (.int a2)], vs ++ [], sl, h))) none :=
  (R_gob [20, 26, 41, 46, 55, 65, 71, 81, 90] 400 _ _ _).trans rfl
set_option maxRecDepth 100000 in
theorem k20_r106_r3_81 (d sl : Nat) (I : Nat → Nat → Int32) (A : Nat → Nat → Int32) (N : Nat → Nat → Int64) (V : Nat → Nat → Option Nat) (lt : Int64) (tw : Option Nat) (sp sr : Nat) (X : List AC) (a2 : Int32) :
  R (d + 1) 20 (81, [some (.ref 106), some (.ref 3), some (.int a2)], [], sl, (CH I A N V lt tw sp sr X)) =
    R (d + 1) 20 (90, [some (.ref 106), some (.ref 3), some (.int a2)], [], sl, (CH I A N V lt tw sp sr X)) :=
  (R_gob [20, 26, 41, 46, 55, 65, 71, 81, 90] 400 _ _ _).trans rfl
set_option maxRecDepth 100000 in
theorem k21_r106_0 (d sl : Nat) (I : Nat → Nat → Int32) (A : Nat → Nat → Int32) (N : Nat → Nat → Int64) (V : Nat → Nat → Option Nat) (lt : Int64) (tw : Option Nat) (sp sr : Nat) (X : List AC) (a1 : Int32) :
  R d 21 (0, [some (.ref 106), some (.int a1)], [], sl, (CH I A N V lt tw sp sr X)) =
    cond (decide (a1 < (nI 0))) (some (22, [some (.ref 106), some (.int a1)], [.int (-1 : Int32)], sl, (CH I A N V lt tw sp sr X))) (cond (decide ((I 106 1) ≤ a1)) (some (22, [some (.ref 106), some (.int a1)], [.int (-1 : Int32)], sl, (CH I A N V lt tw sp sr X))) (cond (x_in a1 32) (some (22, [some (.ref 106), some (.int a1)], [.int ((A 107) a1.toNatClampNeg)], sl, (CH I A N V lt tw sp sr X))) none)) :=
  (R_gob [] 400 _ _ _).trans rfl
set_option maxRecDepth 100000 in
theorem k15_r101_r12_0 (d sl : Nat) (I : Nat → Nat → Int32) (A : Nat → Nat → Int32) (N : Nat → Nat → Int64) (V : Nat → Nat → Option Nat) (lt : Int64) (tw : Option Nat) (sp sr : Nat) (X : List AC)  :
  R (d + 1) 15 (0, [some (.ref 101), some (.ref 12), none], [], sl, (CH I A N V lt tw sp sr X)) =
    R (d + 1) 15 (17, [some (.ref 101), some (.ref 12), some (.int (nI 0))], [], sl, (CH (up1 I 101 (up1 (up1 (up1 (I 101) 5 (nI 1)) 6 (nI 0)) 7 (nI 0))) A N V lt tw sp sr X)) :=
  (R_gob [17, 39, 78] 400 _ _ _).trans rfl
set_option maxRecDepth 100000 in
theorem k15_r101_r12_17 (d sl : Nat) (I : Nat → Nat → Int32) (A : Nat → Nat → Int32) (N : Nat → Nat → Int64) (V : Nat → Nat → Option Nat) (lt : Int64) (tw : Option Nat) (sp sr : Nat) (X : List AC) (a2 : Int32) :
  R (d + 1) 15 (17, [some (.ref 101), some (.ref 12), some (.int a2)], [], sl, (CH I A N V lt tw sp sr X)) =
    cond (decide ((I 101 4) ≤ a2)) (bC (C d 66 [.ref 12] sl (CH (up1 I 101 (up1 (I 101) 8 (I 12 12))) A N V lt tw sp sr X)) (fun vs sl h => R (d + 1) 15 (78, [some (.ref 101), some (.ref 12), some (.int a2)], vs ++ [.ref 101], sl, h))) (cond (!decide ((I 101 6) = (nI 0))) (bC (C d 66 [.ref 12] sl (CH (up1 I 101 (up1 (I 101) 8 (I 12 12))) A N V lt tw sp sr X)) (fun vs sl h => R (d + 1) 15 (78, [some (.ref 101), some (.ref 12), some (.int a2)], vs ++ [.ref 101], sl, h))) (bC (C d 16 [.ref 101, .ref 12, .int a2] sl (CH I A N V lt tw sp sr X)) (fun vs sl h => R (d + 1) 15 (39, [some (.ref 101), some (.ref 12), some (.int a2)], vs ++ [.ref 101], sl, h)))) :=
  (R_gob [17, 39, 78] 400 _ _ _).trans rfl
set_option maxRecDepth 100000 in
theorem k15_r101_r12_78 (d sl : Nat) (I : Nat → Nat → Int32) (A : Nat → Nat → Int32) (N : Nat → Nat → Int64) (V : Nat → Nat → Option Nat) (lt : Int64) (tw : Option Nat) (sp sr : Nat) (X : List AC) (a2 : Int32) (b0 : Int32) :
  R (d + 1) 15 (78, [some (.ref 101), some (.ref 12), some (.int a2)], [.int b0, .ref 101], sl, (CH I A N V lt tw sp sr X)) =
    some (81, [some (.ref 101), some (.ref 12), some (.int a2)], [], sl, (CH (up1 I 101 (up1 (I 101) 9 b0)) A N V lt tw sp sr X)) :=
  (R_gob [17, 39, 78] 400 _ _ _).trans rfl
set_option maxRecDepth 100000 in
theorem k15_r101_r12_39 (d sl : Nat) (I : Nat → Nat → Int32) (A : Nat → Nat → Int32) (N : Nat → Nat → Int64) (V : Nat → Nat → Option Nat) (lt : Int64) (tw : Option Nat) (sp sr : Nat) (X : List AC) (a2 : Int32) (b0 : Int32) :
  R (d + 1) 15 (39, [some (.ref 101), some (.ref 12), some (.int a2)], [.int b0, .ref 101], sl, (CH I A N V lt tw sp sr X)) =
    cond (!decide (b0 = (nI 0))) (R (d + 1) 15 (17, [some (.ref 101), some (.ref 12), some (.int (a2 + (nI 1)))], [], sl, (CH (up1 I 101 (up1 (I 101) 6 b0)) A N V lt tw sp sr X))) (R (d + 1) 15 (17, [some (.ref 101), some (.ref 12), some (.int (a2 + (nI 1)))], [], sl, (CH (up1 I 101 (up1 (up1 (I 101) 6 b0) 7 ((I 101 7) + (nI 1)))) A N V lt tw sp sr X))) :=
  (R_gob [17, 39, 78] 400 _ _ _).trans rfl
set_option maxRecDepth 100000 in
theorem k9_r101_r1_r3_0 (d sl : Nat) (I : Nat → Nat → Int32) (A : Nat → Nat → Int32) (N : Nat → Nat → Int64) (V : Nat → Nat → Option Nat) (lt : Int64) (tw : Option Nat) (sp sr : Nat) (X : List AC)  :
  R (d + 1) 9 (0, [some (.ref 101), some (.ref 1), some (.ref 3), none], [], sl, (CH I A N V lt tw sp sr X)) =
    R (d + 1) 9 (7, [some (.ref 101), some (.ref 1), some (.ref 3), some (.int (nI 0))], [], sl, (CH (up1 I 101 (up1 (I 101) 4 (nI 0))) A N V lt tw sp sr X)) :=
  (R_gob [7, 18, 29, 38] 400 _ _ _).trans rfl
set_option maxRecDepth 100000 in
theorem k9_r101_r1_r3_7 (d sl : Nat) (I : Nat → Nat → Int32) (A : Nat → Nat → Int32) (N : Nat → Nat → Int64) (V : Nat → Nat → Option Nat) (lt : Int64) (tw : Option Nat) (sp sr : Nat) (X : List AC) (a3 : Int32) :
  R (d + 1) 9 (7, [some (.ref 101), some (.ref 1), some (.ref 3), some (.int a3)], [], sl, (CH I A N V lt tw sp sr X)) =
    cond (decide ((nI 940) ≤ a3)) (some (50, [some (.ref 101), some (.ref 1), some (.ref 3), some (.int a3)], [.int (nI 0)], sl, (CH I A N V lt tw sp sr X))) (bC (C d 94 [.ref 1] sl (CH I A N V lt tw sp sr X)) (fun vs sl h => R (d + 1) 9 (18, [some (.ref 101), some (.ref 1), some (.ref 3), some (.int a3)], vs ++ [], sl, h))) :=
  (R_gob [7, 18, 29, 38] 400 _ _ _).trans rfl
set_option maxRecDepth 100000 in
theorem k9_r101_r1_r3_18 (d sl : Nat) (I : Nat → Nat → Int32) (A : Nat → Nat → Int32) (N : Nat → Nat → Int64) (V : Nat → Nat → Option Nat) (lt : Int64) (tw : Option Nat) (sp sr : Nat) (X : List AC) (a3 : Int32) (b0 : Int32) :
  R (d + 1) 9 (18, [some (.ref 101), some (.ref 1), some (.ref 3), some (.int a3)], [.int b0], sl, (CH I A N V lt tw sp sr X)) =
    cond (decide (b0 = (nI 0))) (bC (C d 10 [.ref 101, .ref 1, .ref 3] sl (CH I A N V lt tw sp sr X)) (fun vs sl h => R (d + 1) 9 (29, [some (.ref 101), some (.ref 1), some (.ref 3), some (.int a3)], vs ++ [], sl, h))) (some (22, [some (.ref 101), some (.ref 1), some (.ref 3), some (.int a3)], [.int (nI 1)], sl, (CH I A N V lt tw sp sr X))) :=
  (R_gob [7, 18, 29, 38] 400 _ _ _).trans rfl
set_option maxRecDepth 100000 in
theorem k9_r101_r1_r3_29 (d sl : Nat) (I : Nat → Nat → Int32) (A : Nat → Nat → Int32) (N : Nat → Nat → Int64) (V : Nat → Nat → Option Nat) (lt : Int64) (tw : Option Nat) (sp sr : Nat) (X : List AC) (a3 : Int32) (b0 : Int32) :
  R (d + 1) 9 (29, [some (.ref 101), some (.ref 1), some (.ref 3), some (.int a3)], [.int b0], sl, (CH I A N V lt tw sp sr X)) =
    cond (decide (b0 = (nI 0))) (some (42, [some (.ref 101), some (.ref 1), some (.ref 3), some (.int a3)], [.int (nI 0)], sl, (CH I A N V lt tw sp sr X))) (bC (C d 98 [.ref 1, .int (nI 59)] sl (CH I A N V lt tw sp sr X)) (fun vs sl h => R (d + 1) 9 (38, [some (.ref 101), some (.ref 1), some (.ref 3), some (.int a3)], vs ++ [], sl, h))) :=
  (R_gob [7, 18, 29, 38] 400 _ _ _).trans rfl
set_option maxRecDepth 100000 in
theorem k9_r101_r1_r3_38 (d sl : Nat) (I : Nat → Nat → Int32) (A : Nat → Nat → Int32) (N : Nat → Nat → Int64) (V : Nat → Nat → Option Nat) (lt : Int64) (tw : Option Nat) (sp sr : Nat) (X : List AC) (a3 : Int32) (b0 : Int32) :
  R (d + 1) 9 (38, [some (.ref 101), some (.ref 1), some (.ref 3), some (.int a3)], [.int b0], sl, (CH I A N V lt tw sp sr X)) =
    cond (!decide (b0 = (nI 0))) (R (d + 1) 9 (7, [some (.ref 101), some (.ref 1), some (.ref 3), some (.int (a3 + (nI 1)))], [], sl, (CH I A N V lt tw sp sr X))) (some (42, [some (.ref 101), some (.ref 1), some (.ref 3), some (.int a3)], [.int (nI 0)], sl, (CH I A N V lt tw sp sr X))) :=
  (R_gob [7, 18, 29, 38] 400 _ _ _).trans rfl
set_option maxRecDepth 100000 in
theorem k99_r1_0 (d sl : Nat) (I : Nat → Nat → Int32) (A : Nat → Nat → Int32) (N : Nat → Nat → Int64) (V : Nat → Nat → Option Nat) (lt : Int64) (tw : Option Nat) (sp sr : Nat) (X : List AC)  :
  R (d + 1) 99 (0, [some (.ref 1)], [], sl, (CH I A N V lt tw sp sr X)) =
    bC (C d 94 [.ref 1] sl (CH I A N V lt tw sp sr X)) (fun vs sl h => R (d + 1) 99 (4, [some (.ref 1)], vs ++ [], sl, h)) :=
  (R_gob [4, 12] 400 _ _ _).trans rfl
set_option maxRecDepth 100000 in
theorem k99_r1_4 (d sl : Nat) (I : Nat → Nat → Int32) (A : Nat → Nat → Int32) (N : Nat → Nat → Int64) (V : Nat → Nat → Option Nat) (lt : Int64) (tw : Option Nat) (sp sr : Nat) (X : List AC) (b0 : Int32) :
  R (d + 1) 99 (4, [some (.ref 1)], [.int b0], sl, (CH I A N V lt tw sp sr X)) =
    cond (!decide (b0 = (nI 0))) (some (20, [some (.ref 1)], [.int (nI 1)], sl, (CH I A N V lt tw sp sr X))) (bC (C d 97 [.ref 1, .int (nI 1)] sl (CH I A N V lt tw sp sr X)) (fun vs sl h => R (d + 1) 99 (12, [some (.ref 1)], vs ++ [], sl, h))) :=
  (R_gob [4, 12] 400 _ _ _).trans rfl
set_option maxRecDepth 100000 in
theorem k99_r1_12 (d sl : Nat) (I : Nat → Nat → Int32) (A : Nat → Nat → Int32) (N : Nat → Nat → Int64) (V : Nat → Nat → Option Nat) (lt : Int64) (tw : Option Nat) (sp sr : Nat) (X : List AC) (b0 : Int32) :
  R (d + 1) 99 (12, [some (.ref 1)], [.int b0], sl, (CH I A N V lt tw sp sr X)) =
    cond (decide (b0 = (nI 0))) (some (20, [some (.ref 1)], [.int (nI 0)], sl, (CH I A N V lt tw sp sr X))) (some (20, [some (.ref 1)], [.int (nI 1)], sl, (CH I A N V lt tw sp sr X))) :=
  (R_gob [4, 12] 400 _ _ _).trans rfl
set_option maxRecDepth 100000 in
theorem k36_r146_r1_r3_r108_0 (d sl : Nat) (I : Nat → Nat → Int32) (A : Nat → Nat → Int32) (N : Nat → Nat → Int64) (V : Nat → Nat → Option Nat) (lt : Int64) (tw : Option Nat) (sp sr : Nat) (x0_3 : Int32) :
  R d 36 (0, [some (.ref 146), some (.ref 1), some (.ref 3), some (.ref 108)], [], sl, (CH I A N V lt tw sp sr [.inr (5, [.null, .null, .null, .int x0_3])])) =
    some (24, [some (.ref 146), some (.ref 1), some (.ref 3), some (.ref 108)], [], sl, (CH I A N V lt tw sp sr [.inr (5, [.ref 1, .ref 3, .ref 108, .int (nI 0)])])) :=
  (R_gob [] 400 _ _ _).trans rfl
set_option maxRecDepth 100000 in
theorem k36_r146_r1_r3_r112_0 (d sl : Nat) (I : Nat → Nat → Int32) (A : Nat → Nat → Int32) (N : Nat → Nat → Int64) (V : Nat → Nat → Option Nat) (lt : Int64) (tw : Option Nat) (sp sr : Nat) (x0_3 : Int32) :
  R d 36 (0, [some (.ref 146), some (.ref 1), some (.ref 3), some (.ref 112)], [], sl, (CH I A N V lt tw sp sr [.inr (5, [.null, .null, .null, .int x0_3])])) =
    some (24, [some (.ref 146), some (.ref 1), some (.ref 3), some (.ref 112)], [], sl, (CH I A N V lt tw sp sr [.inr (5, [.ref 1, .ref 3, .ref 112, .int (nI 0)])])) :=
  (R_gob [] 400 _ _ _).trans rfl
set_option maxRecDepth 100000 in
theorem k37_r146_v0_0 (d sl : Nat) (I : Nat → Nat → Int32) (A : Nat → Nat → Int32) (N : Nat → Nat → Int64) (V : Nat → Nat → Option Nat) (lt : Int64) (tw : Option Nat) (a1 : Int32) (x0_3 : Int32) :
  R (d + 1) 37 (0, [some (.ref 146), some (.int a1), none], [], sl, (CH I A N V lt tw 108 112 [.inr (5, [.ref 1, .ref 3, .ref 112, .int x0_3])])) =
    bC (C d 38 [.ref 146, .int a1] sl (CH I A N V lt tw 108 112 [.inr (5, [.ref 1, .ref 3, .ref 112, .int x0_3])])) (fun vs sl h => R (d + 1) 37 (5, [some (.ref 146), some (.int a1), none], vs ++ [], sl, h)) :=
  (R_gob [5, 12, 38, 43, 60] 400 _ _ _).trans rfl
set_option maxRecDepth 100000 in
theorem k37_r146_v0_5 (d sl : Nat) (I : Nat → Nat → Int32) (A : Nat → Nat → Int32) (N : Nat → Nat → Int64) (V : Nat → Nat → Option Nat) (lt : Int64) (tw : Option Nat) (a1 : Int32) (b0 : Int32) (x0_3 : Int32) :
  R (d + 1) 37 (5, [some (.ref 146), some (.int a1), none], [.int b0], sl, (CH I A N V lt tw 108 112 [.inr (5, [.ref 1, .ref 3, .ref 112, .int x0_3])])) =
    cond (!decide (b0 = (nI 0))) (R (d + 1) 37 (12, [some (.ref 146), some (.int a1), some (.int (nI 0))], [], sl, (CH I A N V lt tw 108 112 [.inr (5, [.ref 1, .ref 3, .ref 112, .int x0_3])]))) (some (9, [some (.ref 146), some (.int a1), none], [.int (nI 0)], sl, (CH I A N V lt tw 108 112 [.inr (5, [.ref 1, .ref 3, .ref 112, .int x0_3])]))) :=
  (R_gob [5, 12, 38, 43, 60] 400 _ _ _).trans rfl
set_option maxRecDepth 100000 in
theorem k37_r146_v0_12 (d sl : Nat) (I : Nat → Nat → Int32) (A : Nat → Nat → Int32) (N : Nat → Nat → Int64) (V : Nat → Nat → Option Nat) (lt : Int64) (a1 : Int32) (a2 : Int32) (x0_3 : Int32) :
  R (d + 1) 37 (12, [some (.ref 146), some (.int a1), some (.int a2)], [], sl, (CH I A N V lt none 108 112 [.inr (5, [.ref 1, .ref 3, .ref 112, .int x0_3])])) =
    cond (decide ((nI 20) ≤ a2)) (some (67, [some (.ref 146), some (.int a1), some (.int a2)], [.int (nI 1)], sl, (CH I A N V lt none 108 112 [.inr (5, [.ref 1, .ref 3, .ref 112, .int x0_3])]))) (some (67, [some (.ref 146), some (.int a1), some (.int a2)], [.int (nI 1)], sl, (CH I A N V lt none 108 112 [.inr (5, [.ref 1, .ref 3, .ref 112, .int x0_3])]))) :=
  (R_gob [5, 12, 38, 43, 60] 400 _ _ _).trans rfl
set_option maxRecDepth 100000 in
theorem k37_r146_v0_12_1 (d sl : Nat) (I : Nat → Nat → Int32) (A : Nat → Nat → Int32) (N : Nat → Nat → Int64) (V : Nat → Nat → Option Nat) (lt : Int64) (tw : Nat) (a1 : Int32) (a2 : Int32) (x0_3 : Int32) :
  R (d + 1) 37 (12, [some (.ref 146), some (.int a1), some (.int a2)], [], sl, (CH I A N V lt (some tw) 108 112 [.inr (5, [.ref 1, .ref 3, .ref 112, .int x0_3])])) =
    cond (decide ((nI 20) ≤ a2)) (some (67, [some (.ref 146), some (.int a1), some (.int a2)], [.int (nI 1)], sl, (CH I A N V lt (some tw) 108 112 [.inr (5, [.ref 1, .ref 3, .ref 112, .int x0_3])]))) (R (d + 1) 37 (28, [some (.ref 146), some (.int a1), some (.int a2)], [.ref 1000009, .ref tw], sl, (CH I A N V lt (some tw) 108 112 [.inr (5, [.ref 1, .ref 3, .ref 112, .int x0_3])]))) :=
  (R_gob [5, 12, 28, 38, 43, 60] 400 _ _ _).trans rfl
set_option maxRecDepth 100000 in
theorem k37_r146_v0_28 (d sl : Nat) (I : Nat → Nat → Int32) (A : Nat → Nat → Int32) (N : Nat → Nat → Int64) (V : Nat → Nat → Option Nat) (lt : Int64) (tw : Option Nat) (a1 : Int32) (a2 : Int32) (b1 : Nat) (x0_3 : Int32) (h_b1 : x_isw b1 = true) :
  R (d + 1) 37 (28, [some (.ref 146), some (.int a1), some (.int a2)], [.ref 1000009, .ref b1], sl, (CH I A N V lt tw 108 112 [.inr (5, [.ref 1, .ref 3, .ref 112, .int x0_3])])) =
    cond (!(Nat.beq b1 1000009)) (R (d + 1) 37 (66, [some (.ref 146), some (.int a1), some (.int a2)], [], sl, (CH I A N V lt tw 108 112 [.inr (5, [.ref 1, .ref 3, .ref 112, .int x0_3])]))) (R (d + 1) 37 (31, [some (.ref 146), some (.int a1), some (.int a2)], [], sl, (CH I A N V lt tw 108 112 [.inr (5, [.ref 1, .ref 3, .ref 112, .int x0_3])]))) :=
  R_acne (show xk 37 28 = (.if_acmp .ne 38, 31, [66], 0) by decide +kernel) h_b1 (by decide)
set_option maxRecDepth 100000 in
theorem k37_r146_v0_66 (d sl : Nat) (I : Nat → Nat → Int32) (A : Nat → Nat → Int32) (N : Nat → Nat → Int64) (V : Nat → Nat → Option Nat) (lt : Int64) (tw : Option Nat) (a1 : Int32) (a2 : Int32) (x0_3 : Int32) :
  R (d + 1) 37 (66, [some (.ref 146), some (.int a1), some (.int a2)], [], sl, (CH I A N V lt tw 108 112 [.inr (5, [.ref 1, .ref 3, .ref 112, .int x0_3])])) =
    some (67, [some (.ref 146), some (.int a1), some (.int a2)], [.int (nI 1)], sl, (CH I A N V lt tw 108 112 [.inr (5, [.ref 1, .ref 3, .ref 112, .int x0_3])])) :=
  (R_gob [5, 12, 28, 31, 38, 43, 60, 66] 400 _ _ _).trans rfl
set_option maxRecDepth 100000 in
theorem k37_r146_v0_31 (d sl : Nat) (I : Nat → Nat → Int32) (A : Nat → Nat → Int32) (N : Nat → Nat → Int64) (V : Nat → Nat → Option Nat) (lt : Int64) (tw : Option Nat) (a1 : Int32) (a2 : Int32) (x0_3 : Int32) :
  R (d + 1) 37 (31, [some (.ref 146), some (.int a1), some (.int a2)], [], sl, (CH I A N V lt tw 108 112 [.inr (5, [.ref 1, .ref 3, .ref 112, .int x0_3])])) =
    bC (C d 90 [.ref 1] sl (CH I A N V lt tw 108 112 [.inr (5, [.ref 1, .ref 3, .ref 112, .int x0_3])])) (fun vs sl h => R (d + 1) 37 (38, [some (.ref 146), some (.int a1), some (.int a2)], vs ++ [], sl, h)) :=
  (R_gob [5, 12, 28, 31, 38, 43, 60, 66] 400 _ _ _).trans rfl
set_option maxRecDepth 100000 in
theorem k37_r146_v0_38 (d sl : Nat) (I : Nat → Nat → Int32) (A : Nat → Nat → Int32) (N : Nat → Nat → Int64) (V : Nat → Nat → Option Nat) (lt : Int64) (tw : Option Nat) (a1 : Int32) (a2 : Int32) (x0_3 : Int32) :
  R (d + 1) 37 (38, [some (.ref 146), some (.int a1), some (.int a2)], [], sl, (CH I A N V lt tw 108 112 [.inr (5, [.ref 1, .ref 3, .ref 112, .int x0_3])])) =
    bC (C d 38 [.ref 146, .int a1] sl (CH I A N V lt tw 108 112 [.inr (5, [.ref 1, .ref 3, .ref 112, .int x0_3])])) (fun vs sl h => R (d + 1) 37 (43, [some (.ref 146), some (.int a1), some (.int a2)], vs ++ [], sl, h)) :=
  (R_gob [5, 12, 28, 31, 38, 43, 60, 66] 400 _ _ _).trans rfl
set_option maxRecDepth 100000 in
theorem k37_r146_v0_43 (d sl : Nat) (I : Nat → Nat → Int32) (A : Nat → Nat → Int32) (N : Nat → Nat → Int64) (V : Nat → Nat → Option Nat) (lt : Int64) (tw : Option Nat) (a1 : Int32) (a2 : Int32) (b0 : Int32) (x0_3 : Int32) :
  R (d + 1) 37 (43, [some (.ref 146), some (.int a1), some (.int a2)], [.int b0], sl, (CH I A N V lt tw 108 112 [.inr (5, [.ref 1, .ref 3, .ref 112, .int x0_3])])) =
    cond (!decide (b0 = (nI 0))) (bC (C d 31 [.ref 112, .ref 1000009, .int (nI 0), .int (nI 0)] sl (CH I A N V lt tw 108 112 [.inr (5, [.ref 1, .ref 3, .ref 112, .int x0_3])])) (fun vs sl h => R (d + 1) 37 (60, [some (.ref 146), some (.int a1), some (.int a2)], vs ++ [], sl, h))) (some (47, [some (.ref 146), some (.int a1), some (.int a2)], [.int (nI 0)], sl, (CH I A N V lt tw 108 112 [.inr (5, [.ref 1, .ref 3, .ref 112, .int x0_3])]))) :=
  (R_gob [5, 12, 28, 31, 38, 43, 60, 66] 400 _ _ _).trans rfl
set_option maxRecDepth 100000 in
theorem k37_r146_v0_60 (d sl : Nat) (I : Nat → Nat → Int32) (A : Nat → Nat → Int32) (N : Nat → Nat → Int64) (V : Nat → Nat → Option Nat) (lt : Int64) (tw : Option Nat) (a1 : Int32) (a2 : Int32) (x0_3 : Int32) :
  R (d + 1) 37 (60, [some (.ref 146), some (.int a1), some (.int a2)], [], sl, (CH I A N V lt tw 108 112 [.inr (5, [.ref 1, .ref 3, .ref 112, .int x0_3])])) =
    R (d + 1) 37 (12, [some (.ref 146), some (.int a1), some (.int (a2 + (nI 1)))], [], sl, (CH I A N V lt tw 108 112 [.inr (5, [.ref 1, .ref 3, .ref 112, .int x0_3])])) :=
  (R_gob [5, 12, 28, 31, 38, 43, 60, 66] 400 _ _ _).trans rfl
set_option maxRecDepth 100000 in
theorem k37_r146_v1_0 (d sl : Nat) (I : Nat → Nat → Int32) (A : Nat → Nat → Int32) (N : Nat → Nat → Int64) (V : Nat → Nat → Option Nat) (lt : Int64) (tw : Option Nat) (a1 : Int32) (x0_3 : Int32) :
  R (d + 1) 37 (0, [some (.ref 146), some (.int a1), none], [], sl, (CH I A N V lt tw 112 108 [.inr (5, [.ref 1, .ref 3, .ref 108, .int x0_3])])) =
    bC (C d 38 [.ref 146, .int a1] sl (CH I A N V lt tw 112 108 [.inr (5, [.ref 1, .ref 3, .ref 108, .int x0_3])])) (fun vs sl h => R (d + 1) 37 (5, [some (.ref 146), some (.int a1), none], vs ++ [], sl, h)) :=
  (R_gob [5, 12, 38, 43, 60] 400 _ _ _).trans rfl
set_option maxRecDepth 100000 in
theorem k37_r146_v1_5 (d sl : Nat) (I : Nat → Nat → Int32) (A : Nat → Nat → Int32) (N : Nat → Nat → Int64) (V : Nat → Nat → Option Nat) (lt : Int64) (tw : Option Nat) (a1 : Int32) (b0 : Int32) (x0_3 : Int32) :
  R (d + 1) 37 (5, [some (.ref 146), some (.int a1), none], [.int b0], sl, (CH I A N V lt tw 112 108 [.inr (5, [.ref 1, .ref 3, .ref 108, .int x0_3])])) =
    cond (!decide (b0 = (nI 0))) (R (d + 1) 37 (12, [some (.ref 146), some (.int a1), some (.int (nI 0))], [], sl, (CH I A N V lt tw 112 108 [.inr (5, [.ref 1, .ref 3, .ref 108, .int x0_3])]))) (some (9, [some (.ref 146), some (.int a1), none], [.int (nI 0)], sl, (CH I A N V lt tw 112 108 [.inr (5, [.ref 1, .ref 3, .ref 108, .int x0_3])]))) :=
  (R_gob [5, 12, 38, 43, 60] 400 _ _ _).trans rfl
set_option maxRecDepth 100000 in
theorem k37_r146_v1_12 (d sl : Nat) (I : Nat → Nat → Int32) (A : Nat → Nat → Int32) (N : Nat → Nat → Int64) (V : Nat → Nat → Option Nat) (lt : Int64) (a1 : Int32) (a2 : Int32) (x0_3 : Int32) :
  R (d + 1) 37 (12, [some (.ref 146), some (.int a1), some (.int a2)], [], sl, (CH I A N V lt none 112 108 [.inr (5, [.ref 1, .ref 3, .ref 108, .int x0_3])])) =
    cond (decide ((nI 20) ≤ a2)) (some (67, [some (.ref 146), some (.int a1), some (.int a2)], [.int (nI 1)], sl, (CH I A N V lt none 112 108 [.inr (5, [.ref 1, .ref 3, .ref 108, .int x0_3])]))) (some (67, [some (.ref 146), some (.int a1), some (.int a2)], [.int (nI 1)], sl, (CH I A N V lt none 112 108 [.inr (5, [.ref 1, .ref 3, .ref 108, .int x0_3])]))) :=
  (R_gob [5, 12, 38, 43, 60] 400 _ _ _).trans rfl
set_option maxRecDepth 100000 in
theorem k37_r146_v1_12_1 (d sl : Nat) (I : Nat → Nat → Int32) (A : Nat → Nat → Int32) (N : Nat → Nat → Int64) (V : Nat → Nat → Option Nat) (lt : Int64) (tw : Nat) (a1 : Int32) (a2 : Int32) (x0_3 : Int32) :
  R (d + 1) 37 (12, [some (.ref 146), some (.int a1), some (.int a2)], [], sl, (CH I A N V lt (some tw) 112 108 [.inr (5, [.ref 1, .ref 3, .ref 108, .int x0_3])])) =
    cond (decide ((nI 20) ≤ a2)) (some (67, [some (.ref 146), some (.int a1), some (.int a2)], [.int (nI 1)], sl, (CH I A N V lt (some tw) 112 108 [.inr (5, [.ref 1, .ref 3, .ref 108, .int x0_3])]))) (R (d + 1) 37 (28, [some (.ref 146), some (.int a1), some (.int a2)], [.ref 1000009, .ref tw], sl, (CH I A N V lt (some tw) 112 108 [.inr (5, [.ref 1, .ref 3, .ref 108, .int x0_3])]))) :=
  (R_gob [5, 12, 28, 38, 43, 60] 400 _ _ _).trans rfl
set_option maxRecDepth 100000 in
theorem k37_r146_v1_28 (d sl : Nat) (I : Nat → Nat → Int32) (A : Nat → Nat → Int32) (N : Nat → Nat → Int64) (V : Nat → Nat → Option Nat) (lt : Int64) (tw : Option Nat) (a1 : Int32) (a2 : Int32) (b1 : Nat) (x0_3 : Int32) (h_b1 : x_isw b1 = true) :
  R (d + 1) 37 (28, [some (.ref 146), some (.int a1), some (.int a2)], [.ref 1000009, .ref b1], sl, (CH I A N V lt tw 112 108 [.inr (5, [.ref 1, .ref 3, .ref 108, .int x0_3])])) =
    cond (!(Nat.beq b1 1000009)) (R (d + 1) 37 (66, [some (.ref 146), some (.int a1), some (.int a2)], [], sl, (CH I A N V lt tw 112 108 [.inr (5, [.ref 1, .ref 3, .ref 108, .int x0_3])]))) (R (d + 1) 37 (31, [some (.ref 146), some (.int a1), some (.int a2)], [], sl, (CH I A N V lt tw 112 108 [.inr (5, [.ref 1, .ref 3, .ref 108, .int x0_3])]))) :=
  R_acne (show xk 37 28 = (.if_acmp .ne 38, 31, [66], 0) by decide +kernel) h_b1 (by decide)
set_option maxRecDepth 100000 in
theorem k37_r146_v1_66 (d sl : Nat) (I : Nat → Nat → Int32) (A : Nat → Nat → Int32) (N : Nat → Nat → Int64) (V : Nat → Nat → Option Nat) (lt : Int64) (tw : Option Nat) (a1 : Int32) (a2 : Int32) (x0_3 : Int32) :
  R (d + 1) 37 (66, [some (.ref 146), some (.int a1), some (.int a2)], [], sl, (CH I A N V lt tw 112 108 [.inr (5, [.ref 1, .ref 3, .ref 108, .int x0_3])])) =
    some (67, [some (.ref 146), some (.int a1), some (.int a2)], [.int (nI 1)], sl, (CH I A N V lt tw 112 108 [.inr (5, [.ref 1, .ref 3, .ref 108, .int x0_3])])) :=
  (R_gob [5, 12, 28, 31, 38, 43, 60, 66] 400 _ _ _).trans rfl
set_option maxRecDepth 100000 in
theorem k37_r146_v1_31 (d sl : Nat) (I : Nat → Nat → Int32) (A : Nat → Nat → Int32) (N : Nat → Nat → Int64) (V : Nat → Nat → Option Nat) (lt : Int64) (tw : Option Nat) (a1 : Int32) (a2 : Int32) (x0_3 : Int32) :
  R (d + 1) 37 (31, [some (.ref 146), some (.int a1), some (.int a2)], [], sl, (CH I A N V lt tw 112 108 [.inr (5, [.ref 1, .ref 3, .ref 108, .int x0_3])])) =
    bC (C d 90 [.ref 1] sl (CH I A N V lt tw 112 108 [.inr (5, [.ref 1, .ref 3, .ref 108, .int x0_3])])) (fun vs sl h => R (d + 1) 37 (38, [some (.ref 146), some (.int a1), some (.int a2)], vs ++ [], sl, h)) :=
  (R_gob [5, 12, 28, 31, 38, 43, 60, 66] 400 _ _ _).trans rfl
set_option maxRecDepth 100000 in
theorem k37_r146_v1_38 (d sl : Nat) (I : Nat → Nat → Int32) (A : Nat → Nat → Int32) (N : Nat → Nat → Int64) (V : Nat → Nat → Option Nat) (lt : Int64) (tw : Option Nat) (a1 : Int32) (a2 : Int32) (x0_3 : Int32) :
  R (d + 1) 37 (38, [some (.ref 146), some (.int a1), some (.int a2)], [], sl, (CH I A N V lt tw 112 108 [.inr (5, [.ref 1, .ref 3, .ref 108, .int x0_3])])) =
    bC (C d 38 [.ref 146, .int a1] sl (CH I A N V lt tw 112 108 [.inr (5, [.ref 1, .ref 3, .ref 108, .int x0_3])])) (fun vs sl h => R (d + 1) 37 (43, [some (.ref 146), some (.int a1), some (.int a2)], vs ++ [], sl, h)) :=
  (R_gob [5, 12, 28, 31, 38, 43, 60, 66] 400 _ _ _).trans rfl
set_option maxRecDepth 100000 in
theorem k37_r146_v1_43 (d sl : Nat) (I : Nat → Nat → Int32) (A : Nat → Nat → Int32) (N : Nat → Nat → Int64) (V : Nat → Nat → Option Nat) (lt : Int64) (tw : Option Nat) (a1 : Int32) (a2 : Int32) (b0 : Int32) (x0_3 : Int32) :
  R (d + 1) 37 (43, [some (.ref 146), some (.int a1), some (.int a2)], [.int b0], sl, (CH I A N V lt tw 112 108 [.inr (5, [.ref 1, .ref 3, .ref 108, .int x0_3])])) =
    cond (!decide (b0 = (nI 0))) (bC (C d 31 [.ref 108, .ref 1000009, .int (nI 0), .int (nI 0)] sl (CH I A N V lt tw 112 108 [.inr (5, [.ref 1, .ref 3, .ref 108, .int x0_3])])) (fun vs sl h => R (d + 1) 37 (60, [some (.ref 146), some (.int a1), some (.int a2)], vs ++ [], sl, h))) (some (47, [some (.ref 146), some (.int a1), some (.int a2)], [.int (nI 0)], sl, (CH I A N V lt tw 112 108 [.inr (5, [.ref 1, .ref 3, .ref 108, .int x0_3])]))) :=
  (R_gob [5, 12, 28, 31, 38, 43, 60, 66] 400 _ _ _).trans rfl
set_option maxRecDepth 100000 in
theorem k37_r146_v1_60 (d sl : Nat) (I : Nat → Nat → Int32) (A : Nat → Nat → Int32) (N : Nat → Nat → Int64) (V : Nat → Nat → Option Nat) (lt : Int64) (tw : Option Nat) (a1 : Int32) (a2 : Int32) (x0_3 : Int32) :
  R (d + 1) 37 (60, [some (.ref 146), some (.int a1), some (.int a2)], [], sl, (CH I A N V lt tw 112 108 [.inr (5, [.ref 1, .ref 3, .ref 108, .int x0_3])])) =
    R (d + 1) 37 (12, [some (.ref 146), some (.int a1), some (.int (a2 + (nI 1)))], [], sl, (CH I A N V lt tw 112 108 [.inr (5, [.ref 1, .ref 3, .ref 108, .int x0_3])])) :=
  (R_gob [5, 12, 28, 31, 38, 43, 60, 66] 400 _ _ _).trans rfl
set_option maxRecDepth 100000 in
theorem k33_r108_r3_0 (d sl : Nat) (I : Nat → Nat → Int32) (A : Nat → Nat → Int32) (N : Nat → Nat → Int64) (V : Nat → Nat → Option Nat) (lt : Int64) (tw : Option Nat) (sp sr : Nat) (X : List AC) (a2 : Int32) (a3 : Int32) :
  R (d + 1) 33 (0, [some (.ref 108), some (.ref 3), some (.int a2), some (.int a3), none, none, none], [], sl, (CH I A N V lt tw sp sr X)) =
    R (d + 1) 33 (6, [some (.ref 108), some (.ref 3), some (.int a2), some (.int a3), some (.int (nI 0)), some (.int (nI 0)), none], [], sl, (CH I A N V lt tw sp sr X)) :=
  (R_gob [6, 136] 400 _ _ _).trans rfl
set_option maxRecDepth 100000 in
theorem k33_r108_r3_6 (d sl : Nat) (I : Nat → Nat → Int32) (A : Nat → Nat → Int32) (N : Nat → Nat → Int64) (V : Nat → Nat → Option Nat) (lt : Int64) (tw : Option Nat) (sp sr : Nat) (X : List AC) (a2 : Int32) (a3 : Int32) (a4 : Int32) (a5 : Int32) :
  R (d + 1) 33 (6, [some (.ref 108), some (.ref 3), some (.int a2), some (.int a3), some (.int a4), some (.int a5), none], [], sl, (CH I A N V lt tw sp sr X)) =
    cond (decide ((I 108 3) ≤ a5)) (cond (!decide (a4 = (nI 1))) (some (164, [some (.ref 108), some (.ref 3), some (.int a2), some (.int a3), some (.int a4), some (.int a5), none], [.int (nI 0)], sl, (CH I A N V lt tw sp sr X))) (some (164, [some (.ref 108), some (.ref 3), some (.int a2), some (.int a3), some (.int a4), some (.int a5), none], [.int (nI 1)], sl, (CH I A N V lt tw sp sr X)))) (cond (x_in a5 40) (R (d + 1) 33 (28, [some (.ref 108), some (.ref 3), some (.int a2), some (.int a3), some (.int a4), some (.int a5), some (.int (a4 &&& (nI 1)))], [x_rf ((V 109) a5.toNatClampNeg)], sl, (CH I A N V lt tw sp sr X))) none) :=
  (R_gob [6, 28, 136] 400 _ _ _).trans rfl
set_option maxRecDepth 100000 in
theorem k33_r108_r3_28 (d sl : Nat) (I : Nat → Nat → Int32) (A : Nat → Nat → Int32) (N : Nat → Nat → Int64) (V : Nat → Nat → Option Nat) (lt : Int64) (tw : Option Nat) (sp sr : Nat) (X : List AC) (a2 : Int32) (a3 : Int32) (a4 : Int32) (a5 : Int32) (a6 : Int32) :
  R (d + 1) 33 (28, [some (.ref 108), some (.ref 3), some (.int a2), some (.int a3), some (.int a4), some (.int a5), some (.int a6)], [.null], sl, (CH I A N V lt tw sp sr X)) =
    cond (x_in a5 40) (R (d + 1) 33 (50, [some (.ref 108), some (.ref 3), some (.int a2), some (.int a3), some (.int a4), some (.int a5), some (.int a6)], [x_rf ((V 109) a5.toNatClampNeg)], sl, (CH I A N V lt tw sp sr X))) none :=
  (R_gob [6, 28, 50, 136] 400 _ _ _).trans rfl
set_option maxRecDepth 100000 in
theorem k33_r108_r3_28_1 (d sl : Nat) (I : Nat → Nat → Int32) (A : Nat → Nat → Int32) (N : Nat → Nat → Int64) (V : Nat → Nat → Option Nat) (lt : Int64) (tw : Option Nat) (sp sr : Nat) (X : List AC) (a2 : Int32) (a3 : Int32) (a4 : Int32) (a5 : Int32) (a6 : Int32) (b0 : Nat) :
  R (d + 1) 33 (28, [some (.ref 108), some (.ref 3), some (.int a2), some (.int a3), some (.int a4), some (.int a5), some (.int a6)], [.ref b0], sl, (CH I A N V lt tw sp sr X)) =
    R (d + 1) 33 (31, [some (.ref 108), some (.ref 3), some (.int a2), some (.int a3), some (.int a4), some (.int a5), some (.int a6)], [.ref 1000011, .ref b0], sl, (CH I A N V lt tw sp sr X)) :=
  (R_gob [6, 28, 31, 50, 136] 400 _ _ _).trans rfl
set_option maxRecDepth 100000 in
theorem k33_r108_r3_50 (d sl : Nat) (I : Nat → Nat → Int32) (A : Nat → Nat → Int32) (N : Nat → Nat → Int64) (V : Nat → Nat → Option Nat) (lt : Int64) (tw : Option Nat) (sp sr : Nat) (X : List AC) (a2 : Int32) (a3 : Int32) (a4 : Int32) (a5 : Int32) (a6 : Int32) :
  R (d + 1) 33 (50, [some (.ref 108), some (.ref 3), some (.int a2), some (.int a3), some (.int a4), some (.int a5), some (.int a6)], [.null], sl, (CH I A N V lt tw sp sr X)) =
    cond (x_in a5 40) (R (d + 1) 33 (78, [some (.ref 108), some (.ref 3), some (.int a2), some (.int a3), some (.int a4), some (.int a5), some (.int a6)], [x_rf ((V 109) a5.toNatClampNeg)], sl, (CH I A N V lt tw sp sr X))) none :=
  (R_gob [6, 28, 31, 50, 78, 136] 400 _ _ _).trans rfl
set_option maxRecDepth 100000 in
theorem k33_r108_r3_50_1 (d sl : Nat) (I : Nat → Nat → Int32) (A : Nat → Nat → Int32) (N : Nat → Nat → Int64) (V : Nat → Nat → Option Nat) (lt : Int64) (tw : Option Nat) (sp sr : Nat) (X : List AC) (a2 : Int32) (a3 : Int32) (a4 : Int32) (a5 : Int32) (a6 : Int32) (b0 : Nat) :
  R (d + 1) 33 (50, [some (.ref 108), some (.ref 3), some (.int a2), some (.int a3), some (.int a4), some (.int a5), some (.int a6)], [.ref b0], sl, (CH I A N V lt tw sp sr X)) =
    R (d + 1) 33 (53, [some (.ref 108), some (.ref 3), some (.int a2), some (.int a3), some (.int a4), some (.int a5), some (.int a6)], [.ref 1000010, .ref b0], sl, (CH I A N V lt tw sp sr X)) :=
  (R_gob [6, 28, 31, 50, 53, 78, 136] 400 _ _ _).trans rfl
set_option maxRecDepth 100000 in
theorem k33_r108_r3_31 (d sl : Nat) (I : Nat → Nat → Int32) (A : Nat → Nat → Int32) (N : Nat → Nat → Int64) (V : Nat → Nat → Option Nat) (lt : Int64) (tw : Option Nat) (sp sr : Nat) (X : List AC) (a2 : Int32) (a3 : Int32) (a4 : Int32) (a5 : Int32) (a6 : Int32) (b1 : Nat) (h_b1 : x_isw b1 = true) :
  R (d + 1) 33 (31, [some (.ref 108), some (.ref 3), some (.int a2), some (.int a3), some (.int a4), some (.int a5), some (.int a6)], [.ref 1000011, .ref b1], sl, (CH I A N V lt tw sp sr X)) =
    cond (!(Nat.beq b1 1000011)) (R (d + 1) 33 (43, [some (.ref 108), some (.ref 3), some (.int a2), some (.int a3), some (.int a4), some (.int a5), some (.int a6)], [], sl, (CH I A N V lt tw sp sr X))) (R (d + 1) 33 (34, [some (.ref 108), some (.ref 3), some (.int a2), some (.int a3), some (.int a4), some (.int a5), some (.int a6)], [], sl, (CH I A N V lt tw sp sr X))) :=
  R_acne (show xk 33 31 = (.if_acmp .ne 12, 34, [43], 0) by decide +kernel) h_b1 (by decide)
set_option maxRecDepth 100000 in
theorem k33_r108_r3_78 (d sl : Nat) (I : Nat → Nat → Int32) (A : Nat → Nat → Int32) (N : Nat → Nat → Int64) (V : Nat → Nat → Option Nat) (lt : Int64) (tw : Option Nat) (sp sr : Nat) (X : List AC) (a2 : Int32) (a3 : Int32) (a4 : Int32) (a5 : Int32) (a6 : Int32) :
  R (d + 1) 33 (78, [some (.ref 108), some (.ref 3), some (.int a2), some (.int a3), some (.int a4), some (.int a5), some (.int a6)], [.null], sl, (CH I A N V lt tw sp sr X)) =
    cond (x_in a5 40) (R (d + 1) 33 (103, [some (.ref 108), some (.ref 3), some (.int a2), some (.int a3), some (.int a4), some (.int a5), some (.int a6)], [x_rf ((V 109) a5.toNatClampNeg)], sl, (CH I A N V lt tw sp sr X))) none :=
  (R_gob [6, 28, 31, 34, 43, 50, 53, 78, 103, 136] 400 _ _ _).trans rfl
set_option maxRecDepth 100000 in
theorem k33_r108_r3_78_1 (d sl : Nat) (I : Nat → Nat → Int32) (A : Nat → Nat → Int32) (N : Nat → Nat → Int64) (V : Nat → Nat → Option Nat) (lt : Int64) (tw : Option Nat) (sp sr : Nat) (X : List AC) (a2 : Int32) (a3 : Int32) (a4 : Int32) (a5 : Int32) (a6 : Int32) (b0 : Nat) :
  R (d + 1) 33 (78, [some (.ref 108), some (.ref 3), some (.int a2), some (.int a3), some (.int a4), some (.int a5), some (.int a6)], [.ref b0], sl, (CH I A N V lt tw sp sr X)) =
    R (d + 1) 33 (81, [some (.ref 108), some (.ref 3), some (.int a2), some (.int a3), some (.int a4), some (.int a5), some (.int a6)], [.ref 1000009, .ref b0], sl, (CH I A N V lt tw sp sr X)) :=
  (R_gob [6, 28, 31, 34, 43, 50, 53, 78, 81, 103, 136] 400 _ _ _).trans rfl
set_option maxRecDepth 100000 in
theorem k33_r108_r3_53 (d sl : Nat) (I : Nat → Nat → Int32) (A : Nat → Nat → Int32) (N : Nat → Nat → Int64) (V : Nat → Nat → Option Nat) (lt : Int64) (tw : Option Nat) (sp sr : Nat) (X : List AC) (a2 : Int32) (a3 : Int32) (a4 : Int32) (a5 : Int32) (a6 : Int32) (b1 : Nat) (h_b1 : x_isw b1 = true) :
  R (d + 1) 33 (53, [some (.ref 108), some (.ref 3), some (.int a2), some (.int a3), some (.int a4), some (.int a5), some (.int a6)], [.ref 1000010, .ref b1], sl, (CH I A N V lt tw sp sr X)) =
    cond (!(Nat.beq b1 1000010)) (R (d + 1) 33 (71, [some (.ref 108), some (.ref 3), some (.int a2), some (.int a3), some (.int a4), some (.int a5), some (.int a6)], [], sl, (CH I A N V lt tw sp sr X))) (R (d + 1) 33 (56, [some (.ref 108), some (.ref 3), some (.int a2), some (.int a3), some (.int a4), some (.int a5), some (.int a6)], [], sl, (CH I A N V lt tw sp sr X))) :=
  R_acne (show xk 33 53 = (.if_acmp .ne 18, 56, [71], 0) by decide +kernel) h_b1 (by decide)
set_option maxRecDepth 100000 in
theorem k33_r108_r3_43 (d sl : Nat) (I : Nat → Nat → Int32) (A : Nat → Nat → Int32) (N : Nat → Nat → Int64) (V : Nat → Nat → Option Nat) (lt : Int64) (tw : Option Nat) (sp sr : Nat) (X : List AC) (a2 : Int32) (a3 : Int32) (a4 : Int32) (a5 : Int32) (a6 : Int32) :
  R (d + 1) 33 (43, [some (.ref 108), some (.ref 3), some (.int a2), some (.int a3), some (.int a4), some (.int a5), some (.int a6)], [], sl, (CH I A N V lt tw sp sr X)) =
    cond (x_in a5 40) (R (d + 1) 33 (50, [some (.ref 108), some (.ref 3), some (.int a2), some (.int a3), some (.int a4), some (.int a5), some (.int a6)], [x_rf ((V 109) a5.toNatClampNeg)], sl, (CH I A N V lt tw sp sr X))) none :=
  (R_gob [6, 28, 31, 34, 43, 50, 53, 56, 71, 78, 81, 103, 136] 400 _ _ _).trans rfl
set_option maxRecDepth 100000 in
theorem k33_r108_r3_34 (d sl : Nat) (I : Nat → Nat → Int32) (A : Nat → Nat → Int32) (N : Nat → Nat → Int64) (V : Nat → Nat → Option Nat) (lt : Int64) (tw : Option Nat) (sp sr : Nat) (X : List AC) (a2 : Int32) (a3 : Int32) (a4 : Int32) (a5 : Int32) (a6 : Int32) :
  R (d + 1) 33 (34, [some (.ref 108), some (.ref 3), some (.int a2), some (.int a3), some (.int a4), some (.int a5), some (.int a6)], [], sl, (CH I A N V lt tw sp sr X)) =
    R (d + 1) 33 (6, [some (.ref 108), some (.ref 3), some (.int a2), some (.int a3), some (.int (a4 ^^^ (nI 1))), some (.int (a5 + (nI 1))), some (.int a6)], [], sl, (CH I A N V lt tw sp sr X)) :=
  (R_gob [6, 28, 31, 34, 43, 50, 53, 56, 71, 78, 81, 103, 136] 400 _ _ _).trans rfl
set_option maxRecDepth 100000 in
theorem k33_r108_r3_103 (d sl : Nat) (I : Nat → Nat → Int32) (A : Nat → Nat → Int32) (N : Nat → Nat → Int64) (V : Nat → Nat → Option Nat) (lt : Int64) (tw : Option Nat) (sp sr : Nat) (X : List AC) (a2 : Int32) (a3 : Int32) (a4 : Int32) (a5 : Int32) (a6 : Int32) :
  R (d + 1) 33 (103, [some (.ref 108), some (.ref 3), some (.int a2), some (.int a3), some (.int a4), some (.int a5), some (.int a6)], [.null], sl, (CH I A N V lt tw sp sr X)) =
    bC (C d 34 [.ref 108, .int a5, .ref 3, .int a2] sl (CH I A N V lt tw sp sr X)) (fun vs sl h => R (d + 1) 33 (136, [some (.ref 108), some (.ref 3), some (.int a2), some (.int a3), some (.int a4), some (.int a5), some (.int a6)], vs ++ [.int (a4 <<< ((nI 1) &&& nI 31))], sl, h)) :=
  (R_gob [6, 28, 31, 34, 43, 50, 53, 56, 71, 78, 81, 103, 136] 400 _ _ _).trans rfl
set_option maxRecDepth 100000 in
theorem k33_r108_r3_103_1 (d sl : Nat) (I : Nat → Nat → Int32) (A : Nat → Nat → Int32) (N : Nat → Nat → Int64) (V : Nat → Nat → Option Nat) (lt : Int64) (tw : Option Nat) (sp sr : Nat) (X : List AC) (a2 : Int32) (a3 : Int32) (a4 : Int32) (a5 : Int32) (a6 : Int32) (b0 : Nat) :
  R (d + 1) 33 (103, [some (.ref 108), some (.ref 3), some (.int a2), some (.int a3), some (.int a4), some (.int a5), some (.int a6)], [.ref b0], sl, (CH I A N V lt tw sp sr X)) =
    R (d + 1) 33 (106, [some (.ref 108), some (.ref 3), some (.int a2), some (.int a3), some (.int a4), some (.int a5), some (.int a6)], [.ref 1000015, .ref b0], sl, (CH I A N V lt tw sp sr X)) :=
  (R_gob [6, 28, 31, 34, 43, 50, 53, 56, 71, 78, 81, 103, 106, 136] 400 _ _ _).trans rfl
set_option maxRecDepth 100000 in
theorem k33_r108_r3_81 (d sl : Nat) (I : Nat → Nat → Int32) (A : Nat → Nat → Int32) (N : Nat → Nat → Int64) (V : Nat → Nat → Option Nat) (lt : Int64) (tw : Option Nat) (sp sr : Nat) (X : List AC) (a2 : Int32) (a3 : Int32) (a4 : Int32) (a5 : Int32) (a6 : Int32) (b1 : Nat) (h_b1 : x_isw b1 = true) :
  R (d + 1) 33 (81, [some (.ref 108), some (.ref 3), some (.int a2), some (.int a3), some (.int a4), some (.int a5), some (.int a6)], [.ref 1000009, .ref b1], sl, (CH I A N V lt tw sp sr X)) =
    cond (!(Nat.beq b1 1000009)) (R (d + 1) 33 (96, [some (.ref 108), some (.ref 3), some (.int a2), some (.int a3), some (.int a4), some (.int a5), some (.int a6)], [], sl, (CH I A N V lt tw sp sr X))) (R (d + 1) 33 (84, [some (.ref 108), some (.ref 3), some (.int a2), some (.int a3), some (.int a4), some (.int a5), some (.int a6)], [], sl, (CH I A N V lt tw sp sr X))) :=
  R_acne (show xk 33 81 = (.if_acmp .ne 15, 84, [96], 0) by decide +kernel) h_b1 (by decide)
set_option maxRecDepth 100000 in
theorem k33_r108_r3_71 (d sl : Nat) (I : Nat → Nat → Int32) (A : Nat → Nat → Int32) (N : Nat → Nat → Int64) (V : Nat → Nat → Option Nat) (lt : Int64) (tw : Option Nat) (sp sr : Nat) (X : List AC) (a2 : Int32) (a3 : Int32) (a4 : Int32) (a5 : Int32) (a6 : Int32) :
  R (d + 1) 33 (71, [some (.ref 108), some (.ref 3), some (.int a2), some (.int a3), some (.int a4), some (.int a5), some (.int a6)], [], sl, (CH I A N V lt tw sp sr X)) =
    cond (x_in a5 40) (R (d + 1) 33 (78, [some (.ref 108), some (.ref 3), some (.int a2), some (.int a3), some (.int a4), some (.int a5), some (.int a6)], [x_rf ((V 109) a5.toNatClampNeg)], sl, (CH I A N V lt tw sp sr X))) none :=
  (R_gob [6, 28, 31, 34, 43, 50, 53, 56, 71, 78, 81, 84, 96, 103, 106, 136] 400 _ _ _).trans rfl
set_option maxRecDepth 100000 in
theorem k33_r108_r3_56 (d sl : Nat) (I : Nat → Nat → Int32) (A : Nat → Nat → Int32) (N : Nat → Nat → Int64) (V : Nat → Nat → Option Nat) (lt : Int64) (tw : Option Nat) (sp sr : Nat) (X : List AC) (a2 : Int32) (a3 : Int32) (a4 : Int32) (a5 : Int32) (a6 : Int32) :
  R (d + 1) 33 (56, [some (.ref 108), some (.ref 3), some (.int a2), some (.int a3), some (.int a4), some (.int a5), some (.int a6)], [], sl, (CH I A N V lt tw sp sr X)) =
    R (d + 1) 33 (6, [some (.ref 108), some (.ref 3), some (.int a2), some (.int a3), some (.int ((a4.toUInt32 >>> ((nI 1).toUInt32 &&& Int32.toUInt32 31)).toInt32 &&& (a6 ||| (-2 : Int32)))), some (.int (a5 + (nI 1))), some (.int a6)], [], sl, (CH I A N V lt tw sp sr X)) :=
  (R_gob [6, 28, 31, 34, 43, 50, 53, 56, 71, 78, 81, 84, 96, 103, 106, 136] 400 _ _ _).trans rfl
set_option maxRecDepth 100000 in
theorem k33_r108_r3_6_1 (d sl : Nat) (I : Nat → Nat → Int32) (A : Nat → Nat → Int32) (N : Nat → Nat → Int64) (V : Nat → Nat → Option Nat) (lt : Int64) (tw : Option Nat) (sp sr : Nat) (X : List AC) (a2 : Int32) (a3 : Int32) (a4 : Int32) (a5 : Int32) (a6 : Int32) :
  R (d + 1) 33 (6, [some (.ref 108), some (.ref 3), some (.int a2), some (.int a3), some (.int a4), some (.int a5), some (.int a6)], [], sl, (CH I A N V lt tw sp sr X)) =
    cond (decide ((I 108 3) ≤ a5)) (cond (!decide (a4 = (nI 1))) (some (164, [some (.ref 108), some (.ref 3), some (.int a2), some (.int a3), some (.int a4), some (.int a5), some (.int a6)], [.int (nI 0)], sl, (CH I A N V lt tw sp sr X))) (some (164, [some (.ref 108), some (.ref 3), some (.int a2), some (.int a3), some (.int a4), some (.int a5), some (.int a6)], [.int (nI 1)], sl, (CH I A N V lt tw sp sr X)))) (cond (x_in a5 40) (R (d + 1) 33 (28, [some (.ref 108), some (.ref 3), some (.int a2), some (.int a3), some (.int a4), some (.int a5), some (.int (a4 &&& (nI 1)))], [x_rf ((V 109) a5.toNatClampNeg)], sl, (CH I A N V lt tw sp sr X))) none) :=
  (R_gob [6, 28, 31, 34, 43, 50, 53, 56, 71, 78, 81, 84, 96, 103, 106, 136] 400 _ _ _).trans rfl
set_option maxRecDepth 100000 in
theorem k33_r108_r3_136 (d sl : Nat) (I : Nat → Nat → Int32) (A : Nat → Nat → Int32) (N : Nat → Nat → Int64) (V : Nat → Nat → Option Nat) (lt : Int64) (tw : Option Nat) (sp sr : Nat) (X : List AC) (a2 : Int32) (a3 : Int32) (a4 : Int32) (a5 : Int32) (a6 : Int32) (b0 : Int32) (b1 : Int32) :
  R (d + 1) 33 (136, [some (.ref 108), some (.ref 3), some (.int a2), some (.int a3), some (.int a4), some (.int a5), some (.int a6)], [.int b0, .int b1], sl, (CH I A N V lt tw sp sr X)) =
    cond (decide (b0 = (nI 0))) (R (d + 1) 33 (6, [some (.ref 108), some (.ref 3), some (.int a2), some (.int a3), some (.int (b1 ||| (nI 0))), some (.int (a5 + (nI 1))), some (.int a6)], [], sl, (CH I A N V lt tw sp sr X))) (R (d + 1) 33 (6, [some (.ref 108), some (.ref 3), some (.int a2), some (.int a3), some (.int (b1 ||| (nI 1))), some (.int (a5 + (nI 1))), some (.int a6)], [], sl, (CH I A N V lt tw sp sr X))) :=
  (R_gob [6, 28, 31, 34, 43, 50, 53, 56, 71, 78, 81, 84, 96, 103, 106, 136] 400 _ _ _).trans rfl
set_option maxRecDepth 100000 in
theorem k33_r108_r3_106 (d sl : Nat) (I : Nat → Nat → Int32) (A : Nat → Nat → Int32) (N : Nat → Nat → Int64) (V : Nat → Nat → Option Nat) (lt : Int64) (tw : Option Nat) (sp sr : Nat) (X : List AC) (a2 : Int32) (a3 : Int32) (a4 : Int32) (a5 : Int32) (a6 : Int32) (b1 : Nat) (h_b1 : x_isw b1 = true) :
  R (d + 1) 33 (106, [some (.ref 108), some (.ref 3), some (.int a2), some (.int a3), some (.int a4), some (.int a5), some (.int a6)], [.ref 1000015, .ref b1], sl, (CH I A N V lt tw sp sr X)) =
    cond (!(Nat.beq b1 1000015)) (R (d + 1) 33 (124, [some (.ref 108), some (.ref 3), some (.int a2), some (.int a3), some (.int a4), some (.int a5), some (.int a6)], [], sl, (CH I A N V lt tw sp sr X))) (R (d + 1) 33 (109, [some (.ref 108), some (.ref 3), some (.int a2), some (.int a3), some (.int a4), some (.int a5), some (.int a6)], [], sl, (CH I A N V lt tw sp sr X))) :=
  R_acne (show xk 33 106 = (.if_acmp .ne 18, 109, [124], 0) by decide +kernel) h_b1 (by decide)
set_option maxRecDepth 100000 in
theorem k33_r108_r3_96 (d sl : Nat) (I : Nat → Nat → Int32) (A : Nat → Nat → Int32) (N : Nat → Nat → Int64) (V : Nat → Nat → Option Nat) (lt : Int64) (tw : Option Nat) (sp sr : Nat) (X : List AC) (a2 : Int32) (a3 : Int32) (a4 : Int32) (a5 : Int32) (a6 : Int32) :
  R (d + 1) 33 (96, [some (.ref 108), some (.ref 3), some (.int a2), some (.int a3), some (.int a4), some (.int a5), some (.int a6)], [], sl, (CH I A N V lt tw sp sr X)) =
    cond (x_in a5 40) (R (d + 1) 33 (103, [some (.ref 108), some (.ref 3), some (.int a2), some (.int a3), some (.int a4), some (.int a5), some (.int a6)], [x_rf ((V 109) a5.toNatClampNeg)], sl, (CH I A N V lt tw sp sr X))) none :=
  (R_gob [6, 28, 31, 34, 43, 50, 53, 56, 71, 78, 81, 84, 96, 103, 106, 109, 124, 136] 400 _ _ _).trans rfl
set_option maxRecDepth 100000 in
theorem k33_r108_r3_84 (d sl : Nat) (I : Nat → Nat → Int32) (A : Nat → Nat → Int32) (N : Nat → Nat → Int64) (V : Nat → Nat → Option Nat) (lt : Int64) (tw : Option Nat) (sp sr : Nat) (X : List AC) (a2 : Int32) (a3 : Int32) (a4 : Int32) (a5 : Int32) (a6 : Int32) :
  R (d + 1) 33 (84, [some (.ref 108), some (.ref 3), some (.int a2), some (.int a3), some (.int a4), some (.int a5), some (.int a6)], [], sl, (CH I A N V lt tw sp sr X)) =
    R (d + 1) 33 (6, [some (.ref 108), some (.ref 3), some (.int a2), some (.int a3), some (.int ((a4.toUInt32 >>> ((nI 1).toUInt32 &&& Int32.toUInt32 31)).toInt32 ||| a6)), some (.int (a5 + (nI 1))), some (.int a6)], [], sl, (CH I A N V lt tw sp sr X)) :=
  (R_gob [6, 28, 31, 34, 43, 50, 53, 56, 71, 78, 81, 84, 96, 103, 106, 109, 124, 136] 400 _ _ _).trans rfl
set_option maxRecDepth 100000 in
theorem k33_r108_r3_124 (d sl : Nat) (I : Nat → Nat → Int32) (A : Nat → Nat → Int32) (N : Nat → Nat → Int64) (V : Nat → Nat → Option Nat) (lt : Int64) (tw : Option Nat) (sp sr : Nat) (X : List AC) (a2 : Int32) (a3 : Int32) (a4 : Int32) (a5 : Int32) (a6 : Int32) :
  R (d + 1) 33 (124, [some (.ref 108), some (.ref 3), some (.int a2), some (.int a3), some (.int a4), some (.int a5), some (.int a6)], [], sl, (CH I A N V lt tw sp sr X)) =
    bC (C d 34 [.ref 108, .int a5, .ref 3, .int a2] sl (CH I A N V lt tw sp sr X)) (fun vs sl h => R (d + 1) 33 (136, [some (.ref 108), some (.ref 3), some (.int a2), some (.int a3), some (.int a4), some (.int a5), some (.int a6)], vs ++ [.int (a4 <<< ((nI 1) &&& nI 31))], sl, h)) :=
  (R_gob [6, 28, 31, 34, 43, 50, 53, 56, 71, 78, 81, 84, 96, 103, 106, 109, 124, 136] 400 _ _ _).trans rfl
set_option maxRecDepth 100000 in
theorem k33_r108_r3_109 (d sl : Nat) (I : Nat → Nat → Int32) (A : Nat → Nat → Int32) (N : Nat → Nat → Int64) (V : Nat → Nat → Option Nat) (lt : Int64) (tw : Option Nat) (sp sr : Nat) (X : List AC) (a2 : Int32) (a3 : Int32) (a4 : Int32) (a5 : Int32) (a6 : Int32) :
  R (d + 1) 33 (109, [some (.ref 108), some (.ref 3), some (.int a2), some (.int a3), some (.int a4), some (.int a5), some (.int a6)], [], sl, (CH I A N V lt tw sp sr X)) =
    R (d + 1) 33 (6, [some (.ref 108), some (.ref 3), some (.int a2), some (.int a3), some (.int ((a4 <<< ((nI 1) &&& nI 31)) ||| ((a3 >>> (a2 &&& nI 31)) &&& (nI 1)))), some (.int (a5 + (nI 1))), some (.int a6)], [], sl, (CH I A N V lt tw sp sr X)) :=
  (R_gob [6, 28, 31, 34, 43, 50, 53, 56, 71, 78, 81, 84, 96, 103, 106, 109, 124, 136] 400 _ _ _).trans rfl
set_option maxRecDepth 100000 in
theorem k33_r112_r3_0 (d sl : Nat) (I : Nat → Nat → Int32) (A : Nat → Nat → Int32) (N : Nat → Nat → Int64) (V : Nat → Nat → Option Nat) (lt : Int64) (tw : Option Nat) (sp sr : Nat) (X : List AC) (a2 : Int32) (a3 : Int32) :
  R (d + 1) 33 (0, [some (.ref 112), some (.ref 3), some (.int a2), some (.int a3), none, none, none], [], sl, (CH I A N V lt tw sp sr X)) =
    R (d + 1) 33 (6, [some (.ref 112), some (.ref 3), some (.int a2), some (.int a3), some (.int (nI 0)), some (.int (nI 0)), none], [], sl, (CH I A N V lt tw sp sr X)) :=
  (R_gob [6, 136] 400 _ _ _).trans rfl
set_option maxRecDepth 100000 in
theorem k33_r112_r3_6 (d sl : Nat) (I : Nat → Nat → Int32) (A : Nat → Nat → Int32) (N : Nat → Nat → Int64) (V : Nat → Nat → Option Nat) (lt : Int64) (tw : Option Nat) (sp sr : Nat) (X : List AC) (a2 : Int32) (a3 : Int32) (a4 : Int32) (a5 : Int32) :
  R (d + 1) 33 (6, [some (.ref 112), some (.ref 3), some (.int a2), some (.int a3), some (.int a4), some (.int a5), none], [], sl, (CH I A N V lt tw sp sr X)) =
    cond (decide ((I 112 3) ≤ a5)) (cond (!decide (a4 = (nI 1))) (some (164, [some (.ref 112), some (.ref 3), some (.int a2), some (.int a3), some (.int a4), some (.int a5), none], [.int (nI 0)], sl, (CH I A N V lt tw sp sr X))) (some (164, [some (.ref 112), some (.ref 3), some (.int a2), some (.int a3), some (.int a4), some (.int a5), none], [.int (nI 1)], sl, (CH I A N V lt tw sp sr X)))) (cond (x_in a5 40) (R (d + 1) 33 (28, [some (.ref 112), some (.ref 3), some (.int a2), some (.int a3), some (.int a4), some (.int a5), some (.int (a4 &&& (nI 1)))], [x_rf ((V 113) a5.toNatClampNeg)], sl, (CH I A N V lt tw sp sr X))) none) :=
  (R_gob [6, 28, 136] 400 _ _ _).trans rfl
