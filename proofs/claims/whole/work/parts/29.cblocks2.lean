set_option maxRecDepth 100000 in
theorem k81_r146_32 (d sl : Nat) (I : Nat → Nat → Int32) (A : Nat → Nat → Int32) (N : Nat → Nat → Int64) (V : Nat → Nat → Option Nat) (lt : Int64) (tw : Option Nat) (sp sr : Nat) (a1 : Int32) (b0 : Int32) (x0_2 : Int32) :
  R (d + 1) 81 (32, [some (.ref 146), some (.int a1)], [.int b0], sl, (CH I A N V lt tw sp sr [.inr (7, [.ref 1, .ref 12, .int x0_2])])) =
    cond (decide (b0 = (nI 0))) (some (48, [some (.ref 146), some (.int a1)], [.int (-1 : Int32)], sl, (CH I A N V lt tw sp sr [.inr (7, [.ref 1, .ref 12, .int x0_2])]))) (bC (C d 98 [.ref 1, .int (nI 59)] sl (CH I A N V lt tw sp sr [.inr (7, [.ref 1, .ref 12, .int x0_2])])) (fun vs sl h => R (d + 1) 81 (44, [some (.ref 146), some (.int a1)], vs ++ [], sl, h))) :=
  (R_gob [7, 9, 23, 32, 44] 400 _ _ _).trans rfl
set_option maxRecDepth 100000 in
theorem k81_r146_44 (d sl : Nat) (I : Nat → Nat → Int32) (A : Nat → Nat → Int32) (N : Nat → Nat → Int64) (V : Nat → Nat → Option Nat) (lt : Int64) (tw : Option Nat) (sp sr : Nat) (a1 : Int32) (b0 : Int32) (x0_2 : Int32) :
  R (d + 1) 81 (44, [some (.ref 146), some (.int a1)], [.int b0], sl, (CH I A N V lt tw sp sr [.inr (7, [.ref 1, .ref 12, .int x0_2])])) =
    cond (!decide (b0 = (nI 0))) (R (d + 1) 81 (9, [some (.ref 146), some (.int (a1 + (nI 1)))], [], sl, (CH I A N V lt tw sp sr [.inr (7, [.ref 1, .ref 12, .int x0_2])]))) (some (48, [some (.ref 146), some (.int a1)], [.int (-1 : Int32)], sl, (CH I A N V lt tw sp sr [.inr (7, [.ref 1, .ref 12, .int x0_2])]))) :=
  (R_gob [7, 9, 23, 32, 44] 400 _ _ _).trans rfl
set_option maxRecDepth 100000 in
theorem k119_0 (d sl : Nat) (I : Nat → Nat → Int32) (A : Nat → Nat → Int32) (N : Nat → Nat → Int64) (V : Nat → Nat → Option Nat) (lt : Int64) (tw : Option Nat) (sp sr : Nat) (X : List AC)  :
  R d 119 (0, [some (.ref 0)], [], sl, (CH I A N V lt tw sp sr X)) =
    some (19, [some (.ref 0)], [], sl, (CH (up1 (up1 I 0 (up1 (I 0) 13 (I 1 10))) 1 (up1 (I 1) 1 (nI 0))) A N V lt tw sp sr X)) :=
  (R_gob [] 400 _ _ _).trans rfl
set_option maxRecDepth 100000 in
theorem k44_r3_r12_0 (d sl : Nat) (I : Nat → Nat → Int32) (A : Nat → Nat → Int32) (N : Nat → Nat → Int64) (V : Nat → Nat → Option Nat) (lt : Int64) (tw : Option Nat) (sp sr : Nat) (X : List AC)  :
  R d 44 (0, [some (.ref 3), some (.ref 12)], [], sl, (CH I A N V lt tw sp sr X)) =
    some (168, [some (.ref 3), some (.ref 12)], [], sl, (CH (up1 I 3 (up1 (up1 (up1 (up1 (up1 (up1 (I 3) 8 (I 12 8)) 9 (I 12 9)) 10 (I 12 10)) 11 (I 12 11)) 12 (I 12 12)) 13 (I 12 13))) (up1 (up1 (up1 (up1 (up1 (up1 (up1 A 5 (va_cpy (A 14) (A 5) 0 0 6)) 6 (va_cpy (A 15) (A 6) 0 0 6)) 7 (va_cpy (A 16) (A 7) 0 0 6)) 8 (va_cpy (A 17) (A 8) 0 0 12)) 9 (va_cpy (A 18) (A 9) 0 0 12)) 10 (va_cpy (A 19) (A 10) 0 0 12)) 11 (va_cpy (A 20) (A 11) 0 0 12)) (up1 N 4 (va_cpy (N 13) (N 4) 0 0 6)) V lt tw sp sr X)) :=
  (R_gob [] 400 _ _ _).trans rfl
set_option maxRecDepth 100000 in
theorem k80_r146_r1_r12_0 (d sl : Nat) (I : Nat → Nat → Int32) (A : Nat → Nat → Int32) (N : Nat → Nat → Int64) (V : Nat → Nat → Option Nat) (lt : Int64) (tw : Option Nat) (sp sr : Nat) (x0_2 : Int32) :
  R d 80 (0, [some (.ref 146), some (.ref 1), some (.ref 12)], [], sl, (CH I A N V lt tw sp sr [.inr (7, [.null, .null, .int x0_2])])) =
    some (19, [some (.ref 146), some (.ref 1), some (.ref 12)], [], sl, (CH I A N V lt tw sp sr [.inr (7, [.ref 1, .ref 12, .int (nI 0)])])) :=
  (R_gob [] 400 _ _ _).trans rfl
set_option maxRecDepth 100000 in
theorem k89_r1_0 (d sl : Nat) (I : Nat → Nat → Int32) (A : Nat → Nat → Int32) (N : Nat → Nat → Int64) (V : Nat → Nat → Option Nat) (lt : Int64) (tw : Option Nat) (sp sr : Nat) (X : List AC) (a1 : Int32) :
  R (d + 1) 89 (0, [some (.ref 1), some (.int a1)], [], sl, (CH I A N V lt tw sp sr X)) =
    bC (C d 90 [.ref 1] sl (CH (up1 I 1 (up1 (up1 (up1 (up1 (I 1) 2 a1) 3 (nI 0)) 10 (nI 0)) 11 (nI 0))) A N V lt tw sp sr X)) (fun vs sl h => R (d + 1) 89 (24, [some (.ref 1), some (.int a1)], vs ++ [], sl, h)) :=
  (R_gob [24] 400 _ _ _).trans rfl
set_option maxRecDepth 100000 in
theorem k89_r1_24 (d sl : Nat) (I : Nat → Nat → Int32) (A : Nat → Nat → Int32) (N : Nat → Nat → Int64) (V : Nat → Nat → Option Nat) (lt : Int64) (tw : Option Nat) (sp sr : Nat) (X : List AC) (a1 : Int32) :
  R (d + 1) 89 (24, [some (.ref 1), some (.int a1)], [], sl, (CH I A N V lt tw sp sr X)) =
    some (24, [some (.ref 1), some (.int a1)], [], sl, (CH I A N V lt tw sp sr X)) :=
  (R_gob [24] 400 _ _ _).trans rfl
set_option maxRecDepth 100000 in
theorem k59_r3_0 (d sl : Nat) (I : Nat → Nat → Int32) (A : Nat → Nat → Int32) (N : Nat → Nat → Int64) (V : Nat → Nat → Option Nat) (lt : Int64) (tw : Option Nat) (sp sr : Nat) (X : List AC) (a1 : Int32) :
  R (d + 1) 59 (0, [some (.ref 3), some (.int a1), none, none], [], sl, (CH I A N V lt tw sp sr X)) =
    R (d + 1) 59 (4, [some (.ref 3), some (.int a1), some (.int (nI 0)), some (.int (nI 0))], [], sl, (CH I A N V lt tw sp sr X)) :=
  (R_gob [4, 18] 400 _ _ _).trans rfl
set_option maxRecDepth 100000 in
theorem k59_r3_4 (d sl : Nat) (I : Nat → Nat → Int32) (A : Nat → Nat → Int32) (N : Nat → Nat → Int64) (V : Nat → Nat → Option Nat) (lt : Int64) (tw : Option Nat) (sp sr : Nat) (X : List AC) (a1 : Int32) (a2 : Int32) (a3 : Int32) :
  R (d + 1) 59 (4, [some (.ref 3), some (.int a1), some (.int a2), some (.int a3)], [], sl, (CH I A N V lt tw sp sr X)) =
    cond (decide ((I 3 9) ≤ a3)) (some (34, [some (.ref 3), some (.int a1), some (.int a2), some (.int a3)], [.int a2], sl, (CH I A N V lt tw sp sr X))) (bC (C d 51 [.ref 3, .int a1, .int a3] sl (CH I A N V lt tw sp sr X)) (fun vs sl h => R (d + 1) 59 (18, [some (.ref 3), some (.int a1), some (.int a2), some (.int a3)], vs ++ [], sl, h))) :=
  (R_gob [4, 18] 400 _ _ _).trans rfl
set_option maxRecDepth 100000 in
theorem k59_r3_18 (d sl : Nat) (I : Nat → Nat → Int32) (A : Nat → Nat → Int32) (N : Nat → Nat → Int64) (V : Nat → Nat → Option Nat) (lt : Int64) (tw : Option Nat) (sp sr : Nat) (X : List AC) (a1 : Int32) (a2 : Int32) (a3 : Int32) (b0 : Int32) :
  R (d + 1) 59 (18, [some (.ref 3), some (.int a1), some (.int a2), some (.int a3)], [.int b0], sl, (CH I A N V lt tw sp sr X)) =
    cond (decide (b0 = (nI 0))) (R (d + 1) 59 (4, [some (.ref 3), some (.int a1), some (.int a2), some (.int (a3 + (nI 1)))], [], sl, (CH I A N V lt tw sp sr X))) (R (d + 1) 59 (4, [some (.ref 3), some (.int a1), some (.int (a2 ||| ((nI 1) <<< (a3 &&& nI 31)))), some (.int (a3 + (nI 1)))], [], sl, (CH I A N V lt tw sp sr X))) :=
  (R_gob [4, 18] 400 _ _ _).trans rfl
set_option maxRecDepth 100000 in
theorem k60_r3_0 (d sl : Nat) (I : Nat → Nat → Int32) (A : Nat → Nat → Int32) (N : Nat → Nat → Int64) (V : Nat → Nat → Option Nat) (lt : Int64) (tw : Option Nat) (sp sr : Nat) (X : List AC) (a1 : Int32) :
  R (d + 1) 60 (0, [some (.ref 3), some (.int a1)], [], sl, (CH I A N V lt tw sp sr X)) =
    bC (C d 59 [.ref 3, .int a1] sl (CH I A N V lt tw sp sr X)) (fun vs sl h => R (d + 1) 60 (5, [some (.ref 3), some (.int a1)], vs ++ [], sl, h)) :=
  (R_gob [5, 8] 400 _ _ _).trans rfl
set_option maxRecDepth 100000 in
theorem k60_r3_5 (d sl : Nat) (I : Nat → Nat → Int32) (A : Nat → Nat → Int32) (N : Nat → Nat → Int64) (V : Nat → Nat → Option Nat) (lt : Int64) (tw : Option Nat) (sp sr : Nat) (X : List AC) (a1 : Int32) (b0 : Int32) :
  R (d + 1) 60 (5, [some (.ref 3), some (.int a1)], [.int b0], sl, (CH I A N V lt tw sp sr X)) =
    bC (C d 2 [.int b0] sl (CH I A N V lt tw sp sr X)) (fun vs sl h => R (d + 1) 60 (8, [some (.ref 3), some (.int a1)], vs ++ [], sl, h)) :=
  (R_gob [5, 8] 400 _ _ _).trans rfl
set_option maxRecDepth 100000 in
theorem k60_r3_8 (d sl : Nat) (I : Nat → Nat → Int32) (A : Nat → Nat → Int32) (N : Nat → Nat → Int64) (V : Nat → Nat → Option Nat) (lt : Int64) (tw : Option Nat) (sp sr : Nat) (X : List AC) (a1 : Int32) (b0 : Int32) :
  R (d + 1) 60 (8, [some (.ref 3), some (.int a1)], [.int b0], sl, (CH I A N V lt tw sp sr X)) =
    some (8, [some (.ref 3), some (.int a1)], [.int b0], sl, (CH I A N V lt tw sp sr X)) :=
  (R_gob [5, 8] 400 _ _ _).trans rfl
set_option maxRecDepth 100000 in
theorem k45_r3_0 (d sl : Nat) (I : Nat → Nat → Int32) (A : Nat → Nat → Int32) (N : Nat → Nat → Int64) (V : Nat → Nat → Option Nat) (lt : Int64) (tw : Option Nat) (sp sr : Nat) (X : List AC) (a1 : Int32) :
  R d 45 (0, [some (.ref 3), some (.int a1)], [], sl, (CH I A N V lt tw sp sr X)) =
    cond (decide (a1 < (nI 0))) (some (17, [some (.ref 3), some (.int a1)], [.int (nI 0)], sl, (CH I A N V lt tw sp sr X))) (cond (decide ((I 3 8) ≤ a1)) (some (17, [some (.ref 3), some (.int a1)], [.int (nI 0)], sl, (CH I A N V lt tw sp sr X))) (some (17, [some (.ref 3), some (.int a1)], [.int (nI 1)], sl, (CH I A N V lt tw sp sr X)))) :=
  (R_gob [] 400 _ _ _).trans rfl
set_option maxRecDepth 100000 in
theorem k57_r3_0 (d sl : Nat) (I : Nat → Nat → Int32) (A : Nat → Nat → Int32) (N : Nat → Nat → Int64) (V : Nat → Nat → Option Nat) (lt : Int64) (tw : Option Nat) (sp sr : Nat) (X : List AC) (a1 : Int32) :
  R d 57 (0, [some (.ref 3), some (.int a1), none, none], [], sl, (CH I A N V lt tw sp sr X)) =
    R d 57 (4, [some (.ref 3), some (.int a1), some (.int (nI 0)), some (.int (nI 0))], [], sl, (CH I A N V lt tw sp sr X)) :=
  (R_gob [4] 400 _ _ _).trans rfl
set_option maxRecDepth 100000 in
theorem k57_r3_4 (d sl : Nat) (I : Nat → Nat → Int32) (A : Nat → Nat → Int32) (N : Nat → Nat → Int64) (V : Nat → Nat → Option Nat) (lt : Int64) (tw : Option Nat) (sp sr : Nat) (X : List AC) (a1 : Int32) (a2 : Int32) (a3 : Int32) :
  R d 57 (4, [some (.ref 3), some (.int a1), some (.int a2), some (.int a3)], [], sl, (CH I A N V lt tw sp sr X)) =
    cond (decide ((I 3 9) ≤ a3)) (some (38, [some (.ref 3), some (.int a1), some (.int a2), some (.int a3)], [.int a2], sl, (CH I A N V lt tw sp sr X))) (cond (x_in a3 12) (cond (!decide (((A 8) a3.toNatClampNeg) = a1)) (R d 57 (4, [some (.ref 3), some (.int a1), some (.int a2), some (.int (a3 + (nI 1)))], [], sl, (CH I A N V lt tw sp sr X))) (cond (x_in a3 12) (R d 57 (4, [some (.ref 3), some (.int a1), some (.int (a2 + ((A 10) a3.toNatClampNeg))), some (.int (a3 + (nI 1)))], [], sl, (CH I A N V lt tw sp sr X))) none)) none) :=
  (R_gob [4] 400 _ _ _).trans rfl
set_option maxRecDepth 100000 in
theorem k58_r3_0 (d sl : Nat) (I : Nat → Nat → Int32) (A : Nat → Nat → Int32) (N : Nat → Nat → Int64) (V : Nat → Nat → Option Nat) (lt : Int64) (tw : Option Nat) (sp sr : Nat) (X : List AC) (a1 : Int32) :
  R d 58 (0, [some (.ref 3), some (.int a1), none, none], [], sl, (CH I A N V lt tw sp sr X)) =
    R d 58 (4, [some (.ref 3), some (.int a1), some (.int (nI 0)), some (.int (nI 0))], [], sl, (CH I A N V lt tw sp sr X)) :=
  (R_gob [4] 400 _ _ _).trans rfl
set_option maxRecDepth 100000 in
theorem k58_r3_4 (d sl : Nat) (I : Nat → Nat → Int32) (A : Nat → Nat → Int32) (N : Nat → Nat → Int64) (V : Nat → Nat → Option Nat) (lt : Int64) (tw : Option Nat) (sp sr : Nat) (X : List AC) (a1 : Int32) (a2 : Int32) (a3 : Int32) :
  R d 58 (4, [some (.ref 3), some (.int a1), some (.int a2), some (.int a3)], [], sl, (CH I A N V lt tw sp sr X)) =
    cond (decide ((I 3 9) ≤ a3)) (some (38, [some (.ref 3), some (.int a1), some (.int a2), some (.int a3)], [.int a2], sl, (CH I A N V lt tw sp sr X))) (cond (x_in a3 12) (cond (!decide (((A 9) a3.toNatClampNeg) = a1)) (R d 58 (4, [some (.ref 3), some (.int a1), some (.int a2), some (.int (a3 + (nI 1)))], [], sl, (CH I A N V lt tw sp sr X))) (cond (x_in a3 12) (R d 58 (4, [some (.ref 3), some (.int a1), some (.int (a2 + ((A 10) a3.toNatClampNeg))), some (.int (a3 + (nI 1)))], [], sl, (CH I A N V lt tw sp sr X))) none)) none) :=
  (R_gob [4] 400 _ _ _).trans rfl
set_option maxRecDepth 100000 in
theorem k56_r3_0 (d sl : Nat) (I : Nat → Nat → Int32) (A : Nat → Nat → Int32) (N : Nat → Nat → Int64) (V : Nat → Nat → Option Nat) (lt : Int64) (tw : Option Nat) (sp sr : Nat) (X : List AC) (a1 : Int32) (a2 : Int32) :
  R (d + 1) 56 (0, [some (.ref 3), some (.int a1), some (.int a2)], [], sl, (CH I A N V lt tw sp sr X)) =
    R (d + 1) 56 (1, [some (.ref 3), some (.int a1), some (.int a2)], [.int a2], sl, (CH I A N V lt tw sp sr X)) :=
  (R_gob [1, 69] 400 _ _ _).trans rfl
set_option maxRecDepth 100000 in
theorem k56_r3_1_out (d sl : Nat) (I : Nat → Nat → Int32) (A : Nat → Nat → Int32) (N : Nat → Nat → Int64) (V : Nat → Nat → Option Nat) (lt : Int64) (tw : Option Nat) (sp sr : Nat) (X : List AC) (a1 : Int32) (a2 : Int32) (x : Int32) (hx : (decide (x.toInt < (0)) || decide ((4) < x.toInt)) = true) :
  R (d + 1) 56 (1, [some (.ref 3), some (.int a1), some (.int a2)], .int x :: [], sl, (CH I A N V lt tw sp sr X)) = R (d + 1) 56 (70, [some (.ref 3), some (.int a1), some (.int a2)], [], sl, (CH I A N V lt tw sp sr X)) :=
  (R_tsw (show xk 56 1 = (.tableswitch 69 0 4 #[35, 42, 49, 56, 63], 36, [], 0) by decide +kernel)).trans (congrArg (fun q => R (d + 1) 56 (q, [some (.ref 3), some (.int a1), some (.int a2)], [], sl, (CH I A N V lt tw sp sr X))) ((x_tsw_out hx).trans (by decide +kernel)))
set_option maxRecDepth 100000 in
theorem k56_r3_1_c0 (d sl : Nat) (I : Nat → Nat → Int32) (A : Nat → Nat → Int32) (N : Nat → Nat → Int64) (V : Nat → Nat → Option Nat) (lt : Int64) (tw : Option Nat) (sp sr : Nat) (X : List AC) (a1 : Int32) (a2 : Int32)  :
  R (d + 1) 56 (1, [some (.ref 3), some (.int a1), some (.int a2)], .int (nI 0) :: [], sl, (CH I A N V lt tw sp sr X)) = R (d + 1) 56 (36, [some (.ref 3), some (.int a1), some (.int a2)], [], sl, (CH I A N V lt tw sp sr X)) :=
  (R_tsw (show xk 56 1 = (.tableswitch 69 0 4 #[35, 42, 49, 56, 63], 36, [], 0) by decide +kernel)).trans (congrArg (fun q => R (d + 1) 56 (q, [some (.ref 3), some (.int a1), some (.int a2)], [], sl, (CH I A N V lt tw sp sr X))) (by decide +kernel))
set_option maxRecDepth 100000 in
theorem k56_r3_1_c1 (d sl : Nat) (I : Nat → Nat → Int32) (A : Nat → Nat → Int32) (N : Nat → Nat → Int64) (V : Nat → Nat → Option Nat) (lt : Int64) (tw : Option Nat) (sp sr : Nat) (X : List AC) (a1 : Int32) (a2 : Int32)  :
  R (d + 1) 56 (1, [some (.ref 3), some (.int a1), some (.int a2)], .int (nI 1) :: [], sl, (CH I A N V lt tw sp sr X)) = R (d + 1) 56 (43, [some (.ref 3), some (.int a1), some (.int a2)], [], sl, (CH I A N V lt tw sp sr X)) :=
  (R_tsw (show xk 56 1 = (.tableswitch 69 0 4 #[35, 42, 49, 56, 63], 36, [], 0) by decide +kernel)).trans (congrArg (fun q => R (d + 1) 56 (q, [some (.ref 3), some (.int a1), some (.int a2)], [], sl, (CH I A N V lt tw sp sr X))) (by decide +kernel))
set_option maxRecDepth 100000 in
theorem k56_r3_1_c2 (d sl : Nat) (I : Nat → Nat → Int32) (A : Nat → Nat → Int32) (N : Nat → Nat → Int64) (V : Nat → Nat → Option Nat) (lt : Int64) (tw : Option Nat) (sp sr : Nat) (X : List AC) (a1 : Int32) (a2 : Int32)  :
  R (d + 1) 56 (1, [some (.ref 3), some (.int a1), some (.int a2)], .int (nI 2) :: [], sl, (CH I A N V lt tw sp sr X)) = R (d + 1) 56 (50, [some (.ref 3), some (.int a1), some (.int a2)], [], sl, (CH I A N V lt tw sp sr X)) :=
  (R_tsw (show xk 56 1 = (.tableswitch 69 0 4 #[35, 42, 49, 56, 63], 36, [], 0) by decide +kernel)).trans (congrArg (fun q => R (d + 1) 56 (q, [some (.ref 3), some (.int a1), some (.int a2)], [], sl, (CH I A N V lt tw sp sr X))) (by decide +kernel))
set_option maxRecDepth 100000 in
theorem k56_r3_1_c3 (d sl : Nat) (I : Nat → Nat → Int32) (A : Nat → Nat → Int32) (N : Nat → Nat → Int64) (V : Nat → Nat → Option Nat) (lt : Int64) (tw : Option Nat) (sp sr : Nat) (X : List AC) (a1 : Int32) (a2 : Int32)  :
  R (d + 1) 56 (1, [some (.ref 3), some (.int a1), some (.int a2)], .int (nI 3) :: [], sl, (CH I A N V lt tw sp sr X)) = R (d + 1) 56 (57, [some (.ref 3), some (.int a1), some (.int a2)], [], sl, (CH I A N V lt tw sp sr X)) :=
  (R_tsw (show xk 56 1 = (.tableswitch 69 0 4 #[35, 42, 49, 56, 63], 36, [], 0) by decide +kernel)).trans (congrArg (fun q => R (d + 1) 56 (q, [some (.ref 3), some (.int a1), some (.int a2)], [], sl, (CH I A N V lt tw sp sr X))) (by decide +kernel))
set_option maxRecDepth 100000 in
theorem k56_r3_1_c4 (d sl : Nat) (I : Nat → Nat → Int32) (A : Nat → Nat → Int32) (N : Nat → Nat → Int64) (V : Nat → Nat → Option Nat) (lt : Int64) (tw : Option Nat) (sp sr : Nat) (X : List AC) (a1 : Int32) (a2 : Int32)  :
  R (d + 1) 56 (1, [some (.ref 3), some (.int a1), some (.int a2)], .int (nI 4) :: [], sl, (CH I A N V lt tw sp sr X)) = R (d + 1) 56 (64, [some (.ref 3), some (.int a1), some (.int a2)], [], sl, (CH I A N V lt tw sp sr X)) :=
  (R_tsw (show xk 56 1 = (.tableswitch 69 0 4 #[35, 42, 49, 56, 63], 36, [], 0) by decide +kernel)).trans (congrArg (fun q => R (d + 1) 56 (q, [some (.ref 3), some (.int a1), some (.int a2)], [], sl, (CH I A N V lt tw sp sr X))) (by decide +kernel))
set_option maxRecDepth 100000 in
theorem k56_r3_70 (d sl : Nat) (I : Nat → Nat → Int32) (A : Nat → Nat → Int32) (N : Nat → Nat → Int64) (V : Nat → Nat → Option Nat) (lt : Int64) (tw : Option Nat) (sp sr : Nat) (X : List AC) (a1 : Int32) (a2 : Int32) :
  R (d + 1) 56 (70, [some (.ref 3), some (.int a1), some (.int a2)], [], sl, (CH I A N V lt tw sp sr X)) =
    some (71, [some (.ref 3), some (.int a1), some (.int a2)], [.int (-1 : Int32)], sl, (CH I A N V lt tw sp sr X)) :=
  (R_gob [1, 36, 43, 50, 57, 64, 69, 70] 400 _ _ _).trans rfl
set_option maxRecDepth 100000 in
theorem k56_r3_36 (d sl : Nat) (I : Nat → Nat → Int32) (A : Nat → Nat → Int32) (N : Nat → Nat → Int64) (V : Nat → Nat → Option Nat) (lt : Int64) (tw : Option Nat) (sp sr : Nat) (X : List AC) (a1 : Int32) (a2 : Int32) :
  R (d + 1) 56 (36, [some (.ref 3), some (.int a1), some (.int a2)], [], sl, (CH I A N V lt tw sp sr X)) =
    cond (x_in a1 12) (some (42, [some (.ref 3), some (.int a1), some (.int a2)], [.int ((A 8) a1.toNatClampNeg)], sl, (CH I A N V lt tw sp sr X))) none :=
  (R_gob [1, 36, 43, 50, 57, 64, 69, 70] 400 _ _ _).trans rfl
set_option maxRecDepth 100000 in
theorem k56_r3_43 (d sl : Nat) (I : Nat → Nat → Int32) (A : Nat → Nat → Int32) (N : Nat → Nat → Int64) (V : Nat → Nat → Option Nat) (lt : Int64) (tw : Option Nat) (sp sr : Nat) (X : List AC) (a1 : Int32) (a2 : Int32) :
  R (d + 1) 56 (43, [some (.ref 3), some (.int a1), some (.int a2)], [], sl, (CH I A N V lt tw sp sr X)) =
    cond (x_in a1 12) (some (49, [some (.ref 3), some (.int a1), some (.int a2)], [.int ((A 9) a1.toNatClampNeg)], sl, (CH I A N V lt tw sp sr X))) none :=
  (R_gob [1, 36, 43, 50, 57, 64, 69, 70] 400 _ _ _).trans rfl
set_option maxRecDepth 100000 in
theorem k56_r3_50 (d sl : Nat) (I : Nat → Nat → Int32) (A : Nat → Nat → Int32) (N : Nat → Nat → Int64) (V : Nat → Nat → Option Nat) (lt : Int64) (tw : Option Nat) (sp sr : Nat) (X : List AC) (a1 : Int32) (a2 : Int32) :
  R (d + 1) 56 (50, [some (.ref 3), some (.int a1), some (.int a2)], [], sl, (CH I A N V lt tw sp sr X)) =
    cond (x_in a1 12) (some (56, [some (.ref 3), some (.int a1), some (.int a2)], [.int ((A 10) a1.toNatClampNeg)], sl, (CH I A N V lt tw sp sr X))) none :=
  (R_gob [1, 36, 43, 50, 57, 64, 69, 70] 400 _ _ _).trans rfl
set_option maxRecDepth 100000 in
theorem k56_r3_57 (d sl : Nat) (I : Nat → Nat → Int32) (A : Nat → Nat → Int32) (N : Nat → Nat → Int64) (V : Nat → Nat → Option Nat) (lt : Int64) (tw : Option Nat) (sp sr : Nat) (X : List AC) (a1 : Int32) (a2 : Int32) :
  R (d + 1) 56 (57, [some (.ref 3), some (.int a1), some (.int a2)], [], sl, (CH I A N V lt tw sp sr X)) =
    cond (x_in a1 12) (some (63, [some (.ref 3), some (.int a1), some (.int a2)], [.int ((A 11) a1.toNatClampNeg)], sl, (CH I A N V lt tw sp sr X))) none :=
  (R_gob [1, 36, 43, 50, 57, 64, 69, 70] 400 _ _ _).trans rfl
set_option maxRecDepth 100000 in
theorem k56_r3_64 (d sl : Nat) (I : Nat → Nat → Int32) (A : Nat → Nat → Int32) (N : Nat → Nat → Int64) (V : Nat → Nat → Option Nat) (lt : Int64) (tw : Option Nat) (sp sr : Nat) (X : List AC) (a1 : Int32) (a2 : Int32) :
  R (d + 1) 56 (64, [some (.ref 3), some (.int a1), some (.int a2)], [], sl, (CH I A N V lt tw sp sr X)) =
    bC (C d 53 [.ref 3, .int a1] sl (CH I A N V lt tw sp sr X)) (fun vs sl h => R (d + 1) 56 (69, [some (.ref 3), some (.int a1), some (.int a2)], vs ++ [], sl, h)) :=
  (R_gob [1, 36, 43, 50, 57, 64, 69, 70] 400 _ _ _).trans rfl
set_option maxRecDepth 100000 in
theorem k56_r3_69 (d sl : Nat) (I : Nat → Nat → Int32) (A : Nat → Nat → Int32) (N : Nat → Nat → Int64) (V : Nat → Nat → Option Nat) (lt : Int64) (tw : Option Nat) (sp sr : Nat) (X : List AC) (a1 : Int32) (a2 : Int32) (b0 : Int32) :
  R (d + 1) 56 (69, [some (.ref 3), some (.int a1), some (.int a2)], [.int b0], sl, (CH I A N V lt tw sp sr X)) =
    some (69, [some (.ref 3), some (.int a1), some (.int a2)], [.int b0], sl, (CH I A N V lt tw sp sr X)) :=
  (R_gob [1, 36, 43, 50, 57, 64, 69, 70] 400 _ _ _).trans rfl
set_option maxRecDepth 100000 in
theorem k46_r3_0 (d sl : Nat) (I : Nat → Nat → Int32) (A : Nat → Nat → Int32) (N : Nat → Nat → Int64) (V : Nat → Nat → Option Nat) (lt : Int64) (tw : Option Nat) (sp sr : Nat) (X : List AC) (a1 : Int32) :
  R d 46 (0, [some (.ref 3), some (.int a1)], [], sl, (CH I A N V lt tw sp sr X)) =
    cond (decide (a1 < (nI 0))) (some (17, [some (.ref 3), some (.int a1)], [.int (nI 0)], sl, (CH I A N V lt tw sp sr X))) (cond (decide ((I 3 9) ≤ a1)) (some (17, [some (.ref 3), some (.int a1)], [.int (nI 0)], sl, (CH I A N V lt tw sp sr X))) (some (17, [some (.ref 3), some (.int a1)], [.int (nI 1)], sl, (CH I A N V lt tw sp sr X)))) :=
  (R_gob [] 400 _ _ _).trans rfl
set_option maxRecDepth 100000 in
theorem k55_r3_0 (d sl : Nat) (I : Nat → Nat → Int32) (A : Nat → Nat → Int32) (N : Nat → Nat → Int64) (V : Nat → Nat → Option Nat) (lt : Int64) (tw : Option Nat) (sp sr : Nat) (X : List AC) (a1 : Int32) (a2 : Int32) :
  R (d + 1) 55 (0, [some (.ref 3), some (.int a1), some (.int a2), none], [], sl, (CH I A N V lt tw sp sr X)) =
    R (d + 1) 55 (2, [some (.ref 3), some (.int a1), some (.int a2), some (.int (nI 0))], [], sl, (CH I A N V lt tw sp sr X)) :=
  (R_gob [2, 16, 24] 400 _ _ _).trans rfl
set_option maxRecDepth 100000 in
theorem k55_r3_2 (d sl : Nat) (I : Nat → Nat → Int32) (A : Nat → Nat → Int32) (N : Nat → Nat → Int64) (V : Nat → Nat → Option Nat) (lt : Int64) (tw : Option Nat) (sp sr : Nat) (X : List AC) (a1 : Int32) (a2 : Int32) (a3 : Int32) :
  R (d + 1) 55 (2, [some (.ref 3), some (.int a1), some (.int a2), some (.int a3)], [], sl, (CH I A N V lt tw sp sr X)) =
    cond (decide ((I 3 9) ≤ a3)) (some (37, [some (.ref 3), some (.int a1), some (.int a2), some (.int a3)], [.int (-1 : Int32)], sl, (CH I A N V lt tw sp sr X))) (bC (C d 51 [.ref 3, .int a1, .int a3] sl (CH I A N V lt tw sp sr X)) (fun vs sl h => R (d + 1) 55 (16, [some (.ref 3), some (.int a1), some (.int a2), some (.int a3)], vs ++ [], sl, h))) :=
  (R_gob [2, 16, 24] 400 _ _ _).trans rfl
set_option maxRecDepth 100000 in
theorem k55_r3_16 (d sl : Nat) (I : Nat → Nat → Int32) (A : Nat → Nat → Int32) (N : Nat → Nat → Int64) (V : Nat → Nat → Option Nat) (lt : Int64) (tw : Option Nat) (sp sr : Nat) (X : List AC) (a1 : Int32) (a2 : Int32) (a3 : Int32) (b0 : Int32) :
  R (d + 1) 55 (16, [some (.ref 3), some (.int a1), some (.int a2), some (.int a3)], [.int b0], sl, (CH I A N V lt tw sp sr X)) =
    cond (decide (b0 = (nI 0))) (R (d + 1) 55 (2, [some (.ref 3), some (.int a1), some (.int a2), some (.int (a3 + (nI 1)))], [], sl, (CH I A N V lt tw sp sr X))) (bC (C d 53 [.ref 3, .int a3] sl (CH I A N V lt tw sp sr X)) (fun vs sl h => R (d + 1) 55 (24, [some (.ref 3), some (.int a1), some (.int a2), some (.int a3)], vs ++ [], sl, h))) :=
  (R_gob [2, 16, 24] 400 _ _ _).trans rfl
set_option maxRecDepth 100000 in
theorem k55_r3_24 (d sl : Nat) (I : Nat → Nat → Int32) (A : Nat → Nat → Int32) (N : Nat → Nat → Int64) (V : Nat → Nat → Option Nat) (lt : Int64) (tw : Option Nat) (sp sr : Nat) (X : List AC) (a1 : Int32) (a2 : Int32) (a3 : Int32) (b0 : Int32) :
  R (d + 1) 55 (24, [some (.ref 3), some (.int a1), some (.int a2), some (.int a3)], [.int b0], sl, (CH I A N V lt tw sp sr X)) =
    cond (!decide (b0 = a2)) (R (d + 1) 55 (2, [some (.ref 3), some (.int a1), some (.int a2), some (.int (a3 + (nI 1)))], [], sl, (CH I A N V lt tw sp sr X))) (some (29, [some (.ref 3), some (.int a1), some (.int a2), some (.int a3)], [.int a3], sl, (CH I A N V lt tw sp sr X))) :=
  (R_gob [2, 16, 24] 400 _ _ _).trans rfl
set_option maxRecDepth 100000 in
theorem k65_r3_0 (d sl : Nat) (I : Nat → Nat → Int32) (A : Nat → Nat → Int32) (N : Nat → Nat → Int64) (V : Nat → Nat → Option Nat) (lt : Int64) (tw : Option Nat) (sp sr : Nat) (X : List AC)  :
  R (d + 1) 65 (0, [some (.ref 3), none, none], [], sl, (CH I A N V lt tw sp sr X)) =
    R (d + 1) 65 (4, [some (.ref 3), some (.int (nI 0)), some (.int (nI 0))], [], sl, (CH I A N V lt tw sp sr X)) :=
  (R_gob [4, 17] 400 _ _ _).trans rfl
set_option maxRecDepth 100000 in
theorem k65_r3_4 (d sl : Nat) (I : Nat → Nat → Int32) (A : Nat → Nat → Int32) (N : Nat → Nat → Int64) (V : Nat → Nat → Option Nat) (lt : Int64) (tw : Option Nat) (sp sr : Nat) (X : List AC) (a1 : Int32) (a2 : Int32) :
  R (d + 1) 65 (4, [some (.ref 3), some (.int a1), some (.int a2)], [], sl, (CH I A N V lt tw sp sr X)) =
    cond (decide ((I 3 9) ≤ a2)) (some (33, [some (.ref 3), some (.int a1), some (.int a2)], [.int a1], sl, (CH I A N V lt tw sp sr X))) (bC (C d 50 [.ref 3, .int a2] sl (CH I A N V lt tw sp sr X)) (fun vs sl h => R (d + 1) 65 (17, [some (.ref 3), some (.int a1), some (.int a2)], vs ++ [], sl, h))) :=
  (R_gob [4, 17] 400 _ _ _).trans rfl
set_option maxRecDepth 100000 in
theorem k65_r3_17 (d sl : Nat) (I : Nat → Nat → Int32) (A : Nat → Nat → Int32) (N : Nat → Nat → Int64) (V : Nat → Nat → Option Nat) (lt : Int64) (tw : Option Nat) (sp sr : Nat) (X : List AC) (a1 : Int32) (a2 : Int32) (b0 : Int32) :
  R (d + 1) 65 (17, [some (.ref 3), some (.int a1), some (.int a2)], [.int b0], sl, (CH I A N V lt tw sp sr X)) =
    cond (decide (b0 = (nI 0))) (R (d + 1) 65 (4, [some (.ref 3), some (.int a1), some (.int (a2 + (nI 1)))], [], sl, (CH I A N V lt tw sp sr X))) (R (d + 1) 65 (4, [some (.ref 3), some (.int (a1 ||| ((nI 1) <<< (a2 &&& nI 31)))), some (.int (a2 + (nI 1)))], [], sl, (CH I A N V lt tw sp sr X))) :=
  (R_gob [4, 17] 400 _ _ _).trans rfl
set_option maxRecDepth 100000 in
theorem k66_r3_0 (d sl : Nat) (I : Nat → Nat → Int32) (A : Nat → Nat → Int32) (N : Nat → Nat → Int64) (V : Nat → Nat → Option Nat) (lt : Int64) (tw : Option Nat) (sp sr : Nat) (X : List AC)  :
  R d 66 (0, [some (.ref 3), none, none], [], sl, (CH I A N V lt tw sp sr X)) =
    R d 66 (4, [some (.ref 3), some (.int (nI 0)), some (.int (nI 0))], [], sl, (CH I A N V lt tw sp sr X)) :=
  (R_gob [4] 400 _ _ _).trans rfl
set_option maxRecDepth 100000 in
theorem k66_r3_4 (d sl : Nat) (I : Nat → Nat → Int32) (A : Nat → Nat → Int32) (N : Nat → Nat → Int64) (V : Nat → Nat → Option Nat) (lt : Int64) (tw : Option Nat) (sp sr : Nat) (X : List AC) (a1 : Int32) (a2 : Int32) :
  R d 66 (4, [some (.ref 3), some (.int a1), some (.int a2)], [], sl, (CH I A N V lt tw sp sr X)) =
    cond (decide ((I 3 9) ≤ a2)) (some (28, [some (.ref 3), some (.int a1), some (.int a2)], [.int a1], sl, (CH I A N V lt tw sp sr X))) (cond (x_in a2 12) (R d 66 (4, [some (.ref 3), some (.int (a1 + ((A 10) a2.toNatClampNeg))), some (.int (a2 + (nI 1)))], [], sl, (CH I A N V lt tw sp sr X))) none) :=
  (R_gob [4] 400 _ _ _).trans rfl
set_option maxRecDepth 100000 in
theorem k67_r3_0 (d sl : Nat) (I : Nat → Nat → Int32) (A : Nat → Nat → Int32) (N : Nat → Nat → Int64) (V : Nat → Nat → Option Nat) (lt : Int64) (tw : Option Nat) (sp sr : Nat) (X : List AC)  :
  R d 67 (0, [some (.ref 3), none, none], [], sl, (CH I A N V lt tw sp sr X)) =
    R d 67 (4, [some (.ref 3), some (.int (nI 0)), some (.int (nI 0))], [], sl, (CH I A N V lt tw sp sr X)) :=
  (R_gob [4] 400 _ _ _).trans rfl
set_option maxRecDepth 100000 in
theorem k67_r3_4 (d sl : Nat) (I : Nat → Nat → Int32) (A : Nat → Nat → Int32) (N : Nat → Nat → Int64) (V : Nat → Nat → Option Nat) (lt : Int64) (tw : Option Nat) (sp sr : Nat) (X : List AC) (a1 : Int32) (a2 : Int32) :
  R d 67 (4, [some (.ref 3), some (.int a1), some (.int a2)], [], sl, (CH I A N V lt tw sp sr X)) =
    cond (decide ((I 3 8) ≤ a2)) (some (28, [some (.ref 3), some (.int a1), some (.int a2)], [.int a1], sl, (CH I A N V lt tw sp sr X))) (cond (x_in a2 6) (R d 67 (4, [some (.ref 3), some (.int (a1 + ((A 5) a2.toNatClampNeg))), some (.int (a2 + (nI 1)))], [], sl, (CH I A N V lt tw sp sr X))) none) :=
  (R_gob [4] 400 _ _ _).trans rfl
set_option maxRecDepth 100000 in
theorem k106_r95_r3_0 (d sl : Nat) (I : Nat → Nat → Int32) (A : Nat → Nat → Int32) (N : Nat → Nat → Int64) (V : Nat → Nat → Option Nat) (lt : Int64) (tw : Option Nat) (sp sr : Nat) (X : List AC)  :
  R (d + 1) 106 (0, [some (.ref 95), some (.ref 3), none, none], [], sl, (CH I A N V lt tw sp sr X)) =
    bC (C d 108 [.ref 95, .ref 3] sl (CH I A N V lt tw sp sr X)) (fun vs sl h => R (d + 1) 106 (5, [some (.ref 95), some (.ref 3), none, none], vs ++ [], sl, h)) :=
  (R_gob [5, 9, 23] 400 _ _ _).trans rfl
set_option maxRecDepth 100000 in
theorem k106_r95_r3_5 (d sl : Nat) (I : Nat → Nat → Int32) (A : Nat → Nat → Int32) (N : Nat → Nat → Int64) (V : Nat → Nat → Option Nat) (lt : Int64) (tw : Option Nat) (sp sr : Nat) (X : List AC)  :
  R (d + 1) 106 (5, [some (.ref 95), some (.ref 3), none, none], [], sl, (CH I A N V lt tw sp sr X)) =
    R (d + 1) 106 (9, [some (.ref 95), some (.ref 3), some (.int (nI 0)), some (.int (nI 0))], [], sl, (CH I A N V lt tw sp sr X)) :=
  (R_gob [5, 9, 23] 400 _ _ _).trans rfl
set_option maxRecDepth 100000 in
theorem k106_r95_r3_9 (d sl : Nat) (I : Nat → Nat → Int32) (A : Nat → Nat → Int32) (N : Nat → Nat → Int64) (V : Nat → Nat → Option Nat) (lt : Int64) (tw : Option Nat) (sp sr : Nat) (X : List AC) (a2 : Int32) (a3 : Int32) :
  R (d + 1) 106 (9, [some (.ref 95), some (.ref 3), some (.int a2), some (.int a3)], [], sl, (CH I A N V lt tw sp sr X)) =
    cond (decide ((I 3 8) ≤ a3)) (some (39, [some (.ref 95), some (.ref 3), some (.int a2), some (.int a3)], [.int a2], sl, (CH I A N V lt tw sp sr X))) (bC (C d 109 [.ref 95, .ref 3, .int a3] sl (CH I A N V lt tw sp sr X)) (fun vs sl h => R (d + 1) 106 (23, [some (.ref 95), some (.ref 3), some (.int a2), some (.int a3)], vs ++ [], sl, h))) :=
  (R_gob [5, 9, 23] 400 _ _ _).trans rfl
set_option maxRecDepth 100000 in
theorem k106_r95_r3_23 (d sl : Nat) (I : Nat → Nat → Int32) (A : Nat → Nat → Int32) (N : Nat → Nat → Int64) (V : Nat → Nat → Option Nat) (lt : Int64) (tw : Option Nat) (sp sr : Nat) (X : List AC) (a2 : Int32) (a3 : Int32) (b0 : Int32) :
  R (d + 1) 106 (23, [some (.ref 95), some (.ref 3), some (.int a2), some (.int a3)], [.int b0], sl, (CH I A N V lt tw sp sr X)) =
    cond (decide (b0 ≤ (nI 0))) (R (d + 1) 106 (9, [some (.ref 95), some (.ref 3), some (.int a2), some (.int (a3 + (nI 1)))], [], sl, (CH I A N V lt tw sp sr X))) (R (d + 1) 106 (9, [some (.ref 95), some (.ref 3), some (.int (a2 ||| ((nI 1) <<< (a3 &&& nI 31)))), some (.int (a3 + (nI 1)))], [], sl, (CH I A N V lt tw sp sr X))) :=
  (R_gob [5, 9, 23] 400 _ _ _).trans rfl
set_option maxRecDepth 100000 in
theorem k64_r3_0 (d sl : Nat) (I : Nat → Nat → Int32) (A : Nat → Nat → Int32) (N : Nat → Nat → Int64) (V : Nat → Nat → Option Nat) (lt : Int64) (tw : Option Nat) (sp sr : Nat) (X : List AC)  :
  R (d + 1) 64 (0, [some (.ref 3), none, none], [], sl, (CH I A N V lt tw sp sr X)) =
    R (d + 1) 64 (4, [some (.ref 3), some (.int (nI 0)), some (.int (nI 0))], [], sl, (CH I A N V lt tw sp sr X)) :=
  (R_gob [4, 17] 400 _ _ _).trans rfl
set_option maxRecDepth 100000 in
theorem k64_r3_4 (d sl : Nat) (I : Nat → Nat → Int32) (A : Nat → Nat → Int32) (N : Nat → Nat → Int64) (V : Nat → Nat → Option Nat) (lt : Int64) (tw : Option Nat) (sp sr : Nat) (X : List AC) (a1 : Int32) (a2 : Int32) :
  R (d + 1) 64 (4, [some (.ref 3), some (.int a1), some (.int a2)], [], sl, (CH I A N V lt tw sp sr X)) =
    cond (decide ((I 3 8) ≤ a2)) (some (33, [some (.ref 3), some (.int a1), some (.int a2)], [.int a1], sl, (CH I A N V lt tw sp sr X))) (bC (C d 62 [.ref 3, .int a2] sl (CH I A N V lt tw sp sr X)) (fun vs sl h => R (d + 1) 64 (17, [some (.ref 3), some (.int a1), some (.int a2)], vs ++ [], sl, h))) :=
  (R_gob [4, 17] 400 _ _ _).trans rfl
set_option maxRecDepth 100000 in
theorem k64_r3_17 (d sl : Nat) (I : Nat → Nat → Int32) (A : Nat → Nat → Int32) (N : Nat → Nat → Int64) (V : Nat → Nat → Option Nat) (lt : Int64) (tw : Option Nat) (sp sr : Nat) (X : List AC) (a1 : Int32) (a2 : Int32) (b0 : Int32) :
  R (d + 1) 64 (17, [some (.ref 3), some (.int a1), some (.int a2)], [.int b0], sl, (CH I A N V lt tw sp sr X)) =
    cond (decide (b0 = (nI 0))) (R (d + 1) 64 (4, [some (.ref 3), some (.int a1), some (.int (a2 + (nI 1)))], [], sl, (CH I A N V lt tw sp sr X))) (R (d + 1) 64 (4, [some (.ref 3), some (.int (a1 ||| ((nI 1) <<< (a2 &&& nI 31)))), some (.int (a2 + (nI 1)))], [], sl, (CH I A N V lt tw sp sr X))) :=
  (R_gob [4, 17] 400 _ _ _).trans rfl
set_option maxRecDepth 100000 in
theorem k70_r3_0 (d sl : Nat) (I : Nat → Nat → Int32) (A : Nat → Nat → Int32) (N : Nat → Nat → Int64) (V : Nat → Nat → Option Nat) (lt : Int64) (tw : Option Nat) (sp sr : Nat) (X : List AC) (a1 : Int32) (a2 : Int32) :
  R (d + 1) 70 (0, [some (.ref 3), some (.int a1), some (.int a2)], [], sl, (CH I A N V lt tw sp sr X)) =
    bC (C d 50 [.ref 3, .int a1] sl (CH I A N V lt tw sp sr X)) (fun vs sl h => R (d + 1) 70 (5, [some (.ref 3), some (.int a1), some (.int a2)], vs ++ [], sl, h)) :=
  (R_gob [5, 66] 400 _ _ _).trans rfl
set_option maxRecDepth 100000 in
theorem k70_r3_5 (d sl : Nat) (I : Nat → Nat → Int32) (A : Nat → Nat → Int32) (N : Nat → Nat → Int64) (V : Nat → Nat → Option Nat) (lt : Int64) (tw : Option Nat) (sp sr : Nat) (X : List AC) (a1 : Int32) (a2 : Int32) (b0 : Int32) :
  R (d + 1) 70 (5, [some (.ref 3), some (.int a1), some (.int a2)], [.int b0], sl, (CH I A N V lt tw sp sr X)) =
    cond (!decide (b0 = (nI 0))) (cond (x_in a1 12) (cond (decide (a2 ≤ ((A 10) a1.toNatClampNeg))) (cond (x_in a1 12) (cond (x_in ((A 8) a1.toNatClampNeg) 6) (cond (decide (a2 ≤ ((A 5) ((A 8) a1.toNatClampNeg).toNatClampNeg))) (cond (x_in a1 12) (cond (x_in a1 12) (cond (x_in a1 12) (cond (x_in a1 12) (bC (C d 75 [.ref 3, .int ((A 8) a1.toNatClampNeg), .int ((A 9) a1.toNatClampNeg), .int a2] sl (CH I (up1 A 10 (upd (A 10) a1.toNatClampNeg (((A 10) a1.toNatClampNeg) - a2))) N V lt tw sp sr X)) (fun vs sl h => R (d + 1) 70 (66, [some (.ref 3), some (.int a1), some (.int a2)], vs ++ [], sl, h))) none) none) none) none) (some (38, [some (.ref 3), some (.int a1), some (.int a2)], [.int (nI 3)], sl, (CH I A N V lt tw sp sr X)))) none) none) (some (21, [some (.ref 3), some (.int a1), some (.int a2)], [.int (nI 2)], sl, (CH I A N V lt tw sp sr X)))) none) (some (9, [some (.ref 3), some (.int a1), some (.int a2)], [.int (nI 1)], sl, (CH I A N V lt tw sp sr X))) :=
  (R_gob [5, 66] 400 _ _ _).trans rfl
set_option maxRecDepth 100000 in
theorem k70_r3_66 (d sl : Nat) (I : Nat → Nat → Int32) (A : Nat → Nat → Int32) (N : Nat → Nat → Int64) (V : Nat → Nat → Option Nat) (lt : Int64) (tw : Option Nat) (sp sr : Nat) (X : List AC) (a1 : Int32) (a2 : Int32) :
  R (d + 1) 70 (66, [some (.ref 3), some (.int a1), some (.int a2)], [], sl, (CH I A N V lt tw sp sr X)) =
    some (77, [some (.ref 3), some (.int a1), some (.int a2)], [.int (nI 0)], sl, (CH (up1 I 3 (up1 (I 3) 13 ((I 3 13) + a2))) A N V lt tw sp sr X)) :=
  (R_gob [5, 66] 400 _ _ _).trans rfl
set_option maxRecDepth 100000 in
theorem k131_0 (d sl : Nat) (I : Nat → Nat → Int32) (A : Nat → Nat → Int32) (N : Nat → Nat → Int64) (V : Nat → Nat → Option Nat) (lt : Int64) (tw : Option Nat) (sp sr : Nat) (X : List AC) (a1 : Int32) :
  R (d + 1) 131 (0, [some (.ref 0), some (.int a1)], [], sl, (CH I A N V lt tw sp sr X)) =
    cond (!decide (a1 = (nI 0))) (R (d + 1) 131 (15, [some (.ref 0), some (.int a1)], [], sl, (CH I A N V lt tw sp sr X))) (bC (C d 27 [.ref 21, .ref 12] sl (CH I A N V lt tw sp sr X)) (fun vs sl h => R (d + 1) 131 (15, [some (.ref 0), some (.int a1)], vs ++ [], sl, h))) :=
  (R_gob [15] 400 _ _ _).trans rfl
set_option maxRecDepth 100000 in
theorem k131_15 (d sl : Nat) (I : Nat → Nat → Int32) (A : Nat → Nat → Int32) (N : Nat → Nat → Int64) (V : Nat → Nat → Option Nat) (lt : Int64) (tw : Option Nat) (sp sr : Nat) (X : List AC) (a1 : Int32) :
  R (d + 1) 131 (15, [some (.ref 0), some (.int a1)], [], sl, (CH I A N V lt tw sp sr X)) =
    some (16, [some (.ref 0), some (.int a1)], [.int a1], sl, (CH I A N V lt tw sp sr X)) :=
  (R_gob [15] 400 _ _ _).trans rfl
set_option maxRecDepth 100000 in
theorem k44_r12_r3_0 (d sl : Nat) (I : Nat → Nat → Int32) (A : Nat → Nat → Int32) (N : Nat → Nat → Int64) (V : Nat → Nat → Option Nat) (lt : Int64) (tw : Option Nat) (sp sr : Nat) (X : List AC)  :
  R d 44 (0, [some (.ref 12), some (.ref 3)], [], sl, (CH I A N V lt tw sp sr X)) =
    some (168, [some (.ref 12), some (.ref 3)], [], sl, (CH (up1 I 12 (up1 (up1 (up1 (up1 (up1 (up1 (I 12) 8 (I 3 8)) 9 (I 3 9)) 10 (I 3 10)) 11 (I 3 11)) 12 (I 3 12)) 13 (I 3 13))) (up1 (up1 (up1 (up1 (up1 (up1 (up1 A 14 (va_cpy (A 5) (A 14) 0 0 6)) 15 (va_cpy (A 6) (A 15) 0 0 6)) 16 (va_cpy (A 7) (A 16) 0 0 6)) 17 (va_cpy (A 8) (A 17) 0 0 12)) 18 (va_cpy (A 9) (A 18) 0 0 12)) 19 (va_cpy (A 10) (A 19) 0 0 12)) 20 (va_cpy (A 11) (A 20) 0 0 12)) (up1 N 13 (va_cpy (N 4) (N 13) 0 0 6)) V lt tw sp sr X)) :=
  (R_gob [] 400 _ _ _).trans rfl
set_option maxRecDepth 100000 in
theorem k71_r3_0 (d sl : Nat) (I : Nat → Nat → Int32) (A : Nat → Nat → Int32) (N : Nat → Nat → Int64) (V : Nat → Nat → Option Nat) (lt : Int64) (tw : Option Nat) (sp sr : Nat) (X : List AC) (a1 : Int32) (a2 : Int32) (a3 : Int32) :
  R (d + 1) 71 (0, [some (.ref 3), some (.int a1), some (.int a2), some (.int a3)], [], sl, (CH I A N V lt tw sp sr X)) =
    cond (decide ((I 3 9) < (nI 12))) (cond (x_in a2 6) (cond (decide (a3 ≤ ((A 5) a2.toNatClampNeg))) (bC (C d 75 [.ref 3, .int a2, .int a1, .int a3] sl (CH I A N V lt tw sp sr X)) (fun vs sl h => R (d + 1) 71 (30, [some (.ref 3), some (.int a1), some (.int a2), some (.int a3)], vs ++ [], sl, h))) (some (22, [some (.ref 3), some (.int a1), some (.int a2), some (.int a3)], [.int (nI 2)], sl, (CH I A N V lt tw sp sr X)))) none) (some (10, [some (.ref 3), some (.int a1), some (.int a2), some (.int a3)], [.int (nI 1)], sl, (CH I A N V lt tw sp sr X))) :=
  (R_gob [30, 38] 400 _ _ _).trans rfl
set_option maxRecDepth 100000 in
theorem k71_r3_30 (d sl : Nat) (I : Nat → Nat → Int32) (A : Nat → Nat → Int32) (N : Nat → Nat → Int64) (V : Nat → Nat → Option Nat) (lt : Int64) (tw : Option Nat) (sp sr : Nat) (X : List AC) (a1 : Int32) (a2 : Int32) (a3 : Int32) :
  R (d + 1) 71 (30, [some (.ref 3), some (.int a1), some (.int a2), some (.int a3)], [], sl, (CH I A N V lt tw sp sr X)) =
    bC (C d 49 [.ref 3, .int a1, .int a2, .int a3, .int (nI 0)] sl (CH I A N V lt tw sp sr X)) (fun vs sl h => R (d + 1) 71 (38, [some (.ref 3), some (.int a1), some (.int a2), some (.int a3)], vs ++ [], sl, h)) :=
  (R_gob [30, 38] 400 _ _ _).trans rfl
set_option maxRecDepth 100000 in
theorem k71_r3_38 (d sl : Nat) (I : Nat → Nat → Int32) (A : Nat → Nat → Int32) (N : Nat → Nat → Int64) (V : Nat → Nat → Option Nat) (lt : Int64) (tw : Option Nat) (sp sr : Nat) (X : List AC) (a1 : Int32) (a2 : Int32) (a3 : Int32) :
  R (d + 1) 71 (38, [some (.ref 3), some (.int a1), some (.int a2), some (.int a3)], [], sl, (CH I A N V lt tw sp sr X)) =
    some (39, [some (.ref 3), some (.int a1), some (.int a2), some (.int a3)], [.int (nI 0)], sl, (CH I A N V lt tw sp sr X)) :=
  (R_gob [30, 38] 400 _ _ _).trans rfl
set_option maxRecDepth 100000 in
theorem k72_r3_0 (d sl : Nat) (I : Nat → Nat → Int32) (A : Nat → Nat → Int32) (N : Nat → Nat → Int64) (V : Nat → Nat → Option Nat) (lt : Int64) (tw : Option Nat) (sp sr : Nat) (X : List AC) (a1 : Int32) (a2 : Int32) :
  R (d + 1) 72 (0, [some (.ref 3), some (.int a1), some (.int a2)], [], sl, (CH I A N V lt tw sp sr X)) =
    bC (C d 50 [.ref 3, .int a1] sl (CH I A N V lt tw sp sr X)) (fun vs sl h => R (d + 1) 72 (5, [some (.ref 3), some (.int a1), some (.int a2)], vs ++ [], sl, h)) :=
  (R_gob [5, 68] 400 _ _ _).trans rfl
set_option maxRecDepth 100000 in
theorem k72_r3_5 (d sl : Nat) (I : Nat → Nat → Int32) (A : Nat → Nat → Int32) (N : Nat → Nat → Int64) (V : Nat → Nat → Option Nat) (lt : Int64) (tw : Option Nat) (sp sr : Nat) (X : List AC) (a1 : Int32) (a2 : Int32) (b0 : Int32) :
  R (d + 1) 72 (5, [some (.ref 3), some (.int a1), some (.int a2)], [.int b0], sl, (CH I A N V lt tw sp sr X)) =
    cond (!decide (b0 = (nI 0))) (cond (x_in a1 12) (cond (!decide (((A 9) a1.toNatClampNeg) = a2)) (cond (x_in a1 12) (cond (!decide (((A 8) a1.toNatClampNeg) = a2)) (cond (x_in a1 12) (cond (x_in a2 6) (cond (decide (((A 10) a1.toNatClampNeg) ≤ ((A 5) a2.toNatClampNeg))) (cond (x_in a1 12) (cond (x_in a1 12) (bC (C d 75 [.ref 3, .int a2, .int ((A 9) a1.toNatClampNeg), .int ((A 10) a1.toNatClampNeg)] sl (CH I A N V lt tw sp sr X)) (fun vs sl h => R (d + 1) 72 (68, [some (.ref 3), some (.int a1), some (.int a2)], vs ++ [], sl, h))) none) none) (some (50, [some (.ref 3), some (.int a1), some (.int a2)], [.int (nI 4)], sl, (CH I A N V lt tw sp sr X)))) none) none) (some (33, [some (.ref 3), some (.int a1), some (.int a2)], [.int (nI 3)], sl, (CH I A N V lt tw sp sr X)))) none) (some (21, [some (.ref 3), some (.int a1), some (.int a2)], [.int (nI 2)], sl, (CH I A N V lt tw sp sr X)))) none) (some (9, [some (.ref 3), some (.int a1), some (.int a2)], [.int (nI 1)], sl, (CH I A N V lt tw sp sr X))) :=
  (R_gob [5, 68] 400 _ _ _).trans rfl
set_option maxRecDepth 100000 in
theorem k72_r3_68 (d sl : Nat) (I : Nat → Nat → Int32) (A : Nat → Nat → Int32) (N : Nat → Nat → Int64) (V : Nat → Nat → Option Nat) (lt : Int64) (tw : Option Nat) (sp sr : Nat) (X : List AC) (a1 : Int32) (a2 : Int32) :
  R (d + 1) 72 (68, [some (.ref 3), some (.int a1), some (.int a2)], [], sl, (CH I A N V lt tw sp sr X)) =
    cond (x_in a1 12) (some (76, [some (.ref 3), some (.int a1), some (.int a2)], [.int (nI 0)], sl, (CH I (up1 A 9 (upd (A 9) a1.toNatClampNeg a2)) N V lt tw sp sr X))) none :=
  (R_gob [5, 68] 400 _ _ _).trans rfl
set_option maxRecDepth 100000 in
theorem k73_r3_0 (d sl : Nat) (I : Nat → Nat → Int32) (A : Nat → Nat → Int32) (N : Nat → Nat → Int64) (V : Nat → Nat → Option Nat) (lt : Int64) (tw : Option Nat) (sp sr : Nat) (X : List AC) (a1 : Int32) :
  R (d + 1) 73 (0, [some (.ref 3), some (.int a1)], [], sl, (CH I A N V lt tw sp sr X)) =
    bC (C d 50 [.ref 3, .int a1] sl (CH I A N V lt tw sp sr X)) (fun vs sl h => R (d + 1) 73 (5, [some (.ref 3), some (.int a1)], vs ++ [], sl, h)) :=
  (R_gob [5] 400 _ _ _).trans rfl
set_option maxRecDepth 100000 in
theorem k73_r3_5 (d sl : Nat) (I : Nat → Nat → Int32) (A : Nat → Nat → Int32) (N : Nat → Nat → Int64) (V : Nat → Nat → Option Nat) (lt : Int64) (tw : Option Nat) (sp sr : Nat) (X : List AC) (a1 : Int32) (b0 : Int32) :
  R (d + 1) 73 (5, [some (.ref 3), some (.int a1)], [.int b0], sl, (CH I A N V lt tw sp sr X)) =
    cond (!decide (b0 = (nI 0))) (cond (x_in a1 12) (some (18, [some (.ref 3), some (.int a1)], [.int (nI 0)], sl, (CH I (up1 A 10 (upd (A 10) a1.toNatClampNeg (nI 0))) N V lt tw sp sr X))) none) (some (9, [some (.ref 3), some (.int a1)], [.int (nI 1)], sl, (CH I A N V lt tw sp sr X))) :=
  (R_gob [5] 400 _ _ _).trans rfl
set_option maxRecDepth 100000 in
theorem k74_r3_0 (d sl : Nat) (I : Nat → Nat → Int32) (A : Nat → Nat → Int32) (N : Nat → Nat → Int64) (V : Nat → Nat → Option Nat) (lt : Int64) (tw : Option Nat) (sp sr : Nat) (X : List AC) (a1 : Int32) (a2 : Int32) :
  R (d + 1) 74 (0, [some (.ref 3), some (.int a1), some (.int a2), none], [], sl, (CH I A N V lt tw sp sr X)) =
    bC (C d 50 [.ref 3, .int a1] sl (CH I A N V lt tw sp sr X)) (fun vs sl h => R (d + 1) 74 (5, [some (.ref 3), some (.int a1), some (.int a2), none], vs ++ [], sl, h)) :=
  (R_gob [5, 13] 400 _ _ _).trans rfl
set_option maxRecDepth 100000 in
theorem k74_r3_5 (d sl : Nat) (I : Nat → Nat → Int32) (A : Nat → Nat → Int32) (N : Nat → Nat → Int64) (V : Nat → Nat → Option Nat) (lt : Int64) (tw : Option Nat) (sp sr : Nat) (X : List AC) (a1 : Int32) (a2 : Int32) (b0 : Int32) :
  R (d + 1) 74 (5, [some (.ref 3), some (.int a1), some (.int a2), none], [.int b0], sl, (CH I A N V lt tw sp sr X)) =
    cond (decide (b0 = (nI 0))) (some (17, [some (.ref 3), some (.int a1), some (.int a2), none], [.int (nI 1)], sl, (CH I A N V lt tw sp sr X))) (bC (C d 50 [.ref 3, .int a2] sl (CH I A N V lt tw sp sr X)) (fun vs sl h => R (d + 1) 74 (13, [some (.ref 3), some (.int a1), some (.int a2), none], vs ++ [], sl, h))) :=
  (R_gob [5, 13] 400 _ _ _).trans rfl
set_option maxRecDepth 100000 in
theorem k74_r3_13 (d sl : Nat) (I : Nat → Nat → Int32) (A : Nat → Nat → Int32) (N : Nat → Nat → Int64) (V : Nat → Nat → Option Nat) (lt : Int64) (tw : Option Nat) (sp sr : Nat) (X : List AC) (a1 : Int32) (a2 : Int32) (b0 : Int32) :
  R (d + 1) 74 (13, [some (.ref 3), some (.int a1), some (.int a2), none], [.int b0], sl, (CH I A N V lt tw sp sr X)) =
    cond (!decide (b0 = (nI 0))) (cond (x_in a1 12) (cond (x_in a2 12) (cond (!decide (((A 8) a1.toNatClampNeg) = ((A 9) a2.toNatClampNeg))) (some (49, [some (.ref 3), some (.int a1), some (.int a2), none], [.int (nI 2)], sl, (CH I A N V lt tw sp sr X))) (cond (x_in a2 12) (cond (x_in a1 12) (cond (decide (((A 8) a2.toNatClampNeg) = ((A 9) a1.toNatClampNeg))) (cond (x_in a1 12) (cond (x_in a2 12) (cond (x_in a1 12) (cond (x_in a1 12) (cond (x_in a2 12) (cond (x_in a2 12) (some (87, [some (.ref 3), some (.int a1), some (.int a2), some (.int (x_min ((A 10) a1.toNatClampNeg) ((A 10) a2.toNatClampNeg)))], [.int (nI 0)], sl, (CH I (up1 A 10 (upd (upd (A 10) a1.toNatClampNeg (((A 10) a1.toNatClampNeg) - (x_min ((A 10) a1.toNatClampNeg) ((A 10) a2.toNatClampNeg)))) a2.toNatClampNeg (((upd (A 10) a1.toNatClampNeg (((A 10) a1.toNatClampNeg) - (x_min ((A 10) a1.toNatClampNeg) ((A 10) a2.toNatClampNeg)))) a2.toNatClampNeg) - (x_min ((A 10) a1.toNatClampNeg) ((A 10) a2.toNatClampNeg))))) N V lt tw sp sr X))) none) none) none) none) none) none) (some (49, [some (.ref 3), some (.int a1), some (.int a2), none], [.int (nI 2)], sl, (CH I A N V lt tw sp sr X)))) none) none)) none) none) (some (17, [some (.ref 3), some (.int a1), some (.int a2), none], [.int (nI 1)], sl, (CH I A N V lt tw sp sr X))) :=
  (R_gob [5, 13] 400 _ _ _).trans rfl
set_option maxRecDepth 100000 in
theorem k76_r3_0 (d sl : Nat) (I : Nat → Nat → Int32) (A : Nat → Nat → Int32) (N : Nat → Nat → Int64) (V : Nat → Nat → Option Nat) (lt : Int64) (tw : Option Nat) (sp sr : Nat) (X : List AC)  :
  R d 76 (0, [some (.ref 3)], [], sl, (CH I A N V lt tw sp sr X)) =
    some (12, [some (.ref 3)], [.int (x_max (nI 0) ((nI 400) - (I 3 12)))], sl, (CH I A N V lt tw sp sr X)) :=
  (R_gob [] 400 _ _ _).trans rfl
set_option maxRecDepth 100000 in
theorem k77_r3_0 (d sl : Nat) (I : Nat → Nat → Int32) (A : Nat → Nat → Int32) (N : Nat → Nat → Int64) (V : Nat → Nat → Option Nat) (lt : Int64) (tw : Option Nat) (sp sr : Nat) (X : List AC)  :
  R d 77 (0, [some (.ref 3), none, none], [], sl, (CH I A N V lt tw sp sr X)) =
    R d 77 (2, [some (.ref 3), some (.int (nI 0)), none], [], sl, (CH I A N V lt tw sp sr X)) :=
  (R_gob [2, 90] 400 _ _ _).trans rfl
set_option maxRecDepth 100000 in
theorem k77_r3_2 (d sl : Nat) (I : Nat → Nat → Int32) (A : Nat → Nat → Int32) (N : Nat → Nat → Int64) (V : Nat → Nat → Option Nat) (lt : Int64) (tw : Option Nat) (sp sr : Nat) (X : List AC) (a1 : Int32) :
  R d 77 (2, [some (.ref 3), some (.int a1), none], [], sl, (CH I A N V lt tw sp sr X)) =
    cond (decide ((I 3 8) ≤ a1)) (cond (decide ((I 3 11) ≤ (nI 0))) (R d 77 (90, [some (.ref 3), some (.int (nI 0)), some (.int (nI 0))], [], sl, (CH (up1 I 3 (up1 (I 3) 12 ((I 3 12) + (nI 1)))) A N V lt tw sp sr X))) (cond (!decide ((I 3 11) = (nI 0))) (cond (!decide ((((I 3 12) + (nI 1)) - ((I 3 12) + (nI 1)) / (I 3 11) * (I 3 11)) = (nI 0))) (R d 77 (90, [some (.ref 3), some (.int (nI 0)), some (.int (nI 0))], [], sl, (CH (up1 I 3 (up1 (I 3) 12 ((I 3 12) + (nI 1)))) A N V lt tw sp sr X))) (R d 77 (90, [some (.ref 3), some (.int (nI 1)), some (.int (nI 0))], [], sl, (CH (up1 I 3 (up1 (I 3) 12 ((I 3 12) + (nI 1)))) A N V lt tw sp sr X)))) none)) (cond (x_in a1 6) (cond (decide ((nI 9999) ≤ ((A 5) a1.toNatClampNeg))) (R d 77 (2, [some (.ref 3), some (.int (a1 + (nI 1))), none], [], sl, (CH I A N V lt tw sp sr X))) (cond (x_in a1 6) (cond (x_in a1 6) (cond (x_in a1 6) (R d 77 (2, [some (.ref 3), some (.int (a1 + (nI 1))), none], [], sl, (CH I (up1 A 5 (upd (A 5) a1.toNatClampNeg (x_min (nI 9999) (((A 5) a1.toNatClampNeg) + ((A 6) a1.toNatClampNeg))))) N V lt tw sp sr X))) none) none) none)) none) :=
  (R_gob [2, 90] 400 _ _ _).trans rfl
set_option maxRecDepth 100000 in
theorem k77_r3_90 (d sl : Nat) (I : Nat → Nat → Int32) (A : Nat → Nat → Int32) (N : Nat → Nat → Int64) (V : Nat → Nat → Option Nat) (lt : Int64) (tw : Option Nat) (sp sr : Nat) (X : List AC) (a1 : Int32) (a2 : Int32) :
  R d 77 (90, [some (.ref 3), some (.int a1), some (.int a2)], [], sl, (CH I A N V lt tw sp sr X)) =
    cond (decide ((I 3 9) ≤ a2)) (some (160, [some (.ref 3), some (.int a1), some (.int a2)], [], sl, (CH I A N V lt tw sp sr X))) (cond (x_in a2 12) (cond (decide (((A 10) a2.toNatClampNeg) ≤ (nI 0))) (R d 77 (90, [some (.ref 3), some (.int a1), some (.int (a2 + (nI 1)))], [], sl, (CH I A N V lt tw sp sr X))) (cond (x_in a2 12) (cond (x_in a2 12) (cond (decide (a1 = (nI 0))) (R d 77 (90, [some (.ref 3), some (.int a1), some (.int (a2 + (nI 1)))], [], sl, (CH I (up1 A 11 (upd (A 11) a2.toNatClampNeg (x_min (nI 999) (((A 11) a2.toNatClampNeg) + (nI 1))))) N V lt tw sp sr X))) (cond (x_in a2 12) (cond (x_in a2 12) (R d 77 (90, [some (.ref 3), some (.int a1), some (.int (a2 + (nI 1)))], [], sl, (CH I (up1 (up1 A 10 (upd (A 10) a2.toNatClampNeg (x_min (nI 9999) (((A 10) a2.toNatClampNeg) + (I 3 10))))) 11 (upd (A 11) a2.toNatClampNeg (x_min (nI 999) (((A 11) a2.toNatClampNeg) + (nI 1))))) N V lt tw sp sr X))) none) none)) none) none)) none) :=
  (R_gob [2, 90] 400 _ _ _).trans rfl
set_option maxRecDepth 100000 in
theorem k27_r21_r3_0 (d sl : Nat) (I : Nat → Nat → Int32) (A : Nat → Nat → Int32) (N : Nat → Nat → Int64) (V : Nat → Nat → Option Nat) (lt : Int64) (tw : Option Nat) (sp sr : Nat) (X : List AC)  :
  R (d + 1) 27 (0, [some (.ref 21), some (.ref 3)], [], sl, (CH I A N V lt tw sp sr X)) =
    cond (x_in (I 21 1) 8) (R (d + 1) 27 (9, [some (.ref 21), some (.ref 3)], [x_rf ((V 22) (I 21 1).toNatClampNeg)], sl, (CH I A N V lt tw sp sr X))) none :=
  (R_gob [9, 13] 400 _ _ _).trans rfl
set_option maxRecDepth 100000 in
theorem k27_r21_r3_9 (d sl : Nat) (I : Nat → Nat → Int32) (A : Nat → Nat → Int32) (N : Nat → Nat → Int64) (V : Nat → Nat → Option Nat) (lt : Int64) (tw : Option Nat) (sp sr : Nat) (X : List AC)  :
  R (d + 1) 27 (9, [some (.ref 21), some (.ref 3)], [.ref 23], sl, (CH I A N V lt tw sp sr X)) =
    bC (C d 44 [.ref 23, .ref 3] sl (CH I A N V lt tw sp sr X)) (fun vs sl h => R (d + 1) 27 (13, [some (.ref 21), some (.ref 3)], vs ++ [], sl, h)) :=
  (R_gob [9, 13] 400 _ _ _).trans rfl
set_option maxRecDepth 100000 in
theorem k27_r21_r3_9_1 (d sl : Nat) (I : Nat → Nat → Int32) (A : Nat → Nat → Int32) (N : Nat → Nat → Int64) (V : Nat → Nat → Option Nat) (lt : Int64) (tw : Option Nat) (sp sr : Nat) (X : List AC)  :
  R (d + 1) 27 (9, [some (.ref 21), some (.ref 3)], [.ref 32], sl, (CH I A N V lt tw sp sr X)) =
    bC (C d 44 [.ref 32, .ref 3] sl (CH I A N V lt tw sp sr X)) (fun vs sl h => R (d + 1) 27 (13, [some (.ref 21), some (.ref 3)], vs ++ [], sl, h)) :=
  (R_gob [9, 13] 400 _ _ _).trans rfl
set_option maxRecDepth 100000 in
theorem k27_r21_r3_9_2 (d sl : Nat) (I : Nat → Nat → Int32) (A : Nat → Nat → Int32) (N : Nat → Nat → Int64) (V : Nat → Nat → Option Nat) (lt : Int64) (tw : Option Nat) (sp sr : Nat) (X : List AC)  :
  R (d + 1) 27 (9, [some (.ref 21), some (.ref 3)], [.ref 41], sl, (CH I A N V lt tw sp sr X)) =
    bC (C d 44 [.ref 41, .ref 3] sl (CH I A N V lt tw sp sr X)) (fun vs sl h => R (d + 1) 27 (13, [some (.ref 21), some (.ref 3)], vs ++ [], sl, h)) :=
  (R_gob [9, 13] 400 _ _ _).trans rfl
set_option maxRecDepth 100000 in
theorem k27_r21_r3_9_3 (d sl : Nat) (I : Nat → Nat → Int32) (A : Nat → Nat → Int32) (N : Nat → Nat → Int64) (V : Nat → Nat → Option Nat) (lt : Int64) (tw : Option Nat) (sp sr : Nat) (X : List AC)  :
  R (d + 1) 27 (9, [some (.ref 21), some (.ref 3)], [.ref 50], sl, (CH I A N V lt tw sp sr X)) =
    bC (C d 44 [.ref 50, .ref 3] sl (CH I A N V lt tw sp sr X)) (fun vs sl h => R (d + 1) 27 (13, [some (.ref 21), some (.ref 3)], vs ++ [], sl, h)) :=
  (R_gob [9, 13] 400 _ _ _).trans rfl
set_option maxRecDepth 100000 in
theorem k27_r21_r3_9_4 (d sl : Nat) (I : Nat → Nat → Int32) (A : Nat → Nat → Int32) (N : Nat → Nat → Int64) (V : Nat → Nat → Option Nat) (lt : Int64) (tw : Option Nat) (sp sr : Nat) (X : List AC)  :
  R (d + 1) 27 (9, [some (.ref 21), some (.ref 3)], [.ref 59], sl, (CH I A N V lt tw sp sr X)) =
    bC (C d 44 [.ref 59, .ref 3] sl (CH I A N V lt tw sp sr X)) (fun vs sl h => R (d + 1) 27 (13, [some (.ref 21), some (.ref 3)], vs ++ [], sl, h)) :=
  (R_gob [9, 13] 400 _ _ _).trans rfl
set_option maxRecDepth 100000 in
theorem k27_r21_r3_9_5 (d sl : Nat) (I : Nat → Nat → Int32) (A : Nat → Nat → Int32) (N : Nat → Nat → Int64) (V : Nat → Nat → Option Nat) (lt : Int64) (tw : Option Nat) (sp sr : Nat) (X : List AC)  :
  R (d + 1) 27 (9, [some (.ref 21), some (.ref 3)], [.ref 68], sl, (CH I A N V lt tw sp sr X)) =
    bC (C d 44 [.ref 68, .ref 3] sl (CH I A N V lt tw sp sr X)) (fun vs sl h => R (d + 1) 27 (13, [some (.ref 21), some (.ref 3)], vs ++ [], sl, h)) :=
  (R_gob [9, 13] 400 _ _ _).trans rfl
set_option maxRecDepth 100000 in
theorem k27_r21_r3_9_6 (d sl : Nat) (I : Nat → Nat → Int32) (A : Nat → Nat → Int32) (N : Nat → Nat → Int64) (V : Nat → Nat → Option Nat) (lt : Int64) (tw : Option Nat) (sp sr : Nat) (X : List AC)  :
  R (d + 1) 27 (9, [some (.ref 21), some (.ref 3)], [.ref 77], sl, (CH I A N V lt tw sp sr X)) =
    bC (C d 44 [.ref 77, .ref 3] sl (CH I A N V lt tw sp sr X)) (fun vs sl h => R (d + 1) 27 (13, [some (.ref 21), some (.ref 3)], vs ++ [], sl, h)) :=
  (R_gob [9, 13] 400 _ _ _).trans rfl
set_option maxRecDepth 100000 in
theorem k27_r21_r3_9_7 (d sl : Nat) (I : Nat → Nat → Int32) (A : Nat → Nat → Int32) (N : Nat → Nat → Int64) (V : Nat → Nat → Option Nat) (lt : Int64) (tw : Option Nat) (sp sr : Nat) (X : List AC)  :
  R (d + 1) 27 (9, [some (.ref 21), some (.ref 3)], [.ref 86], sl, (CH I A N V lt tw sp sr X)) =
    bC (C d 44 [.ref 86, .ref 3] sl (CH I A N V lt tw sp sr X)) (fun vs sl h => R (d + 1) 27 (13, [some (.ref 21), some (.ref 3)], vs ++ [], sl, h)) :=
  (R_gob [9, 13] 400 _ _ _).trans rfl
set_option maxRecDepth 100000 in
theorem k27_r21_r3_13 (d sl : Nat) (I : Nat → Nat → Int32) (A : Nat → Nat → Int32) (N : Nat → Nat → Int64) (V : Nat → Nat → Option Nat) (lt : Int64) (tw : Option Nat) (sp sr : Nat) (X : List AC)  :
  R (d + 1) 27 (13, [some (.ref 21), some (.ref 3)], [], sl, (CH I A N V lt tw sp sr X)) =
    some (41, [some (.ref 21), some (.ref 3)], [], sl, (CH (up1 I 21 (up1 (up1 (I 21) 1 (((I 21 1) + (nI 1)) - ((I 21 1) + (nI 1)) / (nI 8) * (nI 8))) 2 (x_min (nI 8) ((I 21 2) + (nI 1))))) A N V lt tw sp sr X)) :=
  (R_gob [9, 13] 400 _ _ _).trans rfl
set_option maxRecDepth 100000 in
theorem k28_r21_r3_0 (d sl : Nat) (I : Nat → Nat → Int32) (A : Nat → Nat → Int32) (N : Nat → Nat → Int64) (V : Nat → Nat → Option Nat) (lt : Int64) (tw : Option Nat) (sp sr : Nat) (X : List AC)  :
  R (d + 1) 28 (0, [some (.ref 21), some (.ref 3)], [], sl, (CH I A N V lt tw sp sr X)) =
    cond (!decide ((I 21 2) = (nI 0))) (cond (x_in ((((I 21 1) + (nI 8)) - (nI 1)) - (((I 21 1) + (nI 8)) - (nI 1)) / (nI 8) * (nI 8)) 8) (R (d + 1) 28 (45, [some (.ref 21), some (.ref 3)], [x_rf ((V 22) ((((I 21 1) + (nI 8)) - (nI 1)) - (((I 21 1) + (nI 8)) - (nI 1)) / (nI 8) * (nI 8)).toNatClampNeg), .ref 3], sl, (CH (up1 I 21 (up1 (up1 (I 21) 1 ((((I 21 1) + (nI 8)) - (nI 1)) - (((I 21 1) + (nI 8)) - (nI 1)) / (nI 8) * (nI 8))) 2 ((I 21 2) - (nI 1)))) A N V lt tw sp sr X))) none) (some (8, [some (.ref 21), some (.ref 3)], [.int (nI 0)], sl, (CH I A N V lt tw sp sr X))) :=
  (R_gob [45, 48] 400 _ _ _).trans rfl
set_option maxRecDepth 100000 in
theorem k28_r21_r3_45 (d sl : Nat) (I : Nat → Nat → Int32) (A : Nat → Nat → Int32) (N : Nat → Nat → Int64) (V : Nat → Nat → Option Nat) (lt : Int64) (tw : Option Nat) (sp sr : Nat) (X : List AC)  :
  R (d + 1) 28 (45, [some (.ref 21), some (.ref 3)], [.ref 23, .ref 3], sl, (CH I A N V lt tw sp sr X)) =
    bC (C d 44 [.ref 3, .ref 23] sl (CH I A N V lt tw sp sr X)) (fun vs sl h => R (d + 1) 28 (48, [some (.ref 21), some (.ref 3)], vs ++ [], sl, h)) :=
  (R_gob [45, 48] 400 _ _ _).trans rfl
set_option maxRecDepth 100000 in
theorem k28_r21_r3_45_1 (d sl : Nat) (I : Nat → Nat → Int32) (A : Nat → Nat → Int32) (N : Nat → Nat → Int64) (V : Nat → Nat → Option Nat) (lt : Int64) (tw : Option Nat) (sp sr : Nat) (X : List AC)  :
  R (d + 1) 28 (45, [some (.ref 21), some (.ref 3)], [.ref 32, .ref 3], sl, (CH I A N V lt tw sp sr X)) =
    bC (C d 44 [.ref 3, .ref 32] sl (CH I A N V lt tw sp sr X)) (fun vs sl h => R (d + 1) 28 (48, [some (.ref 21), some (.ref 3)], vs ++ [], sl, h)) :=
  (R_gob [45, 48] 400 _ _ _).trans rfl
set_option maxRecDepth 100000 in
theorem k28_r21_r3_45_2 (d sl : Nat) (I : Nat → Nat → Int32) (A : Nat → Nat → Int32) (N : Nat → Nat → Int64) (V : Nat → Nat → Option Nat) (lt : Int64) (tw : Option Nat) (sp sr : Nat) (X : List AC)  :
  R (d + 1) 28 (45, [some (.ref 21), some (.ref 3)], [.ref 41, .ref 3], sl, (CH I A N V lt tw sp sr X)) =
    bC (C d 44 [.ref 3, .ref 41] sl (CH I A N V lt tw sp sr X)) (fun vs sl h => R (d + 1) 28 (48, [some (.ref 21), some (.ref 3)], vs ++ [], sl, h)) :=
  (R_gob [45, 48] 400 _ _ _).trans rfl
set_option maxRecDepth 100000 in
theorem k28_r21_r3_45_3 (d sl : Nat) (I : Nat → Nat → Int32) (A : Nat → Nat → Int32) (N : Nat → Nat → Int64) (V : Nat → Nat → Option Nat) (lt : Int64) (tw : Option Nat) (sp sr : Nat) (X : List AC)  :
  R (d + 1) 28 (45, [some (.ref 21), some (.ref 3)], [.ref 50, .ref 3], sl, (CH I A N V lt tw sp sr X)) =
    bC (C d 44 [.ref 3, .ref 50] sl (CH I A N V lt tw sp sr X)) (fun vs sl h => R (d + 1) 28 (48, [some (.ref 21), some (.ref 3)], vs ++ [], sl, h)) :=
  (R_gob [45, 48] 400 _ _ _).trans rfl
set_option maxRecDepth 100000 in
theorem k28_r21_r3_45_4 (d sl : Nat) (I : Nat → Nat → Int32) (A : Nat → Nat → Int32) (N : Nat → Nat → Int64) (V : Nat → Nat → Option Nat) (lt : Int64) (tw : Option Nat) (sp sr : Nat) (X : List AC)  :
  R (d + 1) 28 (45, [some (.ref 21), some (.ref 3)], [.ref 59, .ref 3], sl, (CH I A N V lt tw sp sr X)) =
    bC (C d 44 [.ref 3, .ref 59] sl (CH I A N V lt tw sp sr X)) (fun vs sl h => R (d + 1) 28 (48, [some (.ref 21), some (.ref 3)], vs ++ [], sl, h)) :=
  (R_gob [45, 48] 400 _ _ _).trans rfl
set_option maxRecDepth 100000 in
theorem k28_r21_r3_45_5 (d sl : Nat) (I : Nat → Nat → Int32) (A : Nat → Nat → Int32) (N : Nat → Nat → Int64) (V : Nat → Nat → Option Nat) (lt : Int64) (tw : Option Nat) (sp sr : Nat) (X : List AC)  :
  R (d + 1) 28 (45, [some (.ref 21), some (.ref 3)], [.ref 68, .ref 3], sl, (CH I A N V lt tw sp sr X)) =
    bC (C d 44 [.ref 3, .ref 68] sl (CH I A N V lt tw sp sr X)) (fun vs sl h => R (d + 1) 28 (48, [some (.ref 21), some (.ref 3)], vs ++ [], sl, h)) :=
  (R_gob [45, 48] 400 _ _ _).trans rfl
set_option maxRecDepth 100000 in
theorem k28_r21_r3_45_6 (d sl : Nat) (I : Nat → Nat → Int32) (A : Nat → Nat → Int32) (N : Nat → Nat → Int64) (V : Nat → Nat → Option Nat) (lt : Int64) (tw : Option Nat) (sp sr : Nat) (X : List AC)  :
  R (d + 1) 28 (45, [some (.ref 21), some (.ref 3)], [.ref 77, .ref 3], sl, (CH I A N V lt tw sp sr X)) =
    bC (C d 44 [.ref 3, .ref 77] sl (CH I A N V lt tw sp sr X)) (fun vs sl h => R (d + 1) 28 (48, [some (.ref 21), some (.ref 3)], vs ++ [], sl, h)) :=
  (R_gob [45, 48] 400 _ _ _).trans rfl
set_option maxRecDepth 100000 in
theorem k28_r21_r3_45_7 (d sl : Nat) (I : Nat → Nat → Int32) (A : Nat → Nat → Int32) (N : Nat → Nat → Int64) (V : Nat → Nat → Option Nat) (lt : Int64) (tw : Option Nat) (sp sr : Nat) (X : List AC)  :
  R (d + 1) 28 (45, [some (.ref 21), some (.ref 3)], [.ref 86, .ref 3], sl, (CH I A N V lt tw sp sr X)) =
    bC (C d 44 [.ref 3, .ref 86] sl (CH I A N V lt tw sp sr X)) (fun vs sl h => R (d + 1) 28 (48, [some (.ref 21), some (.ref 3)], vs ++ [], sl, h)) :=
  (R_gob [45, 48] 400 _ _ _).trans rfl
set_option maxRecDepth 100000 in
theorem k28_r21_r3_48 (d sl : Nat) (I : Nat → Nat → Int32) (A : Nat → Nat → Int32) (N : Nat → Nat → Int64) (V : Nat → Nat → Option Nat) (lt : Int64) (tw : Option Nat) (sp sr : Nat) (X : List AC)  :
  R (d + 1) 28 (48, [some (.ref 21), some (.ref 3)], [], sl, (CH I A N V lt tw sp sr X)) =
    some (49, [some (.ref 21), some (.ref 3)], [.int (nI 1)], sl, (CH I A N V lt tw sp sr X)) :=
  (R_gob [45, 48] 400 _ _ _).trans rfl
set_option maxRecDepth 100000 in
theorem k6_r146_0 (d sl : Nat) (I : Nat → Nat → Int32) (A : Nat → Nat → Int32) (N : Nat → Nat → Int64) (V : Nat → Nat → Option Nat) (lt : Int64) (tw : Option Nat) (sp sr : Nat) (a1 : Int32) (x0_0 : Int32) :
  R d 6 (0, [some (.ref 146), some (.int a1)], [], sl, (CH I A N V lt tw sp sr [.inr (0, [.int x0_0])])) =
    some (9, [some (.ref 146), some (.int a1)], [], sl, (CH I A N V lt tw sp sr [.inr (0, [.int a1])])) :=
  (R_gob [] 400 _ _ _).trans rfl
set_option maxRecDepth 100000 in
theorem k27_r21_r12_0 (d sl : Nat) (I : Nat → Nat → Int32) (A : Nat → Nat → Int32) (N : Nat → Nat → Int64) (V : Nat → Nat → Option Nat) (lt : Int64) (tw : Option Nat) (sp sr : Nat) (X : List AC)  :
  R (d + 1) 27 (0, [some (.ref 21), some (.ref 12)], [], sl, (CH I A N V lt tw sp sr X)) =
    cond (x_in (I 21 1) 8) (R (d + 1) 27 (9, [some (.ref 21), some (.ref 12)], [x_rf ((V 22) (I 21 1).toNatClampNeg)], sl, (CH I A N V lt tw sp sr X))) none :=
  (R_gob [9, 13] 400 _ _ _).trans rfl
set_option maxRecDepth 100000 in
theorem k27_r21_r12_9 (d sl : Nat) (I : Nat → Nat → Int32) (A : Nat → Nat → Int32) (N : Nat → Nat → Int64) (V : Nat → Nat → Option Nat) (lt : Int64) (tw : Option Nat) (sp sr : Nat) (X : List AC)  :
  R (d + 1) 27 (9, [some (.ref 21), some (.ref 12)], [.ref 23], sl, (CH I A N V lt tw sp sr X)) =
    bC (C d 44 [.ref 23, .ref 12] sl (CH I A N V lt tw sp sr X)) (fun vs sl h => R (d + 1) 27 (13, [some (.ref 21), some (.ref 12)], vs ++ [], sl, h)) :=
  (R_gob [9, 13] 400 _ _ _).trans rfl
set_option maxRecDepth 100000 in
theorem k27_r21_r12_9_1 (d sl : Nat) (I : Nat → Nat → Int32) (A : Nat → Nat → Int32) (N : Nat → Nat → Int64) (V : Nat → Nat → Option Nat) (lt : Int64) (tw : Option Nat) (sp sr : Nat) (X : List AC)  :
  R (d + 1) 27 (9, [some (.ref 21), some (.ref 12)], [.ref 32], sl, (CH I A N V lt tw sp sr X)) =
    bC (C d 44 [.ref 32, .ref 12] sl (CH I A N V lt tw sp sr X)) (fun vs sl h => R (d + 1) 27 (13, [some (.ref 21), some (.ref 12)], vs ++ [], sl, h)) :=
  (R_gob [9, 13] 400 _ _ _).trans rfl
set_option maxRecDepth 100000 in
theorem k27_r21_r12_9_2 (d sl : Nat) (I : Nat → Nat → Int32) (A : Nat → Nat → Int32) (N : Nat → Nat → Int64) (V : Nat → Nat → Option Nat) (lt : Int64) (tw : Option Nat) (sp sr : Nat) (X : List AC)  :
  R (d + 1) 27 (9, [some (.ref 21), some (.ref 12)], [.ref 41], sl, (CH I A N V lt tw sp sr X)) =
    bC (C d 44 [.ref 41, .ref 12] sl (CH I A N V lt tw sp sr X)) (fun vs sl h => R (d + 1) 27 (13, [some (.ref 21), some (.ref 12)], vs ++ [], sl, h)) :=
  (R_gob [9, 13] 400 _ _ _).trans rfl
set_option maxRecDepth 100000 in
theorem k27_r21_r12_9_3 (d sl : Nat) (I : Nat → Nat → Int32) (A : Nat → Nat → Int32) (N : Nat → Nat → Int64) (V : Nat → Nat → Option Nat) (lt : Int64) (tw : Option Nat) (sp sr : Nat) (X : List AC)  :
  R (d + 1) 27 (9, [some (.ref 21), some (.ref 12)], [.ref 50], sl, (CH I A N V lt tw sp sr X)) =
    bC (C d 44 [.ref 50, .ref 12] sl (CH I A N V lt tw sp sr X)) (fun vs sl h => R (d + 1) 27 (13, [some (.ref 21), some (.ref 12)], vs ++ [], sl, h)) :=
  (R_gob [9, 13] 400 _ _ _).trans rfl
set_option maxRecDepth 100000 in
theorem k27_r21_r12_9_4 (d sl : Nat) (I : Nat → Nat → Int32) (A : Nat → Nat → Int32) (N : Nat → Nat → Int64) (V : Nat → Nat → Option Nat) (lt : Int64) (tw : Option Nat) (sp sr : Nat) (X : List AC)  :
  R (d + 1) 27 (9, [some (.ref 21), some (.ref 12)], [.ref 59], sl, (CH I A N V lt tw sp sr X)) =
    bC (C d 44 [.ref 59, .ref 12] sl (CH I A N V lt tw sp sr X)) (fun vs sl h => R (d + 1) 27 (13, [some (.ref 21), some (.ref 12)], vs ++ [], sl, h)) :=
  (R_gob [9, 13] 400 _ _ _).trans rfl
set_option maxRecDepth 100000 in
theorem k27_r21_r12_9_5 (d sl : Nat) (I : Nat → Nat → Int32) (A : Nat → Nat → Int32) (N : Nat → Nat → Int64) (V : Nat → Nat → Option Nat) (lt : Int64) (tw : Option Nat) (sp sr : Nat) (X : List AC)  :
  R (d + 1) 27 (9, [some (.ref 21), some (.ref 12)], [.ref 68], sl, (CH I A N V lt tw sp sr X)) =
    bC (C d 44 [.ref 68, .ref 12] sl (CH I A N V lt tw sp sr X)) (fun vs sl h => R (d + 1) 27 (13, [some (.ref 21), some (.ref 12)], vs ++ [], sl, h)) :=
  (R_gob [9, 13] 400 _ _ _).trans rfl
set_option maxRecDepth 100000 in
theorem k27_r21_r12_9_6 (d sl : Nat) (I : Nat → Nat → Int32) (A : Nat → Nat → Int32) (N : Nat → Nat → Int64) (V : Nat → Nat → Option Nat) (lt : Int64) (tw : Option Nat) (sp sr : Nat) (X : List AC)  :
  R (d + 1) 27 (9, [some (.ref 21), some (.ref 12)], [.ref 77], sl, (CH I A N V lt tw sp sr X)) =
    bC (C d 44 [.ref 77, .ref 12] sl (CH I A N V lt tw sp sr X)) (fun vs sl h => R (d + 1) 27 (13, [some (.ref 21), some (.ref 12)], vs ++ [], sl, h)) :=
  (R_gob [9, 13] 400 _ _ _).trans rfl
set_option maxRecDepth 100000 in
theorem k27_r21_r12_9_7 (d sl : Nat) (I : Nat → Nat → Int32) (A : Nat → Nat → Int32) (N : Nat → Nat → Int64) (V : Nat → Nat → Option Nat) (lt : Int64) (tw : Option Nat) (sp sr : Nat) (X : List AC)  :
  R (d + 1) 27 (9, [some (.ref 21), some (.ref 12)], [.ref 86], sl, (CH I A N V lt tw sp sr X)) =
    bC (C d 44 [.ref 86, .ref 12] sl (CH I A N V lt tw sp sr X)) (fun vs sl h => R (d + 1) 27 (13, [some (.ref 21), some (.ref 12)], vs ++ [], sl, h)) :=
  (R_gob [9, 13] 400 _ _ _).trans rfl
set_option maxRecDepth 100000 in
theorem k27_r21_r12_13 (d sl : Nat) (I : Nat → Nat → Int32) (A : Nat → Nat → Int32) (N : Nat → Nat → Int64) (V : Nat → Nat → Option Nat) (lt : Int64) (tw : Option Nat) (sp sr : Nat) (X : List AC)  :
  R (d + 1) 27 (13, [some (.ref 21), some (.ref 12)], [], sl, (CH I A N V lt tw sp sr X)) =
    some (41, [some (.ref 21), some (.ref 12)], [], sl, (CH (up1 I 21 (up1 (up1 (I 21) 1 (((I 21 1) + (nI 1)) - ((I 21 1) + (nI 1)) / (nI 8) * (nI 8))) 2 (x_min (nI 8) ((I 21 2) + (nI 1))))) A N V lt tw sp sr X)) :=
  (R_gob [9, 13] 400 _ _ _).trans rfl
set_option maxRecDepth 100000 in
theorem k78_r3_r146_0 (d sl : Nat) (I : Nat → Nat → Int32) (A : Nat → Nat → Int32) (N : Nat → Nat → Int64) (V : Nat → Nat → Option Nat) (lt : Int64) (tw : Option Nat) (sp sr : Nat) (a1 : Int32) (x0_0 : Int32) :
  R (d + 1) 78 (0, [some (.ref 3), some (.int a1), some (.ref 146), none, none, none], [], sl, (CH I A N V lt tw sp sr [.inr (0, [.int x0_0])])) =
    bC (C d 76 [.ref 3] sl (CH I A N V lt tw sp sr [.inr (0, [.int x0_0])])) (fun vs sl h => R (d + 1) 78 (5, [some (.ref 3), some (.int a1), some (.ref 146), none, none, none], vs ++ [.int a1], sl, h)) :=
  (R_gob [5, 12, 21, 37, 47] 400 _ _ _).trans rfl
set_option maxRecDepth 100000 in
theorem k78_r3_r146_5 (d sl : Nat) (I : Nat → Nat → Int32) (A : Nat → Nat → Int32) (N : Nat → Nat → Int64) (V : Nat → Nat → Option Nat) (lt : Int64) (tw : Option Nat) (sp sr : Nat) (a1 : Int32) (b0 : Int32) (b1 : Int32) (x0_0 : Int32) :
  R (d + 1) 78 (5, [some (.ref 3), some (.int a1), some (.ref 146), none, none, none], [.int b0, .int b1], sl, (CH I A N V lt tw sp sr [.inr (0, [.int x0_0])])) =
    R (d + 1) 78 (12, [some (.ref 3), some (.int a1), some (.ref 146), some (.int (x_min b1 b0)), some (.int (nI 0)), none], [], sl, (CH I A N V lt tw sp sr [.inr (0, [.int x0_0])])) :=
  (R_gob [5, 12, 21, 37, 47] 400 _ _ _).trans rfl
set_option maxRecDepth 100000 in
theorem k78_r3_r146_12 (d sl : Nat) (I : Nat → Nat → Int32) (A : Nat → Nat → Int32) (N : Nat → Nat → Int64) (V : Nat → Nat → Option Nat) (lt : Int64) (tw : Option Nat) (sp sr : Nat) (a1 : Int32) (a3 : Int32) (a4 : Int32) (x0_0 : Int32) :
  R (d + 1) 78 (12, [some (.ref 3), some (.int a1), some (.ref 146), some (.int a3), some (.int a4), none], [], sl, (CH I A N V lt tw sp sr [.inr (0, [.int x0_0])])) =
    cond (decide (a3 ≤ a4)) (some (54, [some (.ref 3), some (.int a1), some (.ref 146), some (.int a3), some (.int a4), none], [.int a3], sl, (CH I A N V lt tw sp sr [.inr (0, [.int x0_0])]))) (R (d + 1) 78 (21, [some (.ref 3), some (.int a1), some (.ref 146), some (.int a3), some (.int a4), some (.int (nI 0))], [], sl, (CH I A N V lt tw sp sr [.inr (0, [.int x0_0])]))) :=
  (R_gob [5, 12, 21, 37, 47] 400 _ _ _).trans rfl
set_option maxRecDepth 100000 in
theorem k78_r3_r146_21 (d sl : Nat) (I : Nat → Nat → Int32) (A : Nat → Nat → Int32) (N : Nat → Nat → Int64) (V : Nat → Nat → Option Nat) (lt : Int64) (tw : Option Nat) (sp sr : Nat) (a1 : Int32) (a3 : Int32) (a4 : Int32) (a5 : Int32) (x0_0 : Int32) :
  R (d + 1) 78 (21, [some (.ref 3), some (.int a1), some (.ref 146), some (.int a3), some (.int a4), some (.int a5)], [], sl, (CH I A N V lt tw sp sr [.inr (0, [.int x0_0])])) =
    cond (decide ((I 3 8) ≤ a5)) (bC (C d 77 [.ref 3] sl (CH I A N V lt tw sp sr [.inr (0, [.int x0_0])])) (fun vs sl h => R (d + 1) 78 (47, [some (.ref 3), some (.int a1), some (.ref 146), some (.int a3), some (.int a4), some (.int a5)], vs ++ [], sl, h))) (bC (C d 79 [.ref 3, .int a5, .ref 146] sl (CH I A N V lt tw sp sr [.inr (0, [.int x0_0])])) (fun vs sl h => R (d + 1) 78 (37, [some (.ref 3), some (.int a1), some (.ref 146), some (.int a3), some (.int a4), some (.int a5)], vs ++ [], sl, h))) :=
  (R_gob [5, 12, 21, 37, 47] 400 _ _ _).trans rfl
set_option maxRecDepth 100000 in
theorem k78_r3_r146_47 (d sl : Nat) (I : Nat → Nat → Int32) (A : Nat → Nat → Int32) (N : Nat → Nat → Int64) (V : Nat → Nat → Option Nat) (lt : Int64) (tw : Option Nat) (sp sr : Nat) (a1 : Int32) (a3 : Int32) (a4 : Int32) (a5 : Int32) (x0_0 : Int32) :
  R (d + 1) 78 (47, [some (.ref 3), some (.int a1), some (.ref 146), some (.int a3), some (.int a4), some (.int a5)], [], sl, (CH I A N V lt tw sp sr [.inr (0, [.int x0_0])])) =
    R (d + 1) 78 (12, [some (.ref 3), some (.int a1), some (.ref 146), some (.int a3), some (.int (a4 + (nI 1))), some (.int a5)], [], sl, (CH I A N V lt tw sp sr [.inr (0, [.int x0_0])])) :=
  (R_gob [5, 12, 21, 37, 47] 400 _ _ _).trans rfl
set_option maxRecDepth 100000 in
theorem k78_r3_r146_37 (d sl : Nat) (I : Nat → Nat → Int32) (A : Nat → Nat → Int32) (N : Nat → Nat → Int64) (V : Nat → Nat → Option Nat) (lt : Int64) (tw : Option Nat) (sp sr : Nat) (a1 : Int32) (a3 : Int32) (a4 : Int32) (a5 : Int32) (x0_0 : Int32) :
  R (d + 1) 78 (37, [some (.ref 3), some (.int a1), some (.ref 146), some (.int a3), some (.int a4), some (.int a5)], [], sl, (CH I A N V lt tw sp sr [.inr (0, [.int x0_0])])) =
    R (d + 1) 78 (21, [some (.ref 3), some (.int a1), some (.ref 146), some (.int a3), some (.int a4), some (.int (a5 + (nI 1)))], [], sl, (CH I A N V lt tw sp sr [.inr (0, [.int x0_0])])) :=
  (R_gob [5, 12, 21, 37, 47] 400 _ _ _).trans rfl
set_option maxRecDepth 100000 in
theorem k78_r3_r146_12_1 (d sl : Nat) (I : Nat → Nat → Int32) (A : Nat → Nat → Int32) (N : Nat → Nat → Int64) (V : Nat → Nat → Option Nat) (lt : Int64) (tw : Option Nat) (sp sr : Nat) (a1 : Int32) (a3 : Int32) (a4 : Int32) (a5 : Int32) (x0_0 : Int32) :
  R (d + 1) 78 (12, [some (.ref 3), some (.int a1), some (.ref 146), some (.int a3), some (.int a4), some (.int a5)], [], sl, (CH I A N V lt tw sp sr [.inr (0, [.int x0_0])])) =
    cond (decide (a3 ≤ a4)) (some (54, [some (.ref 3), some (.int a1), some (.ref 146), some (.int a3), some (.int a4), some (.int a5)], [.int a3], sl, (CH I A N V lt tw sp sr [.inr (0, [.int x0_0])]))) (R (d + 1) 78 (21, [some (.ref 3), some (.int a1), some (.ref 146), some (.int a3), some (.int a4), some (.int (nI 0))], [], sl, (CH I A N V lt tw sp sr [.inr (0, [.int x0_0])]))) :=
  (R_gob [5, 12, 21, 37, 47] 400 _ _ _).trans rfl
set_option maxRecDepth 100000 in
theorem k62_r12_0 (d sl : Nat) (I : Nat → Nat → Int32) (A : Nat → Nat → Int32) (N : Nat → Nat → Int64) (V : Nat → Nat → Option Nat) (lt : Int64) (tw : Option Nat) (sp sr : Nat) (X : List AC) (a1 : Int32) :
  R (d + 1) 62 (0, [some (.ref 12), some (.int a1)], [], sl, (CH I A N V lt tw sp sr X)) =
    bC (C d 57 [.ref 12, .int a1] sl (CH I A N V lt tw sp sr X)) (fun vs sl h => R (d + 1) 62 (5, [some (.ref 12), some (.int a1)], vs ++ [], sl, h)) :=
  (R_gob [5] 400 _ _ _).trans rfl
set_option maxRecDepth 100000 in
theorem k62_r12_5 (d sl : Nat) (I : Nat → Nat → Int32) (A : Nat → Nat → Int32) (N : Nat → Nat → Int64) (V : Nat → Nat → Option Nat) (lt : Int64) (tw : Option Nat) (sp sr : Nat) (X : List AC) (a1 : Int32) (b0 : Int32) :
  R (d + 1) 62 (5, [some (.ref 12), some (.int a1)], [.int b0], sl, (CH I A N V lt tw sp sr X)) =
    cond (x_in a1 6) (cond (decide (b0 ≤ ((A 14) a1.toNatClampNeg))) (some (19, [some (.ref 12), some (.int a1)], [.int (nI 0)], sl, (CH I A N V lt tw sp sr X))) (some (19, [some (.ref 12), some (.int a1)], [.int (nI 1)], sl, (CH I A N V lt tw sp sr X)))) none :=
  (R_gob [5] 400 _ _ _).trans rfl
set_option maxRecDepth 100000 in
theorem k78_r12_r146_0 (d sl : Nat) (I : Nat → Nat → Int32) (A : Nat → Nat → Int32) (N : Nat → Nat → Int64) (V : Nat → Nat → Option Nat) (lt : Int64) (tw : Option Nat) (sp sr : Nat) (a1 : Int32) (x0_0 : Int32) :
  R (d + 1) 78 (0, [some (.ref 12), some (.int a1), some (.ref 146), none, none, none], [], sl, (CH I A N V lt tw sp sr [.inr (0, [.int x0_0])])) =
    bC (C d 76 [.ref 12] sl (CH I A N V lt tw sp sr [.inr (0, [.int x0_0])])) (fun vs sl h => R (d + 1) 78 (5, [some (.ref 12), some (.int a1), some (.ref 146), none, none, none], vs ++ [.int a1], sl, h)) :=
  (R_gob [5, 12, 21, 37, 47] 400 _ _ _).trans rfl
set_option maxRecDepth 100000 in
theorem k78_r12_r146_5 (d sl : Nat) (I : Nat → Nat → Int32) (A : Nat → Nat → Int32) (N : Nat → Nat → Int64) (V : Nat → Nat → Option Nat) (lt : Int64) (tw : Option Nat) (sp sr : Nat) (a1 : Int32) (b0 : Int32) (b1 : Int32) (x0_0 : Int32) :
  R (d + 1) 78 (5, [some (.ref 12), some (.int a1), some (.ref 146), none, none, none], [.int b0, .int b1], sl, (CH I A N V lt tw sp sr [.inr (0, [.int x0_0])])) =
    R (d + 1) 78 (12, [some (.ref 12), some (.int a1), some (.ref 146), some (.int (x_min b1 b0)), some (.int (nI 0)), none], [], sl, (CH I A N V lt tw sp sr [.inr (0, [.int x0_0])])) :=
  (R_gob [5, 12, 21, 37, 47] 400 _ _ _).trans rfl
set_option maxRecDepth 100000 in
theorem k78_r12_r146_12 (d sl : Nat) (I : Nat → Nat → Int32) (A : Nat → Nat → Int32) (N : Nat → Nat → Int64) (V : Nat → Nat → Option Nat) (lt : Int64) (tw : Option Nat) (sp sr : Nat) (a1 : Int32) (a3 : Int32) (a4 : Int32) (x0_0 : Int32) :
  R (d + 1) 78 (12, [some (.ref 12), some (.int a1), some (.ref 146), some (.int a3), some (.int a4), none], [], sl, (CH I A N V lt tw sp sr [.inr (0, [.int x0_0])])) =
    cond (decide (a3 ≤ a4)) (some (54, [some (.ref 12), some (.int a1), some (.ref 146), some (.int a3), some (.int a4), none], [.int a3], sl, (CH I A N V lt tw sp sr [.inr (0, [.int x0_0])]))) (R (d + 1) 78 (21, [some (.ref 12), some (.int a1), some (.ref 146), some (.int a3), some (.int a4), some (.int (nI 0))], [], sl, (CH I A N V lt tw sp sr [.inr (0, [.int x0_0])]))) :=
  (R_gob [5, 12, 21, 37, 47] 400 _ _ _).trans rfl
set_option maxRecDepth 100000 in
theorem k78_r12_r146_21 (d sl : Nat) (I : Nat → Nat → Int32) (A : Nat → Nat → Int32) (N : Nat → Nat → Int64) (V : Nat → Nat → Option Nat) (lt : Int64) (tw : Option Nat) (sp sr : Nat) (a1 : Int32) (a3 : Int32) (a4 : Int32) (a5 : Int32) (x0_0 : Int32) :
  R (d + 1) 78 (21, [some (.ref 12), some (.int a1), some (.ref 146), some (.int a3), some (.int a4), some (.int a5)], [], sl, (CH I A N V lt tw sp sr [.inr (0, [.int x0_0])])) =
    cond (decide ((I 12 8) ≤ a5)) (bC (C d 77 [.ref 12] sl (CH I A N V lt tw sp sr [.inr (0, [.int x0_0])])) (fun vs sl h => R (d + 1) 78 (47, [some (.ref 12), some (.int a1), some (.ref 146), some (.int a3), some (.int a4), some (.int a5)], vs ++ [], sl, h))) (bC (C d 79 [.ref 12, .int a5, .ref 146] sl (CH I A N V lt tw sp sr [.inr (0, [.int x0_0])])) (fun vs sl h => R (d + 1) 78 (37, [some (.ref 12), some (.int a1), some (.ref 146), some (.int a3), some (.int a4), some (.int a5)], vs ++ [], sl, h))) :=
  (R_gob [5, 12, 21, 37, 47] 400 _ _ _).trans rfl
set_option maxRecDepth 100000 in
theorem k78_r12_r146_47 (d sl : Nat) (I : Nat → Nat → Int32) (A : Nat → Nat → Int32) (N : Nat → Nat → Int64) (V : Nat → Nat → Option Nat) (lt : Int64) (tw : Option Nat) (sp sr : Nat) (a1 : Int32) (a3 : Int32) (a4 : Int32) (a5 : Int32) (x0_0 : Int32) :
  R (d + 1) 78 (47, [some (.ref 12), some (.int a1), some (.ref 146), some (.int a3), some (.int a4), some (.int a5)], [], sl, (CH I A N V lt tw sp sr [.inr (0, [.int x0_0])])) =
    R (d + 1) 78 (12, [some (.ref 12), some (.int a1), some (.ref 146), some (.int a3), some (.int (a4 + (nI 1))), some (.int a5)], [], sl, (CH I A N V lt tw sp sr [.inr (0, [.int x0_0])])) :=
  (R_gob [5, 12, 21, 37, 47] 400 _ _ _).trans rfl
set_option maxRecDepth 100000 in
theorem k78_r12_r146_37 (d sl : Nat) (I : Nat → Nat → Int32) (A : Nat → Nat → Int32) (N : Nat → Nat → Int64) (V : Nat → Nat → Option Nat) (lt : Int64) (tw : Option Nat) (sp sr : Nat) (a1 : Int32) (a3 : Int32) (a4 : Int32) (a5 : Int32) (x0_0 : Int32) :
  R (d + 1) 78 (37, [some (.ref 12), some (.int a1), some (.ref 146), some (.int a3), some (.int a4), some (.int a5)], [], sl, (CH I A N V lt tw sp sr [.inr (0, [.int x0_0])])) =
    R (d + 1) 78 (21, [some (.ref 12), some (.int a1), some (.ref 146), some (.int a3), some (.int a4), some (.int (a5 + (nI 1)))], [], sl, (CH I A N V lt tw sp sr [.inr (0, [.int x0_0])])) :=
  (R_gob [5, 12, 21, 37, 47] 400 _ _ _).trans rfl
set_option maxRecDepth 100000 in
theorem k78_r12_r146_12_1 (d sl : Nat) (I : Nat → Nat → Int32) (A : Nat → Nat → Int32) (N : Nat → Nat → Int64) (V : Nat → Nat → Option Nat) (lt : Int64) (tw : Option Nat) (sp sr : Nat) (a1 : Int32) (a3 : Int32) (a4 : Int32) (a5 : Int32) (x0_0 : Int32) :
  R (d + 1) 78 (12, [some (.ref 12), some (.int a1), some (.ref 146), some (.int a3), some (.int a4), some (.int a5)], [], sl, (CH I A N V lt tw sp sr [.inr (0, [.int x0_0])])) =
    cond (decide (a3 ≤ a4)) (some (54, [some (.ref 12), some (.int a1), some (.ref 146), some (.int a3), some (.int a4), some (.int a5)], [.int a3], sl, (CH I A N V lt tw sp sr [.inr (0, [.int x0_0])]))) (R (d + 1) 78 (21, [some (.ref 12), some (.int a1), some (.ref 146), some (.int a3), some (.int a4), some (.int (nI 0))], [], sl, (CH I A N V lt tw sp sr [.inr (0, [.int x0_0])]))) :=
  (R_gob [5, 12, 21, 37, 47] 400 _ _ _).trans rfl
