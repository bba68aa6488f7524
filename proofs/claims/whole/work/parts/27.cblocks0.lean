set_option maxRecDepth 100000 in
theorem k115_0 (d sl : Nat) (I : Nat → Nat → Int32) (A : Nat → Nat → Int32) (N : Nat → Nat → Int64) (V : Nat → Nat → Option Nat) (lt : Int64) (tw : Option Nat) (sp sr : Nat) (X : List AC) (a1 : Int32) (a2 : Int32) (a3 : Int32) (a4 : Int32) (a5 : Int32) :
  R (d + 1) 115 (0, [some (.ref 0), some (.int a1), some (.int a2), some (.int a3), some (.int a4), some (.int a5)], [], sl, (CH I A N V lt tw sp sr X)) =
    cond (decide (((I 1 1) + (nI 20)) ≤ (nI 940))) (bC (C d 87 [.ref 1, .int a1] sl (CH I A N V lt tw sp sr X)) (fun vs sl h => R (d + 1) 115 (26, [some (.ref 0), some (.int a1), some (.int a2), some (.int a3), some (.int a4), some (.int a5)], vs ++ [], sl, h))) (some (17, [some (.ref 0), some (.int a1), some (.int a2), some (.int a3), some (.int a4), some (.int a5)], [.int (-1 : Int32)], sl, (CH I A N V lt tw sp sr X))) :=
  (R_gob [26, 34, 42, 51, 60] 400 _ _ _).trans rfl
set_option maxRecDepth 100000 in
theorem k115_26 (d sl : Nat) (I : Nat → Nat → Int32) (A : Nat → Nat → Int32) (N : Nat → Nat → Int64) (V : Nat → Nat → Option Nat) (lt : Int64) (tw : Option Nat) (sp sr : Nat) (X : List AC) (a1 : Int32) (a2 : Int32) (a3 : Int32) (a4 : Int32) (a5 : Int32) :
  R (d + 1) 115 (26, [some (.ref 0), some (.int a1), some (.int a2), some (.int a3), some (.int a4), some (.int a5)], [], sl, (CH I A N V lt tw sp sr X)) =
    bC (C d 87 [.ref 1, .int a2] sl (CH I A N V lt tw sp sr X)) (fun vs sl h => R (d + 1) 115 (34, [some (.ref 0), some (.int a1), some (.int a2), some (.int a3), some (.int a4), some (.int a5)], vs ++ [], sl, h)) :=
  (R_gob [26, 34, 42, 51, 60] 400 _ _ _).trans rfl
set_option maxRecDepth 100000 in
theorem k115_34 (d sl : Nat) (I : Nat → Nat → Int32) (A : Nat → Nat → Int32) (N : Nat → Nat → Int64) (V : Nat → Nat → Option Nat) (lt : Int64) (tw : Option Nat) (sp sr : Nat) (X : List AC) (a1 : Int32) (a2 : Int32) (a3 : Int32) (a4 : Int32) (a5 : Int32) :
  R (d + 1) 115 (34, [some (.ref 0), some (.int a1), some (.int a2), some (.int a3), some (.int a4), some (.int a5)], [], sl, (CH I A N V lt tw sp sr X)) =
    bC (C d 87 [.ref 1, .int a3] sl (CH I A N V lt tw sp sr X)) (fun vs sl h => R (d + 1) 115 (42, [some (.ref 0), some (.int a1), some (.int a2), some (.int a3), some (.int a4), some (.int a5)], vs ++ [], sl, h)) :=
  (R_gob [26, 34, 42, 51, 60] 400 _ _ _).trans rfl
set_option maxRecDepth 100000 in
theorem k115_42 (d sl : Nat) (I : Nat → Nat → Int32) (A : Nat → Nat → Int32) (N : Nat → Nat → Int64) (V : Nat → Nat → Option Nat) (lt : Int64) (tw : Option Nat) (sp sr : Nat) (X : List AC) (a1 : Int32) (a2 : Int32) (a3 : Int32) (a4 : Int32) (a5 : Int32) :
  R (d + 1) 115 (42, [some (.ref 0), some (.int a1), some (.int a2), some (.int a3), some (.int a4), some (.int a5)], [], sl, (CH I A N V lt tw sp sr X)) =
    bC (C d 87 [.ref 1, .int a4] sl (CH I A N V lt tw sp sr X)) (fun vs sl h => R (d + 1) 115 (51, [some (.ref 0), some (.int a1), some (.int a2), some (.int a3), some (.int a4), some (.int a5)], vs ++ [], sl, h)) :=
  (R_gob [26, 34, 42, 51, 60] 400 _ _ _).trans rfl
set_option maxRecDepth 100000 in
theorem k115_51 (d sl : Nat) (I : Nat → Nat → Int32) (A : Nat → Nat → Int32) (N : Nat → Nat → Int64) (V : Nat → Nat → Option Nat) (lt : Int64) (tw : Option Nat) (sp sr : Nat) (X : List AC) (a1 : Int32) (a2 : Int32) (a3 : Int32) (a4 : Int32) (a5 : Int32) :
  R (d + 1) 115 (51, [some (.ref 0), some (.int a1), some (.int a2), some (.int a3), some (.int a4), some (.int a5)], [], sl, (CH I A N V lt tw sp sr X)) =
    bC (C d 87 [.ref 1, .int a5] sl (CH I A N V lt tw sp sr X)) (fun vs sl h => R (d + 1) 115 (60, [some (.ref 0), some (.int a1), some (.int a2), some (.int a3), some (.int a4), some (.int a5)], vs ++ [], sl, h)) :=
  (R_gob [26, 34, 42, 51, 60] 400 _ _ _).trans rfl
set_option maxRecDepth 100000 in
theorem k115_60 (d sl : Nat) (I : Nat → Nat → Int32) (A : Nat → Nat → Int32) (N : Nat → Nat → Int64) (V : Nat → Nat → Option Nat) (lt : Int64) (tw : Option Nat) (sp sr : Nat) (X : List AC) (a1 : Int32) (a2 : Int32) (a3 : Int32) (a4 : Int32) (a5 : Int32) :
  R (d + 1) 115 (60, [some (.ref 0), some (.int a1), some (.int a2), some (.int a3), some (.int a4), some (.int a5)], [], sl, (CH I A N V lt tw sp sr X)) =
    some (67, [some (.ref 0), some (.int a1), some (.int a2), some (.int a3), some (.int a4), some (.int a5)], [.int (I 1 1)], sl, (CH I A N V lt tw sp sr X)) :=
  (R_gob [26, 34, 42, 51, 60] 400 _ _ _).trans rfl
set_option maxRecDepth 100000 in
theorem k116_0 (d sl : Nat) (I : Nat → Nat → Int32) (A : Nat → Nat → Int32) (N : Nat → Nat → Int64) (V : Nat → Nat → Option Nat) (lt : Int64) (tw : Option Nat) (sp sr : Nat) (X : List AC) (a1 : Int32) :
  R d 116 (0, [some (.ref 0), some (.int a1)], [], sl, (CH I A N V lt tw sp sr X)) =
    cond (decide (a1 < (nI 0))) (some (16, [some (.ref 0), some (.int a1)], [.int (nI 0)], sl, (CH I A N V lt tw sp sr X))) (cond (decide (a1 ≤ (I 1 1))) (some (26, [some (.ref 0), some (.int a1)], [.int (nI 1)], sl, (CH (up1 I 1 (up1 (I 1) 1 a1)) A N V lt tw sp sr X))) (some (16, [some (.ref 0), some (.int a1)], [.int (nI 0)], sl, (CH I A N V lt tw sp sr X)))) :=
  (R_gob [] 400 _ _ _).trans rfl
set_option maxRecDepth 100000 in
theorem k117_0 (d sl : Nat) (I : Nat → Nat → Int32) (A : Nat → Nat → Int32) (N : Nat → Nat → Int64) (V : Nat → Nat → Option Nat) (lt : Int64) (tw : Option Nat) (sp sr : Nat)  :
  R (d + 1) 117 (0, [some (.ref 0), none], [], sl, (CH I A N V lt tw sp sr [])) =
    bC (C d 89 [.ref 1, .int (nI 900)] sl (CH I A N V lt tw sp sr [])) (fun vs sl h => R (d + 1) 117 (10, [some (.ref 0), none], vs ++ [], sl, h)) :=
  (R_gob [10, 25, 28, 33, 58, 73] 400 _ _ _).trans rfl
set_option maxRecDepth 100000 in
theorem k117_10 (d sl : Nat) (I : Nat → Nat → Int32) (A : Nat → Nat → Int32) (N : Nat → Nat → Int64) (V : Nat → Nat → Option Nat) (lt : Int64) (tw : Option Nat) (sp sr : Nat)  :
  R (d + 1) 117 (10, [some (.ref 0), none], [], sl, (CH I A N V lt tw sp sr [])) =
    bC (C d 80 [.ref 146, .ref 1, .ref 12] (sl + 3) (CH I A N V lt tw sp sr [.inr (7, [.null, .null, .int 0])])) (fun vs sl h => R (d + 1) 117 (25, [some (.ref 0), none], vs ++ [.ref 146], sl, h)) :=
  (R_gob [10, 25, 28, 33, 58, 73] 400 _ _ _).trans rfl
set_option maxRecDepth 100000 in
theorem k117_25 (d sl : Nat) (I : Nat → Nat → Int32) (A : Nat → Nat → Int32) (N : Nat → Nat → Int64) (V : Nat → Nat → Option Nat) (lt : Int64) (tw : Option Nat) (sp sr : Nat) (x0_2 : Int32) :
  R (d + 1) 117 (25, [some (.ref 0), none], [.ref 146], sl, (CH I A N V lt tw sp sr [.inr (7, [.null, .null, .int x0_2])])) =
    bC (C d 81 [.ref 146] sl (CH I A N V lt tw sp sr [.inr (7, [.null, .null, .int x0_2])])) (fun vs sl h => R (d + 1) 117 (28, [some (.ref 0), none], vs ++ [], sl, h)) :=
  (R_gob [10, 25, 28, 33, 58, 73] 400 _ _ _).trans rfl
set_option maxRecDepth 100000 in
theorem k117_28 (d sl : Nat) (I : Nat → Nat → Int32) (A : Nat → Nat → Int32) (N : Nat → Nat → Int64) (V : Nat → Nat → Option Nat) (lt : Int64) (tw : Option Nat) (sp sr : Nat) (b0 : Int32) (x0_2 : Int32) :
  R (d + 1) 117 (28, [some (.ref 0), none], [.int b0], sl, (CH I A N V lt tw sp sr [.inr (7, [.null, .null, .int x0_2])])) =
    bC (C d 119 [.ref 0] sl (CH I A N V lt tw sp sr [.inr (7, [.null, .null, .int x0_2])])) (fun vs sl h => R (d + 1) 117 (33, [some (.ref 0), some (.int b0)], vs ++ [], sl, h)) :=
  (R_gob [10, 25, 28, 33, 58, 73] 400 _ _ _).trans rfl
set_option maxRecDepth 100000 in
theorem k117_33 (d sl : Nat) (I : Nat → Nat → Int32) (A : Nat → Nat → Int32) (N : Nat → Nat → Int64) (V : Nat → Nat → Option Nat) (lt : Int64) (tw : Option Nat) (sp sr : Nat) (a1 : Int32) (x0_2 : Int32) :
  R (d + 1) 117 (33, [some (.ref 0), some (.int a1)], [], sl, (CH I A N V lt tw sp sr [.inr (7, [.null, .null, .int x0_2])])) =
    cond (decide ((nI 0) ≤ a1)) (bC (C d 44 [.ref 3, .ref 12] sl (CH I A N V lt tw sp sr [.inr (7, [.null, .null, .int x0_2])])) (fun vs sl h => R (d + 1) 117 (58, [some (.ref 0), some (.int a1)], vs ++ [], sl, h))) (some (46, [some (.ref 0), some (.int a1)], [.int ((-1 : Int32) - (I 1 11))], sl, (CH I A N V lt tw sp sr [.inr (7, [.null, .null, .int x0_2])]))) :=
  (R_gob [10, 25, 28, 33, 58, 73] 400 _ _ _).trans rfl
set_option maxRecDepth 100000 in
theorem k117_58 (d sl : Nat) (I : Nat → Nat → Int32) (A : Nat → Nat → Int32) (N : Nat → Nat → Int64) (V : Nat → Nat → Option Nat) (lt : Int64) (tw : Option Nat) (a1 : Int32) (x0_2 : Int32) :
  R (d + 1) 117 (58, [some (.ref 0), some (.int a1)], [], sl, (CH I A N V lt tw 108 112 [.inr (7, [.null, .null, .int x0_2])])) =
    bC (C d 29 [.ref 21] sl (CH (up1 I 108 (up1 (I 108) 3 (nI 0))) A N V lt tw 108 112 [.inr (7, [.null, .null, .int x0_2])])) (fun vs sl h => R (d + 1) 117 (73, [some (.ref 0), some (.int a1)], vs ++ [], sl, h)) :=
  (R_gob [10, 25, 28, 33, 58, 73] 400 _ _ _).trans rfl
set_option maxRecDepth 100000 in
theorem k117_58_1 (d sl : Nat) (I : Nat → Nat → Int32) (A : Nat → Nat → Int32) (N : Nat → Nat → Int64) (V : Nat → Nat → Option Nat) (lt : Int64) (tw : Option Nat) (a1 : Int32) (x0_2 : Int32) :
  R (d + 1) 117 (58, [some (.ref 0), some (.int a1)], [], sl, (CH I A N V lt tw 112 108 [.inr (7, [.null, .null, .int x0_2])])) =
    bC (C d 29 [.ref 21] sl (CH (up1 I 112 (up1 (I 112) 3 (nI 0))) A N V lt tw 112 108 [.inr (7, [.null, .null, .int x0_2])])) (fun vs sl h => R (d + 1) 117 (73, [some (.ref 0), some (.int a1)], vs ++ [], sl, h)) :=
  (R_gob [10, 25, 28, 33, 58, 73] 400 _ _ _).trans rfl
set_option maxRecDepth 100000 in
theorem k117_73 (d sl : Nat) (I : Nat → Nat → Int32) (A : Nat → Nat → Int32) (N : Nat → Nat → Int64) (V : Nat → Nat → Option Nat) (lt : Int64) (tw : Option Nat) (a1 : Int32) (x0_2 : Int32) :
  R (d + 1) 117 (73, [some (.ref 0), some (.int a1)], [], sl, (CH I A N V lt tw 108 112 [.inr (7, [.null, .null, .int x0_2])])) =
    some (74, [some (.ref 0), some (.int a1)], [.int a1], sl, (CH I A N V lt tw 108 112 [.inr (7, [.null, .null, .int x0_2])])) :=
  (R_gob [10, 25, 28, 33, 58, 73] 400 _ _ _).trans rfl
set_option maxRecDepth 100000 in
theorem k117_73_1 (d sl : Nat) (I : Nat → Nat → Int32) (A : Nat → Nat → Int32) (N : Nat → Nat → Int64) (V : Nat → Nat → Option Nat) (lt : Int64) (tw : Option Nat) (a1 : Int32) (x0_2 : Int32) :
  R (d + 1) 117 (73, [some (.ref 0), some (.int a1)], [], sl, (CH I A N V lt tw 112 108 [.inr (7, [.null, .null, .int x0_2])])) =
    some (74, [some (.ref 0), some (.int a1)], [.int a1], sl, (CH I A N V lt tw 112 108 [.inr (7, [.null, .null, .int x0_2])])) :=
  (R_gob [10, 25, 28, 33, 58, 73] 400 _ _ _).trans rfl
set_option maxRecDepth 100000 in
theorem k118_0 (d sl : Nat) (I : Nat → Nat → Int32) (A : Nat → Nat → Int32) (N : Nat → Nat → Int64) (V : Nat → Nat → Option Nat) (lt : Int64) (tw : Option Nat) (sp sr : Nat) (X : List AC)  :
  R d 118 (0, [some (.ref 0)], [], sl, (CH I A N V lt tw sp sr X)) =
    some (4, [some (.ref 0)], [.int (I 0 13)], sl, (CH I A N V lt tw sp sr X)) :=
  (R_gob [] 400 _ _ _).trans rfl
set_option maxRecDepth 100000 in
theorem k120_0 (d sl : Nat) (I : Nat → Nat → Int32) (A : Nat → Nat → Int32) (N : Nat → Nat → Int64) (V : Nat → Nat → Option Nat) (lt : Int64) (tw : Option Nat) (sp sr : Nat) (X : List AC) (a1 : Int32) (a2 : Int32) :
  R (d + 1) 120 (0, [some (.ref 0), some (.int a1), some (.int a2)], [], sl, (CH I A N V lt tw sp sr X)) =
    bC (C d 45 [.ref 3, .int a1] sl (CH I A N V lt tw sp sr X)) (fun vs sl h => R (d + 1) 120 (8, [some (.ref 0), some (.int a1), some (.int a2)], vs ++ [], sl, h)) :=
  (R_gob [8, 22, 102, 111, 120, 130] 400 _ _ _).trans rfl
set_option maxRecDepth 100000 in
theorem k120_8 (d sl : Nat) (I : Nat → Nat → Int32) (A : Nat → Nat → Int32) (N : Nat → Nat → Int64) (V : Nat → Nat → Option Nat) (lt : Int64) (tw : Option Nat) (sp sr : Nat) (X : List AC) (a1 : Int32) (a2 : Int32) (b0 : Int32) :
  R (d + 1) 120 (8, [some (.ref 0), some (.int a1), some (.int a2)], [.int b0], sl, (CH I A N V lt tw sp sr X)) =
    cond (!decide (b0 = (nI 0))) (R (d + 1) 120 (22, [some (.ref 0), some (.int a1), some (.int a2)], [.int a2], sl, (CH I A N V lt tw sp sr X))) (some (11, [some (.ref 0), some (.int a1), some (.int a2)], [], sl, (CH I A N V lt tw sp sr X))) :=
  (R_gob [8, 22, 102, 111, 120, 130] 400 _ _ _).trans rfl
set_option maxRecDepth 100000 in
theorem k120_22_out (d sl : Nat) (I : Nat → Nat → Int32) (A : Nat → Nat → Int32) (N : Nat → Nat → Int64) (V : Nat → Nat → Option Nat) (lt : Int64) (tw : Option Nat) (sp sr : Nat) (X : List AC) (a1 : Int32) (a2 : Int32) (x : Int32) (hx : (decide (x.toInt < (0)) || decide ((6) < x.toInt)) = true) :
  R (d + 1) 120 (22, [some (.ref 0), some (.int a1), some (.int a2)], .int x :: [], sl, (CH I A N V lt tw sp sr X)) = R (d + 1) 120 (144, [some (.ref 0), some (.int a1), some (.int a2)], [], sl, (CH I A N V lt tw sp sr X)) :=
  (R_tsw (show xk 120 22 = (.tableswitch 122 0 6 #[42, 52, 62, 72, 81, 90, 99], 64, [], 0) by decide +kernel)).trans (congrArg (fun q => R (d + 1) 120 (q, [some (.ref 0), some (.int a1), some (.int a2)], [], sl, (CH I A N V lt tw sp sr X))) ((x_tsw_out hx).trans (by decide +kernel)))
set_option maxRecDepth 100000 in
theorem k120_22_c0 (d sl : Nat) (I : Nat → Nat → Int32) (A : Nat → Nat → Int32) (N : Nat → Nat → Int64) (V : Nat → Nat → Option Nat) (lt : Int64) (tw : Option Nat) (sp sr : Nat) (X : List AC) (a1 : Int32) (a2 : Int32)  :
  R (d + 1) 120 (22, [some (.ref 0), some (.int a1), some (.int a2)], .int (nI 0) :: [], sl, (CH I A N V lt tw sp sr X)) = R (d + 1) 120 (64, [some (.ref 0), some (.int a1), some (.int a2)], [], sl, (CH I A N V lt tw sp sr X)) :=
  (R_tsw (show xk 120 22 = (.tableswitch 122 0 6 #[42, 52, 62, 72, 81, 90, 99], 64, [], 0) by decide +kernel)).trans (congrArg (fun q => R (d + 1) 120 (q, [some (.ref 0), some (.int a1), some (.int a2)], [], sl, (CH I A N V lt tw sp sr X))) (by decide +kernel))
set_option maxRecDepth 100000 in
theorem k120_22_c1 (d sl : Nat) (I : Nat → Nat → Int32) (A : Nat → Nat → Int32) (N : Nat → Nat → Int64) (V : Nat → Nat → Option Nat) (lt : Int64) (tw : Option Nat) (sp sr : Nat) (X : List AC) (a1 : Int32) (a2 : Int32)  :
  R (d + 1) 120 (22, [some (.ref 0), some (.int a1), some (.int a2)], .int (nI 1) :: [], sl, (CH I A N V lt tw sp sr X)) = R (d + 1) 120 (74, [some (.ref 0), some (.int a1), some (.int a2)], [], sl, (CH I A N V lt tw sp sr X)) :=
  (R_tsw (show xk 120 22 = (.tableswitch 122 0 6 #[42, 52, 62, 72, 81, 90, 99], 64, [], 0) by decide +kernel)).trans (congrArg (fun q => R (d + 1) 120 (q, [some (.ref 0), some (.int a1), some (.int a2)], [], sl, (CH I A N V lt tw sp sr X))) (by decide +kernel))
set_option maxRecDepth 100000 in
theorem k120_22_c2 (d sl : Nat) (I : Nat → Nat → Int32) (A : Nat → Nat → Int32) (N : Nat → Nat → Int64) (V : Nat → Nat → Option Nat) (lt : Int64) (tw : Option Nat) (sp sr : Nat) (X : List AC) (a1 : Int32) (a2 : Int32)  :
  R (d + 1) 120 (22, [some (.ref 0), some (.int a1), some (.int a2)], .int (nI 2) :: [], sl, (CH I A N V lt tw sp sr X)) = R (d + 1) 120 (84, [some (.ref 0), some (.int a1), some (.int a2)], [], sl, (CH I A N V lt tw sp sr X)) :=
  (R_tsw (show xk 120 22 = (.tableswitch 122 0 6 #[42, 52, 62, 72, 81, 90, 99], 64, [], 0) by decide +kernel)).trans (congrArg (fun q => R (d + 1) 120 (q, [some (.ref 0), some (.int a1), some (.int a2)], [], sl, (CH I A N V lt tw sp sr X))) (by decide +kernel))
set_option maxRecDepth 100000 in
theorem k120_22_c3 (d sl : Nat) (I : Nat → Nat → Int32) (A : Nat → Nat → Int32) (N : Nat → Nat → Int64) (V : Nat → Nat → Option Nat) (lt : Int64) (tw : Option Nat) (sp sr : Nat) (X : List AC) (a1 : Int32) (a2 : Int32)  :
  R (d + 1) 120 (22, [some (.ref 0), some (.int a1), some (.int a2)], .int (nI 3) :: [], sl, (CH I A N V lt tw sp sr X)) = R (d + 1) 120 (94, [some (.ref 0), some (.int a1), some (.int a2)], [], sl, (CH I A N V lt tw sp sr X)) :=
  (R_tsw (show xk 120 22 = (.tableswitch 122 0 6 #[42, 52, 62, 72, 81, 90, 99], 64, [], 0) by decide +kernel)).trans (congrArg (fun q => R (d + 1) 120 (q, [some (.ref 0), some (.int a1), some (.int a2)], [], sl, (CH I A N V lt tw sp sr X))) (by decide +kernel))
set_option maxRecDepth 100000 in
theorem k120_22_c4 (d sl : Nat) (I : Nat → Nat → Int32) (A : Nat → Nat → Int32) (N : Nat → Nat → Int64) (V : Nat → Nat → Option Nat) (lt : Int64) (tw : Option Nat) (sp sr : Nat) (X : List AC) (a1 : Int32) (a2 : Int32)  :
  R (d + 1) 120 (22, [some (.ref 0), some (.int a1), some (.int a2)], .int (nI 4) :: [], sl, (CH I A N V lt tw sp sr X)) = R (d + 1) 120 (103, [some (.ref 0), some (.int a1), some (.int a2)], [], sl, (CH I A N V lt tw sp sr X)) :=
  (R_tsw (show xk 120 22 = (.tableswitch 122 0 6 #[42, 52, 62, 72, 81, 90, 99], 64, [], 0) by decide +kernel)).trans (congrArg (fun q => R (d + 1) 120 (q, [some (.ref 0), some (.int a1), some (.int a2)], [], sl, (CH I A N V lt tw sp sr X))) (by decide +kernel))
set_option maxRecDepth 100000 in
theorem k120_22_c5 (d sl : Nat) (I : Nat → Nat → Int32) (A : Nat → Nat → Int32) (N : Nat → Nat → Int64) (V : Nat → Nat → Option Nat) (lt : Int64) (tw : Option Nat) (sp sr : Nat) (X : List AC) (a1 : Int32) (a2 : Int32)  :
  R (d + 1) 120 (22, [some (.ref 0), some (.int a1), some (.int a2)], .int (nI 5) :: [], sl, (CH I A N V lt tw sp sr X)) = R (d + 1) 120 (112, [some (.ref 0), some (.int a1), some (.int a2)], [], sl, (CH I A N V lt tw sp sr X)) :=
  (R_tsw (show xk 120 22 = (.tableswitch 122 0 6 #[42, 52, 62, 72, 81, 90, 99], 64, [], 0) by decide +kernel)).trans (congrArg (fun q => R (d + 1) 120 (q, [some (.ref 0), some (.int a1), some (.int a2)], [], sl, (CH I A N V lt tw sp sr X))) (by decide +kernel))
set_option maxRecDepth 100000 in
theorem k120_22_c6 (d sl : Nat) (I : Nat → Nat → Int32) (A : Nat → Nat → Int32) (N : Nat → Nat → Int64) (V : Nat → Nat → Option Nat) (lt : Int64) (tw : Option Nat) (sp sr : Nat) (X : List AC) (a1 : Int32) (a2 : Int32)  :
  R (d + 1) 120 (22, [some (.ref 0), some (.int a1), some (.int a2)], .int (nI 6) :: [], sl, (CH I A N V lt tw sp sr X)) = R (d + 1) 120 (121, [some (.ref 0), some (.int a1), some (.int a2)], [], sl, (CH I A N V lt tw sp sr X)) :=
  (R_tsw (show xk 120 22 = (.tableswitch 122 0 6 #[42, 52, 62, 72, 81, 90, 99], 64, [], 0) by decide +kernel)).trans (congrArg (fun q => R (d + 1) 120 (q, [some (.ref 0), some (.int a1), some (.int a2)], [], sl, (CH I A N V lt tw sp sr X))) (by decide +kernel))
set_option maxRecDepth 100000 in
theorem k120_144 (d sl : Nat) (I : Nat → Nat → Int32) (A : Nat → Nat → Int32) (N : Nat → Nat → Int64) (V : Nat → Nat → Option Nat) (lt : Int64) (tw : Option Nat) (sp sr : Nat) (X : List AC) (a1 : Int32) (a2 : Int32) :
  R (d + 1) 120 (144, [some (.ref 0), some (.int a1), some (.int a2)], [], sl, (CH I A N V lt tw sp sr X)) =
    some (144, [some (.ref 0), some (.int a1), some (.int a2)], [], sl, (CH I A N V lt tw sp sr X)) :=
  (R_gob [8, 22, 64, 74, 84, 94, 102, 103, 111, 112, 120, 121, 130, 144] 400 _ _ _).trans rfl
set_option maxRecDepth 100000 in
theorem k120_64 (d sl : Nat) (I : Nat → Nat → Int32) (A : Nat → Nat → Int32) (N : Nat → Nat → Int64) (V : Nat → Nat → Option Nat) (lt : Int64) (tw : Option Nat) (sp sr : Nat) (X : List AC) (a1 : Int32) (a2 : Int32) :
  R (d + 1) 120 (64, [some (.ref 0), some (.int a1), some (.int a2)], [], sl, (CH I A N V lt tw sp sr X)) =
    cond (x_in a1 6) (some (73, [some (.ref 0), some (.int a1), some (.int a2)], [.int ((A 5) a1.toNatClampNeg)], sl, (CH I A N V lt tw sp sr X))) none :=
  (R_gob [8, 22, 64, 74, 84, 94, 102, 103, 111, 112, 120, 121, 130, 144] 400 _ _ _).trans rfl
set_option maxRecDepth 100000 in
theorem k120_74 (d sl : Nat) (I : Nat → Nat → Int32) (A : Nat → Nat → Int32) (N : Nat → Nat → Int64) (V : Nat → Nat → Option Nat) (lt : Int64) (tw : Option Nat) (sp sr : Nat) (X : List AC) (a1 : Int32) (a2 : Int32) :
  R (d + 1) 120 (74, [some (.ref 0), some (.int a1), some (.int a2)], [], sl, (CH I A N V lt tw sp sr X)) =
    cond (x_in a1 6) (some (83, [some (.ref 0), some (.int a1), some (.int a2)], [.int ((A 6) a1.toNatClampNeg)], sl, (CH I A N V lt tw sp sr X))) none :=
  (R_gob [8, 22, 64, 74, 84, 94, 102, 103, 111, 112, 120, 121, 130, 144] 400 _ _ _).trans rfl
set_option maxRecDepth 100000 in
theorem k120_84 (d sl : Nat) (I : Nat → Nat → Int32) (A : Nat → Nat → Int32) (N : Nat → Nat → Int64) (V : Nat → Nat → Option Nat) (lt : Int64) (tw : Option Nat) (sp sr : Nat) (X : List AC) (a1 : Int32) (a2 : Int32) :
  R (d + 1) 120 (84, [some (.ref 0), some (.int a1), some (.int a2)], [], sl, (CH I A N V lt tw sp sr X)) =
    cond (x_in a1 6) (some (93, [some (.ref 0), some (.int a1), some (.int a2)], [.int ((A 7) a1.toNatClampNeg)], sl, (CH I A N V lt tw sp sr X))) none :=
  (R_gob [8, 22, 64, 74, 84, 94, 102, 103, 111, 112, 120, 121, 130, 144] 400 _ _ _).trans rfl
set_option maxRecDepth 100000 in
theorem k120_94 (d sl : Nat) (I : Nat → Nat → Int32) (A : Nat → Nat → Int32) (N : Nat → Nat → Int64) (V : Nat → Nat → Option Nat) (lt : Int64) (tw : Option Nat) (sp sr : Nat) (X : List AC) (a1 : Int32) (a2 : Int32) :
  R (d + 1) 120 (94, [some (.ref 0), some (.int a1), some (.int a2)], [], sl, (CH I A N V lt tw sp sr X)) =
    bC (C d 57 [.ref 3, .int a1] sl (CH I A N V lt tw sp sr X)) (fun vs sl h => R (d + 1) 120 (102, [some (.ref 0), some (.int a1), some (.int a2)], vs ++ [], sl, h)) :=
  (R_gob [8, 22, 64, 74, 84, 94, 102, 103, 111, 112, 120, 121, 130, 144] 400 _ _ _).trans rfl
set_option maxRecDepth 100000 in
theorem k120_103 (d sl : Nat) (I : Nat → Nat → Int32) (A : Nat → Nat → Int32) (N : Nat → Nat → Int64) (V : Nat → Nat → Option Nat) (lt : Int64) (tw : Option Nat) (sp sr : Nat) (X : List AC) (a1 : Int32) (a2 : Int32) :
  R (d + 1) 120 (103, [some (.ref 0), some (.int a1), some (.int a2)], [], sl, (CH I A N V lt tw sp sr X)) =
    bC (C d 58 [.ref 3, .int a1] sl (CH I A N V lt tw sp sr X)) (fun vs sl h => R (d + 1) 120 (111, [some (.ref 0), some (.int a1), some (.int a2)], vs ++ [], sl, h)) :=
  (R_gob [8, 22, 64, 74, 84, 94, 102, 103, 111, 112, 120, 121, 130, 144] 400 _ _ _).trans rfl
set_option maxRecDepth 100000 in
theorem k120_112 (d sl : Nat) (I : Nat → Nat → Int32) (A : Nat → Nat → Int32) (N : Nat → Nat → Int64) (V : Nat → Nat → Option Nat) (lt : Int64) (tw : Option Nat) (sp sr : Nat) (X : List AC) (a1 : Int32) (a2 : Int32) :
  R (d + 1) 120 (112, [some (.ref 0), some (.int a1), some (.int a2)], [], sl, (CH I A N V lt tw sp sr X)) =
    bC (C d 59 [.ref 3, .int a1] sl (CH I A N V lt tw sp sr X)) (fun vs sl h => R (d + 1) 120 (120, [some (.ref 0), some (.int a1), some (.int a2)], vs ++ [], sl, h)) :=
  (R_gob [8, 22, 64, 74, 84, 94, 102, 103, 111, 112, 120, 121, 130, 144] 400 _ _ _).trans rfl
set_option maxRecDepth 100000 in
theorem k120_121 (d sl : Nat) (I : Nat → Nat → Int32) (A : Nat → Nat → Int32) (N : Nat → Nat → Int64) (V : Nat → Nat → Option Nat) (lt : Int64) (tw : Option Nat) (sp sr : Nat) (X : List AC) (a1 : Int32) (a2 : Int32) :
  R (d + 1) 120 (121, [some (.ref 0), some (.int a1), some (.int a2)], [], sl, (CH I A N V lt tw sp sr X)) =
    bC (C d 60 [.ref 3, .int a1] sl (CH I A N V lt tw sp sr X)) (fun vs sl h => R (d + 1) 120 (130, [some (.ref 0), some (.int a1), some (.int a2)], vs ++ [.int (nI 0)], sl, h)) :=
  (R_gob [8, 22, 64, 74, 84, 94, 102, 103, 111, 112, 120, 121, 130, 144] 400 _ _ _).trans rfl
set_option maxRecDepth 100000 in
theorem k120_102 (d sl : Nat) (I : Nat → Nat → Int32) (A : Nat → Nat → Int32) (N : Nat → Nat → Int64) (V : Nat → Nat → Option Nat) (lt : Int64) (tw : Option Nat) (sp sr : Nat) (X : List AC) (a1 : Int32) (a2 : Int32) (b0 : Int32) :
  R (d + 1) 120 (102, [some (.ref 0), some (.int a1), some (.int a2)], [.int b0], sl, (CH I A N V lt tw sp sr X)) =
    some (102, [some (.ref 0), some (.int a1), some (.int a2)], [.int b0], sl, (CH I A N V lt tw sp sr X)) :=
  (R_gob [8, 22, 64, 74, 84, 94, 102, 103, 111, 112, 120, 121, 130, 144] 400 _ _ _).trans rfl
set_option maxRecDepth 100000 in
theorem k120_111 (d sl : Nat) (I : Nat → Nat → Int32) (A : Nat → Nat → Int32) (N : Nat → Nat → Int64) (V : Nat → Nat → Option Nat) (lt : Int64) (tw : Option Nat) (sp sr : Nat) (X : List AC) (a1 : Int32) (a2 : Int32) (b0 : Int32) :
  R (d + 1) 120 (111, [some (.ref 0), some (.int a1), some (.int a2)], [.int b0], sl, (CH I A N V lt tw sp sr X)) =
    some (111, [some (.ref 0), some (.int a1), some (.int a2)], [.int b0], sl, (CH I A N V lt tw sp sr X)) :=
  (R_gob [8, 22, 64, 74, 84, 94, 102, 103, 111, 112, 120, 121, 130, 144] 400 _ _ _).trans rfl
set_option maxRecDepth 100000 in
theorem k120_120 (d sl : Nat) (I : Nat → Nat → Int32) (A : Nat → Nat → Int32) (N : Nat → Nat → Int64) (V : Nat → Nat → Option Nat) (lt : Int64) (tw : Option Nat) (sp sr : Nat) (X : List AC) (a1 : Int32) (a2 : Int32) (b0 : Int32) :
  R (d + 1) 120 (120, [some (.ref 0), some (.int a1), some (.int a2)], [.int b0], sl, (CH I A N V lt tw sp sr X)) =
    some (120, [some (.ref 0), some (.int a1), some (.int a2)], [.int b0], sl, (CH I A N V lt tw sp sr X)) :=
  (R_gob [8, 22, 64, 74, 84, 94, 102, 103, 111, 112, 120, 121, 130, 144] 400 _ _ _).trans rfl
set_option maxRecDepth 100000 in
theorem k120_130 (d sl : Nat) (I : Nat → Nat → Int32) (A : Nat → Nat → Int32) (N : Nat → Nat → Int64) (V : Nat → Nat → Option Nat) (lt : Int64) (tw : Option Nat) (sp sr : Nat) (X : List AC) (a1 : Int32) (a2 : Int32) (b0 : Int32) (b1 : Int32) :
  R (d + 1) 120 (130, [some (.ref 0), some (.int a1), some (.int a2)], [.int b0, .int b1], sl, (CH I A N V lt tw sp sr X)) =
    cond (x_in a1 6) (some (143, [some (.ref 0), some (.int a1), some (.int a2)], [.int (x_max b1 (b0 - ((A 7) a1.toNatClampNeg)))], sl, (CH I A N V lt tw sp sr X))) none :=
  (R_gob [8, 22, 64, 74, 84, 94, 102, 103, 111, 112, 120, 121, 130, 144] 400 _ _ _).trans rfl
set_option maxRecDepth 100000 in
theorem k121_0 (d sl : Nat) (I : Nat → Nat → Int32) (A : Nat → Nat → Int32) (N : Nat → Nat → Int64) (V : Nat → Nat → Option Nat) (lt : Int64) (tw : Option Nat) (sp sr : Nat) (X : List AC) (a1 : Int32) :
  R (d + 1) 121 (0, [some (.ref 0), some (.int a1)], [], sl, (CH I A N V lt tw sp sr X)) =
    bC (C d 45 [.ref 3, .int a1] sl (CH I A N V lt tw sp sr X)) (fun vs sl h => R (d + 1) 121 (8, [some (.ref 0), some (.int a1)], vs ++ [], sl, h)) :=
  (R_gob [8, 38, 47] 400 _ _ _).trans rfl
set_option maxRecDepth 100000 in
theorem k121_8 (d sl : Nat) (I : Nat → Nat → Int32) (A : Nat → Nat → Int32) (N : Nat → Nat → Int64) (V : Nat → Nat → Option Nat) (lt : Int64) (tw : Option Nat) (sp sr : Nat) (X : List AC) (a1 : Int32) (b0 : Int32) :
  R (d + 1) 121 (8, [some (.ref 0), some (.int a1)], [.int b0], sl, (CH I A N V lt tw sp sr X)) =
    cond (!decide (b0 = (nI 0))) (cond (x_in a1 6) (bC (C d 58 [.ref 3, .int a1] sl (CH I A N V lt tw sp sr X)) (fun vs sl h => R (d + 1) 121 (38, [some (.ref 0), some (.int a1)], vs ++ [.int ((A 5) a1.toNatClampNeg)], sl, h))) none) (some (11, [some (.ref 0), some (.int a1)], [], sl, (CH I A N V lt tw sp sr X))) :=
  (R_gob [8, 38, 47] 400 _ _ _).trans rfl
set_option maxRecDepth 100000 in
theorem k121_38 (d sl : Nat) (I : Nat → Nat → Int32) (A : Nat → Nat → Int32) (N : Nat → Nat → Int64) (V : Nat → Nat → Option Nat) (lt : Int64) (tw : Option Nat) (sp sr : Nat) (X : List AC) (a1 : Int32) (b0 : Int32) (b1 : Int32) :
  R (d + 1) 121 (38, [some (.ref 0), some (.int a1)], [.int b0, .int b1], sl, (CH I A N V lt tw sp sr X)) =
    bC (C d 57 [.ref 3, .int a1] sl (CH I A N V lt tw sp sr X)) (fun vs sl h => R (d + 1) 121 (47, [some (.ref 0), some (.int a1)], vs ++ [.int (b1 + b0)], sl, h)) :=
  (R_gob [8, 38, 47] 400 _ _ _).trans rfl
set_option maxRecDepth 100000 in
theorem k121_47 (d sl : Nat) (I : Nat → Nat → Int32) (A : Nat → Nat → Int32) (N : Nat → Nat → Int64) (V : Nat → Nat → Option Nat) (lt : Int64) (tw : Option Nat) (sp sr : Nat) (X : List AC) (a1 : Int32) (b0 : Int32) (b1 : Int32) :
  R (d + 1) 121 (47, [some (.ref 0), some (.int a1)], [.int b0, .int b1], sl, (CH I A N V lt tw sp sr X)) =
    some (48, [some (.ref 0), some (.int a1)], [.int (b1 - b0)], sl, (CH I A N V lt tw sp sr X)) :=
  (R_gob [8, 38, 47] 400 _ _ _).trans rfl
set_option maxRecDepth 100000 in
theorem k122_0 (d sl : Nat) (I : Nat → Nat → Int32) (A : Nat → Nat → Int32) (N : Nat → Nat → Int64) (V : Nat → Nat → Option Nat) (lt : Int64) (tw : Option Nat) (sp sr : Nat) (X : List AC) (a1 : Int32) (a2 : Int32) :
  R (d + 1) 122 (0, [some (.ref 0), some (.int a1), some (.int a2)], [], sl, (CH I A N V lt tw sp sr X)) =
    bC (C d 46 [.ref 3, .int a1] sl (CH I A N V lt tw sp sr X)) (fun vs sl h => R (d + 1) 122 (8, [some (.ref 0), some (.int a1), some (.int a2)], vs ++ [], sl, h)) :=
  (R_gob [8, 20] 400 _ _ _).trans rfl
set_option maxRecDepth 100000 in
theorem k122_8 (d sl : Nat) (I : Nat → Nat → Int32) (A : Nat → Nat → Int32) (N : Nat → Nat → Int64) (V : Nat → Nat → Option Nat) (lt : Int64) (tw : Option Nat) (sp sr : Nat) (X : List AC) (a1 : Int32) (a2 : Int32) (b0 : Int32) :
  R (d + 1) 122 (8, [some (.ref 0), some (.int a1), some (.int a2)], [.int b0], sl, (CH I A N V lt tw sp sr X)) =
    cond (decide (b0 = (nI 0))) (some (24, [some (.ref 0), some (.int a1), some (.int a2)], [.int (-1 : Int32)], sl, (CH I A N V lt tw sp sr X))) (bC (C d 56 [.ref 3, .int a1, .int a2] sl (CH I A N V lt tw sp sr X)) (fun vs sl h => R (d + 1) 122 (20, [some (.ref 0), some (.int a1), some (.int a2)], vs ++ [], sl, h))) :=
  (R_gob [8, 20] 400 _ _ _).trans rfl
set_option maxRecDepth 100000 in
theorem k122_20 (d sl : Nat) (I : Nat → Nat → Int32) (A : Nat → Nat → Int32) (N : Nat → Nat → Int64) (V : Nat → Nat → Option Nat) (lt : Int64) (tw : Option Nat) (sp sr : Nat) (X : List AC) (a1 : Int32) (a2 : Int32) (b0 : Int32) :
  R (d + 1) 122 (20, [some (.ref 0), some (.int a1), some (.int a2)], [.int b0], sl, (CH I A N V lt tw sp sr X)) =
    some (24, [some (.ref 0), some (.int a1), some (.int a2)], [.int b0], sl, (CH I A N V lt tw sp sr X)) :=
  (R_gob [8, 20] 400 _ _ _).trans rfl
set_option maxRecDepth 100000 in
theorem k123_0 (d sl : Nat) (I : Nat → Nat → Int32) (A : Nat → Nat → Int32) (N : Nat → Nat → Int64) (V : Nat → Nat → Option Nat) (lt : Int64) (tw : Option Nat) (sp sr : Nat) (X : List AC) (a1 : Int32) (a2 : Int32) :
  R (d + 1) 123 (0, [some (.ref 0), some (.int a1), some (.int a2)], [], sl, (CH I A N V lt tw sp sr X)) =
    bC (C d 45 [.ref 3, .int a1] sl (CH I A N V lt tw sp sr X)) (fun vs sl h => R (d + 1) 123 (8, [some (.ref 0), some (.int a1), some (.int a2)], vs ++ [], sl, h)) :=
  (R_gob [8, 39] 400 _ _ _).trans rfl
set_option maxRecDepth 100000 in
theorem k123_8 (d sl : Nat) (I : Nat → Nat → Int32) (A : Nat → Nat → Int32) (N : Nat → Nat → Int64) (V : Nat → Nat → Option Nat) (lt : Int64) (tw : Option Nat) (sp sr : Nat) (X : List AC) (a1 : Int32) (a2 : Int32) (b0 : Int32) :
  R (d + 1) 123 (8, [some (.ref 0), some (.int a1), some (.int a2)], [.int b0], sl, (CH I A N V lt tw sp sr X)) =
    cond (decide (b0 = (nI 0))) (some (29, [some (.ref 0), some (.int a1), some (.int a2)], [.int (-1 : Int32)], sl, (CH I A N V lt tw sp sr X))) (cond (decide (a2 < (nI 0))) (some (29, [some (.ref 0), some (.int a1), some (.int a2)], [.int (-1 : Int32)], sl, (CH I A N V lt tw sp sr X))) (cond (x_in a1 6) (cond (decide (a2 < ((A 7) a1.toNatClampNeg))) (bC (C d 55 [.ref 3, .int a1, .int a2] sl (CH I A N V lt tw sp sr X)) (fun vs sl h => R (d + 1) 123 (39, [some (.ref 0), some (.int a1), some (.int a2)], vs ++ [], sl, h))) (some (29, [some (.ref 0), some (.int a1), some (.int a2)], [.int (-1 : Int32)], sl, (CH I A N V lt tw sp sr X)))) none)) :=
  (R_gob [8, 39] 400 _ _ _).trans rfl
set_option maxRecDepth 100000 in
theorem k123_39 (d sl : Nat) (I : Nat → Nat → Int32) (A : Nat → Nat → Int32) (N : Nat → Nat → Int64) (V : Nat → Nat → Option Nat) (lt : Int64) (tw : Option Nat) (sp sr : Nat) (X : List AC) (a1 : Int32) (a2 : Int32) (b0 : Int32) :
  R (d + 1) 123 (39, [some (.ref 0), some (.int a1), some (.int a2)], [.int b0], sl, (CH I A N V lt tw sp sr X)) =
    some (39, [some (.ref 0), some (.int a1), some (.int a2)], [.int b0], sl, (CH I A N V lt tw sp sr X)) :=
  (R_gob [8, 39] 400 _ _ _).trans rfl
set_option maxRecDepth 100000 in
theorem k124_0 (d sl : Nat) (I : Nat → Nat → Int32) (A : Nat → Nat → Int32) (N : Nat → Nat → Int64) (V : Nat → Nat → Option Nat) (lt : Int64) (tw : Option Nat) (sp sr : Nat) (X : List AC) (a1 : Int32) :
  R (d + 1) 124 (0, [some (.ref 0), some (.int a1)], [], sl, (CH I A N V lt tw sp sr X)) =
    R (d + 1) 124 (1, [some (.ref 0), some (.int a1)], [.int a1], sl, (CH I A N V lt tw sp sr X)) :=
  (R_gob [1, 59, 67, 75, 91, 103] 400 _ _ _).trans rfl
set_option maxRecDepth 100000 in
theorem k124_1_out (d sl : Nat) (I : Nat → Nat → Int32) (A : Nat → Nat → Int32) (N : Nat → Nat → Int64) (V : Nat → Nat → Option Nat) (lt : Int64) (tw : Option Nat) (sp sr : Nat) (X : List AC) (a1 : Int32) (x : Int32) (hx : (decide (x.toInt < (0)) || decide ((6) < x.toInt)) = true) :
  R (d + 1) 124 (1, [some (.ref 0), some (.int a1)], .int x :: [], sl, (CH I A N V lt tw sp sr X)) = R (d + 1) 124 (104, [some (.ref 0), some (.int a1)], [], sl, (CH I A N V lt tw sp sr X)) :=
  (R_tsw (show xk 124 1 = (.tableswitch 103 0 6 #[43, 51, 59, 67, 75, 83, 91], 44, [], 0) by decide +kernel)).trans (congrArg (fun q => R (d + 1) 124 (q, [some (.ref 0), some (.int a1)], [], sl, (CH I A N V lt tw sp sr X))) ((x_tsw_out hx).trans (by decide +kernel)))
set_option maxRecDepth 100000 in
theorem k124_1_c0 (d sl : Nat) (I : Nat → Nat → Int32) (A : Nat → Nat → Int32) (N : Nat → Nat → Int64) (V : Nat → Nat → Option Nat) (lt : Int64) (tw : Option Nat) (sp sr : Nat) (X : List AC) (a1 : Int32)  :
  R (d + 1) 124 (1, [some (.ref 0), some (.int a1)], .int (nI 0) :: [], sl, (CH I A N V lt tw sp sr X)) = R (d + 1) 124 (44, [some (.ref 0), some (.int a1)], [], sl, (CH I A N V lt tw sp sr X)) :=
  (R_tsw (show xk 124 1 = (.tableswitch 103 0 6 #[43, 51, 59, 67, 75, 83, 91], 44, [], 0) by decide +kernel)).trans (congrArg (fun q => R (d + 1) 124 (q, [some (.ref 0), some (.int a1)], [], sl, (CH I A N V lt tw sp sr X))) (by decide +kernel))
set_option maxRecDepth 100000 in
theorem k124_1_c1 (d sl : Nat) (I : Nat → Nat → Int32) (A : Nat → Nat → Int32) (N : Nat → Nat → Int64) (V : Nat → Nat → Option Nat) (lt : Int64) (tw : Option Nat) (sp sr : Nat) (X : List AC) (a1 : Int32)  :
  R (d + 1) 124 (1, [some (.ref 0), some (.int a1)], .int (nI 1) :: [], sl, (CH I A N V lt tw sp sr X)) = R (d + 1) 124 (52, [some (.ref 0), some (.int a1)], [], sl, (CH I A N V lt tw sp sr X)) :=
  (R_tsw (show xk 124 1 = (.tableswitch 103 0 6 #[43, 51, 59, 67, 75, 83, 91], 44, [], 0) by decide +kernel)).trans (congrArg (fun q => R (d + 1) 124 (q, [some (.ref 0), some (.int a1)], [], sl, (CH I A N V lt tw sp sr X))) (by decide +kernel))
set_option maxRecDepth 100000 in
theorem k124_1_c2 (d sl : Nat) (I : Nat → Nat → Int32) (A : Nat → Nat → Int32) (N : Nat → Nat → Int64) (V : Nat → Nat → Option Nat) (lt : Int64) (tw : Option Nat) (sp sr : Nat) (X : List AC) (a1 : Int32)  :
  R (d + 1) 124 (1, [some (.ref 0), some (.int a1)], .int (nI 2) :: [], sl, (CH I A N V lt tw sp sr X)) = R (d + 1) 124 (60, [some (.ref 0), some (.int a1)], [], sl, (CH I A N V lt tw sp sr X)) :=
  (R_tsw (show xk 124 1 = (.tableswitch 103 0 6 #[43, 51, 59, 67, 75, 83, 91], 44, [], 0) by decide +kernel)).trans (congrArg (fun q => R (d + 1) 124 (q, [some (.ref 0), some (.int a1)], [], sl, (CH I A N V lt tw sp sr X))) (by decide +kernel))
set_option maxRecDepth 100000 in
theorem k124_1_c3 (d sl : Nat) (I : Nat → Nat → Int32) (A : Nat → Nat → Int32) (N : Nat → Nat → Int64) (V : Nat → Nat → Option Nat) (lt : Int64) (tw : Option Nat) (sp sr : Nat) (X : List AC) (a1 : Int32)  :
  R (d + 1) 124 (1, [some (.ref 0), some (.int a1)], .int (nI 3) :: [], sl, (CH I A N V lt tw sp sr X)) = R (d + 1) 124 (68, [some (.ref 0), some (.int a1)], [], sl, (CH I A N V lt tw sp sr X)) :=
  (R_tsw (show xk 124 1 = (.tableswitch 103 0 6 #[43, 51, 59, 67, 75, 83, 91], 44, [], 0) by decide +kernel)).trans (congrArg (fun q => R (d + 1) 124 (q, [some (.ref 0), some (.int a1)], [], sl, (CH I A N V lt tw sp sr X))) (by decide +kernel))
set_option maxRecDepth 100000 in
theorem k124_1_c4 (d sl : Nat) (I : Nat → Nat → Int32) (A : Nat → Nat → Int32) (N : Nat → Nat → Int64) (V : Nat → Nat → Option Nat) (lt : Int64) (tw : Option Nat) (sp sr : Nat) (X : List AC) (a1 : Int32)  :
  R (d + 1) 124 (1, [some (.ref 0), some (.int a1)], .int (nI 4) :: [], sl, (CH I A N V lt tw sp sr X)) = R (d + 1) 124 (76, [some (.ref 0), some (.int a1)], [], sl, (CH I A N V lt tw sp sr X)) :=
  (R_tsw (show xk 124 1 = (.tableswitch 103 0 6 #[43, 51, 59, 67, 75, 83, 91], 44, [], 0) by decide +kernel)).trans (congrArg (fun q => R (d + 1) 124 (q, [some (.ref 0), some (.int a1)], [], sl, (CH I A N V lt tw sp sr X))) (by decide +kernel))
set_option maxRecDepth 100000 in
theorem k124_1_c5 (d sl : Nat) (I : Nat → Nat → Int32) (A : Nat → Nat → Int32) (N : Nat → Nat → Int64) (V : Nat → Nat → Option Nat) (lt : Int64) (tw : Option Nat) (sp sr : Nat) (X : List AC) (a1 : Int32)  :
  R (d + 1) 124 (1, [some (.ref 0), some (.int a1)], .int (nI 5) :: [], sl, (CH I A N V lt tw sp sr X)) = R (d + 1) 124 (84, [some (.ref 0), some (.int a1)], [], sl, (CH I A N V lt tw sp sr X)) :=
  (R_tsw (show xk 124 1 = (.tableswitch 103 0 6 #[43, 51, 59, 67, 75, 83, 91], 44, [], 0) by decide +kernel)).trans (congrArg (fun q => R (d + 1) 124 (q, [some (.ref 0), some (.int a1)], [], sl, (CH I A N V lt tw sp sr X))) (by decide +kernel))
set_option maxRecDepth 100000 in
theorem k124_1_c6 (d sl : Nat) (I : Nat → Nat → Int32) (A : Nat → Nat → Int32) (N : Nat → Nat → Int64) (V : Nat → Nat → Option Nat) (lt : Int64) (tw : Option Nat) (sp sr : Nat) (X : List AC) (a1 : Int32)  :
  R (d + 1) 124 (1, [some (.ref 0), some (.int a1)], .int (nI 6) :: [], sl, (CH I A N V lt tw sp sr X)) = R (d + 1) 124 (92, [some (.ref 0), some (.int a1)], [], sl, (CH I A N V lt tw sp sr X)) :=
  (R_tsw (show xk 124 1 = (.tableswitch 103 0 6 #[43, 51, 59, 67, 75, 83, 91], 44, [], 0) by decide +kernel)).trans (congrArg (fun q => R (d + 1) 124 (q, [some (.ref 0), some (.int a1)], [], sl, (CH I A N V lt tw sp sr X))) (by decide +kernel))
set_option maxRecDepth 100000 in
theorem k124_104 (d sl : Nat) (I : Nat → Nat → Int32) (A : Nat → Nat → Int32) (N : Nat → Nat → Int64) (V : Nat → Nat → Option Nat) (lt : Int64) (tw : Option Nat) (sp sr : Nat) (X : List AC) (a1 : Int32) :
  R (d + 1) 124 (104, [some (.ref 0), some (.int a1)], [], sl, (CH I A N V lt tw sp sr X)) =
    some (105, [some (.ref 0), some (.int a1)], [.int (-1 : Int32)], sl, (CH I A N V lt tw sp sr X)) :=
  (R_gob [1, 44, 52, 59, 60, 67, 68, 75, 76, 84, 91, 92, 103, 104] 400 _ _ _).trans rfl
set_option maxRecDepth 100000 in
theorem k124_44 (d sl : Nat) (I : Nat → Nat → Int32) (A : Nat → Nat → Int32) (N : Nat → Nat → Int64) (V : Nat → Nat → Option Nat) (lt : Int64) (tw : Option Nat) (sp sr : Nat) (X : List AC) (a1 : Int32) :
  R (d + 1) 124 (44, [some (.ref 0), some (.int a1)], [], sl, (CH I A N V lt tw sp sr X)) =
    some (51, [some (.ref 0), some (.int a1)], [.int (I 3 12)], sl, (CH I A N V lt tw sp sr X)) :=
  (R_gob [1, 44, 52, 59, 60, 67, 68, 75, 76, 84, 91, 92, 103, 104] 400 _ _ _).trans rfl
set_option maxRecDepth 100000 in
theorem k124_52 (d sl : Nat) (I : Nat → Nat → Int32) (A : Nat → Nat → Int32) (N : Nat → Nat → Int64) (V : Nat → Nat → Option Nat) (lt : Int64) (tw : Option Nat) (sp sr : Nat) (X : List AC) (a1 : Int32) :
  R (d + 1) 124 (52, [some (.ref 0), some (.int a1)], [], sl, (CH I A N V lt tw sp sr X)) =
    bC (C d 67 [.ref 3] sl (CH I A N V lt tw sp sr X)) (fun vs sl h => R (d + 1) 124 (59, [some (.ref 0), some (.int a1)], vs ++ [], sl, h)) :=
  (R_gob [1, 44, 52, 59, 60, 67, 68, 75, 76, 84, 91, 92, 103, 104] 400 _ _ _).trans rfl
set_option maxRecDepth 100000 in
theorem k124_60 (d sl : Nat) (I : Nat → Nat → Int32) (A : Nat → Nat → Int32) (N : Nat → Nat → Int64) (V : Nat → Nat → Option Nat) (lt : Int64) (tw : Option Nat) (sp sr : Nat) (X : List AC) (a1 : Int32) :
  R (d + 1) 124 (60, [some (.ref 0), some (.int a1)], [], sl, (CH I A N V lt tw sp sr X)) =
    bC (C d 66 [.ref 3] sl (CH I A N V lt tw sp sr X)) (fun vs sl h => R (d + 1) 124 (67, [some (.ref 0), some (.int a1)], vs ++ [], sl, h)) :=
  (R_gob [1, 44, 52, 59, 60, 67, 68, 75, 76, 84, 91, 92, 103, 104] 400 _ _ _).trans rfl
set_option maxRecDepth 100000 in
theorem k124_68 (d sl : Nat) (I : Nat → Nat → Int32) (A : Nat → Nat → Int32) (N : Nat → Nat → Int64) (V : Nat → Nat → Option Nat) (lt : Int64) (tw : Option Nat) (sp sr : Nat) (X : List AC) (a1 : Int32) :
  R (d + 1) 124 (68, [some (.ref 0), some (.int a1)], [], sl, (CH I A N V lt tw sp sr X)) =
    bC (C d 65 [.ref 3] sl (CH I A N V lt tw sp sr X)) (fun vs sl h => R (d + 1) 124 (75, [some (.ref 0), some (.int a1)], vs ++ [], sl, h)) :=
  (R_gob [1, 44, 52, 59, 60, 67, 68, 75, 76, 84, 91, 92, 103, 104] 400 _ _ _).trans rfl
set_option maxRecDepth 100000 in
theorem k124_76 (d sl : Nat) (I : Nat → Nat → Int32) (A : Nat → Nat → Int32) (N : Nat → Nat → Int64) (V : Nat → Nat → Option Nat) (lt : Int64) (tw : Option Nat) (sp sr : Nat) (X : List AC) (a1 : Int32) :
  R (d + 1) 124 (76, [some (.ref 0), some (.int a1)], [], sl, (CH I A N V lt tw sp sr X)) =
    some (83, [some (.ref 0), some (.int a1)], [.int (I 3 13)], sl, (CH I A N V lt tw sp sr X)) :=
  (R_gob [1, 44, 52, 59, 60, 67, 68, 75, 76, 84, 91, 92, 103, 104] 400 _ _ _).trans rfl
set_option maxRecDepth 100000 in
theorem k124_84 (d sl : Nat) (I : Nat → Nat → Int32) (A : Nat → Nat → Int32) (N : Nat → Nat → Int64) (V : Nat → Nat → Option Nat) (lt : Int64) (tw : Option Nat) (sp sr : Nat) (X : List AC) (a1 : Int32) :
  R (d + 1) 124 (84, [some (.ref 0), some (.int a1)], [], sl, (CH I A N V lt tw sp sr X)) =
    bC (C d 64 [.ref 3] sl (CH I A N V lt tw sp sr X)) (fun vs sl h => R (d + 1) 124 (91, [some (.ref 0), some (.int a1)], vs ++ [], sl, h)) :=
  (R_gob [1, 44, 52, 59, 60, 67, 68, 75, 76, 84, 91, 92, 103, 104] 400 _ _ _).trans rfl
set_option maxRecDepth 100000 in
theorem k124_92 (d sl : Nat) (I : Nat → Nat → Int32) (A : Nat → Nat → Int32) (N : Nat → Nat → Int64) (V : Nat → Nat → Option Nat) (lt : Int64) (tw : Option Nat) (sp sr : Nat) (X : List AC) (a1 : Int32) :
  R (d + 1) 124 (92, [some (.ref 0), some (.int a1)], [], sl, (CH I A N V lt tw sp sr X)) =
    bC (C d 106 [.ref 95, .ref 3] sl (CH I A N V lt tw sp sr X)) (fun vs sl h => R (d + 1) 124 (103, [some (.ref 0), some (.int a1)], vs ++ [], sl, h)) :=
  (R_gob [1, 44, 52, 59, 60, 67, 68, 75, 76, 84, 91, 92, 103, 104] 400 _ _ _).trans rfl
set_option maxRecDepth 100000 in
theorem k124_59 (d sl : Nat) (I : Nat → Nat → Int32) (A : Nat → Nat → Int32) (N : Nat → Nat → Int64) (V : Nat → Nat → Option Nat) (lt : Int64) (tw : Option Nat) (sp sr : Nat) (X : List AC) (a1 : Int32) (b0 : Int32) :
  R (d + 1) 124 (59, [some (.ref 0), some (.int a1)], [.int b0], sl, (CH I A N V lt tw sp sr X)) =
    some (59, [some (.ref 0), some (.int a1)], [.int b0], sl, (CH I A N V lt tw sp sr X)) :=
  (R_gob [1, 44, 52, 59, 60, 67, 68, 75, 76, 84, 91, 92, 103, 104] 400 _ _ _).trans rfl
set_option maxRecDepth 100000 in
theorem k124_67 (d sl : Nat) (I : Nat → Nat → Int32) (A : Nat → Nat → Int32) (N : Nat → Nat → Int64) (V : Nat → Nat → Option Nat) (lt : Int64) (tw : Option Nat) (sp sr : Nat) (X : List AC) (a1 : Int32) (b0 : Int32) :
  R (d + 1) 124 (67, [some (.ref 0), some (.int a1)], [.int b0], sl, (CH I A N V lt tw sp sr X)) =
    some (67, [some (.ref 0), some (.int a1)], [.int b0], sl, (CH I A N V lt tw sp sr X)) :=
  (R_gob [1, 44, 52, 59, 60, 67, 68, 75, 76, 84, 91, 92, 103, 104] 400 _ _ _).trans rfl
set_option maxRecDepth 100000 in
theorem k124_75 (d sl : Nat) (I : Nat → Nat → Int32) (A : Nat → Nat → Int32) (N : Nat → Nat → Int64) (V : Nat → Nat → Option Nat) (lt : Int64) (tw : Option Nat) (sp sr : Nat) (X : List AC) (a1 : Int32) (b0 : Int32) :
  R (d + 1) 124 (75, [some (.ref 0), some (.int a1)], [.int b0], sl, (CH I A N V lt tw sp sr X)) =
    some (75, [some (.ref 0), some (.int a1)], [.int b0], sl, (CH I A N V lt tw sp sr X)) :=
  (R_gob [1, 44, 52, 59, 60, 67, 68, 75, 76, 84, 91, 92, 103, 104] 400 _ _ _).trans rfl
set_option maxRecDepth 100000 in
theorem k124_91 (d sl : Nat) (I : Nat → Nat → Int32) (A : Nat → Nat → Int32) (N : Nat → Nat → Int64) (V : Nat → Nat → Option Nat) (lt : Int64) (tw : Option Nat) (sp sr : Nat) (X : List AC) (a1 : Int32) (b0 : Int32) :
  R (d + 1) 124 (91, [some (.ref 0), some (.int a1)], [.int b0], sl, (CH I A N V lt tw sp sr X)) =
    some (91, [some (.ref 0), some (.int a1)], [.int b0], sl, (CH I A N V lt tw sp sr X)) :=
  (R_gob [1, 44, 52, 59, 60, 67, 68, 75, 76, 84, 91, 92, 103, 104] 400 _ _ _).trans rfl
set_option maxRecDepth 100000 in
theorem k124_103 (d sl : Nat) (I : Nat → Nat → Int32) (A : Nat → Nat → Int32) (N : Nat → Nat → Int64) (V : Nat → Nat → Option Nat) (lt : Int64) (tw : Option Nat) (sp sr : Nat) (X : List AC) (a1 : Int32) (b0 : Int32) :
  R (d + 1) 124 (103, [some (.ref 0), some (.int a1)], [.int b0], sl, (CH I A N V lt tw sp sr X)) =
    some (103, [some (.ref 0), some (.int a1)], [.int b0], sl, (CH I A N V lt tw sp sr X)) :=
  (R_gob [1, 44, 52, 59, 60, 67, 68, 75, 76, 84, 91, 92, 103, 104] 400 _ _ _).trans rfl
set_option maxRecDepth 100000 in
theorem k125_0 (d sl : Nat) (I : Nat → Nat → Int32) (A : Nat → Nat → Int32) (N : Nat → Nat → Int64) (V : Nat → Nat → Option Nat) (lt : Int64) (tw : Option Nat) (sp sr : Nat) (X : List AC) (a1 : Int32) :
  R d 125 (0, [some (.ref 0), some (.int a1)], [], sl, (CH I A N V lt tw sp sr X)) =
    R d 125 (1, [some (.ref 0), some (.int a1)], [.int a1], sl, (CH I A N V lt tw sp sr X)) :=
  (R_gob [1] 400 _ _ _).trans rfl
set_option maxRecDepth 100000 in
theorem k125_1_out (d sl : Nat) (I : Nat → Nat → Int32) (A : Nat → Nat → Int32) (N : Nat → Nat → Int64) (V : Nat → Nat → Option Nat) (lt : Int64) (tw : Option Nat) (sp sr : Nat) (X : List AC) (a1 : Int32) (x : Int32) (hx : (decide (x.toInt < (0)) || decide ((4) < x.toInt)) = true) :
  R d 125 (1, [some (.ref 0), some (.int a1)], .int x :: [], sl, (CH I A N V lt tw sp sr X)) = R d 125 (76, [some (.ref 0), some (.int a1)], [], sl, (CH I A N V lt tw sp sr X)) :=
  (R_tsw (show xk 125 1 = (.tableswitch 75 0 4 #[35, 43, 51, 59, 67], 36, [], 0) by decide +kernel)).trans (congrArg (fun q => R d 125 (q, [some (.ref 0), some (.int a1)], [], sl, (CH I A N V lt tw sp sr X))) ((x_tsw_out hx).trans (by decide +kernel)))
set_option maxRecDepth 100000 in
theorem k125_1_c0 (d sl : Nat) (I : Nat → Nat → Int32) (A : Nat → Nat → Int32) (N : Nat → Nat → Int64) (V : Nat → Nat → Option Nat) (lt : Int64) (tw : Option Nat) (sp sr : Nat) (X : List AC) (a1 : Int32)  :
  R d 125 (1, [some (.ref 0), some (.int a1)], .int (nI 0) :: [], sl, (CH I A N V lt tw sp sr X)) = R d 125 (36, [some (.ref 0), some (.int a1)], [], sl, (CH I A N V lt tw sp sr X)) :=
  (R_tsw (show xk 125 1 = (.tableswitch 75 0 4 #[35, 43, 51, 59, 67], 36, [], 0) by decide +kernel)).trans (congrArg (fun q => R d 125 (q, [some (.ref 0), some (.int a1)], [], sl, (CH I A N V lt tw sp sr X))) (by decide +kernel))
set_option maxRecDepth 100000 in
theorem k125_1_c1 (d sl : Nat) (I : Nat → Nat → Int32) (A : Nat → Nat → Int32) (N : Nat → Nat → Int64) (V : Nat → Nat → Option Nat) (lt : Int64) (tw : Option Nat) (sp sr : Nat) (X : List AC) (a1 : Int32)  :
  R d 125 (1, [some (.ref 0), some (.int a1)], .int (nI 1) :: [], sl, (CH I A N V lt tw sp sr X)) = R d 125 (44, [some (.ref 0), some (.int a1)], [], sl, (CH I A N V lt tw sp sr X)) :=
  (R_tsw (show xk 125 1 = (.tableswitch 75 0 4 #[35, 43, 51, 59, 67], 36, [], 0) by decide +kernel)).trans (congrArg (fun q => R d 125 (q, [some (.ref 0), some (.int a1)], [], sl, (CH I A N V lt tw sp sr X))) (by decide +kernel))
set_option maxRecDepth 100000 in
theorem k125_1_c2 (d sl : Nat) (I : Nat → Nat → Int32) (A : Nat → Nat → Int32) (N : Nat → Nat → Int64) (V : Nat → Nat → Option Nat) (lt : Int64) (tw : Option Nat) (sp sr : Nat) (X : List AC) (a1 : Int32)  :
  R d 125 (1, [some (.ref 0), some (.int a1)], .int (nI 2) :: [], sl, (CH I A N V lt tw sp sr X)) = R d 125 (52, [some (.ref 0), some (.int a1)], [], sl, (CH I A N V lt tw sp sr X)) :=
  (R_tsw (show xk 125 1 = (.tableswitch 75 0 4 #[35, 43, 51, 59, 67], 36, [], 0) by decide +kernel)).trans (congrArg (fun q => R d 125 (q, [some (.ref 0), some (.int a1)], [], sl, (CH I A N V lt tw sp sr X))) (by decide +kernel))
set_option maxRecDepth 100000 in
theorem k125_1_c3 (d sl : Nat) (I : Nat → Nat → Int32) (A : Nat → Nat → Int32) (N : Nat → Nat → Int64) (V : Nat → Nat → Option Nat) (lt : Int64) (tw : Option Nat) (sp sr : Nat) (X : List AC) (a1 : Int32)  :
  R d 125 (1, [some (.ref 0), some (.int a1)], .int (nI 3) :: [], sl, (CH I A N V lt tw sp sr X)) = R d 125 (60, [some (.ref 0), some (.int a1)], [], sl, (CH I A N V lt tw sp sr X)) :=
  (R_tsw (show xk 125 1 = (.tableswitch 75 0 4 #[35, 43, 51, 59, 67], 36, [], 0) by decide +kernel)).trans (congrArg (fun q => R d 125 (q, [some (.ref 0), some (.int a1)], [], sl, (CH I A N V lt tw sp sr X))) (by decide +kernel))
set_option maxRecDepth 100000 in
theorem k125_1_c4 (d sl : Nat) (I : Nat → Nat → Int32) (A : Nat → Nat → Int32) (N : Nat → Nat → Int64) (V : Nat → Nat → Option Nat) (lt : Int64) (tw : Option Nat) (sp sr : Nat) (X : List AC) (a1 : Int32)  :
  R d 125 (1, [some (.ref 0), some (.int a1)], .int (nI 4) :: [], sl, (CH I A N V lt tw sp sr X)) = R d 125 (68, [some (.ref 0), some (.int a1)], [], sl, (CH I A N V lt tw sp sr X)) :=
  (R_tsw (show xk 125 1 = (.tableswitch 75 0 4 #[35, 43, 51, 59, 67], 36, [], 0) by decide +kernel)).trans (congrArg (fun q => R d 125 (q, [some (.ref 0), some (.int a1)], [], sl, (CH I A N V lt tw sp sr X))) (by decide +kernel))
set_option maxRecDepth 100000 in
theorem k125_76 (d sl : Nat) (I : Nat → Nat → Int32) (A : Nat → Nat → Int32) (N : Nat → Nat → Int64) (V : Nat → Nat → Option Nat) (lt : Int64) (tw : Option Nat) (sp sr : Nat) (X : List AC) (a1 : Int32) :
  R d 125 (76, [some (.ref 0), some (.int a1)], [], sl, (CH I A N V lt tw sp sr X)) =
    some (77, [some (.ref 0), some (.int a1)], [.int (-1 : Int32)], sl, (CH I A N V lt tw sp sr X)) :=
  (R_gob [1, 36, 44, 52, 60, 68, 76] 400 _ _ _).trans rfl
set_option maxRecDepth 100000 in
theorem k125_36 (d sl : Nat) (I : Nat → Nat → Int32) (A : Nat → Nat → Int32) (N : Nat → Nat → Int64) (V : Nat → Nat → Option Nat) (lt : Int64) (tw : Option Nat) (sp sr : Nat) (X : List AC) (a1 : Int32) :
  R d 125 (36, [some (.ref 0), some (.int a1)], [], sl, (CH I A N V lt tw sp sr X)) =
    some (43, [some (.ref 0), some (.int a1)], [.int (I 3 8)], sl, (CH I A N V lt tw sp sr X)) :=
  (R_gob [1, 36, 44, 52, 60, 68, 76] 400 _ _ _).trans rfl
set_option maxRecDepth 100000 in
theorem k125_44 (d sl : Nat) (I : Nat → Nat → Int32) (A : Nat → Nat → Int32) (N : Nat → Nat → Int64) (V : Nat → Nat → Option Nat) (lt : Int64) (tw : Option Nat) (sp sr : Nat) (X : List AC) (a1 : Int32) :
  R d 125 (44, [some (.ref 0), some (.int a1)], [], sl, (CH I A N V lt tw sp sr X)) =
    some (51, [some (.ref 0), some (.int a1)], [.int (I 3 9)], sl, (CH I A N V lt tw sp sr X)) :=
  (R_gob [1, 36, 44, 52, 60, 68, 76] 400 _ _ _).trans rfl
set_option maxRecDepth 100000 in
theorem k125_52 (d sl : Nat) (I : Nat → Nat → Int32) (A : Nat → Nat → Int32) (N : Nat → Nat → Int64) (V : Nat → Nat → Option Nat) (lt : Int64) (tw : Option Nat) (sp sr : Nat) (X : List AC) (a1 : Int32) :
  R d 125 (52, [some (.ref 0), some (.int a1)], [], sl, (CH I A N V lt tw sp sr X)) =
    some (59, [some (.ref 0), some (.int a1)], [.int (I 3 10)], sl, (CH I A N V lt tw sp sr X)) :=
  (R_gob [1, 36, 44, 52, 60, 68, 76] 400 _ _ _).trans rfl
set_option maxRecDepth 100000 in
theorem k125_60 (d sl : Nat) (I : Nat → Nat → Int32) (A : Nat → Nat → Int32) (N : Nat → Nat → Int64) (V : Nat → Nat → Option Nat) (lt : Int64) (tw : Option Nat) (sp sr : Nat) (X : List AC) (a1 : Int32) :
  R d 125 (60, [some (.ref 0), some (.int a1)], [], sl, (CH I A N V lt tw sp sr X)) =
    some (67, [some (.ref 0), some (.int a1)], [.int (I 3 11)], sl, (CH I A N V lt tw sp sr X)) :=
  (R_gob [1, 36, 44, 52, 60, 68, 76] 400 _ _ _).trans rfl
set_option maxRecDepth 100000 in
theorem k125_68 (d sl : Nat) (I : Nat → Nat → Int32) (A : Nat → Nat → Int32) (N : Nat → Nat → Int64) (V : Nat → Nat → Option Nat) (lt : Int64) (tw : Option Nat) (sp sr : Nat) (X : List AC) (a1 : Int32) :
  R d 125 (68, [some (.ref 0), some (.int a1)], [], sl, (CH I A N V lt tw sp sr X)) =
    some (75, [some (.ref 0), some (.int a1)], [.int (I 1 1)], sl, (CH I A N V lt tw sp sr X)) :=
  (R_gob [1, 36, 44, 52, 60, 68, 76] 400 _ _ _).trans rfl
set_option maxRecDepth 100000 in
theorem k126_0 (d sl : Nat) (I : Nat → Nat → Int32) (A : Nat → Nat → Int32) (N : Nat → Nat → Int64) (V : Nat → Nat → Option Nat) (lt : Int64) (tw : Option Nat) (sp sr : Nat) (X : List AC) (a1 : Int32) (a2 : Int32) :
  R (d + 1) 126 (0, [some (.ref 0), some (.int a1), some (.int a2)], [], sl, (CH I A N V lt tw sp sr X)) =
    bC (C d 46 [.ref 3, .int a1] sl (CH I A N V lt tw sp sr X)) (fun vs sl h => R (d + 1) 126 (8, [some (.ref 0), some (.int a1), some (.int a2)], vs ++ [], sl, h)) :=
  (R_gob [8, 36, 46, 49] 400 _ _ _).trans rfl
set_option maxRecDepth 100000 in
theorem k126_8 (d sl : Nat) (I : Nat → Nat → Int32) (A : Nat → Nat → Int32) (N : Nat → Nat → Int64) (V : Nat → Nat → Option Nat) (lt : Int64) (tw : Option Nat) (sp sr : Nat) (X : List AC) (a1 : Int32) (a2 : Int32) (b0 : Int32) :
  R (d + 1) 126 (8, [some (.ref 0), some (.int a1), some (.int a2)], [.int b0], sl, (CH I A N V lt tw sp sr X)) =
    cond (decide (b0 = (nI 0))) (some (24, [some (.ref 0), some (.int a1), some (.int a2)], [.int (-1 : Int32)], sl, (CH I A N V lt tw sp sr X))) (cond (decide (a2 < (nI 1))) (some (24, [some (.ref 0), some (.int a1), some (.int a2)], [.int (-1 : Int32)], sl, (CH I A N V lt tw sp sr X))) (cond (decide (a2 ≤ (nI 999))) (bC (C d 44 [.ref 12, .ref 3] sl (CH I A N V lt tw sp sr X)) (fun vs sl h => R (d + 1) 126 (36, [some (.ref 0), some (.int a1), some (.int a2)], vs ++ [], sl, h))) (some (24, [some (.ref 0), some (.int a1), some (.int a2)], [.int (-1 : Int32)], sl, (CH I A N V lt tw sp sr X))))) :=
  (R_gob [8, 36, 46, 49] 400 _ _ _).trans rfl
set_option maxRecDepth 100000 in
theorem k126_36 (d sl : Nat) (I : Nat → Nat → Int32) (A : Nat → Nat → Int32) (N : Nat → Nat → Int64) (V : Nat → Nat → Option Nat) (lt : Int64) (tw : Option Nat) (sp sr : Nat) (X : List AC) (a1 : Int32) (a2 : Int32) :
  R (d + 1) 126 (36, [some (.ref 0), some (.int a1), some (.int a2)], [], sl, (CH I A N V lt tw sp sr X)) =
    bC (C d 70 [.ref 3, .int a1, .int a2] sl (CH I A N V lt tw sp sr X)) (fun vs sl h => R (d + 1) 126 (46, [some (.ref 0), some (.int a1), some (.int a2)], vs ++ [.ref 0], sl, h)) :=
  (R_gob [8, 36, 46, 49] 400 _ _ _).trans rfl
set_option maxRecDepth 100000 in
theorem k126_46 (d sl : Nat) (I : Nat → Nat → Int32) (A : Nat → Nat → Int32) (N : Nat → Nat → Int64) (V : Nat → Nat → Option Nat) (lt : Int64) (tw : Option Nat) (sp sr : Nat) (X : List AC) (a1 : Int32) (a2 : Int32) (b0 : Int32) :
  R (d + 1) 126 (46, [some (.ref 0), some (.int a1), some (.int a2)], [.int b0, .ref 0], sl, (CH I A N V lt tw sp sr X)) =
    bC (C d 131 [.ref 0, .int b0] sl (CH I A N V lt tw sp sr X)) (fun vs sl h => R (d + 1) 126 (49, [some (.ref 0), some (.int a1), some (.int a2)], vs ++ [], sl, h)) :=
  (R_gob [8, 36, 46, 49] 400 _ _ _).trans rfl
set_option maxRecDepth 100000 in
theorem k126_49 (d sl : Nat) (I : Nat → Nat → Int32) (A : Nat → Nat → Int32) (N : Nat → Nat → Int64) (V : Nat → Nat → Option Nat) (lt : Int64) (tw : Option Nat) (sp sr : Nat) (X : List AC) (a1 : Int32) (a2 : Int32) (b0 : Int32) :
  R (d + 1) 126 (49, [some (.ref 0), some (.int a1), some (.int a2)], [.int b0], sl, (CH I A N V lt tw sp sr X)) =
    some (49, [some (.ref 0), some (.int a1), some (.int a2)], [.int b0], sl, (CH I A N V lt tw sp sr X)) :=
  (R_gob [8, 36, 46, 49] 400 _ _ _).trans rfl
set_option maxRecDepth 100000 in
theorem k127_0 (d sl : Nat) (I : Nat → Nat → Int32) (A : Nat → Nat → Int32) (N : Nat → Nat → Int64) (V : Nat → Nat → Option Nat) (lt : Int64) (tw : Option Nat) (sp sr : Nat) (X : List AC) (a1 : Int32) (a2 : Int32) (a3 : Int32) :
  R (d + 1) 127 (0, [some (.ref 0), some (.int a1), some (.int a2), some (.int a3)], [], sl, (CH I A N V lt tw sp sr X)) =
    bC (C d 45 [.ref 3, .int a1] sl (CH I A N V lt tw sp sr X)) (fun vs sl h => R (d + 1) 127 (8, [some (.ref 0), some (.int a1), some (.int a2), some (.int a3)], vs ++ [], sl, h)) :=
  (R_gob [8, 19, 52, 63, 66] 400 _ _ _).trans rfl
set_option maxRecDepth 100000 in
theorem k127_8 (d sl : Nat) (I : Nat → Nat → Int32) (A : Nat → Nat → Int32) (N : Nat → Nat → Int64) (V : Nat → Nat → Option Nat) (lt : Int64) (tw : Option Nat) (sp sr : Nat) (X : List AC) (a1 : Int32) (a2 : Int32) (a3 : Int32) (b0 : Int32) :
  R (d + 1) 127 (8, [some (.ref 0), some (.int a1), some (.int a2), some (.int a3)], [.int b0], sl, (CH I A N V lt tw sp sr X)) =
    cond (decide (b0 = (nI 0))) (some (40, [some (.ref 0), some (.int a1), some (.int a2), some (.int a3)], [.int (-1 : Int32)], sl, (CH I A N V lt tw sp sr X))) (bC (C d 45 [.ref 3, .int a2] sl (CH I A N V lt tw sp sr X)) (fun vs sl h => R (d + 1) 127 (19, [some (.ref 0), some (.int a1), some (.int a2), some (.int a3)], vs ++ [], sl, h))) :=
  (R_gob [8, 19, 52, 63, 66] 400 _ _ _).trans rfl
set_option maxRecDepth 100000 in
theorem k127_19 (d sl : Nat) (I : Nat → Nat → Int32) (A : Nat → Nat → Int32) (N : Nat → Nat → Int64) (V : Nat → Nat → Option Nat) (lt : Int64) (tw : Option Nat) (sp sr : Nat) (X : List AC) (a1 : Int32) (a2 : Int32) (a3 : Int32) (b0 : Int32) :
  R (d + 1) 127 (19, [some (.ref 0), some (.int a1), some (.int a2), some (.int a3)], [.int b0], sl, (CH I A N V lt tw sp sr X)) =
    cond (decide (b0 = (nI 0))) (some (40, [some (.ref 0), some (.int a1), some (.int a2), some (.int a3)], [.int (-1 : Int32)], sl, (CH I A N V lt tw sp sr X))) (cond (decide (a1 = a2)) (some (40, [some (.ref 0), some (.int a1), some (.int a2), some (.int a3)], [.int (-1 : Int32)], sl, (CH I A N V lt tw sp sr X))) (cond (decide (a3 < (nI 1))) (some (40, [some (.ref 0), some (.int a1), some (.int a2), some (.int a3)], [.int (-1 : Int32)], sl, (CH I A N V lt tw sp sr X))) (cond (decide (a3 ≤ (nI 200))) (bC (C d 44 [.ref 12, .ref 3] sl (CH I A N V lt tw sp sr X)) (fun vs sl h => R (d + 1) 127 (52, [some (.ref 0), some (.int a1), some (.int a2), some (.int a3)], vs ++ [], sl, h))) (some (40, [some (.ref 0), some (.int a1), some (.int a2), some (.int a3)], [.int (-1 : Int32)], sl, (CH I A N V lt tw sp sr X)))))) :=
  (R_gob [8, 19, 52, 63, 66] 400 _ _ _).trans rfl
set_option maxRecDepth 100000 in
theorem k127_52 (d sl : Nat) (I : Nat → Nat → Int32) (A : Nat → Nat → Int32) (N : Nat → Nat → Int64) (V : Nat → Nat → Option Nat) (lt : Int64) (tw : Option Nat) (sp sr : Nat) (X : List AC) (a1 : Int32) (a2 : Int32) (a3 : Int32) :
  R (d + 1) 127 (52, [some (.ref 0), some (.int a1), some (.int a2), some (.int a3)], [], sl, (CH I A N V lt tw sp sr X)) =
    bC (C d 71 [.ref 3, .int a1, .int a2, .int a3] sl (CH I A N V lt tw sp sr X)) (fun vs sl h => R (d + 1) 127 (63, [some (.ref 0), some (.int a1), some (.int a2), some (.int a3)], vs ++ [.ref 0], sl, h)) :=
  (R_gob [8, 19, 52, 63, 66] 400 _ _ _).trans rfl
set_option maxRecDepth 100000 in
theorem k127_63 (d sl : Nat) (I : Nat → Nat → Int32) (A : Nat → Nat → Int32) (N : Nat → Nat → Int64) (V : Nat → Nat → Option Nat) (lt : Int64) (tw : Option Nat) (sp sr : Nat) (X : List AC) (a1 : Int32) (a2 : Int32) (a3 : Int32) (b0 : Int32) :
  R (d + 1) 127 (63, [some (.ref 0), some (.int a1), some (.int a2), some (.int a3)], [.int b0, .ref 0], sl, (CH I A N V lt tw sp sr X)) =
    bC (C d 131 [.ref 0, .int b0] sl (CH I A N V lt tw sp sr X)) (fun vs sl h => R (d + 1) 127 (66, [some (.ref 0), some (.int a1), some (.int a2), some (.int a3)], vs ++ [], sl, h)) :=
  (R_gob [8, 19, 52, 63, 66] 400 _ _ _).trans rfl
set_option maxRecDepth 100000 in
theorem k127_66 (d sl : Nat) (I : Nat → Nat → Int32) (A : Nat → Nat → Int32) (N : Nat → Nat → Int64) (V : Nat → Nat → Option Nat) (lt : Int64) (tw : Option Nat) (sp sr : Nat) (X : List AC) (a1 : Int32) (a2 : Int32) (a3 : Int32) (b0 : Int32) :
  R (d + 1) 127 (66, [some (.ref 0), some (.int a1), some (.int a2), some (.int a3)], [.int b0], sl, (CH I A N V lt tw sp sr X)) =
    some (66, [some (.ref 0), some (.int a1), some (.int a2), some (.int a3)], [.int b0], sl, (CH I A N V lt tw sp sr X)) :=
  (R_gob [8, 19, 52, 63, 66] 400 _ _ _).trans rfl
set_option maxRecDepth 100000 in
theorem k128_0 (d sl : Nat) (I : Nat → Nat → Int32) (A : Nat → Nat → Int32) (N : Nat → Nat → Int64) (V : Nat → Nat → Option Nat) (lt : Int64) (tw : Option Nat) (sp sr : Nat) (X : List AC) (a1 : Int32) (a2 : Int32) :
  R (d + 1) 128 (0, [some (.ref 0), some (.int a1), some (.int a2)], [], sl, (CH I A N V lt tw sp sr X)) =
    bC (C d 46 [.ref 3, .int a1] sl (CH I A N V lt tw sp sr X)) (fun vs sl h => R (d + 1) 128 (8, [some (.ref 0), some (.int a1), some (.int a2)], vs ++ [], sl, h)) :=
  (R_gob [8, 19, 35, 45, 48] 400 _ _ _).trans rfl
set_option maxRecDepth 100000 in
theorem k128_8 (d sl : Nat) (I : Nat → Nat → Int32) (A : Nat → Nat → Int32) (N : Nat → Nat → Int64) (V : Nat → Nat → Option Nat) (lt : Int64) (tw : Option Nat) (sp sr : Nat) (X : List AC) (a1 : Int32) (a2 : Int32) (b0 : Int32) :
  R (d + 1) 128 (8, [some (.ref 0), some (.int a1), some (.int a2)], [.int b0], sl, (CH I A N V lt tw sp sr X)) =
    cond (decide (b0 = (nI 0))) (some (23, [some (.ref 0), some (.int a1), some (.int a2)], [.int (-1 : Int32)], sl, (CH I A N V lt tw sp sr X))) (bC (C d 45 [.ref 3, .int a2] sl (CH I A N V lt tw sp sr X)) (fun vs sl h => R (d + 1) 128 (19, [some (.ref 0), some (.int a1), some (.int a2)], vs ++ [], sl, h))) :=
  (R_gob [8, 19, 35, 45, 48] 400 _ _ _).trans rfl
set_option maxRecDepth 100000 in
theorem k128_19 (d sl : Nat) (I : Nat → Nat → Int32) (A : Nat → Nat → Int32) (N : Nat → Nat → Int64) (V : Nat → Nat → Option Nat) (lt : Int64) (tw : Option Nat) (sp sr : Nat) (X : List AC) (a1 : Int32) (a2 : Int32) (b0 : Int32) :
  R (d + 1) 128 (19, [some (.ref 0), some (.int a1), some (.int a2)], [.int b0], sl, (CH I A N V lt tw sp sr X)) =
    cond (!decide (b0 = (nI 0))) (bC (C d 44 [.ref 12, .ref 3] sl (CH I A N V lt tw sp sr X)) (fun vs sl h => R (d + 1) 128 (35, [some (.ref 0), some (.int a1), some (.int a2)], vs ++ [], sl, h))) (some (23, [some (.ref 0), some (.int a1), some (.int a2)], [.int (-1 : Int32)], sl, (CH I A N V lt tw sp sr X))) :=
  (R_gob [8, 19, 35, 45, 48] 400 _ _ _).trans rfl
set_option maxRecDepth 100000 in
theorem k128_35 (d sl : Nat) (I : Nat → Nat → Int32) (A : Nat → Nat → Int32) (N : Nat → Nat → Int64) (V : Nat → Nat → Option Nat) (lt : Int64) (tw : Option Nat) (sp sr : Nat) (X : List AC) (a1 : Int32) (a2 : Int32) :
  R (d + 1) 128 (35, [some (.ref 0), some (.int a1), some (.int a2)], [], sl, (CH I A N V lt tw sp sr X)) =
    bC (C d 72 [.ref 3, .int a1, .int a2] sl (CH I A N V lt tw sp sr X)) (fun vs sl h => R (d + 1) 128 (45, [some (.ref 0), some (.int a1), some (.int a2)], vs ++ [.ref 0], sl, h)) :=
  (R_gob [8, 19, 35, 45, 48] 400 _ _ _).trans rfl
set_option maxRecDepth 100000 in
theorem k128_45 (d sl : Nat) (I : Nat → Nat → Int32) (A : Nat → Nat → Int32) (N : Nat → Nat → Int64) (V : Nat → Nat → Option Nat) (lt : Int64) (tw : Option Nat) (sp sr : Nat) (X : List AC) (a1 : Int32) (a2 : Int32) (b0 : Int32) :
  R (d + 1) 128 (45, [some (.ref 0), some (.int a1), some (.int a2)], [.int b0, .ref 0], sl, (CH I A N V lt tw sp sr X)) =
    bC (C d 131 [.ref 0, .int b0] sl (CH I A N V lt tw sp sr X)) (fun vs sl h => R (d + 1) 128 (48, [some (.ref 0), some (.int a1), some (.int a2)], vs ++ [], sl, h)) :=
  (R_gob [8, 19, 35, 45, 48] 400 _ _ _).trans rfl
set_option maxRecDepth 100000 in
theorem k128_48 (d sl : Nat) (I : Nat → Nat → Int32) (A : Nat → Nat → Int32) (N : Nat → Nat → Int64) (V : Nat → Nat → Option Nat) (lt : Int64) (tw : Option Nat) (sp sr : Nat) (X : List AC) (a1 : Int32) (a2 : Int32) (b0 : Int32) :
  R (d + 1) 128 (48, [some (.ref 0), some (.int a1), some (.int a2)], [.int b0], sl, (CH I A N V lt tw sp sr X)) =
    some (48, [some (.ref 0), some (.int a1), some (.int a2)], [.int b0], sl, (CH I A N V lt tw sp sr X)) :=
  (R_gob [8, 19, 35, 45, 48] 400 _ _ _).trans rfl
set_option maxRecDepth 100000 in
theorem k129_0 (d sl : Nat) (I : Nat → Nat → Int32) (A : Nat → Nat → Int32) (N : Nat → Nat → Int64) (V : Nat → Nat → Option Nat) (lt : Int64) (tw : Option Nat) (sp sr : Nat) (X : List AC) (a1 : Int32) :
  R (d + 1) 129 (0, [some (.ref 0), some (.int a1)], [], sl, (CH I A N V lt tw sp sr X)) =
    bC (C d 46 [.ref 3, .int a1] sl (CH I A N V lt tw sp sr X)) (fun vs sl h => R (d + 1) 129 (8, [some (.ref 0), some (.int a1)], vs ++ [], sl, h)) :=
  (R_gob [8, 24, 33, 36] 400 _ _ _).trans rfl
set_option maxRecDepth 100000 in
theorem k129_8 (d sl : Nat) (I : Nat → Nat → Int32) (A : Nat → Nat → Int32) (N : Nat → Nat → Int64) (V : Nat → Nat → Option Nat) (lt : Int64) (tw : Option Nat) (sp sr : Nat) (X : List AC) (a1 : Int32) (b0 : Int32) :
  R (d + 1) 129 (8, [some (.ref 0), some (.int a1)], [.int b0], sl, (CH I A N V lt tw sp sr X)) =
    cond (!decide (b0 = (nI 0))) (bC (C d 44 [.ref 12, .ref 3] sl (CH I A N V lt tw sp sr X)) (fun vs sl h => R (d + 1) 129 (24, [some (.ref 0), some (.int a1)], vs ++ [], sl, h))) (some (12, [some (.ref 0), some (.int a1)], [.int (-1 : Int32)], sl, (CH I A N V lt tw sp sr X))) :=
  (R_gob [8, 24, 33, 36] 400 _ _ _).trans rfl
set_option maxRecDepth 100000 in
theorem k129_24 (d sl : Nat) (I : Nat → Nat → Int32) (A : Nat → Nat → Int32) (N : Nat → Nat → Int64) (V : Nat → Nat → Option Nat) (lt : Int64) (tw : Option Nat) (sp sr : Nat) (X : List AC) (a1 : Int32) :
  R (d + 1) 129 (24, [some (.ref 0), some (.int a1)], [], sl, (CH I A N V lt tw sp sr X)) =
    bC (C d 73 [.ref 3, .int a1] sl (CH I A N V lt tw sp sr X)) (fun vs sl h => R (d + 1) 129 (33, [some (.ref 0), some (.int a1)], vs ++ [.ref 0], sl, h)) :=
  (R_gob [8, 24, 33, 36] 400 _ _ _).trans rfl
set_option maxRecDepth 100000 in
theorem k129_33 (d sl : Nat) (I : Nat → Nat → Int32) (A : Nat → Nat → Int32) (N : Nat → Nat → Int64) (V : Nat → Nat → Option Nat) (lt : Int64) (tw : Option Nat) (sp sr : Nat) (X : List AC) (a1 : Int32) (b0 : Int32) :
  R (d + 1) 129 (33, [some (.ref 0), some (.int a1)], [.int b0, .ref 0], sl, (CH I A N V lt tw sp sr X)) =
    bC (C d 131 [.ref 0, .int b0] sl (CH I A N V lt tw sp sr X)) (fun vs sl h => R (d + 1) 129 (36, [some (.ref 0), some (.int a1)], vs ++ [], sl, h)) :=
  (R_gob [8, 24, 33, 36] 400 _ _ _).trans rfl
set_option maxRecDepth 100000 in
theorem k129_36 (d sl : Nat) (I : Nat → Nat → Int32) (A : Nat → Nat → Int32) (N : Nat → Nat → Int64) (V : Nat → Nat → Option Nat) (lt : Int64) (tw : Option Nat) (sp sr : Nat) (X : List AC) (a1 : Int32) (b0 : Int32) :
  R (d + 1) 129 (36, [some (.ref 0), some (.int a1)], [.int b0], sl, (CH I A N V lt tw sp sr X)) =
    some (36, [some (.ref 0), some (.int a1)], [.int b0], sl, (CH I A N V lt tw sp sr X)) :=
  (R_gob [8, 24, 33, 36] 400 _ _ _).trans rfl
set_option maxRecDepth 100000 in
theorem k130_0 (d sl : Nat) (I : Nat → Nat → Int32) (A : Nat → Nat → Int32) (N : Nat → Nat → Int64) (V : Nat → Nat → Option Nat) (lt : Int64) (tw : Option Nat) (sp sr : Nat) (X : List AC) (a1 : Int32) (a2 : Int32) :
  R (d + 1) 130 (0, [some (.ref 0), some (.int a1), some (.int a2)], [], sl, (CH I A N V lt tw sp sr X)) =
    bC (C d 46 [.ref 3, .int a1] sl (CH I A N V lt tw sp sr X)) (fun vs sl h => R (d + 1) 130 (8, [some (.ref 0), some (.int a1), some (.int a2)], vs ++ [], sl, h)) :=
  (R_gob [8, 19, 35, 45, 48] 400 _ _ _).trans rfl
set_option maxRecDepth 100000 in
theorem k130_8 (d sl : Nat) (I : Nat → Nat → Int32) (A : Nat → Nat → Int32) (N : Nat → Nat → Int64) (V : Nat → Nat → Option Nat) (lt : Int64) (tw : Option Nat) (sp sr : Nat) (X : List AC) (a1 : Int32) (a2 : Int32) (b0 : Int32) :
  R (d + 1) 130 (8, [some (.ref 0), some (.int a1), some (.int a2)], [.int b0], sl, (CH I A N V lt tw sp sr X)) =
    cond (decide (b0 = (nI 0))) (some (23, [some (.ref 0), some (.int a1), some (.int a2)], [.int (-1 : Int32)], sl, (CH I A N V lt tw sp sr X))) (bC (C d 46 [.ref 3, .int a2] sl (CH I A N V lt tw sp sr X)) (fun vs sl h => R (d + 1) 130 (19, [some (.ref 0), some (.int a1), some (.int a2)], vs ++ [], sl, h))) :=
  (R_gob [8, 19, 35, 45, 48] 400 _ _ _).trans rfl
set_option maxRecDepth 100000 in
theorem k130_19 (d sl : Nat) (I : Nat → Nat → Int32) (A : Nat → Nat → Int32) (N : Nat → Nat → Int64) (V : Nat → Nat → Option Nat) (lt : Int64) (tw : Option Nat) (sp sr : Nat) (X : List AC) (a1 : Int32) (a2 : Int32) (b0 : Int32) :
  R (d + 1) 130 (19, [some (.ref 0), some (.int a1), some (.int a2)], [.int b0], sl, (CH I A N V lt tw sp sr X)) =
    cond (!decide (b0 = (nI 0))) (bC (C d 44 [.ref 12, .ref 3] sl (CH I A N V lt tw sp sr X)) (fun vs sl h => R (d + 1) 130 (35, [some (.ref 0), some (.int a1), some (.int a2)], vs ++ [], sl, h))) (some (23, [some (.ref 0), some (.int a1), some (.int a2)], [.int (-1 : Int32)], sl, (CH I A N V lt tw sp sr X))) :=
  (R_gob [8, 19, 35, 45, 48] 400 _ _ _).trans rfl
set_option maxRecDepth 100000 in
theorem k130_35 (d sl : Nat) (I : Nat → Nat → Int32) (A : Nat → Nat → Int32) (N : Nat → Nat → Int64) (V : Nat → Nat → Option Nat) (lt : Int64) (tw : Option Nat) (sp sr : Nat) (X : List AC) (a1 : Int32) (a2 : Int32) :
  R (d + 1) 130 (35, [some (.ref 0), some (.int a1), some (.int a2)], [], sl, (CH I A N V lt tw sp sr X)) =
    bC (C d 74 [.ref 3, .int a1, .int a2] sl (CH I A N V lt tw sp sr X)) (fun vs sl h => R (d + 1) 130 (45, [some (.ref 0), some (.int a1), some (.int a2)], vs ++ [.ref 0], sl, h)) :=
  (R_gob [8, 19, 35, 45, 48] 400 _ _ _).trans rfl
set_option maxRecDepth 100000 in
theorem k130_45 (d sl : Nat) (I : Nat → Nat → Int32) (A : Nat → Nat → Int32) (N : Nat → Nat → Int64) (V : Nat → Nat → Option Nat) (lt : Int64) (tw : Option Nat) (sp sr : Nat) (X : List AC) (a1 : Int32) (a2 : Int32) (b0 : Int32) :
  R (d + 1) 130 (45, [some (.ref 0), some (.int a1), some (.int a2)], [.int b0, .ref 0], sl, (CH I A N V lt tw sp sr X)) =
    bC (C d 131 [.ref 0, .int b0] sl (CH I A N V lt tw sp sr X)) (fun vs sl h => R (d + 1) 130 (48, [some (.ref 0), some (.int a1), some (.int a2)], vs ++ [], sl, h)) :=
  (R_gob [8, 19, 35, 45, 48] 400 _ _ _).trans rfl
set_option maxRecDepth 100000 in
theorem k130_48 (d sl : Nat) (I : Nat → Nat → Int32) (A : Nat → Nat → Int32) (N : Nat → Nat → Int64) (V : Nat → Nat → Option Nat) (lt : Int64) (tw : Option Nat) (sp sr : Nat) (X : List AC) (a1 : Int32) (a2 : Int32) (b0 : Int32) :
  R (d + 1) 130 (48, [some (.ref 0), some (.int a1), some (.int a2)], [.int b0], sl, (CH I A N V lt tw sp sr X)) =
    some (48, [some (.ref 0), some (.int a1), some (.int a2)], [.int b0], sl, (CH I A N V lt tw sp sr X)) :=
  (R_gob [8, 19, 35, 45, 48] 400 _ _ _).trans rfl
set_option maxRecDepth 100000 in
theorem k132_0 (d sl : Nat) (I : Nat → Nat → Int32) (A : Nat → Nat → Int32) (N : Nat → Nat → Int64) (V : Nat → Nat → Option Nat) (lt : Int64) (tw : Option Nat) (sp sr : Nat) (X : List AC) (a1 : Int32) :
  R (d + 1) 132 (0, [some (.ref 0), some (.int a1), none, none], [], sl, (CH I A N V lt tw sp sr X)) =
    cond (decide (a1 < (nI 1))) (some (12, [some (.ref 0), some (.int a1), none, none], [.int (-1 : Int32)], sl, (CH I A N V lt tw sp sr X))) (cond (decide (a1 ≤ (nI 60))) (bC (C d 76 [.ref 3] sl (CH I A N V lt tw sp sr X)) (fun vs sl h => R (d + 1) 132 (21, [some (.ref 0), some (.int a1), none, none], vs ++ [.int a1], sl, h))) (some (12, [some (.ref 0), some (.int a1), none, none], [.int (-1 : Int32)], sl, (CH I A N V lt tw sp sr X)))) :=
  (R_gob [21, 40, 42, 54] 400 _ _ _).trans rfl
set_option maxRecDepth 100000 in
theorem k132_21 (d sl : Nat) (I : Nat → Nat → Int32) (A : Nat → Nat → Int32) (N : Nat → Nat → Int64) (V : Nat → Nat → Option Nat) (lt : Int64) (tw : Option Nat) (sp sr : Nat) (X : List AC) (a1 : Int32) (b0 : Int32) (b1 : Int32) :
  R (d + 1) 132 (21, [some (.ref 0), some (.int a1), none, none], [.int b0, .int b1], sl, (CH I A N V lt tw sp sr X)) =
    cond (decide ((x_min b1 b0) ≤ (nI 0))) (R (d + 1) 132 (40, [some (.ref 0), some (.int a1), some (.int (x_min b1 b0)), none], [], sl, (CH I A N V lt tw sp sr X))) (bC (C d 27 [.ref 21, .ref 3] sl (CH I A N V lt tw sp sr X)) (fun vs sl h => R (d + 1) 132 (40, [some (.ref 0), some (.int a1), some (.int (x_min b1 b0)), none], vs ++ [], sl, h))) :=
  (R_gob [21, 40, 42, 54] 400 _ _ _).trans rfl
set_option maxRecDepth 100000 in
theorem k132_40 (d sl : Nat) (I : Nat → Nat → Int32) (A : Nat → Nat → Int32) (N : Nat → Nat → Int64) (V : Nat → Nat → Option Nat) (lt : Int64) (tw : Option Nat) (sp sr : Nat) (X : List AC) (a1 : Int32) (a2 : Int32) :
  R (d + 1) 132 (40, [some (.ref 0), some (.int a1), some (.int a2), none], [], sl, (CH I A N V lt tw sp sr X)) =
    R (d + 1) 132 (42, [some (.ref 0), some (.int a1), some (.int a2), some (.int (nI 0))], [], sl, (CH I A N V lt tw sp sr X)) :=
  (R_gob [21, 40, 42, 54] 400 _ _ _).trans rfl
set_option maxRecDepth 100000 in
theorem k132_42 (d sl : Nat) (I : Nat → Nat → Int32) (A : Nat → Nat → Int32) (N : Nat → Nat → Int64) (V : Nat → Nat → Option Nat) (lt : Int64) (tw : Option Nat) (sp sr : Nat) (X : List AC) (a1 : Int32) (a2 : Int32) (a3 : Int32) :
  R (d + 1) 132 (42, [some (.ref 0), some (.int a1), some (.int a2), some (.int a3)], [], sl, (CH I A N V lt tw sp sr X)) =
    cond (decide (a2 ≤ a3)) (some (61, [some (.ref 0), some (.int a1), some (.int a2), some (.int a3)], [.int a2], sl, (CH I A N V lt tw sp sr X))) (bC (C d 77 [.ref 3] sl (CH I A N V lt tw sp sr X)) (fun vs sl h => R (d + 1) 132 (54, [some (.ref 0), some (.int a1), some (.int a2), some (.int a3)], vs ++ [], sl, h))) :=
  (R_gob [21, 40, 42, 54] 400 _ _ _).trans rfl
set_option maxRecDepth 100000 in
theorem k132_54 (d sl : Nat) (I : Nat → Nat → Int32) (A : Nat → Nat → Int32) (N : Nat → Nat → Int64) (V : Nat → Nat → Option Nat) (lt : Int64) (tw : Option Nat) (sp sr : Nat) (X : List AC) (a1 : Int32) (a2 : Int32) (a3 : Int32) :
  R (d + 1) 132 (54, [some (.ref 0), some (.int a1), some (.int a2), some (.int a3)], [], sl, (CH I A N V lt tw sp sr X)) =
    R (d + 1) 132 (42, [some (.ref 0), some (.int a1), some (.int a2), some (.int (a3 + (nI 1)))], [], sl, (CH I A N V lt tw sp sr X)) :=
  (R_gob [21, 40, 42, 54] 400 _ _ _).trans rfl
set_option maxRecDepth 100000 in
theorem k133_0 (d sl : Nat) (I : Nat → Nat → Int32) (A : Nat → Nat → Int32) (N : Nat → Nat → Int64) (V : Nat → Nat → Option Nat) (lt : Int64) (tw : Option Nat) (sp sr : Nat) (X : List AC)  :
  R (d + 1) 133 (0, [some (.ref 0)], [], sl, (CH I A N V lt tw sp sr X)) =
    bC (C d 28 [.ref 21, .ref 3] sl (CH I A N V lt tw sp sr X)) (fun vs sl h => R (d + 1) 133 (11, [some (.ref 0)], vs ++ [], sl, h)) :=
  (R_gob [11] 400 _ _ _).trans rfl
set_option maxRecDepth 100000 in
theorem k133_11 (d sl : Nat) (I : Nat → Nat → Int32) (A : Nat → Nat → Int32) (N : Nat → Nat → Int64) (V : Nat → Nat → Option Nat) (lt : Int64) (tw : Option Nat) (sp sr : Nat) (X : List AC) (b0 : Int32) :
  R (d + 1) 133 (11, [some (.ref 0)], [.int b0], sl, (CH I A N V lt tw sp sr X)) =
    cond (decide (b0 = (nI 0))) (some (25, [some (.ref 0)], [.int (-1 : Int32)], sl, (CH I A N V lt tw sp sr X))) (some (25, [some (.ref 0)], [.int (I 21 2)], sl, (CH I A N V lt tw sp sr X))) :=
  (R_gob [11] 400 _ _ _).trans rfl
