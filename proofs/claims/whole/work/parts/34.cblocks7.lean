set_option maxRecDepth 100000 in
theorem k110_r95_r3_0 (d sl : Nat) (I : Nat → Nat → Int32) (A : Nat → Nat → Int32) (N : Nat → Nat → Int64) (V : Nat → Nat → Option Nat) (lt : Int64) (tw : Option Nat) (sp sr : Nat) (X : List AC) (a2 : Int32) (a3 : Int32) :
  R d 110 (0, [some (.ref 95), some (.ref 3), some (.int a2), some (.int a3), none, none], [], sl, (CH I A N V lt tw sp sr X)) =
    R d 110 (6, [some (.ref 95), some (.ref 3), some (.int a2), some (.int a3), some (.int (nI 0)), some (.int (nI 0))], [], sl, (CH I A N V lt tw sp sr X)) :=
  (R_gob [6] 400 _ _ _).trans rfl
set_option maxRecDepth 100000 in
theorem k110_r95_r3_6 (d sl : Nat) (I : Nat → Nat → Int32) (A : Nat → Nat → Int32) (N : Nat → Nat → Int64) (V : Nat → Nat → Option Nat) (lt : Int64) (tw : Option Nat) (sp sr : Nat) (X : List AC) (a2 : Int32) (a3 : Int32) (a4 : Int32) (a5 : Int32) :
  R d 110 (6, [some (.ref 95), some (.ref 3), some (.int a2), some (.int a3), some (.int a4), some (.int a5)], [], sl, (CH I A N V lt tw sp sr X)) =
    cond (decide ((I 3 8) ≤ a5)) (some (63, [some (.ref 95), some (.ref 3), some (.int a2), some (.int a3), some (.int a4), some (.int a5)], [.int a4], sl, (CH I A N V lt tw sp sr X))) (cond (x_in a5 6) (cond (!decide (((A 97) a5.toNatClampNeg) = (-1 : Int32))) (R d 110 (6, [some (.ref 95), some (.ref 3), some (.int a2), some (.int a3), some (.int a4), some (.int (a5 + (nI 1)))], [], sl, (CH I A N V lt tw sp sr X))) (cond (x_in a5 6) (cond (decide ((((A 96) a5.toNatClampNeg) &&& a2) = (nI 0))) (R d 110 (6, [some (.ref 95), some (.ref 3), some (.int a2), some (.int a3), some (.int a4), some (.int (a5 + (nI 1)))], [], sl, (CH I A N V lt tw sp sr X))) (cond (x_in a5 6) (R d 110 (6, [some (.ref 95), some (.ref 3), some (.int a2), some (.int a3), some (.int (a4 ||| ((nI 1) <<< (a5 &&& nI 31)))), some (.int (a5 + (nI 1)))], [], sl, (CH I (up1 A 97 (upd (A 97) a5.toNatClampNeg a3)) N V lt tw sp sr X))) none)) none)) none) :=
  (R_gob [6] 400 _ _ _).trans rfl
set_option maxRecDepth 100000 in
theorem k7_r146_0 (d sl : Nat) (I : Nat → Nat → Int32) (A : Nat → Nat → Int32) (N : Nat → Nat → Int64) (V : Nat → Nat → Option Nat) (lt : Int64) (tw : Option Nat) (sp sr : Nat) (a1 : Int32) (x0_0 : Int32) :
  R d 7 (0, [some (.ref 146), some (.int a1)], [], sl, (CH I A N V lt tw sp sr [.inr (0, [.int x0_0])])) =
    cond (decide (a1 ≤ (nI 0))) (some (32, [some (.ref 146), some (.int a1)], [.int (nI 0)], sl, (CH I A N V lt tw sp sr [.inr (0, [.int ((x0_0 * (nI 1103515245)) + (nI 12345))])]))) (cond (!decide (a1 = (nI 0))) (some (32, [some (.ref 146), some (.int a1)], [.int ((((x0_0 * (nI 1103515245)) + (nI 12345)).toUInt32 >>> ((nI 8).toUInt32 &&& Int32.toUInt32 31)).toInt32 - (((x0_0 * (nI 1103515245)) + (nI 12345)).toUInt32 >>> ((nI 8).toUInt32 &&& Int32.toUInt32 31)).toInt32 / a1 * a1)], sl, (CH I A N V lt tw sp sr [.inr (0, [.int ((x0_0 * (nI 1103515245)) + (nI 12345))])]))) none) :=
  (R_gob [] 400 _ _ _).trans rfl
set_option maxRecDepth 100000 in
theorem k72_r12_0 (d sl : Nat) (I : Nat → Nat → Int32) (A : Nat → Nat → Int32) (N : Nat → Nat → Int64) (V : Nat → Nat → Option Nat) (lt : Int64) (tw : Option Nat) (sp sr : Nat) (X : List AC) (a1 : Int32) (a2 : Int32) :
  R (d + 1) 72 (0, [some (.ref 12), some (.int a1), some (.int a2)], [], sl, (CH I A N V lt tw sp sr X)) =
    bC (C d 50 [.ref 12, .int a1] sl (CH I A N V lt tw sp sr X)) (fun vs sl h => R (d + 1) 72 (5, [some (.ref 12), some (.int a1), some (.int a2)], vs ++ [], sl, h)) :=
  (R_gob [5, 68] 400 _ _ _).trans rfl
set_option maxRecDepth 100000 in
theorem k72_r12_5 (d sl : Nat) (I : Nat → Nat → Int32) (A : Nat → Nat → Int32) (N : Nat → Nat → Int64) (V : Nat → Nat → Option Nat) (lt : Int64) (tw : Option Nat) (sp sr : Nat) (X : List AC) (a1 : Int32) (a2 : Int32) (b0 : Int32) :
  R (d + 1) 72 (5, [some (.ref 12), some (.int a1), some (.int a2)], [.int b0], sl, (CH I A N V lt tw sp sr X)) =
    cond (!decide (b0 = (nI 0))) (cond (x_in a1 12) (cond (!decide (((A 18) a1.toNatClampNeg) = a2)) (cond (x_in a1 12) (cond (!decide (((A 17) a1.toNatClampNeg) = a2)) (cond (x_in a1 12) (cond (x_in a2 6) (cond (decide (((A 19) a1.toNatClampNeg) ≤ ((A 14) a2.toNatClampNeg))) (cond (x_in a1 12) (cond (x_in a1 12) (bC (C d 75 [.ref 12, .int a2, .int ((A 18) a1.toNatClampNeg), .int ((A 19) a1.toNatClampNeg)] sl (CH I A N V lt tw sp sr X)) (fun vs sl h => R (d + 1) 72 (68, [some (.ref 12), some (.int a1), some (.int a2)], vs ++ [], sl, h))) none) none) (some (50, [some (.ref 12), some (.int a1), some (.int a2)], [.int (nI 4)], sl, (CH I A N V lt tw sp sr X)))) none) none) (some (33, [some (.ref 12), some (.int a1), some (.int a2)], [.int (nI 3)], sl, (CH I A N V lt tw sp sr X)))) none) (some (21, [some (.ref 12), some (.int a1), some (.int a2)], [.int (nI 2)], sl, (CH I A N V lt tw sp sr X)))) none) (some (9, [some (.ref 12), some (.int a1), some (.int a2)], [.int (nI 1)], sl, (CH I A N V lt tw sp sr X))) :=
  (R_gob [5, 68] 400 _ _ _).trans rfl
set_option maxRecDepth 100000 in
theorem k72_r12_68 (d sl : Nat) (I : Nat → Nat → Int32) (A : Nat → Nat → Int32) (N : Nat → Nat → Int64) (V : Nat → Nat → Option Nat) (lt : Int64) (tw : Option Nat) (sp sr : Nat) (X : List AC) (a1 : Int32) (a2 : Int32) :
  R (d + 1) 72 (68, [some (.ref 12), some (.int a1), some (.int a2)], [], sl, (CH I A N V lt tw sp sr X)) =
    cond (x_in a1 12) (some (76, [some (.ref 12), some (.int a1), some (.int a2)], [.int (nI 0)], sl, (CH I (up1 A 18 (upd (A 18) a1.toNatClampNeg a2)) N V lt tw sp sr X))) none :=
  (R_gob [5, 68] 400 _ _ _).trans rfl
set_option maxRecDepth 100000 in
theorem k71_r12_0 (d sl : Nat) (I : Nat → Nat → Int32) (A : Nat → Nat → Int32) (N : Nat → Nat → Int64) (V : Nat → Nat → Option Nat) (lt : Int64) (tw : Option Nat) (sp sr : Nat) (X : List AC) (a1 : Int32) (a2 : Int32) (a3 : Int32) :
  R (d + 1) 71 (0, [some (.ref 12), some (.int a1), some (.int a2), some (.int a3)], [], sl, (CH I A N V lt tw sp sr X)) =
    cond (decide ((I 12 9) < (nI 12))) (cond (x_in a2 6) (cond (decide (a3 ≤ ((A 14) a2.toNatClampNeg))) (bC (C d 75 [.ref 12, .int a2, .int a1, .int a3] sl (CH I A N V lt tw sp sr X)) (fun vs sl h => R (d + 1) 71 (30, [some (.ref 12), some (.int a1), some (.int a2), some (.int a3)], vs ++ [], sl, h))) (some (22, [some (.ref 12), some (.int a1), some (.int a2), some (.int a3)], [.int (nI 2)], sl, (CH I A N V lt tw sp sr X)))) none) (some (10, [some (.ref 12), some (.int a1), some (.int a2), some (.int a3)], [.int (nI 1)], sl, (CH I A N V lt tw sp sr X))) :=
  (R_gob [30, 38] 400 _ _ _).trans rfl
set_option maxRecDepth 100000 in
theorem k71_r12_30 (d sl : Nat) (I : Nat → Nat → Int32) (A : Nat → Nat → Int32) (N : Nat → Nat → Int64) (V : Nat → Nat → Option Nat) (lt : Int64) (tw : Option Nat) (sp sr : Nat) (X : List AC) (a1 : Int32) (a2 : Int32) (a3 : Int32) :
  R (d + 1) 71 (30, [some (.ref 12), some (.int a1), some (.int a2), some (.int a3)], [], sl, (CH I A N V lt tw sp sr X)) =
    bC (C d 49 [.ref 12, .int a1, .int a2, .int a3, .int (nI 0)] sl (CH I A N V lt tw sp sr X)) (fun vs sl h => R (d + 1) 71 (38, [some (.ref 12), some (.int a1), some (.int a2), some (.int a3)], vs ++ [], sl, h)) :=
  (R_gob [30, 38] 400 _ _ _).trans rfl
set_option maxRecDepth 100000 in
theorem k71_r12_38 (d sl : Nat) (I : Nat → Nat → Int32) (A : Nat → Nat → Int32) (N : Nat → Nat → Int64) (V : Nat → Nat → Option Nat) (lt : Int64) (tw : Option Nat) (sp sr : Nat) (X : List AC) (a1 : Int32) (a2 : Int32) (a3 : Int32) :
  R (d + 1) 71 (38, [some (.ref 12), some (.int a1), some (.int a2), some (.int a3)], [], sl, (CH I A N V lt tw sp sr X)) =
    some (39, [some (.ref 12), some (.int a1), some (.int a2), some (.int a3)], [.int (nI 0)], sl, (CH I A N V lt tw sp sr X)) :=
  (R_gob [30, 38] 400 _ _ _).trans rfl
set_option maxRecDepth 100000 in
theorem k70_r12_0 (d sl : Nat) (I : Nat → Nat → Int32) (A : Nat → Nat → Int32) (N : Nat → Nat → Int64) (V : Nat → Nat → Option Nat) (lt : Int64) (tw : Option Nat) (sp sr : Nat) (X : List AC) (a1 : Int32) (a2 : Int32) :
  R (d + 1) 70 (0, [some (.ref 12), some (.int a1), some (.int a2)], [], sl, (CH I A N V lt tw sp sr X)) =
    bC (C d 50 [.ref 12, .int a1] sl (CH I A N V lt tw sp sr X)) (fun vs sl h => R (d + 1) 70 (5, [some (.ref 12), some (.int a1), some (.int a2)], vs ++ [], sl, h)) :=
  (R_gob [5, 66] 400 _ _ _).trans rfl
set_option maxRecDepth 100000 in
theorem k70_r12_5 (d sl : Nat) (I : Nat → Nat → Int32) (A : Nat → Nat → Int32) (N : Nat → Nat → Int64) (V : Nat → Nat → Option Nat) (lt : Int64) (tw : Option Nat) (sp sr : Nat) (X : List AC) (a1 : Int32) (a2 : Int32) (b0 : Int32) :
  R (d + 1) 70 (5, [some (.ref 12), some (.int a1), some (.int a2)], [.int b0], sl, (CH I A N V lt tw sp sr X)) =
    cond (!decide (b0 = (nI 0))) (cond (x_in a1 12) (cond (decide (a2 ≤ ((A 19) a1.toNatClampNeg))) (cond (x_in a1 12) (cond (x_in ((A 17) a1.toNatClampNeg) 6) (cond (decide (a2 ≤ ((A 14) ((A 17) a1.toNatClampNeg).toNatClampNeg))) (cond (x_in a1 12) (cond (x_in a1 12) (cond (x_in a1 12) (cond (x_in a1 12) (bC (C d 75 [.ref 12, .int ((A 17) a1.toNatClampNeg), .int ((A 18) a1.toNatClampNeg), .int a2] sl (CH I (up1 A 19 (upd (A 19) a1.toNatClampNeg (((A 19) a1.toNatClampNeg) - a2))) N V lt tw sp sr X)) (fun vs sl h => R (d + 1) 70 (66, [some (.ref 12), some (.int a1), some (.int a2)], vs ++ [], sl, h))) none) none) none) none) (some (38, [some (.ref 12), some (.int a1), some (.int a2)], [.int (nI 3)], sl, (CH I A N V lt tw sp sr X)))) none) none) (some (21, [some (.ref 12), some (.int a1), some (.int a2)], [.int (nI 2)], sl, (CH I A N V lt tw sp sr X)))) none) (some (9, [some (.ref 12), some (.int a1), some (.int a2)], [.int (nI 1)], sl, (CH I A N V lt tw sp sr X))) :=
  (R_gob [5, 66] 400 _ _ _).trans rfl
set_option maxRecDepth 100000 in
theorem k70_r12_66 (d sl : Nat) (I : Nat → Nat → Int32) (A : Nat → Nat → Int32) (N : Nat → Nat → Int64) (V : Nat → Nat → Option Nat) (lt : Int64) (tw : Option Nat) (sp sr : Nat) (X : List AC) (a1 : Int32) (a2 : Int32) :
  R (d + 1) 70 (66, [some (.ref 12), some (.int a1), some (.int a2)], [], sl, (CH I A N V lt tw sp sr X)) =
    some (77, [some (.ref 12), some (.int a1), some (.int a2)], [.int (nI 0)], sl, (CH (up1 I 12 (up1 (I 12) 13 ((I 12 13) + a2))) A N V lt tw sp sr X)) :=
  (R_gob [5, 66] 400 _ _ _).trans rfl
set_option maxRecDepth 100000 in
theorem k22_r106_0 (d sl : Nat) (I : Nat → Nat → Int32) (A : Nat → Nat → Int32) (N : Nat → Nat → Int64) (V : Nat → Nat → Option Nat) (lt : Int64) (tw : Option Nat) (sp sr : Nat) (X : List AC) (a1 : Int32) :
  R d 22 (0, [some (.ref 106), some (.int a1)], [], sl, (CH I A N V lt tw sp sr X)) =
    cond (decide ((nI 32) ≤ (I 106 1))) (some (30, [some (.ref 106), some (.int a1)], [], sl, (CH I A N V lt tw sp sr X))) (cond (x_in (I 106 1) 32) (some (30, [some (.ref 106), some (.int a1)], [], sl, (CH (up1 I 106 (up1 (I 106) 1 ((I 106 1) + (nI 1)))) (up1 A 107 (upd (A 107) (I 106 1).toNatClampNeg (vp_nar .byte a1.toInt8.toInt32))) N V lt tw sp sr X))) none) :=
  (R_gob [] 400 _ _ _).trans rfl
set_option maxRecDepth 100000 in
theorem k17_r12_0 (d sl : Nat) (I : Nat → Nat → Int32) (A : Nat → Nat → Int32) (N : Nat → Nat → Int64) (V : Nat → Nat → Option Nat) (lt : Int64) (tw : Option Nat) (sp sr : Nat) (X : List AC) (a1 : Int32) :
  R (d + 1) 17 (0, [some (.ref 12), some (.int a1), none], [], sl, (CH I A N V lt tw sp sr X)) =
    bC (C d 76 [.ref 12] sl (CH I A N V lt tw sp sr X)) (fun vs sl h => R (d + 1) 17 (5, [some (.ref 12), some (.int a1), none], vs ++ [.int a1], sl, h)) :=
  (R_gob [5, 12, 21] 400 _ _ _).trans rfl
set_option maxRecDepth 100000 in
theorem k17_r12_5 (d sl : Nat) (I : Nat → Nat → Int32) (A : Nat → Nat → Int32) (N : Nat → Nat → Int64) (V : Nat → Nat → Option Nat) (lt : Int64) (tw : Option Nat) (sp sr : Nat) (X : List AC) (a1 : Int32) (b0 : Int32) (b1 : Int32) :
  R (d + 1) 17 (5, [some (.ref 12), some (.int a1), none], [.int b0, .int b1], sl, (CH I A N V lt tw sp sr X)) =
    cond (decide (b1 ≤ b0)) (R (d + 1) 17 (12, [some (.ref 12), some (.int a1), some (.int (nI 0))], [], sl, (CH I A N V lt tw sp sr X))) (some (9, [some (.ref 12), some (.int a1), none], [.int (nI 1)], sl, (CH I A N V lt tw sp sr X))) :=
  (R_gob [5, 12, 21] 400 _ _ _).trans rfl
set_option maxRecDepth 100000 in
theorem k17_r12_12 (d sl : Nat) (I : Nat → Nat → Int32) (A : Nat → Nat → Int32) (N : Nat → Nat → Int64) (V : Nat → Nat → Option Nat) (lt : Int64) (tw : Option Nat) (sp sr : Nat) (X : List AC) (a1 : Int32) (a2 : Int32) :
  R (d + 1) 17 (12, [some (.ref 12), some (.int a1), some (.int a2)], [], sl, (CH I A N V lt tw sp sr X)) =
    cond (decide (a1 ≤ a2)) (some (28, [some (.ref 12), some (.int a1), some (.int a2)], [.int (nI 0)], sl, (CH I A N V lt tw sp sr X))) (bC (C d 77 [.ref 12] sl (CH I A N V lt tw sp sr X)) (fun vs sl h => R (d + 1) 17 (21, [some (.ref 12), some (.int a1), some (.int a2)], vs ++ [], sl, h))) :=
  (R_gob [5, 12, 21] 400 _ _ _).trans rfl
set_option maxRecDepth 100000 in
theorem k17_r12_21 (d sl : Nat) (I : Nat → Nat → Int32) (A : Nat → Nat → Int32) (N : Nat → Nat → Int64) (V : Nat → Nat → Option Nat) (lt : Int64) (tw : Option Nat) (sp sr : Nat) (X : List AC) (a1 : Int32) (a2 : Int32) :
  R (d + 1) 17 (21, [some (.ref 12), some (.int a1), some (.int a2)], [], sl, (CH I A N V lt tw sp sr X)) =
    R (d + 1) 17 (12, [some (.ref 12), some (.int a1), some (.int (a2 + (nI 1)))], [], sl, (CH I A N V lt tw sp sr X)) :=
  (R_gob [5, 12, 21] 400 _ _ _).trans rfl
set_option maxRecDepth 100000 in
theorem k18_r12_0 (d sl : Nat) (I : Nat → Nat → Int32) (A : Nat → Nat → Int32) (N : Nat → Nat → Int64) (V : Nat → Nat → Option Nat) (lt : Int64) (tw : Option Nat) (sp sr : Nat) (X : List AC) (a1 : Int32) (a2 : Int32) (a3 : Int32) :
  R (d + 1) 18 (0, [some (.ref 12), some (.int a1), some (.int a2), some (.int a3)], [], sl, (CH I A N V lt tw sp sr X)) =
    bC (C d 46 [.ref 12, .int a2] sl (CH I A N V lt tw sp sr X)) (fun vs sl h => R (d + 1) 18 (5, [some (.ref 12), some (.int a1), some (.int a2), some (.int a3)], vs ++ [], sl, h)) :=
  (R_gob [5, 19, 26, 66, 73, 79, 86] 400 _ _ _).trans rfl
set_option maxRecDepth 100000 in
theorem k18_r12_5 (d sl : Nat) (I : Nat → Nat → Int32) (A : Nat → Nat → Int32) (N : Nat → Nat → Int64) (V : Nat → Nat → Option Nat) (lt : Int64) (tw : Option Nat) (sp sr : Nat) (X : List AC) (a1 : Int32) (a2 : Int32) (a3 : Int32) (b0 : Int32) :
  R (d + 1) 18 (5, [some (.ref 12), some (.int a1), some (.int a2), some (.int a3)], [.int b0], sl, (CH I A N V lt tw sp sr X)) =
    cond (decide (b0 = (nI 0))) (some (24, [some (.ref 12), some (.int a1), some (.int a2), some (.int a3)], [.int (nI 9)], sl, (CH I A N V lt tw sp sr X))) (cond (!decide (a1 = (nI 40))) (R (d + 1) 18 (26, [some (.ref 12), some (.int a1), some (.int a2), some (.int a3)], [.int a1], sl, (CH I A N V lt tw sp sr X))) (bC (C d 46 [.ref 12, .int a3] sl (CH I A N V lt tw sp sr X)) (fun vs sl h => R (d + 1) 18 (19, [some (.ref 12), some (.int a1), some (.int a2), some (.int a3)], vs ++ [], sl, h)))) :=
  (R_gob [5, 19, 26, 66, 73, 79, 86] 400 _ _ _).trans rfl
set_option maxRecDepth 100000 in
theorem k18_r12_26_out (d sl : Nat) (I : Nat → Nat → Int32) (A : Nat → Nat → Int32) (N : Nat → Nat → Int64) (V : Nat → Nat → Option Nat) (lt : Int64) (tw : Option Nat) (sp sr : Nat) (X : List AC) (a1 : Int32) (a2 : Int32) (a3 : Int32) (x : Int32) (hx : Op.lookupswitch.offset [(0, 34), (20, 41), (30, 48)] (54) x.toInt = (54)) :
  R (d + 1) 18 (26, [some (.ref 12), some (.int a1), some (.int a2), some (.int a3)], .int x :: [], sl, (CH I A N V lt tw sp sr X)) = R (d + 1) 18 (80, [some (.ref 12), some (.int a1), some (.int a2), some (.int a3)], [], sl, (CH I A N V lt tw sp sr X)) :=
  (R_lsw (ps := [(0, 34), (20, 41), (30, 48)]) (show xk 18 26 = (.lookupswitch 54 #[(0, 34), (20, 41), (30, 48)], 60, [], 0) by decide +kernel)).trans (congrArg (fun q => R (d + 1) 18 (q, [some (.ref 12), some (.int a1), some (.int a2), some (.int a3)], [], sl, (CH I A N V lt tw sp sr X))) ((congrArg (fun z => (((26 : Nat) : Int) + z).toNat) hx).trans (by decide +kernel)))
set_option maxRecDepth 100000 in
theorem k18_r12_26_c0 (d sl : Nat) (I : Nat → Nat → Int32) (A : Nat → Nat → Int32) (N : Nat → Nat → Int64) (V : Nat → Nat → Option Nat) (lt : Int64) (tw : Option Nat) (sp sr : Nat) (X : List AC) (a1 : Int32) (a2 : Int32) (a3 : Int32)  :
  R (d + 1) 18 (26, [some (.ref 12), some (.int a1), some (.int a2), some (.int a3)], .int (nI 0) :: [], sl, (CH I A N V lt tw sp sr X)) = R (d + 1) 18 (60, [some (.ref 12), some (.int a1), some (.int a2), some (.int a3)], [], sl, (CH I A N V lt tw sp sr X)) :=
  (R_lsw (ps := [(0, 34), (20, 41), (30, 48)]) (show xk 18 26 = (.lookupswitch 54 #[(0, 34), (20, 41), (30, 48)], 60, [], 0) by decide +kernel)).trans (congrArg (fun q => R (d + 1) 18 (q, [some (.ref 12), some (.int a1), some (.int a2), some (.int a3)], [], sl, (CH I A N V lt tw sp sr X))) (by decide +kernel))
set_option maxRecDepth 100000 in
theorem k18_r12_26_c20 (d sl : Nat) (I : Nat → Nat → Int32) (A : Nat → Nat → Int32) (N : Nat → Nat → Int64) (V : Nat → Nat → Option Nat) (lt : Int64) (tw : Option Nat) (sp sr : Nat) (X : List AC) (a1 : Int32) (a2 : Int32) (a3 : Int32)  :
  R (d + 1) 18 (26, [some (.ref 12), some (.int a1), some (.int a2), some (.int a3)], .int (nI 20) :: [], sl, (CH I A N V lt tw sp sr X)) = R (d + 1) 18 (67, [some (.ref 12), some (.int a1), some (.int a2), some (.int a3)], [], sl, (CH I A N V lt tw sp sr X)) :=
  (R_lsw (ps := [(0, 34), (20, 41), (30, 48)]) (show xk 18 26 = (.lookupswitch 54 #[(0, 34), (20, 41), (30, 48)], 60, [], 0) by decide +kernel)).trans (congrArg (fun q => R (d + 1) 18 (q, [some (.ref 12), some (.int a1), some (.int a2), some (.int a3)], [], sl, (CH I A N V lt tw sp sr X))) (by decide +kernel))
set_option maxRecDepth 100000 in
theorem k18_r12_26_c30 (d sl : Nat) (I : Nat → Nat → Int32) (A : Nat → Nat → Int32) (N : Nat → Nat → Int64) (V : Nat → Nat → Option Nat) (lt : Int64) (tw : Option Nat) (sp sr : Nat) (X : List AC) (a1 : Int32) (a2 : Int32) (a3 : Int32)  :
  R (d + 1) 18 (26, [some (.ref 12), some (.int a1), some (.int a2), some (.int a3)], .int (nI 30) :: [], sl, (CH I A N V lt tw sp sr X)) = R (d + 1) 18 (74, [some (.ref 12), some (.int a1), some (.int a2), some (.int a3)], [], sl, (CH I A N V lt tw sp sr X)) :=
  (R_lsw (ps := [(0, 34), (20, 41), (30, 48)]) (show xk 18 26 = (.lookupswitch 54 #[(0, 34), (20, 41), (30, 48)], 60, [], 0) by decide +kernel)).trans (congrArg (fun q => R (d + 1) 18 (q, [some (.ref 12), some (.int a1), some (.int a2), some (.int a3)], [], sl, (CH I A N V lt tw sp sr X))) (by decide +kernel))
set_option maxRecDepth 100000 in
theorem k18_r12_19 (d sl : Nat) (I : Nat → Nat → Int32) (A : Nat → Nat → Int32) (N : Nat → Nat → Int64) (V : Nat → Nat → Option Nat) (lt : Int64) (tw : Option Nat) (sp sr : Nat) (X : List AC) (a1 : Int32) (a2 : Int32) (a3 : Int32) (b0 : Int32) :
  R (d + 1) 18 (19, [some (.ref 12), some (.int a1), some (.int a2), some (.int a3)], [.int b0], sl, (CH I A N V lt tw sp sr X)) =
    cond (!decide (b0 = (nI 0))) (R (d + 1) 18 (26, [some (.ref 12), some (.int a1), some (.int a2), some (.int a3)], [.int a1], sl, (CH I A N V lt tw sp sr X))) (some (24, [some (.ref 12), some (.int a1), some (.int a2), some (.int a3)], [.int (nI 9)], sl, (CH I A N V lt tw sp sr X))) :=
  (R_gob [5, 19, 26, 60, 66, 67, 73, 74, 79, 80, 86] 400 _ _ _).trans rfl
set_option maxRecDepth 100000 in
theorem k18_r12_80 (d sl : Nat) (I : Nat → Nat → Int32) (A : Nat → Nat → Int32) (N : Nat → Nat → Int64) (V : Nat → Nat → Option Nat) (lt : Int64) (tw : Option Nat) (sp sr : Nat) (X : List AC) (a1 : Int32) (a2 : Int32) (a3 : Int32) :
  R (d + 1) 18 (80, [some (.ref 12), some (.int a1), some (.int a2), some (.int a3)], [], sl, (CH I A N V lt tw sp sr X)) =
    bC (C d 74 [.ref 12, .int a2, .int a3] sl (CH I A N V lt tw sp sr X)) (fun vs sl h => R (d + 1) 18 (86, [some (.ref 12), some (.int a1), some (.int a2), some (.int a3)], vs ++ [], sl, h)) :=
  (R_gob [5, 19, 26, 60, 66, 67, 73, 74, 79, 80, 86] 400 _ _ _).trans rfl
set_option maxRecDepth 100000 in
theorem k18_r12_60 (d sl : Nat) (I : Nat → Nat → Int32) (A : Nat → Nat → Int32) (N : Nat → Nat → Int64) (V : Nat → Nat → Option Nat) (lt : Int64) (tw : Option Nat) (sp sr : Nat) (X : List AC) (a1 : Int32) (a2 : Int32) (a3 : Int32) :
  R (d + 1) 18 (60, [some (.ref 12), some (.int a1), some (.int a2), some (.int a3)], [], sl, (CH I A N V lt tw sp sr X)) =
    bC (C d 70 [.ref 12, .int a2, .int a3] sl (CH I A N V lt tw sp sr X)) (fun vs sl h => R (d + 1) 18 (66, [some (.ref 12), some (.int a1), some (.int a2), some (.int a3)], vs ++ [], sl, h)) :=
  (R_gob [5, 19, 26, 60, 66, 67, 73, 74, 79, 80, 86] 400 _ _ _).trans rfl
set_option maxRecDepth 100000 in
theorem k18_r12_67 (d sl : Nat) (I : Nat → Nat → Int32) (A : Nat → Nat → Int32) (N : Nat → Nat → Int64) (V : Nat → Nat → Option Nat) (lt : Int64) (tw : Option Nat) (sp sr : Nat) (X : List AC) (a1 : Int32) (a2 : Int32) (a3 : Int32) :
  R (d + 1) 18 (67, [some (.ref 12), some (.int a1), some (.int a2), some (.int a3)], [], sl, (CH I A N V lt tw sp sr X)) =
    bC (C d 72 [.ref 12, .int a2, .int a3] sl (CH I A N V lt tw sp sr X)) (fun vs sl h => R (d + 1) 18 (73, [some (.ref 12), some (.int a1), some (.int a2), some (.int a3)], vs ++ [], sl, h)) :=
  (R_gob [5, 19, 26, 60, 66, 67, 73, 74, 79, 80, 86] 400 _ _ _).trans rfl
set_option maxRecDepth 100000 in
theorem k18_r12_74 (d sl : Nat) (I : Nat → Nat → Int32) (A : Nat → Nat → Int32) (N : Nat → Nat → Int64) (V : Nat → Nat → Option Nat) (lt : Int64) (tw : Option Nat) (sp sr : Nat) (X : List AC) (a1 : Int32) (a2 : Int32) (a3 : Int32) :
  R (d + 1) 18 (74, [some (.ref 12), some (.int a1), some (.int a2), some (.int a3)], [], sl, (CH I A N V lt tw sp sr X)) =
    bC (C d 73 [.ref 12, .int a2] sl (CH I A N V lt tw sp sr X)) (fun vs sl h => R (d + 1) 18 (79, [some (.ref 12), some (.int a1), some (.int a2), some (.int a3)], vs ++ [], sl, h)) :=
  (R_gob [5, 19, 26, 60, 66, 67, 73, 74, 79, 80, 86] 400 _ _ _).trans rfl
set_option maxRecDepth 100000 in
theorem k18_r12_86 (d sl : Nat) (I : Nat → Nat → Int32) (A : Nat → Nat → Int32) (N : Nat → Nat → Int64) (V : Nat → Nat → Option Nat) (lt : Int64) (tw : Option Nat) (sp sr : Nat) (X : List AC) (a1 : Int32) (a2 : Int32) (a3 : Int32) (b0 : Int32) :
  R (d + 1) 18 (86, [some (.ref 12), some (.int a1), some (.int a2), some (.int a3)], [.int b0], sl, (CH I A N V lt tw sp sr X)) =
    some (86, [some (.ref 12), some (.int a1), some (.int a2), some (.int a3)], [.int b0], sl, (CH I A N V lt tw sp sr X)) :=
  (R_gob [5, 19, 26, 60, 66, 67, 73, 74, 79, 80, 86] 400 _ _ _).trans rfl
set_option maxRecDepth 100000 in
theorem k18_r12_66 (d sl : Nat) (I : Nat → Nat → Int32) (A : Nat → Nat → Int32) (N : Nat → Nat → Int64) (V : Nat → Nat → Option Nat) (lt : Int64) (tw : Option Nat) (sp sr : Nat) (X : List AC) (a1 : Int32) (a2 : Int32) (a3 : Int32) (b0 : Int32) :
  R (d + 1) 18 (66, [some (.ref 12), some (.int a1), some (.int a2), some (.int a3)], [.int b0], sl, (CH I A N V lt tw sp sr X)) =
    some (66, [some (.ref 12), some (.int a1), some (.int a2), some (.int a3)], [.int b0], sl, (CH I A N V lt tw sp sr X)) :=
  (R_gob [5, 19, 26, 60, 66, 67, 73, 74, 79, 80, 86] 400 _ _ _).trans rfl
set_option maxRecDepth 100000 in
theorem k18_r12_73 (d sl : Nat) (I : Nat → Nat → Int32) (A : Nat → Nat → Int32) (N : Nat → Nat → Int64) (V : Nat → Nat → Option Nat) (lt : Int64) (tw : Option Nat) (sp sr : Nat) (X : List AC) (a1 : Int32) (a2 : Int32) (a3 : Int32) (b0 : Int32) :
  R (d + 1) 18 (73, [some (.ref 12), some (.int a1), some (.int a2), some (.int a3)], [.int b0], sl, (CH I A N V lt tw sp sr X)) =
    some (73, [some (.ref 12), some (.int a1), some (.int a2), some (.int a3)], [.int b0], sl, (CH I A N V lt tw sp sr X)) :=
  (R_gob [5, 19, 26, 60, 66, 67, 73, 74, 79, 80, 86] 400 _ _ _).trans rfl
set_option maxRecDepth 100000 in
theorem k18_r12_79 (d sl : Nat) (I : Nat → Nat → Int32) (A : Nat → Nat → Int32) (N : Nat → Nat → Int64) (V : Nat → Nat → Option Nat) (lt : Int64) (tw : Option Nat) (sp sr : Nat) (X : List AC) (a1 : Int32) (a2 : Int32) (a3 : Int32) (b0 : Int32) :
  R (d + 1) 18 (79, [some (.ref 12), some (.int a1), some (.int a2), some (.int a3)], [.int b0], sl, (CH I A N V lt tw sp sr X)) =
    some (79, [some (.ref 12), some (.int a1), some (.int a2), some (.int a3)], [.int b0], sl, (CH I A N V lt tw sp sr X)) :=
  (R_gob [5, 19, 26, 60, 66, 67, 73, 74, 79, 80, 86] 400 _ _ _).trans rfl
set_option maxRecDepth 100000 in
theorem k47_r3_0 (d sl : Nat) (I : Nat → Nat → Int32) (A : Nat → Nat → Int32) (N : Nat → Nat → Int64) (V : Nat → Nat → Option Nat) (lt : Int64) (tw : Option Nat) (sp sr : Nat) (X : List AC) (a1 : Int64) :
  R d 47 (0, [some (.ref 3), some (.long a1), none, none], [], sl, (CH I A N V lt tw sp sr X)) =
    R d 47 (2, [some (.ref 3), some (.long a1), none, some (.int (nI 0))], [], sl, (CH I A N V lt tw sp sr X)) :=
  (R_gob [2] 400 _ _ _).trans rfl
set_option maxRecDepth 100000 in
theorem k47_r3_2 (d sl : Nat) (I : Nat → Nat → Int32) (A : Nat → Nat → Int32) (N : Nat → Nat → Int64) (V : Nat → Nat → Option Nat) (lt : Int64) (tw : Option Nat) (sp sr : Nat) (X : List AC) (a1 : Int64) (a3 : Int32) :
  R d 47 (2, [some (.ref 3), some (.long a1), none, some (.int a3)], [], sl, (CH I A N V lt tw sp sr X)) =
    cond (decide ((I 3 8) ≤ a3)) (some (30, [some (.ref 3), some (.long a1), none, some (.int a3)], [.int (-1 : Int32)], sl, (CH I A N V lt tw sp sr X))) (cond (x_in a3 6) (cond (!decide ((lg_cmp ((N 4) a3.toNatClampNeg) a1) = (nI 0))) (R d 47 (2, [some (.ref 3), some (.long a1), none, some (.int (a3 + (nI 1)))], [], sl, (CH I A N V lt tw sp sr X))) (some (22, [some (.ref 3), some (.long a1), none, some (.int a3)], [.int a3], sl, (CH I A N V lt tw sp sr X)))) none) :=
  (R_gob [2] 400 _ _ _).trans rfl
set_option maxRecDepth 100000 in
theorem k12_r1_r3_0 (d sl : Nat) (I : Nat → Nat → Int32) (A : Nat → Nat → Int32) (N : Nat → Nat → Int64) (V : Nat → Nat → Option Nat) (lt : Int64) (tw : Option Nat) (sp sr : Nat) (X : List AC) (a2 : Int32) :
  R (d + 1) 12 (0, [some (.ref 1), some (.ref 3), some (.int a2)], [], sl, (CH I A N V lt tw sp sr X)) =
    R (d + 1) 12 (1, [some (.ref 1), some (.ref 3), some (.int a2)], [.int a2], sl, (CH I A N V lt tw sp sr X)) :=
  (R_gob [1, 44, 51, 59] 400 _ _ _).trans rfl
set_option maxRecDepth 100000 in
theorem k12_r1_r3_1_out (d sl : Nat) (I : Nat → Nat → Int32) (A : Nat → Nat → Int32) (N : Nat → Nat → Int64) (V : Nat → Nat → Option Nat) (lt : Int64) (tw : Option Nat) (sp sr : Nat) (X : List AC) (a2 : Int32) (x : Int32) (hx : Op.lookupswitch.offset [(0, 35), (20, 44), (40, 51)] (59) x.toInt = (59)) :
  R (d + 1) 12 (1, [some (.ref 1), some (.ref 3), some (.int a2)], .int x :: [], sl, (CH I A N V lt tw sp sr X)) = R (d + 1) 12 (60, [some (.ref 1), some (.ref 3), some (.int a2)], [], sl, (CH I A N V lt tw sp sr X)) :=
  (R_lsw (ps := [(0, 35), (20, 44), (40, 51)]) (show xk 12 1 = (.lookupswitch 59 #[(0, 35), (20, 44), (40, 51)], 36, [], 0) by decide +kernel)).trans (congrArg (fun q => R (d + 1) 12 (q, [some (.ref 1), some (.ref 3), some (.int a2)], [], sl, (CH I A N V lt tw sp sr X))) ((congrArg (fun z => (((1 : Nat) : Int) + z).toNat) hx).trans (by decide +kernel)))
set_option maxRecDepth 100000 in
theorem k12_r1_r3_1_c0 (d sl : Nat) (I : Nat → Nat → Int32) (A : Nat → Nat → Int32) (N : Nat → Nat → Int64) (V : Nat → Nat → Option Nat) (lt : Int64) (tw : Option Nat) (sp sr : Nat) (X : List AC) (a2 : Int32)  :
  R (d + 1) 12 (1, [some (.ref 1), some (.ref 3), some (.int a2)], .int (nI 0) :: [], sl, (CH I A N V lt tw sp sr X)) = R (d + 1) 12 (36, [some (.ref 1), some (.ref 3), some (.int a2)], [], sl, (CH I A N V lt tw sp sr X)) :=
  (R_lsw (ps := [(0, 35), (20, 44), (40, 51)]) (show xk 12 1 = (.lookupswitch 59 #[(0, 35), (20, 44), (40, 51)], 36, [], 0) by decide +kernel)).trans (congrArg (fun q => R (d + 1) 12 (q, [some (.ref 1), some (.ref 3), some (.int a2)], [], sl, (CH I A N V lt tw sp sr X))) (by decide +kernel))
set_option maxRecDepth 100000 in
theorem k12_r1_r3_1_c20 (d sl : Nat) (I : Nat → Nat → Int32) (A : Nat → Nat → Int32) (N : Nat → Nat → Int64) (V : Nat → Nat → Option Nat) (lt : Int64) (tw : Option Nat) (sp sr : Nat) (X : List AC) (a2 : Int32)  :
  R (d + 1) 12 (1, [some (.ref 1), some (.ref 3), some (.int a2)], .int (nI 20) :: [], sl, (CH I A N V lt tw sp sr X)) = R (d + 1) 12 (45, [some (.ref 1), some (.ref 3), some (.int a2)], [], sl, (CH I A N V lt tw sp sr X)) :=
  (R_lsw (ps := [(0, 35), (20, 44), (40, 51)]) (show xk 12 1 = (.lookupswitch 59 #[(0, 35), (20, 44), (40, 51)], 36, [], 0) by decide +kernel)).trans (congrArg (fun q => R (d + 1) 12 (q, [some (.ref 1), some (.ref 3), some (.int a2)], [], sl, (CH I A N V lt tw sp sr X))) (by decide +kernel))
set_option maxRecDepth 100000 in
theorem k12_r1_r3_1_c40 (d sl : Nat) (I : Nat → Nat → Int32) (A : Nat → Nat → Int32) (N : Nat → Nat → Int64) (V : Nat → Nat → Option Nat) (lt : Int64) (tw : Option Nat) (sp sr : Nat) (X : List AC) (a2 : Int32)  :
  R (d + 1) 12 (1, [some (.ref 1), some (.ref 3), some (.int a2)], .int (nI 40) :: [], sl, (CH I A N V lt tw sp sr X)) = R (d + 1) 12 (52, [some (.ref 1), some (.ref 3), some (.int a2)], [], sl, (CH I A N V lt tw sp sr X)) :=
  (R_lsw (ps := [(0, 35), (20, 44), (40, 51)]) (show xk 12 1 = (.lookupswitch 59 #[(0, 35), (20, 44), (40, 51)], 36, [], 0) by decide +kernel)).trans (congrArg (fun q => R (d + 1) 12 (q, [some (.ref 1), some (.ref 3), some (.int a2)], [], sl, (CH I A N V lt tw sp sr X))) (by decide +kernel))
set_option maxRecDepth 100000 in
theorem k12_r1_r3_60 (d sl : Nat) (I : Nat → Nat → Int32) (A : Nat → Nat → Int32) (N : Nat → Nat → Int64) (V : Nat → Nat → Option Nat) (lt : Int64) (tw : Option Nat) (sp sr : Nat) (X : List AC) (a2 : Int32) :
  R (d + 1) 12 (60, [some (.ref 1), some (.ref 3), some (.int a2)], [], sl, (CH I A N V lt tw sp sr X)) =
    some (61, [some (.ref 1), some (.ref 3), some (.int a2)], [.int (nI 1)], sl, (CH I A N V lt tw sp sr X)) :=
  (R_gob [1, 36, 44, 45, 51, 52, 59, 60] 400 _ _ _).trans rfl
set_option maxRecDepth 100000 in
theorem k12_r1_r3_36 (d sl : Nat) (I : Nat → Nat → Int32) (A : Nat → Nat → Int32) (N : Nat → Nat → Int64) (V : Nat → Nat → Option Nat) (lt : Int64) (tw : Option Nat) (sp sr : Nat) (X : List AC) (a2 : Int32) :
  R (d + 1) 12 (36, [some (.ref 1), some (.ref 3), some (.int a2)], [], sl, (CH I A N V lt tw sp sr X)) =
    bC (C d 102 [.ref 1, .int (nI 1), .int (nI 999)] sl (CH I A N V lt tw sp sr X)) (fun vs sl h => R (d + 1) 12 (44, [some (.ref 1), some (.ref 3), some (.int a2)], vs ++ [], sl, h)) :=
  (R_gob [1, 36, 44, 45, 51, 52, 59, 60] 400 _ _ _).trans rfl
set_option maxRecDepth 100000 in
theorem k12_r1_r3_45 (d sl : Nat) (I : Nat → Nat → Int32) (A : Nat → Nat → Int32) (N : Nat → Nat → Int64) (V : Nat → Nat → Option Nat) (lt : Int64) (tw : Option Nat) (sp sr : Nat) (X : List AC) (a2 : Int32) :
  R (d + 1) 12 (45, [some (.ref 1), some (.ref 3), some (.int a2)], [], sl, (CH I A N V lt tw sp sr X)) =
    bC (C d 104 [.ref 1, .ref 3, .int (-1 : Int32)] sl (CH I A N V lt tw sp sr X)) (fun vs sl h => R (d + 1) 12 (51, [some (.ref 1), some (.ref 3), some (.int a2)], vs ++ [], sl, h)) :=
  (R_gob [1, 36, 44, 45, 51, 52, 59, 60] 400 _ _ _).trans rfl
set_option maxRecDepth 100000 in
theorem k12_r1_r3_52 (d sl : Nat) (I : Nat → Nat → Int32) (A : Nat → Nat → Int32) (N : Nat → Nat → Int64) (V : Nat → Nat → Option Nat) (lt : Int64) (tw : Option Nat) (sp sr : Nat) (X : List AC) (a2 : Int32) :
  R (d + 1) 12 (52, [some (.ref 1), some (.ref 3), some (.int a2)], [], sl, (CH I A N V lt tw sp sr X)) =
    bC (C d 102 [.ref 1, .int (nI 0), .int (nI 11)] sl (CH I A N V lt tw sp sr X)) (fun vs sl h => R (d + 1) 12 (59, [some (.ref 1), some (.ref 3), some (.int a2)], vs ++ [], sl, h)) :=
  (R_gob [1, 36, 44, 45, 51, 52, 59, 60] 400 _ _ _).trans rfl
set_option maxRecDepth 100000 in
theorem k12_r1_r3_44 (d sl : Nat) (I : Nat → Nat → Int32) (A : Nat → Nat → Int32) (N : Nat → Nat → Int64) (V : Nat → Nat → Option Nat) (lt : Int64) (tw : Option Nat) (sp sr : Nat) (X : List AC) (a2 : Int32) (b0 : Int32) :
  R (d + 1) 12 (44, [some (.ref 1), some (.ref 3), some (.int a2)], [.int b0], sl, (CH I A N V lt tw sp sr X)) =
    some (44, [some (.ref 1), some (.ref 3), some (.int a2)], [.int b0], sl, (CH I A N V lt tw sp sr X)) :=
  (R_gob [1, 36, 44, 45, 51, 52, 59, 60] 400 _ _ _).trans rfl
set_option maxRecDepth 100000 in
theorem k12_r1_r3_51 (d sl : Nat) (I : Nat → Nat → Int32) (A : Nat → Nat → Int32) (N : Nat → Nat → Int64) (V : Nat → Nat → Option Nat) (lt : Int64) (tw : Option Nat) (sp sr : Nat) (X : List AC) (a2 : Int32) (b0 : Int32) :
  R (d + 1) 12 (51, [some (.ref 1), some (.ref 3), some (.int a2)], [.int b0], sl, (CH I A N V lt tw sp sr X)) =
    some (51, [some (.ref 1), some (.ref 3), some (.int a2)], [.int b0], sl, (CH I A N V lt tw sp sr X)) :=
  (R_gob [1, 36, 44, 45, 51, 52, 59, 60] 400 _ _ _).trans rfl
set_option maxRecDepth 100000 in
theorem k12_r1_r3_59 (d sl : Nat) (I : Nat → Nat → Int32) (A : Nat → Nat → Int32) (N : Nat → Nat → Int64) (V : Nat → Nat → Option Nat) (lt : Int64) (tw : Option Nat) (sp sr : Nat) (X : List AC) (a2 : Int32) (b0 : Int32) :
  R (d + 1) 12 (59, [some (.ref 1), some (.ref 3), some (.int a2)], [.int b0], sl, (CH I A N V lt tw sp sr X)) =
    some (59, [some (.ref 1), some (.ref 3), some (.int a2)], [.int b0], sl, (CH I A N V lt tw sp sr X)) :=
  (R_gob [1, 36, 44, 45, 51, 52, 59, 60] 400 _ _ _).trans rfl
set_option maxRecDepth 100000 in
theorem k13_r101_r1_r3_0 (d sl : Nat) (I : Nat → Nat → Int32) (A : Nat → Nat → Int32) (N : Nat → Nat → Int64) (V : Nat → Nat → Option Nat) (lt : Int64) (tw : Option Nat) (sp sr : Nat) (X : List AC)  :
  R (d + 1) 13 (0, [some (.ref 101), some (.ref 1), some (.ref 3), none, none], [], sl, (CH I A N V lt tw sp sr X)) =
    bC (C d 104 [.ref 1, .ref 3, .int (-1 : Int32)] sl (CH I A N V lt tw sp sr X)) (fun vs sl h => R (d + 1) 13 (6, [some (.ref 101), some (.ref 1), some (.ref 3), none, none], vs ++ [], sl, h)) :=
  (R_gob [6, 23, 34, 51, 69] 400 _ _ _).trans rfl
set_option maxRecDepth 100000 in
theorem k13_r101_r1_r3_6 (d sl : Nat) (I : Nat → Nat → Int32) (A : Nat → Nat → Int32) (N : Nat → Nat → Int64) (V : Nat → Nat → Option Nat) (lt : Int64) (tw : Option Nat) (sp sr : Nat) (X : List AC) (b0 : Int32) :
  R (d + 1) 13 (6, [some (.ref 101), some (.ref 1), some (.ref 3), none, none], [.int b0], sl, (CH I A N V lt tw sp sr X)) =
    cond (!decide (b0 = (nI 0))) (bC (C d 101 [.ref 1, .ref 1000004] sl (CH I A N V lt tw sp sr X)) (fun vs sl h => R (d + 1) 13 (23, [some (.ref 101), some (.ref 1), some (.ref 3), some (.int (I 1 9)), none], vs ++ [], sl, h))) (some (10, [some (.ref 101), some (.ref 1), some (.ref 3), none, none], [.int (nI 0)], sl, (CH I A N V lt tw sp sr X))) :=
  (R_gob [6, 23, 34, 51, 69] 400 _ _ _).trans rfl
set_option maxRecDepth 100000 in
theorem k13_r101_r1_r3_23 (d sl : Nat) (I : Nat → Nat → Int32) (A : Nat → Nat → Int32) (N : Nat → Nat → Int64) (V : Nat → Nat → Option Nat) (lt : Int64) (tw : Option Nat) (sp sr : Nat) (X : List AC) (a3 : Int32) (b0 : Int32) :
  R (d + 1) 13 (23, [some (.ref 101), some (.ref 1), some (.ref 3), some (.int a3), none], [.int b0], sl, (CH I A N V lt tw sp sr X)) =
    cond (decide (b0 = (nI 0))) (some (38, [some (.ref 101), some (.ref 1), some (.ref 3), some (.int a3), none], [.int (nI 0)], sl, (CH I A N V lt tw sp sr X))) (bC (C d 102 [.ref 1, .int (nI 1), .int (nI 200)] sl (CH I A N V lt tw sp sr X)) (fun vs sl h => R (d + 1) 13 (34, [some (.ref 101), some (.ref 1), some (.ref 3), some (.int a3), none], vs ++ [], sl, h))) :=
  (R_gob [6, 23, 34, 51, 69] 400 _ _ _).trans rfl
set_option maxRecDepth 100000 in
theorem k13_r101_r1_r3_34 (d sl : Nat) (I : Nat → Nat → Int32) (A : Nat → Nat → Int32) (N : Nat → Nat → Int64) (V : Nat → Nat → Option Nat) (lt : Int64) (tw : Option Nat) (sp sr : Nat) (X : List AC) (a3 : Int32) (b0 : Int32) :
  R (d + 1) 13 (34, [some (.ref 101), some (.ref 1), some (.ref 3), some (.int a3), none], [.int b0], sl, (CH I A N V lt tw sp sr X)) =
    cond (!decide (b0 = (nI 0))) (bC (C d 104 [.ref 1, .ref 3, .int a3] sl (CH I A N V lt tw sp sr X)) (fun vs sl h => R (d + 1) 13 (51, [some (.ref 101), some (.ref 1), some (.ref 3), some (.int a3), some (.int (I 1 9))], vs ++ [], sl, h))) (some (38, [some (.ref 101), some (.ref 1), some (.ref 3), some (.int a3), none], [.int (nI 0)], sl, (CH I A N V lt tw sp sr X))) :=
  (R_gob [6, 23, 34, 51, 69] 400 _ _ _).trans rfl
set_option maxRecDepth 100000 in
theorem k13_r101_r1_r3_51 (d sl : Nat) (I : Nat → Nat → Int32) (A : Nat → Nat → Int32) (N : Nat → Nat → Int64) (V : Nat → Nat → Option Nat) (lt : Int64) (tw : Option Nat) (sp sr : Nat) (X : List AC) (a3 : Int32) (a4 : Int32) (b0 : Int32) :
  R (d + 1) 13 (51, [some (.ref 101), some (.ref 1), some (.ref 3), some (.int a3), some (.int a4)], [.int b0], sl, (CH I A N V lt tw sp sr X)) =
    cond (!decide (b0 = (nI 0))) (bC (C d 14 [.ref 101, .int (nI 10), .int a3, .int (I 1 9), .int a4] sl (CH I A N V lt tw sp sr X)) (fun vs sl h => R (d + 1) 13 (69, [some (.ref 101), some (.ref 1), some (.ref 3), some (.int a3), some (.int a4)], vs ++ [], sl, h))) (some (55, [some (.ref 101), some (.ref 1), some (.ref 3), some (.int a3), some (.int a4)], [.int (nI 0)], sl, (CH I A N V lt tw sp sr X))) :=
  (R_gob [6, 23, 34, 51, 69] 400 _ _ _).trans rfl
set_option maxRecDepth 100000 in
theorem k13_r101_r1_r3_69 (d sl : Nat) (I : Nat → Nat → Int32) (A : Nat → Nat → Int32) (N : Nat → Nat → Int64) (V : Nat → Nat → Option Nat) (lt : Int64) (tw : Option Nat) (sp sr : Nat) (X : List AC) (a3 : Int32) (a4 : Int32) :
  R (d + 1) 13 (69, [some (.ref 101), some (.ref 1), some (.ref 3), some (.int a3), some (.int a4)], [], sl, (CH I A N V lt tw sp sr X)) =
    some (70, [some (.ref 101), some (.ref 1), some (.ref 3), some (.int a3), some (.int a4)], [.int (nI 1)], sl, (CH I A N V lt tw sp sr X)) :=
  (R_gob [6, 23, 34, 51, 69] 400 _ _ _).trans rfl
set_option maxRecDepth 100000 in
theorem k14_r101_0 (d sl : Nat) (I : Nat → Nat → Int32) (A : Nat → Nat → Int32) (N : Nat → Nat → Int64) (V : Nat → Nat → Option Nat) (lt : Int64) (tw : Option Nat) (sp sr : Nat) (X : List AC) (a1 : Int32) (a2 : Int32) (a3 : Int32) (a4 : Int32) :
  R d 14 (0, [some (.ref 101), some (.int a1), some (.int a2), some (.int a3), some (.int a4)], [], sl, (CH I A N V lt tw sp sr X)) =
    cond (decide ((nI 40) ≤ (I 101 4))) (some (60, [some (.ref 101), some (.int a1), some (.int a2), some (.int a3), some (.int a4)], [], sl, (CH I A N V lt tw sp sr X))) (cond (x_in (I 101 4) 40) (cond (x_in (I 101 4) 40) (cond (x_in (I 101 4) 40) (cond (x_in (I 101 4) 40) (some (60, [some (.ref 101), some (.int a1), some (.int a2), some (.int a3), some (.int a4)], [], sl, (CH (up1 I 101 (up1 (I 101) 4 ((I 101 4) + (nI 1)))) (up1 (up1 (up1 (up1 A 102 (upd (A 102) (I 101 4).toNatClampNeg a1)) 103 (upd (A 103) (I 101 4).toNatClampNeg a2)) 104 (upd (A 104) (I 101 4).toNatClampNeg a3)) 105 (upd (A 105) (I 101 4).toNatClampNeg a4)) N V lt tw sp sr X))) none) none) none) none) :=
  (R_gob [] 400 _ _ _).trans rfl
set_option maxRecDepth 100000 in
theorem k102_r1_0 (d sl : Nat) (I : Nat → Nat → Int32) (A : Nat → Nat → Int32) (N : Nat → Nat → Int64) (V : Nat → Nat → Option Nat) (lt : Int64) (tw : Option Nat) (sp sr : Nat) (X : List AC) (a1 : Int32) (a2 : Int32) :
  R (d + 1) 102 (0, [some (.ref 1), some (.int a1), some (.int a2)], [], sl, (CH I A N V lt tw sp sr X)) =
    cond (decide ((I 1 4) = (nI 4))) (cond (decide ((I 1 8) < a1)) (bC (C d 97 [.ref 1, .int (nI 2)] sl (CH I A N V lt tw sp sr X)) (fun vs sl h => R (d + 1) 102 (35, [some (.ref 1), some (.int a1), some (.int a2)], vs ++ [], sl, h))) (cond (decide ((I 1 8) ≤ a2)) (bC (C d 90 [.ref 1] sl (CH (up1 I 1 (up1 (I 1) 9 (I 1 8))) A N V lt tw sp sr X)) (fun vs sl h => R (d + 1) 102 (48, [some (.ref 1), some (.int a1), some (.int a2)], vs ++ [], sl, h))) (bC (C d 97 [.ref 1, .int (nI 2)] sl (CH I A N V lt tw sp sr X)) (fun vs sl h => R (d + 1) 102 (35, [some (.ref 1), some (.int a1), some (.int a2)], vs ++ [], sl, h))))) (bC (C d 97 [.ref 1, .int (nI 1)] sl (CH I A N V lt tw sp sr X)) (fun vs sl h => R (d + 1) 102 (13, [some (.ref 1), some (.int a1), some (.int a2)], vs ++ [], sl, h))) :=
  (R_gob [13, 35, 48] 400 _ _ _).trans rfl
set_option maxRecDepth 100000 in
theorem k102_r1_35 (d sl : Nat) (I : Nat → Nat → Int32) (A : Nat → Nat → Int32) (N : Nat → Nat → Int64) (V : Nat → Nat → Option Nat) (lt : Int64) (tw : Option Nat) (sp sr : Nat) (X : List AC) (a1 : Int32) (a2 : Int32) (b0 : Int32) :
  R (d + 1) 102 (35, [some (.ref 1), some (.int a1), some (.int a2)], [.int b0], sl, (CH I A N V lt tw sp sr X)) =
    some (35, [some (.ref 1), some (.int a1), some (.int a2)], [.int b0], sl, (CH I A N V lt tw sp sr X)) :=
  (R_gob [13, 35, 48] 400 _ _ _).trans rfl
set_option maxRecDepth 100000 in
theorem k102_r1_48 (d sl : Nat) (I : Nat → Nat → Int32) (A : Nat → Nat → Int32) (N : Nat → Nat → Int64) (V : Nat → Nat → Option Nat) (lt : Int64) (tw : Option Nat) (sp sr : Nat) (X : List AC) (a1 : Int32) (a2 : Int32) :
  R (d + 1) 102 (48, [some (.ref 1), some (.int a1), some (.int a2)], [], sl, (CH I A N V lt tw sp sr X)) =
    some (49, [some (.ref 1), some (.int a1), some (.int a2)], [.int (nI 1)], sl, (CH I A N V lt tw sp sr X)) :=
  (R_gob [13, 35, 48] 400 _ _ _).trans rfl
set_option maxRecDepth 100000 in
theorem k102_r1_13 (d sl : Nat) (I : Nat → Nat → Int32) (A : Nat → Nat → Int32) (N : Nat → Nat → Int64) (V : Nat → Nat → Option Nat) (lt : Int64) (tw : Option Nat) (sp sr : Nat) (X : List AC) (a1 : Int32) (a2 : Int32) (b0 : Int32) :
  R (d + 1) 102 (13, [some (.ref 1), some (.int a1), some (.int a2)], [.int b0], sl, (CH I A N V lt tw sp sr X)) =
    some (13, [some (.ref 1), some (.int a1), some (.int a2)], [.int b0], sl, (CH I A N V lt tw sp sr X)) :=
  (R_gob [13, 35, 48] 400 _ _ _).trans rfl
set_option maxRecDepth 100000 in
theorem k95_r1_0 (d sl : Nat) (I : Nat → Nat → Int32) (A : Nat → Nat → Int32) (N : Nat → Nat → Int64) (V : Nat → Nat → Option Nat) (lt : Int64) (tw : Option Nat) (sp sr : Nat) (X : List AC)  :
  R d 95 (0, [some (.ref 1)], [], sl, (CH I A N V lt tw sp sr X)) =
    cond (!decide ((I 1 4) = (nI 3))) (some (13, [some (.ref 1)], [.int (nI 0)], sl, (CH I A N V lt tw sp sr X))) (some (13, [some (.ref 1)], [.int (nI 1)], sl, (CH I A N V lt tw sp sr X))) :=
  (R_gob [] 400 _ _ _).trans rfl
set_option maxRecDepth 100000 in
theorem k11_0 (d sl : Nat) (I : Nat → Nat → Int32) (A : Nat → Nat → Int32) (N : Nat → Nat → Int64) (V : Nat → Nat → Option Nat) (lt : Int64) (tw : Option Nat) (sp sr : Nat) (X : List AC) (a0 : Nat) :
  R d 11 (0, [some (.ref a0)], [], sl, (CH I A N V lt tw sp sr X)) =
    R d 11 (4, [some (.ref a0)], [.ref 1000003, .ref a0], sl, (CH I A N V lt tw sp sr X)) :=
  (R_gob [4] 400 _ _ _).trans rfl
set_option maxRecDepth 100000 in
theorem k11_4 (d sl : Nat) (I : Nat → Nat → Int32) (A : Nat → Nat → Int32) (N : Nat → Nat → Int64) (V : Nat → Nat → Option Nat) (lt : Int64) (tw : Option Nat) (sp sr : Nat) (X : List AC) (a0 : Nat) (b1 : Nat) (h_b1 : x_isw b1 = true) :
  R d 11 (4, [some (.ref a0)], [.ref 1000003, .ref b1], sl, (CH I A N V lt tw sp sr X)) =
    cond (!(Nat.beq b1 1000003)) (R d 11 (9, [some (.ref a0)], [], sl, (CH I A N V lt tw sp sr X))) (R d 11 (7, [some (.ref a0)], [], sl, (CH I A N V lt tw sp sr X))) :=
  R_acne (show xk 11 4 = (.if_acmp .ne 5, 7, [9], 0) by decide +kernel) h_b1 (by decide)
set_option maxRecDepth 100000 in
theorem k11_9 (d sl : Nat) (I : Nat → Nat → Int32) (A : Nat → Nat → Int32) (N : Nat → Nat → Int64) (V : Nat → Nat → Option Nat) (lt : Int64) (tw : Option Nat) (sp sr : Nat) (X : List AC) (a0 : Nat) :
  R d 11 (9, [some (.ref a0)], [], sl, (CH I A N V lt tw sp sr X)) =
    R d 11 (13, [some (.ref a0)], [.ref 1000005, .ref a0], sl, (CH I A N V lt tw sp sr X)) :=
  (R_gob [4, 7, 9, 13] 400 _ _ _).trans rfl
set_option maxRecDepth 100000 in
theorem k11_7 (d sl : Nat) (I : Nat → Nat → Int32) (A : Nat → Nat → Int32) (N : Nat → Nat → Int64) (V : Nat → Nat → Option Nat) (lt : Int64) (tw : Option Nat) (sp sr : Nat) (X : List AC) (a0 : Nat) :
  R d 11 (7, [some (.ref a0)], [], sl, (CH I A N V lt tw sp sr X)) =
    some (8, [some (.ref a0)], [.int (nI 0)], sl, (CH I A N V lt tw sp sr X)) :=
  (R_gob [4, 7, 9, 13] 400 _ _ _).trans rfl
set_option maxRecDepth 100000 in
theorem k11_13 (d sl : Nat) (I : Nat → Nat → Int32) (A : Nat → Nat → Int32) (N : Nat → Nat → Int64) (V : Nat → Nat → Option Nat) (lt : Int64) (tw : Option Nat) (sp sr : Nat) (X : List AC) (a0 : Nat) (b1 : Nat) (h_b1 : x_isw b1 = true) :
  R d 11 (13, [some (.ref a0)], [.ref 1000005, .ref b1], sl, (CH I A N V lt tw sp sr X)) =
    cond (!(Nat.beq b1 1000005)) (R d 11 (19, [some (.ref a0)], [], sl, (CH I A N V lt tw sp sr X))) (R d 11 (16, [some (.ref a0)], [], sl, (CH I A N V lt tw sp sr X))) :=
  R_acne (show xk 11 13 = (.if_acmp .ne 6, 16, [19], 0) by decide +kernel) h_b1 (by decide)
set_option maxRecDepth 100000 in
theorem k11_19 (d sl : Nat) (I : Nat → Nat → Int32) (A : Nat → Nat → Int32) (N : Nat → Nat → Int64) (V : Nat → Nat → Option Nat) (lt : Int64) (tw : Option Nat) (sp sr : Nat) (X : List AC) (a0 : Nat) :
  R d 11 (19, [some (.ref a0)], [], sl, (CH I A N V lt tw sp sr X)) =
    R d 11 (23, [some (.ref a0)], [.ref 1000006, .ref a0], sl, (CH I A N V lt tw sp sr X)) :=
  (R_gob [4, 7, 9, 13, 16, 19, 23] 400 _ _ _).trans rfl
set_option maxRecDepth 100000 in
theorem k11_16 (d sl : Nat) (I : Nat → Nat → Int32) (A : Nat → Nat → Int32) (N : Nat → Nat → Int64) (V : Nat → Nat → Option Nat) (lt : Int64) (tw : Option Nat) (sp sr : Nat) (X : List AC) (a0 : Nat) :
  R d 11 (16, [some (.ref a0)], [], sl, (CH I A N V lt tw sp sr X)) =
    some (18, [some (.ref a0)], [.int (nI 20)], sl, (CH I A N V lt tw sp sr X)) :=
  (R_gob [4, 7, 9, 13, 16, 19, 23] 400 _ _ _).trans rfl
set_option maxRecDepth 100000 in
theorem k11_23 (d sl : Nat) (I : Nat → Nat → Int32) (A : Nat → Nat → Int32) (N : Nat → Nat → Int64) (V : Nat → Nat → Option Nat) (lt : Int64) (tw : Option Nat) (sp sr : Nat) (X : List AC) (a0 : Nat) (b1 : Nat) (h_b1 : x_isw b1 = true) :
  R d 11 (23, [some (.ref a0)], [.ref 1000006, .ref b1], sl, (CH I A N V lt tw sp sr X)) =
    cond (!(Nat.beq b1 1000006)) (R d 11 (29, [some (.ref a0)], [], sl, (CH I A N V lt tw sp sr X))) (R d 11 (26, [some (.ref a0)], [], sl, (CH I A N V lt tw sp sr X))) :=
  R_acne (show xk 11 23 = (.if_acmp .ne 6, 26, [29], 0) by decide +kernel) h_b1 (by decide)
set_option maxRecDepth 100000 in
theorem k11_29 (d sl : Nat) (I : Nat → Nat → Int32) (A : Nat → Nat → Int32) (N : Nat → Nat → Int64) (V : Nat → Nat → Option Nat) (lt : Int64) (tw : Option Nat) (sp sr : Nat) (X : List AC) (a0 : Nat) :
  R d 11 (29, [some (.ref a0)], [], sl, (CH I A N V lt tw sp sr X)) =
    R d 11 (33, [some (.ref a0)], [.ref 1000007, .ref a0], sl, (CH I A N V lt tw sp sr X)) :=
  (R_gob [4, 7, 9, 13, 16, 19, 23, 26, 29, 33] 400 _ _ _).trans rfl
set_option maxRecDepth 100000 in
theorem k11_26 (d sl : Nat) (I : Nat → Nat → Int32) (A : Nat → Nat → Int32) (N : Nat → Nat → Int64) (V : Nat → Nat → Option Nat) (lt : Int64) (tw : Option Nat) (sp sr : Nat) (X : List AC) (a0 : Nat) :
  R d 11 (26, [some (.ref a0)], [], sl, (CH I A N V lt tw sp sr X)) =
    some (28, [some (.ref a0)], [.int (nI 30)], sl, (CH I A N V lt tw sp sr X)) :=
  (R_gob [4, 7, 9, 13, 16, 19, 23, 26, 29, 33] 400 _ _ _).trans rfl
set_option maxRecDepth 100000 in
theorem k11_33 (d sl : Nat) (I : Nat → Nat → Int32) (A : Nat → Nat → Int32) (N : Nat → Nat → Int64) (V : Nat → Nat → Option Nat) (lt : Int64) (tw : Option Nat) (sp sr : Nat) (X : List AC) (a0 : Nat) (b1 : Nat) (h_b1 : x_isw b1 = true) :
  R d 11 (33, [some (.ref a0)], [.ref 1000007, .ref b1], sl, (CH I A N V lt tw sp sr X)) =
    cond (!(Nat.beq b1 1000007)) (R d 11 (39, [some (.ref a0)], [], sl, (CH I A N V lt tw sp sr X))) (R d 11 (36, [some (.ref a0)], [], sl, (CH I A N V lt tw sp sr X))) :=
  R_acne (show xk 11 33 = (.if_acmp .ne 6, 36, [39], 0) by decide +kernel) h_b1 (by decide)
set_option maxRecDepth 100000 in
theorem k11_39 (d sl : Nat) (I : Nat → Nat → Int32) (A : Nat → Nat → Int32) (N : Nat → Nat → Int64) (V : Nat → Nat → Option Nat) (lt : Int64) (tw : Option Nat) (sp sr : Nat) (X : List AC) (a0 : Nat) :
  R d 11 (39, [some (.ref a0)], [], sl, (CH I A N V lt tw sp sr X)) =
    R d 11 (43, [some (.ref a0)], [.ref 1000008, .ref a0], sl, (CH I A N V lt tw sp sr X)) :=
  (R_gob [4, 7, 9, 13, 16, 19, 23, 26, 29, 33, 36, 39, 43] 400 _ _ _).trans rfl
set_option maxRecDepth 100000 in
theorem k11_36 (d sl : Nat) (I : Nat → Nat → Int32) (A : Nat → Nat → Int32) (N : Nat → Nat → Int64) (V : Nat → Nat → Option Nat) (lt : Int64) (tw : Option Nat) (sp sr : Nat) (X : List AC) (a0 : Nat) :
  R d 11 (36, [some (.ref a0)], [], sl, (CH I A N V lt tw sp sr X)) =
    some (38, [some (.ref a0)], [.int (nI 40)], sl, (CH I A N V lt tw sp sr X)) :=
  (R_gob [4, 7, 9, 13, 16, 19, 23, 26, 29, 33, 36, 39, 43] 400 _ _ _).trans rfl
set_option maxRecDepth 100000 in
theorem k11_43 (d sl : Nat) (I : Nat → Nat → Int32) (A : Nat → Nat → Int32) (N : Nat → Nat → Int64) (V : Nat → Nat → Option Nat) (lt : Int64) (tw : Option Nat) (sp sr : Nat) (X : List AC) (a0 : Nat) (b1 : Nat) (h_b1 : x_isw b1 = true) :
  R d 11 (43, [some (.ref a0)], [.ref 1000008, .ref b1], sl, (CH I A N V lt tw sp sr X)) =
    cond (!(Nat.beq b1 1000008)) (R d 11 (51, [some (.ref a0)], [], sl, (CH I A N V lt tw sp sr X))) (R d 11 (46, [some (.ref a0)], [], sl, (CH I A N V lt tw sp sr X))) :=
  R_acne (show xk 11 43 = (.if_acmp .ne 8, 46, [51], 0) by decide +kernel) h_b1 (by decide)
set_option maxRecDepth 100000 in
theorem k11_51 (d sl : Nat) (I : Nat → Nat → Int32) (A : Nat → Nat → Int32) (N : Nat → Nat → Int64) (V : Nat → Nat → Option Nat) (lt : Int64) (tw : Option Nat) (sp sr : Nat) (X : List AC) (a0 : Nat) :
  R d 11 (51, [some (.ref a0)], [], sl, (CH I A N V lt tw sp sr X)) =
    some (52, [some (.ref a0)], [.int (-1 : Int32)], sl, (CH I A N V lt tw sp sr X)) :=
  (R_gob [4, 7, 9, 13, 16, 19, 23, 26, 29, 33, 36, 39, 43, 46, 51] 400 _ _ _).trans rfl
set_option maxRecDepth 100000 in
theorem k11_46 (d sl : Nat) (I : Nat → Nat → Int32) (A : Nat → Nat → Int32) (N : Nat → Nat → Int64) (V : Nat → Nat → Option Nat) (lt : Int64) (tw : Option Nat) (sp sr : Nat) (X : List AC) (a0 : Nat) :
  R d 11 (46, [some (.ref a0)], [], sl, (CH I A N V lt tw sp sr X)) =
    some (52, [some (.ref a0)], [.int (nI 50)], sl, (CH I A N V lt tw sp sr X)) :=
  (R_gob [4, 7, 9, 13, 16, 19, 23, 26, 29, 33, 36, 39, 43, 46, 51] 400 _ _ _).trans rfl
set_option maxRecDepth 100000 in
theorem k11_n_0 (d sl : Nat) (I : Nat → Nat → Int32) (A : Nat → Nat → Int32) (N : Nat → Nat → Int64) (V : Nat → Nat → Option Nat) (lt : Int64) (tw : Option Nat) (sp sr : Nat) (X : List AC)  :
  R d 11 (0, [some (.null)], [], sl, (CH I A N V lt tw sp sr X)) =
    some (52, [some (.null)], [.int (-1 : Int32)], sl, (CH I A N V lt tw sp sr X)) :=
  (R_gob [] 400 _ _ _).trans rfl
set_option maxRecDepth 100000 in
theorem k39_r146_v0_0 (d sl : Nat) (I : Nat → Nat → Int32) (A : Nat → Nat → Int32) (N : Nat → Nat → Int64) (V : Nat → Nat → Option Nat) (lt : Int64) (tw : Option Nat) (a1 : Int32) (x0_3 : Int32) :
  R (d + 1) 39 (0, [some (.ref 146), some (.int a1), none], [], sl, (CH I A N V lt tw 108 112 [.inr (5, [.ref 1, .ref 3, .ref 112, .int x0_3])])) =
    bC (C d 40 [.ref 146] sl (CH I A N V lt tw 108 112 [.inr (5, [.ref 1, .ref 3, .ref 112, .int x0_3])])) (fun vs sl h => R (d + 1) 39 (4, [some (.ref 146), some (.int a1), none], vs ++ [], sl, h)) :=
  (R_gob [4, 15, 39, 50, 65, 76, 88, 111, 128, 135] 400 _ _ _).trans rfl
set_option maxRecDepth 100000 in
theorem k39_r146_v0_4 (d sl : Nat) (I : Nat → Nat → Int32) (A : Nat → Nat → Int32) (N : Nat → Nat → Int64) (V : Nat → Nat → Option Nat) (lt : Int64) (tw : Option Nat) (a1 : Int32) (b0 : Int32) (x0_3 : Int32) :
  R (d + 1) 39 (4, [some (.ref 146), some (.int a1), none], [.int b0], sl, (CH I A N V lt tw 108 112 [.inr (5, [.ref 1, .ref 3, .ref 112, .int x0_3])])) =
    cond (!decide (b0 = (nI 0))) (cond (decide ((nI 20) ≤ x0_3)) (bC (C d 97 [.ref 1, .int (nI 4)] sl (CH I A N V lt tw 108 112 [.inr (5, [.ref 1, .ref 3, .ref 112, .int x0_3])])) (fun vs sl h => R (d + 1) 39 (39, [some (.ref 146), some (.int a1), none], vs ++ [], sl, h))) (cond (decide (a1 ≤ (nI 8))) (R (d + 1) 39 (50, [some (.ref 146), some (.int a1), none], [], sl, (CH I A N V lt tw 108 112 [.inr (5, [.ref 1, .ref 3, .ref 112, .int (x0_3 + (nI 1))])]))) (bC (C d 97 [.ref 1, .int (nI 4)] sl (CH I A N V lt tw 108 112 [.inr (5, [.ref 1, .ref 3, .ref 112, .int x0_3])])) (fun vs sl h => R (d + 1) 39 (39, [some (.ref 146), some (.int a1), none], vs ++ [], sl, h))))) (bC (C d 97 [.ref 1, .int (nI 1)] sl (CH I A N V lt tw 108 112 [.inr (5, [.ref 1, .ref 3, .ref 112, .int x0_3])])) (fun vs sl h => R (d + 1) 39 (15, [some (.ref 146), some (.int a1), none], vs ++ [], sl, h))) :=
  (R_gob [4, 15, 39, 50, 65, 76, 88, 111, 128, 135] 400 _ _ _).trans rfl
set_option maxRecDepth 100000 in
theorem k39_r146_v0_39 (d sl : Nat) (I : Nat → Nat → Int32) (A : Nat → Nat → Int32) (N : Nat → Nat → Int64) (V : Nat → Nat → Option Nat) (lt : Int64) (tw : Option Nat) (a1 : Int32) (b0 : Int32) (x0_3 : Int32) :
  R (d + 1) 39 (39, [some (.ref 146), some (.int a1), none], [.int b0], sl, (CH I A N V lt tw 108 112 [.inr (5, [.ref 1, .ref 3, .ref 112, .int x0_3])])) =
    some (39, [some (.ref 146), some (.int a1), none], [.int b0], sl, (CH I A N V lt tw 108 112 [.inr (5, [.ref 1, .ref 3, .ref 112, .int x0_3])])) :=
  (R_gob [4, 15, 39, 50, 65, 76, 88, 111, 128, 135] 400 _ _ _).trans rfl
set_option maxRecDepth 100000 in
theorem k39_r146_v0_15 (d sl : Nat) (I : Nat → Nat → Int32) (A : Nat → Nat → Int32) (N : Nat → Nat → Int64) (V : Nat → Nat → Option Nat) (lt : Int64) (tw : Option Nat) (a1 : Int32) (b0 : Int32) (x0_3 : Int32) :
  R (d + 1) 39 (15, [some (.ref 146), some (.int a1), none], [.int b0], sl, (CH I A N V lt tw 108 112 [.inr (5, [.ref 1, .ref 3, .ref 112, .int x0_3])])) =
    some (15, [some (.ref 146), some (.int a1), none], [.int b0], sl, (CH I A N V lt tw 108 112 [.inr (5, [.ref 1, .ref 3, .ref 112, .int x0_3])])) :=
  (R_gob [4, 15, 39, 50, 65, 76, 88, 111, 128, 135] 400 _ _ _).trans rfl
set_option maxRecDepth 100000 in
theorem k39_r146_v0_50 (d sl : Nat) (I : Nat → Nat → Int32) (A : Nat → Nat → Int32) (N : Nat → Nat → Int64) (V : Nat → Nat → Option Nat) (lt : Int64) (a1 : Int32) (x0_3 : Int32) :
  R (d + 1) 39 (50, [some (.ref 146), some (.int a1), none], [], sl, (CH I A N V lt none 108 112 [.inr (5, [.ref 1, .ref 3, .ref 112, .int x0_3])])) =
    bC (C d 90 [.ref 1] sl (CH I A N V lt none 108 112 [.inr (5, [.ref 1, .ref 3, .ref 112, .int x0_3])])) (fun vs sl h => R (d + 1) 39 (65, [some (.ref 146), some (.int a1), some (.null)], vs ++ [], sl, h)) :=
  (R_gob [4, 15, 39, 50, 65, 76, 88, 111, 128, 135] 400 _ _ _).trans rfl
set_option maxRecDepth 100000 in
theorem k39_r146_v0_50_1 (d sl : Nat) (I : Nat → Nat → Int32) (A : Nat → Nat → Int32) (N : Nat → Nat → Int64) (V : Nat → Nat → Option Nat) (lt : Int64) (tw : Nat) (a1 : Int32) (x0_3 : Int32) :
  R (d + 1) 39 (50, [some (.ref 146), some (.int a1), none], [], sl, (CH I A N V lt (some tw) 108 112 [.inr (5, [.ref 1, .ref 3, .ref 112, .int x0_3])])) =
    bC (C d 90 [.ref 1] sl (CH I A N V lt (some tw) 108 112 [.inr (5, [.ref 1, .ref 3, .ref 112, .int x0_3])])) (fun vs sl h => R (d + 1) 39 (65, [some (.ref 146), some (.int a1), some (.ref tw)], vs ++ [], sl, h)) :=
  (R_gob [4, 15, 39, 50, 65, 76, 88, 111, 128, 135] 400 _ _ _).trans rfl
set_option maxRecDepth 100000 in
theorem k39_r146_v0_65 (d sl : Nat) (I : Nat → Nat → Int32) (A : Nat → Nat → Int32) (N : Nat → Nat → Int64) (V : Nat → Nat → Option Nat) (lt : Int64) (tw : Option Nat) (a1 : Int32) (x0_3 : Int32) :
  R (d + 1) 39 (65, [some (.ref 146), some (.int a1), some (.null)], [], sl, (CH I A N V lt tw 108 112 [.inr (5, [.ref 1, .ref 3, .ref 112, .int x0_3])])) =
    bC (C d 37 [.ref 146, .int (a1 + (nI 1))] sl (CH I A N V lt tw 108 112 [.inr (5, [.ref 1, .ref 3, .ref 112, .int x0_3])])) (fun vs sl h => R (d + 1) 39 (76, [some (.ref 146), some (.int a1), some (.null)], vs ++ [], sl, h)) :=
  (R_gob [4, 15, 39, 50, 65, 76, 88, 111, 128, 135] 400 _ _ _).trans rfl
set_option maxRecDepth 100000 in
theorem k39_r146_v0_65_1 (d sl : Nat) (I : Nat → Nat → Int32) (A : Nat → Nat → Int32) (N : Nat → Nat → Int64) (V : Nat → Nat → Option Nat) (lt : Int64) (tw : Option Nat) (a1 : Int32) (a2 : Nat) (x0_3 : Int32) :
  R (d + 1) 39 (65, [some (.ref 146), some (.int a1), some (.ref a2)], [], sl, (CH I A N V lt tw 108 112 [.inr (5, [.ref 1, .ref 3, .ref 112, .int x0_3])])) =
    R (d + 1) 39 (101, [some (.ref 146), some (.int a1), some (.ref a2)], [.ref 1000011, .ref a2], sl, (CH I A N V lt tw 108 112 [.inr (5, [.ref 1, .ref 3, .ref 112, .int x0_3])])) :=
  (R_gob [4, 15, 39, 50, 65, 76, 88, 101, 111, 128, 135] 400 _ _ _).trans rfl
set_option maxRecDepth 100000 in
theorem k39_r146_v0_76 (d sl : Nat) (I : Nat → Nat → Int32) (A : Nat → Nat → Int32) (N : Nat → Nat → Int64) (V : Nat → Nat → Option Nat) (lt : Int64) (tw : Option Nat) (a1 : Int32) (b0 : Int32) (x0_3 : Int32) :
  R (d + 1) 39 (76, [some (.ref 146), some (.int a1), some (.null)], [.int b0], sl, (CH I A N V lt tw 108 112 [.inr (5, [.ref 1, .ref 3, .ref 112, .int x0_3])])) =
    cond (decide (b0 = (nI 0))) (some (96, [some (.ref 146), some (.int a1), some (.null)], [.int (nI 0)], sl, (CH I A N V lt tw 108 112 [.inr (5, [.ref 1, .ref 3, .ref 112, .int x0_3])]))) (bC (C d 98 [.ref 1, .int (nI 41)] sl (CH I A N V lt tw 108 112 [.inr (5, [.ref 1, .ref 3, .ref 112, .int x0_3])])) (fun vs sl h => R (d + 1) 39 (88, [some (.ref 146), some (.int a1), some (.null)], vs ++ [], sl, h))) :=
  (R_gob [4, 15, 39, 50, 65, 76, 88, 101, 111, 128, 135] 400 _ _ _).trans rfl
set_option maxRecDepth 100000 in
theorem k39_r146_v0_101 (d sl : Nat) (I : Nat → Nat → Int32) (A : Nat → Nat → Int32) (N : Nat → Nat → Int64) (V : Nat → Nat → Option Nat) (lt : Int64) (tw : Option Nat) (a1 : Int32) (a2 : Nat) (b1 : Nat) (x0_3 : Int32) (h_b1 : x_isw b1 = true) :
  R (d + 1) 39 (101, [some (.ref 146), some (.int a1), some (.ref a2)], [.ref 1000011, .ref b1], sl, (CH I A N V lt tw 108 112 [.inr (5, [.ref 1, .ref 3, .ref 112, .int x0_3])])) =
    cond (!(Nat.beq b1 1000011)) (R (d + 1) 39 (130, [some (.ref 146), some (.int a1), some (.ref a2)], [], sl, (CH I A N V lt tw 108 112 [.inr (5, [.ref 1, .ref 3, .ref 112, .int x0_3])]))) (R (d + 1) 39 (104, [some (.ref 146), some (.int a1), some (.ref a2)], [], sl, (CH I A N V lt tw 108 112 [.inr (5, [.ref 1, .ref 3, .ref 112, .int x0_3])]))) :=
  R_acne (show xk 39 101 = (.if_acmp .ne 29, 104, [130], 0) by decide +kernel) h_b1 (by decide)
set_option maxRecDepth 100000 in
theorem k39_r146_v0_88 (d sl : Nat) (I : Nat → Nat → Int32) (A : Nat → Nat → Int32) (N : Nat → Nat → Int64) (V : Nat → Nat → Option Nat) (lt : Int64) (tw : Option Nat) (a1 : Int32) (b0 : Int32) (x0_3 : Int32) :
  R (d + 1) 39 (88, [some (.ref 146), some (.int a1), some (.null)], [.int b0], sl, (CH I A N V lt tw 108 112 [.inr (5, [.ref 1, .ref 3, .ref 112, .int x0_3])])) =
    cond (decide (b0 = (nI 0))) (some (96, [some (.ref 146), some (.int a1), some (.null)], [.int (nI 0)], sl, (CH I A N V lt tw 108 112 [.inr (5, [.ref 1, .ref 3, .ref 112, .int x0_3])]))) (some (96, [some (.ref 146), some (.int a1), some (.null)], [.int (nI 1)], sl, (CH I A N V lt tw 108 112 [.inr (5, [.ref 1, .ref 3, .ref 112, .int x0_3])]))) :=
  (R_gob [4, 15, 39, 50, 65, 76, 88, 101, 104, 111, 128, 130, 135] 400 _ _ _).trans rfl
set_option maxRecDepth 100000 in
theorem k39_r146_v0_130 (d sl : Nat) (I : Nat → Nat → Int32) (A : Nat → Nat → Int32) (N : Nat → Nat → Int64) (V : Nat → Nat → Option Nat) (lt : Int64) (tw : Option Nat) (a1 : Int32) (a2 : Nat) (x0_3 : Int32) :
  R (d + 1) 39 (130, [some (.ref 146), some (.int a1), some (.ref a2)], [], sl, (CH I A N V lt tw 108 112 [.inr (5, [.ref 1, .ref 3, .ref 112, .int x0_3])])) =
    bC (C d 41 [.ref 146, .ref a2] sl (CH I A N V lt tw 108 112 [.inr (5, [.ref 1, .ref 3, .ref 112, .int x0_3])])) (fun vs sl h => R (d + 1) 39 (135, [some (.ref 146), some (.int a1), some (.ref a2)], vs ++ [], sl, h)) :=
  (R_gob [4, 15, 39, 50, 65, 76, 88, 101, 104, 111, 128, 130, 135] 400 _ _ _).trans rfl
set_option maxRecDepth 100000 in
theorem k39_r146_v0_104 (d sl : Nat) (I : Nat → Nat → Int32) (A : Nat → Nat → Int32) (N : Nat → Nat → Int64) (V : Nat → Nat → Option Nat) (lt : Int64) (tw : Option Nat) (a1 : Int32) (a2 : Nat) (x0_3 : Int32) :
  R (d + 1) 39 (104, [some (.ref 146), some (.int a1), some (.ref a2)], [], sl, (CH I A N V lt tw 108 112 [.inr (5, [.ref 1, .ref 3, .ref 112, .int x0_3])])) =
    bC (C d 39 [.ref 146, .int (a1 + (nI 1))] sl (CH I A N V lt tw 108 112 [.inr (5, [.ref 1, .ref 3, .ref 112, .int x0_3])])) (fun vs sl h => R (d + 1) 39 (111, [some (.ref 146), some (.int a1), some (.ref a2)], vs ++ [], sl, h)) :=
  (R_gob [4, 15, 39, 50, 65, 76, 88, 101, 104, 111, 128, 130, 135] 400 _ _ _).trans rfl
set_option maxRecDepth 100000 in
theorem k39_r146_v0_135 (d sl : Nat) (I : Nat → Nat → Int32) (A : Nat → Nat → Int32) (N : Nat → Nat → Int64) (V : Nat → Nat → Option Nat) (lt : Int64) (tw : Option Nat) (a1 : Int32) (a2 : Nat) (b0 : Int32) (x0_3 : Int32) :
  R (d + 1) 39 (135, [some (.ref 146), some (.int a1), some (.ref a2)], [.int b0], sl, (CH I A N V lt tw 108 112 [.inr (5, [.ref 1, .ref 3, .ref 112, .int x0_3])])) =
    some (135, [some (.ref 146), some (.int a1), some (.ref a2)], [.int b0], sl, (CH I A N V lt tw 108 112 [.inr (5, [.ref 1, .ref 3, .ref 112, .int x0_3])])) :=
  (R_gob [4, 15, 39, 50, 65, 76, 88, 101, 104, 111, 128, 130, 135] 400 _ _ _).trans rfl
set_option maxRecDepth 100000 in
theorem k39_r146_v0_111 (d sl : Nat) (I : Nat → Nat → Int32) (A : Nat → Nat → Int32) (N : Nat → Nat → Int64) (V : Nat → Nat → Option Nat) (lt : Int64) (tw : Option Nat) (a1 : Int32) (a2 : Nat) (b0 : Int32) (x0_3 : Int32) :
  R (d + 1) 39 (111, [some (.ref 146), some (.int a1), some (.ref a2)], [.int b0], sl, (CH I A N V lt tw 108 112 [.inr (5, [.ref 1, .ref 3, .ref 112, .int x0_3])])) =
    cond (!decide (b0 = (nI 0))) (bC (C d 31 [.ref 112, .ref 1000011, .int (nI 0), .int (nI 0)] sl (CH I A N V lt tw 108 112 [.inr (5, [.ref 1, .ref 3, .ref 112, .int x0_3])])) (fun vs sl h => R (d + 1) 39 (128, [some (.ref 146), some (.int a1), some (.ref a2)], vs ++ [], sl, h))) (some (115, [some (.ref 146), some (.int a1), some (.ref a2)], [.int (nI 0)], sl, (CH I A N V lt tw 108 112 [.inr (5, [.ref 1, .ref 3, .ref 112, .int x0_3])]))) :=
  (R_gob [4, 15, 39, 50, 65, 76, 88, 101, 104, 111, 128, 130, 135] 400 _ _ _).trans rfl
set_option maxRecDepth 100000 in
theorem k39_r146_v0_128 (d sl : Nat) (I : Nat → Nat → Int32) (A : Nat → Nat → Int32) (N : Nat → Nat → Int64) (V : Nat → Nat → Option Nat) (lt : Int64) (tw : Option Nat) (a1 : Int32) (a2 : Nat) (x0_3 : Int32) :
  R (d + 1) 39 (128, [some (.ref 146), some (.int a1), some (.ref a2)], [], sl, (CH I A N V lt tw 108 112 [.inr (5, [.ref 1, .ref 3, .ref 112, .int x0_3])])) =
    some (129, [some (.ref 146), some (.int a1), some (.ref a2)], [.int (nI 1)], sl, (CH I A N V lt tw 108 112 [.inr (5, [.ref 1, .ref 3, .ref 112, .int x0_3])])) :=
  (R_gob [4, 15, 39, 50, 65, 76, 88, 101, 104, 111, 128, 130, 135] 400 _ _ _).trans rfl
set_option maxRecDepth 100000 in
theorem k39_r146_v1_0 (d sl : Nat) (I : Nat → Nat → Int32) (A : Nat → Nat → Int32) (N : Nat → Nat → Int64) (V : Nat → Nat → Option Nat) (lt : Int64) (tw : Option Nat) (a1 : Int32) (x0_3 : Int32) :
  R (d + 1) 39 (0, [some (.ref 146), some (.int a1), none], [], sl, (CH I A N V lt tw 112 108 [.inr (5, [.ref 1, .ref 3, .ref 108, .int x0_3])])) =
    bC (C d 40 [.ref 146] sl (CH I A N V lt tw 112 108 [.inr (5, [.ref 1, .ref 3, .ref 108, .int x0_3])])) (fun vs sl h => R (d + 1) 39 (4, [some (.ref 146), some (.int a1), none], vs ++ [], sl, h)) :=
  (R_gob [4, 15, 39, 50, 65, 76, 88, 111, 128, 135] 400 _ _ _).trans rfl
set_option maxRecDepth 100000 in
theorem k39_r146_v1_4 (d sl : Nat) (I : Nat → Nat → Int32) (A : Nat → Nat → Int32) (N : Nat → Nat → Int64) (V : Nat → Nat → Option Nat) (lt : Int64) (tw : Option Nat) (a1 : Int32) (b0 : Int32) (x0_3 : Int32) :
  R (d + 1) 39 (4, [some (.ref 146), some (.int a1), none], [.int b0], sl, (CH I A N V lt tw 112 108 [.inr (5, [.ref 1, .ref 3, .ref 108, .int x0_3])])) =
    cond (!decide (b0 = (nI 0))) (cond (decide ((nI 20) ≤ x0_3)) (bC (C d 97 [.ref 1, .int (nI 4)] sl (CH I A N V lt tw 112 108 [.inr (5, [.ref 1, .ref 3, .ref 108, .int x0_3])])) (fun vs sl h => R (d + 1) 39 (39, [some (.ref 146), some (.int a1), none], vs ++ [], sl, h))) (cond (decide (a1 ≤ (nI 8))) (R (d + 1) 39 (50, [some (.ref 146), some (.int a1), none], [], sl, (CH I A N V lt tw 112 108 [.inr (5, [.ref 1, .ref 3, .ref 108, .int (x0_3 + (nI 1))])]))) (bC (C d 97 [.ref 1, .int (nI 4)] sl (CH I A N V lt tw 112 108 [.inr (5, [.ref 1, .ref 3, .ref 108, .int x0_3])])) (fun vs sl h => R (d + 1) 39 (39, [some (.ref 146), some (.int a1), none], vs ++ [], sl, h))))) (bC (C d 97 [.ref 1, .int (nI 1)] sl (CH I A N V lt tw 112 108 [.inr (5, [.ref 1, .ref 3, .ref 108, .int x0_3])])) (fun vs sl h => R (d + 1) 39 (15, [some (.ref 146), some (.int a1), none], vs ++ [], sl, h))) :=
  (R_gob [4, 15, 39, 50, 65, 76, 88, 111, 128, 135] 400 _ _ _).trans rfl
set_option maxRecDepth 100000 in
theorem k39_r146_v1_39 (d sl : Nat) (I : Nat → Nat → Int32) (A : Nat → Nat → Int32) (N : Nat → Nat → Int64) (V : Nat → Nat → Option Nat) (lt : Int64) (tw : Option Nat) (a1 : Int32) (b0 : Int32) (x0_3 : Int32) :
  R (d + 1) 39 (39, [some (.ref 146), some (.int a1), none], [.int b0], sl, (CH I A N V lt tw 112 108 [.inr (5, [.ref 1, .ref 3, .ref 108, .int x0_3])])) =
    some (39, [some (.ref 146), some (.int a1), none], [.int b0], sl, (CH I A N V lt tw 112 108 [.inr (5, [.ref 1, .ref 3, .ref 108, .int x0_3])])) :=
  (R_gob [4, 15, 39, 50, 65, 76, 88, 111, 128, 135] 400 _ _ _).trans rfl
set_option maxRecDepth 100000 in
theorem k39_r146_v1_15 (d sl : Nat) (I : Nat → Nat → Int32) (A : Nat → Nat → Int32) (N : Nat → Nat → Int64) (V : Nat → Nat → Option Nat) (lt : Int64) (tw : Option Nat) (a1 : Int32) (b0 : Int32) (x0_3 : Int32) :
  R (d + 1) 39 (15, [some (.ref 146), some (.int a1), none], [.int b0], sl, (CH I A N V lt tw 112 108 [.inr (5, [.ref 1, .ref 3, .ref 108, .int x0_3])])) =
    some (15, [some (.ref 146), some (.int a1), none], [.int b0], sl, (CH I A N V lt tw 112 108 [.inr (5, [.ref 1, .ref 3, .ref 108, .int x0_3])])) :=
  (R_gob [4, 15, 39, 50, 65, 76, 88, 111, 128, 135] 400 _ _ _).trans rfl
set_option maxRecDepth 100000 in
theorem k39_r146_v1_50 (d sl : Nat) (I : Nat → Nat → Int32) (A : Nat → Nat → Int32) (N : Nat → Nat → Int64) (V : Nat → Nat → Option Nat) (lt : Int64) (a1 : Int32) (x0_3 : Int32) :
  R (d + 1) 39 (50, [some (.ref 146), some (.int a1), none], [], sl, (CH I A N V lt none 112 108 [.inr (5, [.ref 1, .ref 3, .ref 108, .int x0_3])])) =
    bC (C d 90 [.ref 1] sl (CH I A N V lt none 112 108 [.inr (5, [.ref 1, .ref 3, .ref 108, .int x0_3])])) (fun vs sl h => R (d + 1) 39 (65, [some (.ref 146), some (.int a1), some (.null)], vs ++ [], sl, h)) :=
  (R_gob [4, 15, 39, 50, 65, 76, 88, 111, 128, 135] 400 _ _ _).trans rfl
set_option maxRecDepth 100000 in
theorem k39_r146_v1_50_1 (d sl : Nat) (I : Nat → Nat → Int32) (A : Nat → Nat → Int32) (N : Nat → Nat → Int64) (V : Nat → Nat → Option Nat) (lt : Int64) (tw : Nat) (a1 : Int32) (x0_3 : Int32) :
  R (d + 1) 39 (50, [some (.ref 146), some (.int a1), none], [], sl, (CH I A N V lt (some tw) 112 108 [.inr (5, [.ref 1, .ref 3, .ref 108, .int x0_3])])) =
    bC (C d 90 [.ref 1] sl (CH I A N V lt (some tw) 112 108 [.inr (5, [.ref 1, .ref 3, .ref 108, .int x0_3])])) (fun vs sl h => R (d + 1) 39 (65, [some (.ref 146), some (.int a1), some (.ref tw)], vs ++ [], sl, h)) :=
  (R_gob [4, 15, 39, 50, 65, 76, 88, 111, 128, 135] 400 _ _ _).trans rfl
set_option maxRecDepth 100000 in
theorem k39_r146_v1_65 (d sl : Nat) (I : Nat → Nat → Int32) (A : Nat → Nat → Int32) (N : Nat → Nat → Int64) (V : Nat → Nat → Option Nat) (lt : Int64) (tw : Option Nat) (a1 : Int32) (x0_3 : Int32) :
  R (d + 1) 39 (65, [some (.ref 146), some (.int a1), some (.null)], [], sl, (CH I A N V lt tw 112 108 [.inr (5, [.ref 1, .ref 3, .ref 108, .int x0_3])])) =
    bC (C d 37 [.ref 146, .int (a1 + (nI 1))] sl (CH I A N V lt tw 112 108 [.inr (5, [.ref 1, .ref 3, .ref 108, .int x0_3])])) (fun vs sl h => R (d + 1) 39 (76, [some (.ref 146), some (.int a1), some (.null)], vs ++ [], sl, h)) :=
  (R_gob [4, 15, 39, 50, 65, 76, 88, 111, 128, 135] 400 _ _ _).trans rfl
set_option maxRecDepth 100000 in
theorem k39_r146_v1_65_1 (d sl : Nat) (I : Nat → Nat → Int32) (A : Nat → Nat → Int32) (N : Nat → Nat → Int64) (V : Nat → Nat → Option Nat) (lt : Int64) (tw : Option Nat) (a1 : Int32) (a2 : Nat) (x0_3 : Int32) :
  R (d + 1) 39 (65, [some (.ref 146), some (.int a1), some (.ref a2)], [], sl, (CH I A N V lt tw 112 108 [.inr (5, [.ref 1, .ref 3, .ref 108, .int x0_3])])) =
    R (d + 1) 39 (101, [some (.ref 146), some (.int a1), some (.ref a2)], [.ref 1000011, .ref a2], sl, (CH I A N V lt tw 112 108 [.inr (5, [.ref 1, .ref 3, .ref 108, .int x0_3])])) :=
  (R_gob [4, 15, 39, 50, 65, 76, 88, 101, 111, 128, 135] 400 _ _ _).trans rfl
set_option maxRecDepth 100000 in
theorem k39_r146_v1_76 (d sl : Nat) (I : Nat → Nat → Int32) (A : Nat → Nat → Int32) (N : Nat → Nat → Int64) (V : Nat → Nat → Option Nat) (lt : Int64) (tw : Option Nat) (a1 : Int32) (b0 : Int32) (x0_3 : Int32) :
  R (d + 1) 39 (76, [some (.ref 146), some (.int a1), some (.null)], [.int b0], sl, (CH I A N V lt tw 112 108 [.inr (5, [.ref 1, .ref 3, .ref 108, .int x0_3])])) =
    cond (decide (b0 = (nI 0))) (some (96, [some (.ref 146), some (.int a1), some (.null)], [.int (nI 0)], sl, (CH I A N V lt tw 112 108 [.inr (5, [.ref 1, .ref 3, .ref 108, .int x0_3])]))) (bC (C d 98 [.ref 1, .int (nI 41)] sl (CH I A N V lt tw 112 108 [.inr (5, [.ref 1, .ref 3, .ref 108, .int x0_3])])) (fun vs sl h => R (d + 1) 39 (88, [some (.ref 146), some (.int a1), some (.null)], vs ++ [], sl, h))) :=
  (R_gob [4, 15, 39, 50, 65, 76, 88, 101, 111, 128, 135] 400 _ _ _).trans rfl
set_option maxRecDepth 100000 in
theorem k39_r146_v1_101 (d sl : Nat) (I : Nat → Nat → Int32) (A : Nat → Nat → Int32) (N : Nat → Nat → Int64) (V : Nat → Nat → Option Nat) (lt : Int64) (tw : Option Nat) (a1 : Int32) (a2 : Nat) (b1 : Nat) (x0_3 : Int32) (h_b1 : x_isw b1 = true) :
  R (d + 1) 39 (101, [some (.ref 146), some (.int a1), some (.ref a2)], [.ref 1000011, .ref b1], sl, (CH I A N V lt tw 112 108 [.inr (5, [.ref 1, .ref 3, .ref 108, .int x0_3])])) =
    cond (!(Nat.beq b1 1000011)) (R (d + 1) 39 (130, [some (.ref 146), some (.int a1), some (.ref a2)], [], sl, (CH I A N V lt tw 112 108 [.inr (5, [.ref 1, .ref 3, .ref 108, .int x0_3])]))) (R (d + 1) 39 (104, [some (.ref 146), some (.int a1), some (.ref a2)], [], sl, (CH I A N V lt tw 112 108 [.inr (5, [.ref 1, .ref 3, .ref 108, .int x0_3])]))) :=
  R_acne (show xk 39 101 = (.if_acmp .ne 29, 104, [130], 0) by decide +kernel) h_b1 (by decide)
set_option maxRecDepth 100000 in
theorem k39_r146_v1_88 (d sl : Nat) (I : Nat → Nat → Int32) (A : Nat → Nat → Int32) (N : Nat → Nat → Int64) (V : Nat → Nat → Option Nat) (lt : Int64) (tw : Option Nat) (a1 : Int32) (b0 : Int32) (x0_3 : Int32) :
  R (d + 1) 39 (88, [some (.ref 146), some (.int a1), some (.null)], [.int b0], sl, (CH I A N V lt tw 112 108 [.inr (5, [.ref 1, .ref 3, .ref 108, .int x0_3])])) =
    cond (decide (b0 = (nI 0))) (some (96, [some (.ref 146), some (.int a1), some (.null)], [.int (nI 0)], sl, (CH I A N V lt tw 112 108 [.inr (5, [.ref 1, .ref 3, .ref 108, .int x0_3])]))) (some (96, [some (.ref 146), some (.int a1), some (.null)], [.int (nI 1)], sl, (CH I A N V lt tw 112 108 [.inr (5, [.ref 1, .ref 3, .ref 108, .int x0_3])]))) :=
  (R_gob [4, 15, 39, 50, 65, 76, 88, 101, 104, 111, 128, 130, 135] 400 _ _ _).trans rfl
set_option maxRecDepth 100000 in
theorem k39_r146_v1_130 (d sl : Nat) (I : Nat → Nat → Int32) (A : Nat → Nat → Int32) (N : Nat → Nat → Int64) (V : Nat → Nat → Option Nat) (lt : Int64) (tw : Option Nat) (a1 : Int32) (a2 : Nat) (x0_3 : Int32) :
  R (d + 1) 39 (130, [some (.ref 146), some (.int a1), some (.ref a2)], [], sl, (CH I A N V lt tw 112 108 [.inr (5, [.ref 1, .ref 3, .ref 108, .int x0_3])])) =
    bC (C d 41 [.ref 146, .ref a2] sl (CH I A N V lt tw 112 108 [.inr (5, [.ref 1, .ref 3, .ref 108, .int x0_3])])) (fun vs sl h => R (d + 1) 39 (135, [some (.ref 146), some (.int a1), some (.ref a2)], vs ++ [], sl, h)) :=
  (R_gob [4, 15, 39, 50, 65, 76, 88, 101, 104, 111, 128, 130, 135] 400 _ _ _).trans rfl
set_option maxRecDepth 100000 in
theorem k39_r146_v1_104 (d sl : Nat) (I : Nat → Nat → Int32) (A : Nat → Nat → Int32) (N : Nat → Nat → Int64) (V : Nat → Nat → Option Nat) (lt : Int64) (tw : Option Nat) (a1 : Int32) (a2 : Nat) (x0_3 : Int32) :
  R (d + 1) 39 (104, [some (.ref 146), some (.int a1), some (.ref a2)], [], sl, (CH I A N V lt tw 112 108 [.inr (5, [.ref 1, .ref 3, .ref 108, .int x0_3])])) =
    bC (C d 39 [.ref 146, .int (a1 + (nI 1))] sl (CH I A N V lt tw 112 108 [.inr (5, [.ref 1, .ref 3, .ref 108, .int x0_3])])) (fun vs sl h => R (d + 1) 39 (111, [some (.ref 146), some (.int a1), some (.ref a2)], vs ++ [], sl, h)) :=
  (R_gob [4, 15, 39, 50, 65, 76, 88, 101, 104, 111, 128, 130, 135] 400 _ _ _).trans rfl
set_option maxRecDepth 100000 in
theorem k39_r146_v1_135 (d sl : Nat) (I : Nat → Nat → Int32) (A : Nat → Nat → Int32) (N : Nat → Nat → Int64) (V : Nat → Nat → Option Nat) (lt : Int64) (tw : Option Nat) (a1 : Int32) (a2 : Nat) (b0 : Int32) (x0_3 : Int32) :
  R (d + 1) 39 (135, [some (.ref 146), some (.int a1), some (.ref a2)], [.int b0], sl, (CH I A N V lt tw 112 108 [.inr (5, [.ref 1, .ref 3, .ref 108, .int x0_3])])) =
    some (135, [some (.ref 146), some (.int a1), some (.ref a2)], [.int b0], sl, (CH I A N V lt tw 112 108 [.inr (5, [.ref 1, .ref 3, .ref 108, .int x0_3])])) :=
  (R_gob [4, 15, 39, 50, 65, 76, 88, 101, 104, 111, 128, 130, 135] 400 _ _ _).trans rfl
set_option maxRecDepth 100000 in
theorem k39_r146_v1_111 (d sl : Nat) (I : Nat → Nat → Int32) (A : Nat → Nat → Int32) (N : Nat → Nat → Int64) (V : Nat → Nat → Option Nat) (lt : Int64) (tw : Option Nat) (a1 : Int32) (a2 : Nat) (b0 : Int32) (x0_3 : Int32) :
  R (d + 1) 39 (111, [some (.ref 146), some (.int a1), some (.ref a2)], [.int b0], sl, (CH I A N V lt tw 112 108 [.inr (5, [.ref 1, .ref 3, .ref 108, .int x0_3])])) =
    cond (!decide (b0 = (nI 0))) (bC (C d 31 [.ref 108, .ref 1000011, .int (nI 0), .int (nI 0)] sl (CH I A N V lt tw 112 108 [.inr (5, [.ref 1, .ref 3, .ref 108, .int x0_3])])) (fun vs sl h => R (d + 1) 39 (128, [some (.ref 146), some (.int a1), some (.ref a2)], vs ++ [], sl, h))) (some (115, [some (.ref 146), some (.int a1), some (.ref a2)], [.int (nI 0)], sl, (CH I A N V lt tw 112 108 [.inr (5, [.ref 1, .ref 3, .ref 108, .int x0_3])]))) :=
  (R_gob [4, 15, 39, 50, 65, 76, 88, 101, 104, 111, 128, 130, 135] 400 _ _ _).trans rfl
set_option maxRecDepth 100000 in
theorem k39_r146_v1_128 (d sl : Nat) (I : Nat → Nat → Int32) (A : Nat → Nat → Int32) (N : Nat → Nat → Int64) (V : Nat → Nat → Option Nat) (lt : Int64) (tw : Option Nat) (a1 : Int32) (a2 : Nat) (x0_3 : Int32) :
  R (d + 1) 39 (128, [some (.ref 146), some (.int a1), some (.ref a2)], [], sl, (CH I A N V lt tw 112 108 [.inr (5, [.ref 1, .ref 3, .ref 108, .int x0_3])])) =
    some (129, [some (.ref 146), some (.int a1), some (.ref a2)], [.int (nI 1)], sl, (CH I A N V lt tw 112 108 [.inr (5, [.ref 1, .ref 3, .ref 108, .int x0_3])])) :=
  (R_gob [4, 15, 39, 50, 65, 76, 88, 101, 104, 111, 128, 130, 135] 400 _ _ _).trans rfl
set_option maxRecDepth 100000 in
theorem k31_r112_r1000010_0 (d sl : Nat) (I : Nat → Nat → Int32) (A : Nat → Nat → Int32) (N : Nat → Nat → Int64) (V : Nat → Nat → Option Nat) (lt : Int64) (tw : Option Nat) (sp sr : Nat) (X : List AC) (a2 : Int32) (a3 : Int32) :
  R d 31 (0, [some (.ref 112), some (.ref 1000010), some (.int a2), some (.int a3)], [], sl, (CH I A N V lt tw sp sr X)) =
    cond (decide ((nI 40) ≤ (I 112 3))) (some (49, [some (.ref 112), some (.ref 1000010), some (.int a2), some (.int a3)], [], sl, (CH I A N V lt tw sp sr X))) (R d 31 (18, [some (.ref 112), some (.ref 1000010), some (.int a2), some (.int a3)], [.ref 1000010, .int (I 112 3), .ref 113], sl, (CH I A N V lt tw sp sr X))) :=
  (R_gob [18] 400 _ _ _).trans rfl
set_option maxRecDepth 100000 in
theorem k31_r112_r1000010_18 (d sl : Nat) (I : Nat → Nat → Int32) (A : Nat → Nat → Int32) (N : Nat → Nat → Int64) (V : Nat → Nat → Option Nat) (lt : Int64) (tw : Option Nat) (sp sr : Nat) (X : List AC) (a2 : Int32) (a3 : Int32) (b1 : Int32) (hX : Nat.ble X.length 1 = true) :
  R d 31 (18, [some (.ref 112), some (.ref 1000010), some (.int a2), some (.int a3)], [.ref 1000010, .int b1, .ref 113], sl, (CH I A N V lt tw sp sr X)) =
    cond (x_in b1 40) (R d 31 (19, [some (.ref 112), some (.ref 1000010), some (.int a2), some (.int a3)], [], sl, (CH I A N (up1 V 113 (va_up (V 113) b1.toNatClampNeg (some 1000010))) lt tw sp sr X))) none :=
  R_aas31 (a := 113) (show xk 31 18 = (.aastore, 19, [], 0) by decide +kernel) rfl rfl (fun _ => rfl) (cl_far hX)
set_option maxRecDepth 100000 in
theorem k31_r112_r1000010_19 (d sl : Nat) (I : Nat → Nat → Int32) (A : Nat → Nat → Int32) (N : Nat → Nat → Int64) (V : Nat → Nat → Option Nat) (lt : Int64) (tw : Option Nat) (sp sr : Nat) (X : List AC) (a2 : Int32) (a3 : Int32) :
  R d 31 (19, [some (.ref 112), some (.ref 1000010), some (.int a2), some (.int a3)], [], sl, (CH I A N V lt tw sp sr X)) =
    cond (x_in (I 112 3) 40) (cond (x_in (I 112 3) 40) (some (49, [some (.ref 112), some (.ref 1000010), some (.int a2), some (.int a3)], [], sl, (CH (up1 I 112 (up1 (I 112) 3 ((I 112 3) + (nI 1)))) (up1 (up1 A 114 (upd (A 114) (I 112 3).toNatClampNeg a2)) 115 (upd (A 115) (I 112 3).toNatClampNeg a3)) N V lt tw sp sr X))) none) none :=
  (R_gob [18, 19] 400 _ _ _).trans rfl
set_option maxRecDepth 100000 in
theorem k31_r108_r1000010_0 (d sl : Nat) (I : Nat → Nat → Int32) (A : Nat → Nat → Int32) (N : Nat → Nat → Int64) (V : Nat → Nat → Option Nat) (lt : Int64) (tw : Option Nat) (sp sr : Nat) (X : List AC) (a2 : Int32) (a3 : Int32) :
  R d 31 (0, [some (.ref 108), some (.ref 1000010), some (.int a2), some (.int a3)], [], sl, (CH I A N V lt tw sp sr X)) =
    cond (decide ((nI 40) ≤ (I 108 3))) (some (49, [some (.ref 108), some (.ref 1000010), some (.int a2), some (.int a3)], [], sl, (CH I A N V lt tw sp sr X))) (R d 31 (18, [some (.ref 108), some (.ref 1000010), some (.int a2), some (.int a3)], [.ref 1000010, .int (I 108 3), .ref 109], sl, (CH I A N V lt tw sp sr X))) :=
  (R_gob [18] 400 _ _ _).trans rfl
set_option maxRecDepth 100000 in
theorem k31_r108_r1000010_18 (d sl : Nat) (I : Nat → Nat → Int32) (A : Nat → Nat → Int32) (N : Nat → Nat → Int64) (V : Nat → Nat → Option Nat) (lt : Int64) (tw : Option Nat) (sp sr : Nat) (X : List AC) (a2 : Int32) (a3 : Int32) (b1 : Int32) (hX : Nat.ble X.length 1 = true) :
  R d 31 (18, [some (.ref 108), some (.ref 1000010), some (.int a2), some (.int a3)], [.ref 1000010, .int b1, .ref 109], sl, (CH I A N V lt tw sp sr X)) =
    cond (x_in b1 40) (R d 31 (19, [some (.ref 108), some (.ref 1000010), some (.int a2), some (.int a3)], [], sl, (CH I A N (up1 V 109 (va_up (V 109) b1.toNatClampNeg (some 1000010))) lt tw sp sr X))) none :=
  R_aas31 (a := 109) (show xk 31 18 = (.aastore, 19, [], 0) by decide +kernel) rfl rfl (fun _ => rfl) (cl_far hX)
set_option maxRecDepth 100000 in
theorem k31_r108_r1000010_19 (d sl : Nat) (I : Nat → Nat → Int32) (A : Nat → Nat → Int32) (N : Nat → Nat → Int64) (V : Nat → Nat → Option Nat) (lt : Int64) (tw : Option Nat) (sp sr : Nat) (X : List AC) (a2 : Int32) (a3 : Int32) :
  R d 31 (19, [some (.ref 108), some (.ref 1000010), some (.int a2), some (.int a3)], [], sl, (CH I A N V lt tw sp sr X)) =
    cond (x_in (I 108 3) 40) (cond (x_in (I 108 3) 40) (some (49, [some (.ref 108), some (.ref 1000010), some (.int a2), some (.int a3)], [], sl, (CH (up1 I 108 (up1 (I 108) 3 ((I 108 3) + (nI 1)))) (up1 (up1 A 110 (upd (A 110) (I 108 3).toNatClampNeg a2)) 111 (upd (A 111) (I 108 3).toNatClampNeg a3)) N V lt tw sp sr X))) none) none :=
  (R_gob [18, 19] 400 _ _ _).trans rfl
set_option maxRecDepth 100000 in
theorem k63_r3_0 (d sl : Nat) (I : Nat → Nat → Int32) (A : Nat → Nat → Int32) (N : Nat → Nat → Int64) (V : Nat → Nat → Option Nat) (lt : Int64) (tw : Option Nat) (sp sr : Nat) (X : List AC) (a1 : Int32) (a2 : Int32) :
  R (d + 1) 63 (0, [some (.ref 3), some (.int a1), some (.int a2), none], [], sl, (CH I A N V lt tw sp sr X)) =
    R (d + 1) 63 (2, [some (.ref 3), some (.int a1), some (.int a2), some (.int (nI 0))], [], sl, (CH I A N V lt tw sp sr X)) :=
  (R_gob [2, 16] 400 _ _ _).trans rfl
set_option maxRecDepth 100000 in
theorem k63_r3_2 (d sl : Nat) (I : Nat → Nat → Int32) (A : Nat → Nat → Int32) (N : Nat → Nat → Int64) (V : Nat → Nat → Option Nat) (lt : Int64) (tw : Option Nat) (sp sr : Nat) (X : List AC) (a1 : Int32) (a2 : Int32) (a3 : Int32) :
  R (d + 1) 63 (2, [some (.ref 3), some (.int a1), some (.int a2), some (.int a3)], [], sl, (CH I A N V lt tw sp sr X)) =
    cond (decide ((I 3 9) ≤ a3)) (some (38, [some (.ref 3), some (.int a1), some (.int a2), some (.int a3)], [.int (nI 0)], sl, (CH I A N V lt tw sp sr X))) (bC (C d 51 [.ref 3, .int a1, .int a3] sl (CH I A N V lt tw sp sr X)) (fun vs sl h => R (d + 1) 63 (16, [some (.ref 3), some (.int a1), some (.int a2), some (.int a3)], vs ++ [], sl, h))) :=
  (R_gob [2, 16] 400 _ _ _).trans rfl
