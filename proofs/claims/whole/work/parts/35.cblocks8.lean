set_option maxRecDepth 100000 in
theorem k63_r3_16 (d sl : Nat) (I : Nat → Nat → Int32) (A : Nat → Nat → Int32) (N : Nat → Nat → Int64) (V : Nat → Nat → Option Nat) (lt : Int64) (tw : Option Nat) (sp sr : Nat) (X : List AC) (a1 : Int32) (a2 : Int32) (a3 : Int32) (b0 : Int32) :
  R (d + 1) 63 (16, [some (.ref 3), some (.int a1), some (.int a2), some (.int a3)], [.int b0], sl, (CH I A N V lt tw sp sr X)) =
    cond (decide (b0 = (nI 0))) (R (d + 1) 63 (2, [some (.ref 3), some (.int a1), some (.int a2), some (.int (a3 + (nI 1)))], [], sl, (CH I A N V lt tw sp sr X))) (cond (x_in a3 12) (cond (!decide (((A 9) a3.toNatClampNeg) = a2)) (R (d + 1) 63 (2, [some (.ref 3), some (.int a1), some (.int a2), some (.int (a3 + (nI 1)))], [], sl, (CH I A N V lt tw sp sr X))) (some (30, [some (.ref 3), some (.int a1), some (.int a2), some (.int a3)], [.int (nI 1)], sl, (CH I A N V lt tw sp sr X)))) none) :=
  (R_gob [2, 16] 400 _ _ _).trans rfl
set_option maxRecDepth 100000 in
theorem k35_r108_0 (d sl : Nat) (I : Nat → Nat → Int32) (A : Nat → Nat → Int32) (N : Nat → Nat → Int64) (V : Nat → Nat → Option Nat) (lt : Int64) (tw : Option Nat) (sp sr : Nat) (X : List AC) (a1 : Int32) (a2 : Int32) :
  R d 35 (0, [some (.ref 108), some (.int a1), some (.int a2)], [], sl, (CH I A N V lt tw sp sr X)) =
    cond (x_in a2 40) (cond (!decide (((A 110) a2.toNatClampNeg) = (nI 60))) (cond (x_in a2 40) (cond (!decide (((A 110) a2.toNatClampNeg) = (nI 61))) (cond (x_in a2 40) (cond (decide (a1 ≤ ((A 111) a2.toNatClampNeg))) (some (71, [some (.ref 108), some (.int a1), some (.int a2)], [.int (nI 0)], sl, (CH I A N V lt tw sp sr X))) (some (71, [some (.ref 108), some (.int a1), some (.int a2)], [.int (nI 1)], sl, (CH I A N V lt tw sp sr X)))) none) (cond (x_in a2 40) (cond (!decide (a1 = ((A 111) a2.toNatClampNeg))) (some (71, [some (.ref 108), some (.int a1), some (.int a2)], [.int (nI 0)], sl, (CH I A N V lt tw sp sr X))) (some (71, [some (.ref 108), some (.int a1), some (.int a2)], [.int (nI 1)], sl, (CH I A N V lt tw sp sr X)))) none)) none) (cond (x_in a2 40) (cond (decide (((A 111) a2.toNatClampNeg) ≤ a1)) (some (26, [some (.ref 108), some (.int a1), some (.int a2)], [.int (nI 0)], sl, (CH I A N V lt tw sp sr X))) (some (26, [some (.ref 108), some (.int a1), some (.int a2)], [.int (nI 1)], sl, (CH I A N V lt tw sp sr X)))) none)) none :=
  (R_gob [] 400 _ _ _).trans rfl
set_option maxRecDepth 100000 in
theorem k35_r112_0 (d sl : Nat) (I : Nat → Nat → Int32) (A : Nat → Nat → Int32) (N : Nat → Nat → Int64) (V : Nat → Nat → Option Nat) (lt : Int64) (tw : Option Nat) (sp sr : Nat) (X : List AC) (a1 : Int32) (a2 : Int32) :
  R d 35 (0, [some (.ref 112), some (.int a1), some (.int a2)], [], sl, (CH I A N V lt tw sp sr X)) =
    cond (x_in a2 40) (cond (!decide (((A 114) a2.toNatClampNeg) = (nI 60))) (cond (x_in a2 40) (cond (!decide (((A 114) a2.toNatClampNeg) = (nI 61))) (cond (x_in a2 40) (cond (decide (a1 ≤ ((A 115) a2.toNatClampNeg))) (some (71, [some (.ref 112), some (.int a1), some (.int a2)], [.int (nI 0)], sl, (CH I A N V lt tw sp sr X))) (some (71, [some (.ref 112), some (.int a1), some (.int a2)], [.int (nI 1)], sl, (CH I A N V lt tw sp sr X)))) none) (cond (x_in a2 40) (cond (!decide (a1 = ((A 115) a2.toNatClampNeg))) (some (71, [some (.ref 112), some (.int a1), some (.int a2)], [.int (nI 0)], sl, (CH I A N V lt tw sp sr X))) (some (71, [some (.ref 112), some (.int a1), some (.int a2)], [.int (nI 1)], sl, (CH I A N V lt tw sp sr X)))) none)) none) (cond (x_in a2 40) (cond (decide (((A 115) a2.toNatClampNeg) ≤ a1)) (some (26, [some (.ref 112), some (.int a1), some (.int a2)], [.int (nI 0)], sl, (CH I A N V lt tw sp sr X))) (some (26, [some (.ref 112), some (.int a1), some (.int a2)], [.int (nI 1)], sl, (CH I A N V lt tw sp sr X)))) none)) none :=
  (R_gob [] 400 _ _ _).trans rfl
set_option maxRecDepth 100000 in
theorem k49_r12_0 (d sl : Nat) (I : Nat → Nat → Int32) (A : Nat → Nat → Int32) (N : Nat → Nat → Int64) (V : Nat → Nat → Option Nat) (lt : Int64) (tw : Option Nat) (sp sr : Nat) (X : List AC) (a1 : Int32) (a2 : Int32) (a3 : Int32) (a4 : Int32) :
  R d 49 (0, [some (.ref 12), some (.int a1), some (.int a2), some (.int a3), some (.int a4)], [], sl, (CH I A N V lt tw sp sr X)) =
    cond (decide ((nI 12) ≤ (I 12 9))) (some (60, [some (.ref 12), some (.int a1), some (.int a2), some (.int a3), some (.int a4)], [], sl, (CH I A N V lt tw sp sr X))) (cond (x_in (I 12 9) 12) (cond (x_in (I 12 9) 12) (cond (x_in (I 12 9) 12) (cond (x_in (I 12 9) 12) (some (60, [some (.ref 12), some (.int a1), some (.int a2), some (.int a3), some (.int a4)], [], sl, (CH (up1 I 12 (up1 (I 12) 9 ((I 12 9) + (nI 1)))) (up1 (up1 (up1 (up1 A 17 (upd (A 17) (I 12 9).toNatClampNeg a1)) 18 (upd (A 18) (I 12 9).toNatClampNeg a2)) 19 (upd (A 19) (I 12 9).toNatClampNeg a3)) 20 (upd (A 20) (I 12 9).toNatClampNeg a4)) N V lt tw sp sr X))) none) none) none) none) :=
  (R_gob [] 400 _ _ _).trans rfl
set_option maxRecDepth 100000 in
theorem k104_r1_r12_0 (d sl : Nat) (I : Nat → Nat → Int32) (A : Nat → Nat → Int32) (N : Nat → Nat → Int64) (V : Nat → Nat → Option Nat) (lt : Int64) (tw : Option Nat) (sp sr : Nat) (X : List AC) (a2 : Int32) :
  R (d + 1) 104 (0, [some (.ref 1), some (.ref 12), some (.int a2), none], [], sl, (CH I A N V lt tw sp sr X)) =
    cond (decide ((I 1 4) = (nI 3))) (bC (C d 47 [.ref 12, .long lt] sl (CH I A N V lt tw sp sr X)) (fun vs sl h => R (d + 1) 104 (22, [some (.ref 1), some (.ref 12), some (.int a2), none], vs ++ [], sl, h))) (bC (C d 97 [.ref 1, .int (nI 1)] sl (CH I A N V lt tw sp sr X)) (fun vs sl h => R (d + 1) 104 (13, [some (.ref 1), some (.ref 12), some (.int a2), none], vs ++ [], sl, h))) :=
  (R_gob [13, 22, 38, 48] 400 _ _ _).trans rfl
set_option maxRecDepth 100000 in
theorem k104_r1_r12_22 (d sl : Nat) (I : Nat → Nat → Int32) (A : Nat → Nat → Int32) (N : Nat → Nat → Int64) (V : Nat → Nat → Option Nat) (lt : Int64) (tw : Option Nat) (sp sr : Nat) (X : List AC) (a2 : Int32) (b0 : Int32) :
  R (d + 1) 104 (22, [some (.ref 1), some (.ref 12), some (.int a2), none], [.int b0], sl, (CH I A N V lt tw sp sr X)) =
    cond (decide (b0 = (-1 : Int32))) (bC (C d 97 [.ref 1, .int (nI 3)] sl (CH I A N V lt tw sp sr X)) (fun vs sl h => R (d + 1) 104 (38, [some (.ref 1), some (.ref 12), some (.int a2), some (.int b0)], vs ++ [], sl, h))) (cond (!decide (b0 = a2)) (bC (C d 90 [.ref 1] sl (CH (up1 I 1 (up1 (I 1) 9 b0)) A N V lt tw sp sr X)) (fun vs sl h => R (d + 1) 104 (48, [some (.ref 1), some (.ref 12), some (.int a2), some (.int b0)], vs ++ [], sl, h))) (bC (C d 97 [.ref 1, .int (nI 3)] sl (CH I A N V lt tw sp sr X)) (fun vs sl h => R (d + 1) 104 (38, [some (.ref 1), some (.ref 12), some (.int a2), some (.int b0)], vs ++ [], sl, h)))) :=
  (R_gob [13, 22, 38, 48] 400 _ _ _).trans rfl
set_option maxRecDepth 100000 in
theorem k104_r1_r12_13 (d sl : Nat) (I : Nat → Nat → Int32) (A : Nat → Nat → Int32) (N : Nat → Nat → Int64) (V : Nat → Nat → Option Nat) (lt : Int64) (tw : Option Nat) (sp sr : Nat) (X : List AC) (a2 : Int32) (b0 : Int32) :
  R (d + 1) 104 (13, [some (.ref 1), some (.ref 12), some (.int a2), none], [.int b0], sl, (CH I A N V lt tw sp sr X)) =
    some (13, [some (.ref 1), some (.ref 12), some (.int a2), none], [.int b0], sl, (CH I A N V lt tw sp sr X)) :=
  (R_gob [13, 22, 38, 48] 400 _ _ _).trans rfl
set_option maxRecDepth 100000 in
theorem k104_r1_r12_38 (d sl : Nat) (I : Nat → Nat → Int32) (A : Nat → Nat → Int32) (N : Nat → Nat → Int64) (V : Nat → Nat → Option Nat) (lt : Int64) (tw : Option Nat) (sp sr : Nat) (X : List AC) (a2 : Int32) (a3 : Int32) (b0 : Int32) :
  R (d + 1) 104 (38, [some (.ref 1), some (.ref 12), some (.int a2), some (.int a3)], [.int b0], sl, (CH I A N V lt tw sp sr X)) =
    some (38, [some (.ref 1), some (.ref 12), some (.int a2), some (.int a3)], [.int b0], sl, (CH I A N V lt tw sp sr X)) :=
  (R_gob [13, 22, 38, 48] 400 _ _ _).trans rfl
set_option maxRecDepth 100000 in
theorem k104_r1_r12_48 (d sl : Nat) (I : Nat → Nat → Int32) (A : Nat → Nat → Int32) (N : Nat → Nat → Int64) (V : Nat → Nat → Option Nat) (lt : Int64) (tw : Option Nat) (sp sr : Nat) (X : List AC) (a2 : Int32) (a3 : Int32) :
  R (d + 1) 104 (48, [some (.ref 1), some (.ref 12), some (.int a2), some (.int a3)], [], sl, (CH I A N V lt tw sp sr X)) =
    some (49, [some (.ref 1), some (.ref 12), some (.int a2), some (.int a3)], [.int (nI 1)], sl, (CH I A N V lt tw sp sr X)) :=
  (R_gob [13, 22, 38, 48] 400 _ _ _).trans rfl
set_option maxRecDepth 100000 in
theorem k48_r12_0 (d sl : Nat) (I : Nat → Nat → Int32) (A : Nat → Nat → Int32) (N : Nat → Nat → Int64) (V : Nat → Nat → Option Nat) (lt : Int64) (tw : Option Nat) (sp sr : Nat) (X : List AC) (a1 : Int64) (a3 : Int32) (a4 : Int32) (a5 : Int32) :
  R d 48 (0, [some (.ref 12), some (.long a1), none, some (.int a3), some (.int a4), some (.int a5)], [], sl, (CH I A N V lt tw sp sr X)) =
    cond (decide ((nI 6) ≤ (I 12 8))) (some (61, [some (.ref 12), some (.long a1), none, some (.int a3), some (.int a4), some (.int a5)], [], sl, (CH I A N V lt tw sp sr X))) (cond (x_in (I 12 8) 6) (cond (x_in (I 12 8) 6) (cond (x_in (I 12 8) 6) (cond (x_in (I 12 8) 6) (some (61, [some (.ref 12), some (.long a1), none, some (.int a3), some (.int a4), some (.int a5)], [], sl, (CH (up1 I 12 (up1 (I 12) 8 ((I 12 8) + (nI 1)))) (up1 (up1 (up1 A 14 (upd (A 14) (I 12 8).toNatClampNeg a3)) 15 (upd (A 15) (I 12 8).toNatClampNeg a4)) 16 (upd (A 16) (I 12 8).toNatClampNeg a5)) (up1 N 13 (vp_updL (N 13) (I 12 8).toNatClampNeg a1)) V lt tw sp sr X))) none) none) none) none) :=
  (R_gob [] 400 _ _ _).trans rfl
set_option maxRecDepth 100000 in
theorem k47_r12_0 (d sl : Nat) (I : Nat → Nat → Int32) (A : Nat → Nat → Int32) (N : Nat → Nat → Int64) (V : Nat → Nat → Option Nat) (lt : Int64) (tw : Option Nat) (sp sr : Nat) (X : List AC) (a1 : Int64) :
  R d 47 (0, [some (.ref 12), some (.long a1), none, none], [], sl, (CH I A N V lt tw sp sr X)) =
    R d 47 (2, [some (.ref 12), some (.long a1), none, some (.int (nI 0))], [], sl, (CH I A N V lt tw sp sr X)) :=
  (R_gob [2] 400 _ _ _).trans rfl
set_option maxRecDepth 100000 in
theorem k47_r12_2 (d sl : Nat) (I : Nat → Nat → Int32) (A : Nat → Nat → Int32) (N : Nat → Nat → Int64) (V : Nat → Nat → Option Nat) (lt : Int64) (tw : Option Nat) (sp sr : Nat) (X : List AC) (a1 : Int64) (a3 : Int32) :
  R d 47 (2, [some (.ref 12), some (.long a1), none, some (.int a3)], [], sl, (CH I A N V lt tw sp sr X)) =
    cond (decide ((I 12 8) ≤ a3)) (some (30, [some (.ref 12), some (.long a1), none, some (.int a3)], [.int (-1 : Int32)], sl, (CH I A N V lt tw sp sr X))) (cond (x_in a3 6) (cond (!decide ((lg_cmp ((N 13) a3.toNatClampNeg) a1) = (nI 0))) (R d 47 (2, [some (.ref 12), some (.long a1), none, some (.int (a3 + (nI 1)))], [], sl, (CH I A N V lt tw sp sr X))) (some (22, [some (.ref 12), some (.long a1), none, some (.int a3)], [.int a3], sl, (CH I A N V lt tw sp sr X)))) none) :=
  (R_gob [2] 400 _ _ _).trans rfl
set_option maxRecDepth 100000 in
theorem k75_r12_0 (d sl : Nat) (I : Nat → Nat → Int32) (A : Nat → Nat → Int32) (N : Nat → Nat → Int64) (V : Nat → Nat → Option Nat) (lt : Int64) (tw : Option Nat) (sp sr : Nat) (X : List AC) (a1 : Int32) (a2 : Int32) (a3 : Int32) :
  R d 75 (0, [some (.ref 12), some (.int a1), some (.int a2), some (.int a3)], [], sl, (CH I A N V lt tw sp sr X)) =
    cond (x_in a1 6) (cond (x_in a1 6) (cond (x_in a2 6) (cond (x_in a2 6) (some (20, [some (.ref 12), some (.int a1), some (.int a2), some (.int a3)], [], sl, (CH I (up1 A 14 (upd (upd (A 14) a1.toNatClampNeg (((A 14) a1.toNatClampNeg) - a3)) a2.toNatClampNeg (((upd (A 14) a1.toNatClampNeg (((A 14) a1.toNatClampNeg) - a3)) a2.toNatClampNeg) + a3))) N V lt tw sp sr X))) none) none) none) none :=
  (R_gob [] 400 _ _ _).trans rfl
set_option maxRecDepth 100000 in
theorem k50_r12_0 (d sl : Nat) (I : Nat → Nat → Int32) (A : Nat → Nat → Int32) (N : Nat → Nat → Int64) (V : Nat → Nat → Option Nat) (lt : Int64) (tw : Option Nat) (sp sr : Nat) (X : List AC) (a1 : Int32) :
  R d 50 (0, [some (.ref 12), some (.int a1)], [], sl, (CH I A N V lt tw sp sr X)) =
    cond (x_in a1 12) (cond (decide (((A 19) a1.toNatClampNeg) ≤ (nI 0))) (some (14, [some (.ref 12), some (.int a1)], [.int (nI 0)], sl, (CH I A N V lt tw sp sr X))) (some (14, [some (.ref 12), some (.int a1)], [.int (nI 1)], sl, (CH I A N V lt tw sp sr X)))) none :=
  (R_gob [] 400 _ _ _).trans rfl
set_option maxRecDepth 100000 in
theorem k74_r12_0 (d sl : Nat) (I : Nat → Nat → Int32) (A : Nat → Nat → Int32) (N : Nat → Nat → Int64) (V : Nat → Nat → Option Nat) (lt : Int64) (tw : Option Nat) (sp sr : Nat) (X : List AC) (a1 : Int32) (a2 : Int32) :
  R (d + 1) 74 (0, [some (.ref 12), some (.int a1), some (.int a2), none], [], sl, (CH I A N V lt tw sp sr X)) =
    bC (C d 50 [.ref 12, .int a1] sl (CH I A N V lt tw sp sr X)) (fun vs sl h => R (d + 1) 74 (5, [some (.ref 12), some (.int a1), some (.int a2), none], vs ++ [], sl, h)) :=
  (R_gob [5, 13] 400 _ _ _).trans rfl
set_option maxRecDepth 100000 in
theorem k74_r12_5 (d sl : Nat) (I : Nat → Nat → Int32) (A : Nat → Nat → Int32) (N : Nat → Nat → Int64) (V : Nat → Nat → Option Nat) (lt : Int64) (tw : Option Nat) (sp sr : Nat) (X : List AC) (a1 : Int32) (a2 : Int32) (b0 : Int32) :
  R (d + 1) 74 (5, [some (.ref 12), some (.int a1), some (.int a2), none], [.int b0], sl, (CH I A N V lt tw sp sr X)) =
    cond (decide (b0 = (nI 0))) (some (17, [some (.ref 12), some (.int a1), some (.int a2), none], [.int (nI 1)], sl, (CH I A N V lt tw sp sr X))) (bC (C d 50 [.ref 12, .int a2] sl (CH I A N V lt tw sp sr X)) (fun vs sl h => R (d + 1) 74 (13, [some (.ref 12), some (.int a1), some (.int a2), none], vs ++ [], sl, h))) :=
  (R_gob [5, 13] 400 _ _ _).trans rfl
set_option maxRecDepth 100000 in
theorem k74_r12_13 (d sl : Nat) (I : Nat → Nat → Int32) (A : Nat → Nat → Int32) (N : Nat → Nat → Int64) (V : Nat → Nat → Option Nat) (lt : Int64) (tw : Option Nat) (sp sr : Nat) (X : List AC) (a1 : Int32) (a2 : Int32) (b0 : Int32) :
  R (d + 1) 74 (13, [some (.ref 12), some (.int a1), some (.int a2), none], [.int b0], sl, (CH I A N V lt tw sp sr X)) =
    cond (!decide (b0 = (nI 0))) (cond (x_in a1 12) (cond (x_in a2 12) (cond (!decide (((A 17) a1.toNatClampNeg) = ((A 18) a2.toNatClampNeg))) (some (49, [some (.ref 12), some (.int a1), some (.int a2), none], [.int (nI 2)], sl, (CH I A N V lt tw sp sr X))) (cond (x_in a2 12) (cond (x_in a1 12) (cond (decide (((A 17) a2.toNatClampNeg) = ((A 18) a1.toNatClampNeg))) (cond (x_in a1 12) (cond (x_in a2 12) (cond (x_in a1 12) (cond (x_in a1 12) (cond (x_in a2 12) (cond (x_in a2 12) (some (87, [some (.ref 12), some (.int a1), some (.int a2), some (.int (x_min ((A 19) a1.toNatClampNeg) ((A 19) a2.toNatClampNeg)))], [.int (nI 0)], sl, (CH I (up1 A 19 (upd (upd (A 19) a1.toNatClampNeg (((A 19) a1.toNatClampNeg) - (x_min ((A 19) a1.toNatClampNeg) ((A 19) a2.toNatClampNeg)))) a2.toNatClampNeg (((upd (A 19) a1.toNatClampNeg (((A 19) a1.toNatClampNeg) - (x_min ((A 19) a1.toNatClampNeg) ((A 19) a2.toNatClampNeg)))) a2.toNatClampNeg) - (x_min ((A 19) a1.toNatClampNeg) ((A 19) a2.toNatClampNeg))))) N V lt tw sp sr X))) none) none) none) none) none) none) (some (49, [some (.ref 12), some (.int a1), some (.int a2), none], [.int (nI 2)], sl, (CH I A N V lt tw sp sr X)))) none) none)) none) none) (some (17, [some (.ref 12), some (.int a1), some (.int a2), none], [.int (nI 1)], sl, (CH I A N V lt tw sp sr X))) :=
  (R_gob [5, 13] 400 _ _ _).trans rfl
set_option maxRecDepth 100000 in
theorem k73_r12_0 (d sl : Nat) (I : Nat → Nat → Int32) (A : Nat → Nat → Int32) (N : Nat → Nat → Int64) (V : Nat → Nat → Option Nat) (lt : Int64) (tw : Option Nat) (sp sr : Nat) (X : List AC) (a1 : Int32) :
  R (d + 1) 73 (0, [some (.ref 12), some (.int a1)], [], sl, (CH I A N V lt tw sp sr X)) =
    bC (C d 50 [.ref 12, .int a1] sl (CH I A N V lt tw sp sr X)) (fun vs sl h => R (d + 1) 73 (5, [some (.ref 12), some (.int a1)], vs ++ [], sl, h)) :=
  (R_gob [5] 400 _ _ _).trans rfl
set_option maxRecDepth 100000 in
theorem k73_r12_5 (d sl : Nat) (I : Nat → Nat → Int32) (A : Nat → Nat → Int32) (N : Nat → Nat → Int64) (V : Nat → Nat → Option Nat) (lt : Int64) (tw : Option Nat) (sp sr : Nat) (X : List AC) (a1 : Int32) (b0 : Int32) :
  R (d + 1) 73 (5, [some (.ref 12), some (.int a1)], [.int b0], sl, (CH I A N V lt tw sp sr X)) =
    cond (!decide (b0 = (nI 0))) (cond (x_in a1 12) (some (18, [some (.ref 12), some (.int a1)], [.int (nI 0)], sl, (CH I (up1 A 19 (upd (A 19) a1.toNatClampNeg (nI 0))) N V lt tw sp sr X))) none) (some (9, [some (.ref 12), some (.int a1)], [.int (nI 1)], sl, (CH I A N V lt tw sp sr X))) :=
  (R_gob [5] 400 _ _ _).trans rfl
set_option maxRecDepth 100000 in
theorem k46_r12_0 (d sl : Nat) (I : Nat → Nat → Int32) (A : Nat → Nat → Int32) (N : Nat → Nat → Int64) (V : Nat → Nat → Option Nat) (lt : Int64) (tw : Option Nat) (sp sr : Nat) (X : List AC) (a1 : Int32) :
  R d 46 (0, [some (.ref 12), some (.int a1)], [], sl, (CH I A N V lt tw sp sr X)) =
    cond (decide (a1 < (nI 0))) (some (17, [some (.ref 12), some (.int a1)], [.int (nI 0)], sl, (CH I A N V lt tw sp sr X))) (cond (decide ((I 12 9) ≤ a1)) (some (17, [some (.ref 12), some (.int a1)], [.int (nI 0)], sl, (CH I A N V lt tw sp sr X))) (some (17, [some (.ref 12), some (.int a1)], [.int (nI 1)], sl, (CH I A N V lt tw sp sr X)))) :=
  (R_gob [] 400 _ _ _).trans rfl
set_option maxRecDepth 100000 in
theorem k104_r1_r3_0 (d sl : Nat) (I : Nat → Nat → Int32) (A : Nat → Nat → Int32) (N : Nat → Nat → Int64) (V : Nat → Nat → Option Nat) (lt : Int64) (tw : Option Nat) (sp sr : Nat) (X : List AC) (a2 : Int32) :
  R (d + 1) 104 (0, [some (.ref 1), some (.ref 3), some (.int a2), none], [], sl, (CH I A N V lt tw sp sr X)) =
    cond (decide ((I 1 4) = (nI 3))) (bC (C d 47 [.ref 3, .long lt] sl (CH I A N V lt tw sp sr X)) (fun vs sl h => R (d + 1) 104 (22, [some (.ref 1), some (.ref 3), some (.int a2), none], vs ++ [], sl, h))) (bC (C d 97 [.ref 1, .int (nI 1)] sl (CH I A N V lt tw sp sr X)) (fun vs sl h => R (d + 1) 104 (13, [some (.ref 1), some (.ref 3), some (.int a2), none], vs ++ [], sl, h))) :=
  (R_gob [13, 22, 38, 48] 400 _ _ _).trans rfl
set_option maxRecDepth 100000 in
theorem k104_r1_r3_22 (d sl : Nat) (I : Nat → Nat → Int32) (A : Nat → Nat → Int32) (N : Nat → Nat → Int64) (V : Nat → Nat → Option Nat) (lt : Int64) (tw : Option Nat) (sp sr : Nat) (X : List AC) (a2 : Int32) (b0 : Int32) :
  R (d + 1) 104 (22, [some (.ref 1), some (.ref 3), some (.int a2), none], [.int b0], sl, (CH I A N V lt tw sp sr X)) =
    cond (decide (b0 = (-1 : Int32))) (bC (C d 97 [.ref 1, .int (nI 3)] sl (CH I A N V lt tw sp sr X)) (fun vs sl h => R (d + 1) 104 (38, [some (.ref 1), some (.ref 3), some (.int a2), some (.int b0)], vs ++ [], sl, h))) (cond (!decide (b0 = a2)) (bC (C d 90 [.ref 1] sl (CH (up1 I 1 (up1 (I 1) 9 b0)) A N V lt tw sp sr X)) (fun vs sl h => R (d + 1) 104 (48, [some (.ref 1), some (.ref 3), some (.int a2), some (.int b0)], vs ++ [], sl, h))) (bC (C d 97 [.ref 1, .int (nI 3)] sl (CH I A N V lt tw sp sr X)) (fun vs sl h => R (d + 1) 104 (38, [some (.ref 1), some (.ref 3), some (.int a2), some (.int b0)], vs ++ [], sl, h)))) :=
  (R_gob [13, 22, 38, 48] 400 _ _ _).trans rfl
set_option maxRecDepth 100000 in
theorem k104_r1_r3_13 (d sl : Nat) (I : Nat → Nat → Int32) (A : Nat → Nat → Int32) (N : Nat → Nat → Int64) (V : Nat → Nat → Option Nat) (lt : Int64) (tw : Option Nat) (sp sr : Nat) (X : List AC) (a2 : Int32) (b0 : Int32) :
  R (d + 1) 104 (13, [some (.ref 1), some (.ref 3), some (.int a2), none], [.int b0], sl, (CH I A N V lt tw sp sr X)) =
    some (13, [some (.ref 1), some (.ref 3), some (.int a2), none], [.int b0], sl, (CH I A N V lt tw sp sr X)) :=
  (R_gob [13, 22, 38, 48] 400 _ _ _).trans rfl
set_option maxRecDepth 100000 in
theorem k104_r1_r3_38 (d sl : Nat) (I : Nat → Nat → Int32) (A : Nat → Nat → Int32) (N : Nat → Nat → Int64) (V : Nat → Nat → Option Nat) (lt : Int64) (tw : Option Nat) (sp sr : Nat) (X : List AC) (a2 : Int32) (a3 : Int32) (b0 : Int32) :
  R (d + 1) 104 (38, [some (.ref 1), some (.ref 3), some (.int a2), some (.int a3)], [.int b0], sl, (CH I A N V lt tw sp sr X)) =
    some (38, [some (.ref 1), some (.ref 3), some (.int a2), some (.int a3)], [.int b0], sl, (CH I A N V lt tw sp sr X)) :=
  (R_gob [13, 22, 38, 48] 400 _ _ _).trans rfl
set_option maxRecDepth 100000 in
theorem k104_r1_r3_48 (d sl : Nat) (I : Nat → Nat → Int32) (A : Nat → Nat → Int32) (N : Nat → Nat → Int64) (V : Nat → Nat → Option Nat) (lt : Int64) (tw : Option Nat) (sp sr : Nat) (X : List AC) (a2 : Int32) (a3 : Int32) :
  R (d + 1) 104 (48, [some (.ref 1), some (.ref 3), some (.int a2), some (.int a3)], [], sl, (CH I A N V lt tw sp sr X)) =
    some (49, [some (.ref 1), some (.ref 3), some (.int a2), some (.int a3)], [.int (nI 1)], sl, (CH I A N V lt tw sp sr X)) :=
  (R_gob [13, 22, 38, 48] 400 _ _ _).trans rfl
set_option maxRecDepth 100000 in
theorem k101_r1_r1000004_0 (d sl : Nat) (I : Nat → Nat → Int32) (A : Nat → Nat → Int32) (N : Nat → Nat → Int64) (V : Nat → Nat → Option Nat) (lt : Int64) (sp sr : Nat) (X : List AC)  :
  R (d + 1) 101 (0, [some (.ref 1), some (.ref 1000004)], [], sl, (CH I A N V lt none sp sr X)) =
    bC (C d 97 [.ref 1, .int (nI 1)] sl (CH I A N V lt none sp sr X)) (fun vs sl h => R (d + 1) 101 (13, [some (.ref 1), some (.ref 1000004)], vs ++ [], sl, h)) :=
  (R_gob [13, 18] 400 _ _ _).trans rfl
set_option maxRecDepth 100000 in
theorem k101_r1_r1000004_0_1 (d sl : Nat) (I : Nat → Nat → Int32) (A : Nat → Nat → Int32) (N : Nat → Nat → Int64) (V : Nat → Nat → Option Nat) (lt : Int64) (tw : Nat) (sp sr : Nat) (X : List AC)  :
  R (d + 1) 101 (0, [some (.ref 1), some (.ref 1000004)], [], sl, (CH I A N V lt (some tw) sp sr X)) =
    R (d + 1) 101 (5, [some (.ref 1), some (.ref 1000004)], [.ref 1000004, .ref tw], sl, (CH I A N V lt (some tw) sp sr X)) :=
  (R_gob [5, 13, 18] 400 _ _ _).trans rfl
set_option maxRecDepth 100000 in
theorem k101_r1_r1000004_13 (d sl : Nat) (I : Nat → Nat → Int32) (A : Nat → Nat → Int32) (N : Nat → Nat → Int64) (V : Nat → Nat → Option Nat) (lt : Int64) (tw : Option Nat) (sp sr : Nat) (X : List AC) (b0 : Int32) :
  R (d + 1) 101 (13, [some (.ref 1), some (.ref 1000004)], [.int b0], sl, (CH I A N V lt tw sp sr X)) =
    some (13, [some (.ref 1), some (.ref 1000004)], [.int b0], sl, (CH I A N V lt tw sp sr X)) :=
  (R_gob [5, 13, 18] 400 _ _ _).trans rfl
set_option maxRecDepth 100000 in
theorem k101_r1_r1000004_5 (d sl : Nat) (I : Nat → Nat → Int32) (A : Nat → Nat → Int32) (N : Nat → Nat → Int64) (V : Nat → Nat → Option Nat) (lt : Int64) (tw : Option Nat) (sp sr : Nat) (X : List AC) (b1 : Nat) (h_b1 : x_isw b1 = true) :
  R (d + 1) 101 (5, [some (.ref 1), some (.ref 1000004)], [.ref 1000004, .ref b1], sl, (CH I A N V lt tw sp sr X)) =
    cond ((Nat.beq b1 1000004)) (R (d + 1) 101 (14, [some (.ref 1), some (.ref 1000004)], [], sl, (CH I A N V lt tw sp sr X))) (R (d + 1) 101 (8, [some (.ref 1), some (.ref 1000004)], [], sl, (CH I A N V lt tw sp sr X))) :=
  R_aceq (show xk 101 5 = (.if_acmp .eq 9, 8, [14], 0) by decide +kernel) h_b1 (by decide)
set_option maxRecDepth 100000 in
theorem k101_r1_r1000004_14 (d sl : Nat) (I : Nat → Nat → Int32) (A : Nat → Nat → Int32) (N : Nat → Nat → Int64) (V : Nat → Nat → Option Nat) (lt : Int64) (tw : Option Nat) (sp sr : Nat) (X : List AC)  :
  R (d + 1) 101 (14, [some (.ref 1), some (.ref 1000004)], [], sl, (CH I A N V lt tw sp sr X)) =
    bC (C d 90 [.ref 1] sl (CH I A N V lt tw sp sr X)) (fun vs sl h => R (d + 1) 101 (18, [some (.ref 1), some (.ref 1000004)], vs ++ [], sl, h)) :=
  (R_gob [5, 8, 13, 14, 18] 400 _ _ _).trans rfl
set_option maxRecDepth 100000 in
theorem k101_r1_r1000004_8 (d sl : Nat) (I : Nat → Nat → Int32) (A : Nat → Nat → Int32) (N : Nat → Nat → Int64) (V : Nat → Nat → Option Nat) (lt : Int64) (tw : Option Nat) (sp sr : Nat) (X : List AC)  :
  R (d + 1) 101 (8, [some (.ref 1), some (.ref 1000004)], [], sl, (CH I A N V lt tw sp sr X)) =
    bC (C d 97 [.ref 1, .int (nI 1)] sl (CH I A N V lt tw sp sr X)) (fun vs sl h => R (d + 1) 101 (13, [some (.ref 1), some (.ref 1000004)], vs ++ [], sl, h)) :=
  (R_gob [5, 8, 13, 14, 18] 400 _ _ _).trans rfl
set_option maxRecDepth 100000 in
theorem k101_r1_r1000004_18 (d sl : Nat) (I : Nat → Nat → Int32) (A : Nat → Nat → Int32) (N : Nat → Nat → Int64) (V : Nat → Nat → Option Nat) (lt : Int64) (tw : Option Nat) (sp sr : Nat) (X : List AC)  :
  R (d + 1) 101 (18, [some (.ref 1), some (.ref 1000004)], [], sl, (CH I A N V lt tw sp sr X)) =
    some (19, [some (.ref 1), some (.ref 1000004)], [.int (nI 1)], sl, (CH I A N V lt tw sp sr X)) :=
  (R_gob [5, 8, 13, 14, 18] 400 _ _ _).trans rfl
set_option maxRecDepth 100000 in
theorem k40_r146_v0_0 (d sl : Nat) (I : Nat → Nat → Int32) (A : Nat → Nat → Int32) (N : Nat → Nat → Int64) (V : Nat → Nat → Option Nat) (lt : Int64) (x0_3 : Int32) :
  R (d + 1) 40 (0, [some (.ref 146), none], [], sl, (CH I A N V lt none 108 112 [.inr (5, [.ref 1, .ref 3, .ref 112, .int x0_3])])) =
    bC (C d 96 [.ref 1, .int (nI 40)] sl (CH I A N V lt none 108 112 [.inr (5, [.ref 1, .ref 3, .ref 112, .int x0_3])])) (fun vs sl h => R (d + 1) 40 (21, [some (.ref 146), some (.null)], vs ++ [], sl, h)) :=
  (R_gob [21, 37, 40, 44, 47] 400 _ _ _).trans rfl
set_option maxRecDepth 100000 in
theorem k40_r146_v0_0_1 (d sl : Nat) (I : Nat → Nat → Int32) (A : Nat → Nat → Int32) (N : Nat → Nat → Int64) (V : Nat → Nat → Option Nat) (lt : Int64) (tw : Nat) (x0_3 : Int32) :
  R (d + 1) 40 (0, [some (.ref 146), none], [], sl, (CH I A N V lt (some tw) 108 112 [.inr (5, [.ref 1, .ref 3, .ref 112, .int x0_3])])) =
    R (d + 1) 40 (26, [some (.ref 146), some (.ref tw)], [.ref 1000011, .ref tw], sl, (CH I A N V lt (some tw) 108 112 [.inr (5, [.ref 1, .ref 3, .ref 112, .int x0_3])])) :=
  (R_gob [21, 26, 37, 40, 44, 47] 400 _ _ _).trans rfl
set_option maxRecDepth 100000 in
theorem k40_r146_v0_21 (d sl : Nat) (I : Nat → Nat → Int32) (A : Nat → Nat → Int32) (N : Nat → Nat → Int64) (V : Nat → Nat → Option Nat) (lt : Int64) (tw : Option Nat) (b0 : Int32) (x0_3 : Int32) :
  R (d + 1) 40 (21, [some (.ref 146), some (.null)], [.int b0], sl, (CH I A N V lt tw 108 112 [.inr (5, [.ref 1, .ref 3, .ref 112, .int x0_3])])) =
    some (21, [some (.ref 146), some (.null)], [.int b0], sl, (CH I A N V lt tw 108 112 [.inr (5, [.ref 1, .ref 3, .ref 112, .int x0_3])])) :=
  (R_gob [21, 26, 37, 40, 44, 47] 400 _ _ _).trans rfl
set_option maxRecDepth 100000 in
theorem k40_r146_v0_26 (d sl : Nat) (I : Nat → Nat → Int32) (A : Nat → Nat → Int32) (N : Nat → Nat → Int64) (V : Nat → Nat → Option Nat) (lt : Int64) (tw : Option Nat) (a1 : Nat) (b1 : Nat) (x0_3 : Int32) (h_b1 : x_isw b1 = true) :
  R (d + 1) 40 (26, [some (.ref 146), some (.ref a1)], [.ref 1000011, .ref b1], sl, (CH I A N V lt tw 108 112 [.inr (5, [.ref 1, .ref 3, .ref 112, .int x0_3])])) =
    cond ((Nat.beq b1 1000011)) (R (d + 1) 40 (50, [some (.ref 146), some (.ref a1)], [], sl, (CH I A N V lt tw 108 112 [.inr (5, [.ref 1, .ref 3, .ref 112, .int x0_3])]))) (R (d + 1) 40 (29, [some (.ref 146), some (.ref a1)], [], sl, (CH I A N V lt tw 108 112 [.inr (5, [.ref 1, .ref 3, .ref 112, .int x0_3])]))) :=
  R_aceq (show xk 40 26 = (.if_acmp .eq 24, 29, [50], 0) by decide +kernel) h_b1 (by decide)
set_option maxRecDepth 100000 in
theorem k40_r146_v0_50 (d sl : Nat) (I : Nat → Nat → Int32) (A : Nat → Nat → Int32) (N : Nat → Nat → Int64) (V : Nat → Nat → Option Nat) (lt : Int64) (tw : Option Nat) (a1 : Nat) (x0_3 : Int32) :
  R (d + 1) 40 (50, [some (.ref 146), some (.ref a1)], [], sl, (CH I A N V lt tw 108 112 [.inr (5, [.ref 1, .ref 3, .ref 112, .int x0_3])])) =
    some (55, [some (.ref 146), some (.ref a1)], [.int (nI 1)], sl, (CH I A N V lt tw 108 112 [.inr (5, [.ref 1, .ref 3, .ref 112, .int x0_3])])) :=
  (R_gob [21, 26, 29, 37, 40, 44, 47, 50] 400 _ _ _).trans rfl
set_option maxRecDepth 100000 in
theorem k40_r146_v0_29 (d sl : Nat) (I : Nat → Nat → Int32) (A : Nat → Nat → Int32) (N : Nat → Nat → Int64) (V : Nat → Nat → Option Nat) (lt : Int64) (tw : Option Nat) (a1 : Nat) (x0_3 : Int32) :
  R (d + 1) 40 (29, [some (.ref 146), some (.ref a1)], [], sl, (CH I A N V lt tw 108 112 [.inr (5, [.ref 1, .ref 3, .ref 112, .int x0_3])])) =
    R (d + 1) 40 (33, [some (.ref 146), some (.ref a1)], [.ref 1000016, .ref a1], sl, (CH I A N V lt tw 108 112 [.inr (5, [.ref 1, .ref 3, .ref 112, .int x0_3])])) :=
  (R_gob [21, 26, 29, 33, 37, 40, 44, 47, 50] 400 _ _ _).trans rfl
set_option maxRecDepth 100000 in
theorem k40_r146_v0_33 (d sl : Nat) (I : Nat → Nat → Int32) (A : Nat → Nat → Int32) (N : Nat → Nat → Int64) (V : Nat → Nat → Option Nat) (lt : Int64) (tw : Option Nat) (a1 : Nat) (b1 : Nat) (x0_3 : Int32) (h_b1 : x_isw b1 = true) :
  R (d + 1) 40 (33, [some (.ref 146), some (.ref a1)], [.ref 1000016, .ref b1], sl, (CH I A N V lt tw 108 112 [.inr (5, [.ref 1, .ref 3, .ref 112, .int x0_3])])) =
    cond ((Nat.beq b1 1000016)) (R (d + 1) 40 (50, [some (.ref 146), some (.ref a1)], [], sl, (CH I A N V lt tw 108 112 [.inr (5, [.ref 1, .ref 3, .ref 112, .int x0_3])]))) (R (d + 1) 40 (36, [some (.ref 146), some (.ref a1)], [], sl, (CH I A N V lt tw 108 112 [.inr (5, [.ref 1, .ref 3, .ref 112, .int x0_3])]))) :=
  R_aceq (show xk 40 33 = (.if_acmp .eq 17, 36, [50], 0) by decide +kernel) h_b1 (by decide)
set_option maxRecDepth 100000 in
theorem k40_r146_v0_36 (d sl : Nat) (I : Nat → Nat → Int32) (A : Nat → Nat → Int32) (N : Nat → Nat → Int64) (V : Nat → Nat → Option Nat) (lt : Int64) (tw : Option Nat) (a1 : Nat) (x0_3 : Int32) :
  R (d + 1) 40 (36, [some (.ref 146), some (.ref a1)], [], sl, (CH I A N V lt tw 108 112 [.inr (5, [.ref 1, .ref 3, .ref 112, .int x0_3])])) =
    R (d + 1) 40 (37, [some (.ref 146), some (.ref a1)], [.ref a1], sl, (CH I A N V lt tw 108 112 [.inr (5, [.ref 1, .ref 3, .ref 112, .int x0_3])])) :=
  (R_gob [21, 26, 29, 33, 36, 37, 40, 44, 47, 50] 400 _ _ _).trans rfl
set_option maxRecDepth 100000 in
theorem k40_r146_v0_37 (d sl : Nat) (I : Nat → Nat → Int32) (A : Nat → Nat → Int32) (N : Nat → Nat → Int64) (V : Nat → Nat → Option Nat) (lt : Int64) (tw : Option Nat) (a1 : Nat) (b0 : Nat) (x0_3 : Int32) (h_w : x_isw b0 = true) :
  R (d + 1) 40 (37, [some (.ref 146), some (.ref a1)], [.ref b0], sl, (CH I A N V lt tw 108 112 [.inr (5, [.ref 1, .ref 3, .ref 112, .int x0_3])])) =
    bC (C d 4 [.ref b0] sl (CH I A N V lt tw 108 112 [.inr (5, [.ref 1, .ref 3, .ref 112, .int x0_3])])) (fun vs sl h => R (d + 1) 40 (40, [some (.ref 146), some (.ref a1)], vs ++ [], sl, h)) :=
  R_wc (show xk 40 37 = (.invokevirtual 84, 40, [4, 1, 99], 0) by decide +kernel) h_w rfl (cl_far rfl)
set_option maxRecDepth 100000 in
theorem k40_r146_v0_40 (d sl : Nat) (I : Nat → Nat → Int32) (A : Nat → Nat → Int32) (N : Nat → Nat → Int64) (V : Nat → Nat → Option Nat) (lt : Int64) (tw : Option Nat) (a1 : Nat) (b0 : Int32) (x0_3 : Int32) :
  R (d + 1) 40 (40, [some (.ref 146), some (.ref a1)], [.int b0], sl, (CH I A N V lt tw 108 112 [.inr (5, [.ref 1, .ref 3, .ref 112, .int x0_3])])) =
    cond (!decide (b0 = (nI 0))) (R (d + 1) 40 (50, [some (.ref 146), some (.ref a1)], [], sl, (CH I A N V lt tw 108 112 [.inr (5, [.ref 1, .ref 3, .ref 112, .int x0_3])]))) (R (d + 1) 40 (44, [some (.ref 146), some (.ref a1)], [.ref a1], sl, (CH I A N V lt tw 108 112 [.inr (5, [.ref 1, .ref 3, .ref 112, .int x0_3])]))) :=
  (R_gob [21, 26, 29, 33, 36, 37, 40, 44, 47, 50] 400 _ _ _).trans rfl
set_option maxRecDepth 100000 in
theorem k40_r146_v0_44 (d sl : Nat) (I : Nat → Nat → Int32) (A : Nat → Nat → Int32) (N : Nat → Nat → Int64) (V : Nat → Nat → Option Nat) (lt : Int64) (tw : Option Nat) (a1 : Nat) (b0 : Nat) (x0_3 : Int32) (h_w : x_isw b0 = true) :
  R (d + 1) 40 (44, [some (.ref 146), some (.ref a1)], [.ref b0], sl, (CH I A N V lt tw 108 112 [.inr (5, [.ref 1, .ref 3, .ref 112, .int x0_3])])) =
    bC (C d 5 [.ref b0] sl (CH I A N V lt tw 108 112 [.inr (5, [.ref 1, .ref 3, .ref 112, .int x0_3])])) (fun vs sl h => R (d + 1) 40 (47, [some (.ref 146), some (.ref a1)], vs ++ [], sl, h)) :=
  R_wc (show xk 40 44 = (.invokevirtual 87, 47, [5, 1, 99], 0) by decide +kernel) h_w rfl (cl_far rfl)
set_option maxRecDepth 100000 in
theorem k40_r146_v0_47 (d sl : Nat) (I : Nat → Nat → Int32) (A : Nat → Nat → Int32) (N : Nat → Nat → Int64) (V : Nat → Nat → Option Nat) (lt : Int64) (tw : Option Nat) (a1 : Nat) (b0 : Int32) (x0_3 : Int32) :
  R (d + 1) 40 (47, [some (.ref 146), some (.ref a1)], [.int b0], sl, (CH I A N V lt tw 108 112 [.inr (5, [.ref 1, .ref 3, .ref 112, .int x0_3])])) =
    cond (decide (b0 = (nI 0))) (some (55, [some (.ref 146), some (.ref a1)], [.int (nI 0)], sl, (CH I A N V lt tw 108 112 [.inr (5, [.ref 1, .ref 3, .ref 112, .int x0_3])]))) (R (d + 1) 40 (50, [some (.ref 146), some (.ref a1)], [], sl, (CH I A N V lt tw 108 112 [.inr (5, [.ref 1, .ref 3, .ref 112, .int x0_3])]))) :=
  (R_gob [21, 26, 29, 33, 36, 37, 40, 44, 47, 50] 400 _ _ _).trans rfl
set_option maxRecDepth 100000 in
theorem k40_r146_v1_0 (d sl : Nat) (I : Nat → Nat → Int32) (A : Nat → Nat → Int32) (N : Nat → Nat → Int64) (V : Nat → Nat → Option Nat) (lt : Int64) (x0_3 : Int32) :
  R (d + 1) 40 (0, [some (.ref 146), none], [], sl, (CH I A N V lt none 112 108 [.inr (5, [.ref 1, .ref 3, .ref 108, .int x0_3])])) =
    bC (C d 96 [.ref 1, .int (nI 40)] sl (CH I A N V lt none 112 108 [.inr (5, [.ref 1, .ref 3, .ref 108, .int x0_3])])) (fun vs sl h => R (d + 1) 40 (21, [some (.ref 146), some (.null)], vs ++ [], sl, h)) :=
  (R_gob [21, 37, 40, 44, 47] 400 _ _ _).trans rfl
set_option maxRecDepth 100000 in
theorem k40_r146_v1_0_1 (d sl : Nat) (I : Nat → Nat → Int32) (A : Nat → Nat → Int32) (N : Nat → Nat → Int64) (V : Nat → Nat → Option Nat) (lt : Int64) (tw : Nat) (x0_3 : Int32) :
  R (d + 1) 40 (0, [some (.ref 146), none], [], sl, (CH I A N V lt (some tw) 112 108 [.inr (5, [.ref 1, .ref 3, .ref 108, .int x0_3])])) =
    R (d + 1) 40 (26, [some (.ref 146), some (.ref tw)], [.ref 1000011, .ref tw], sl, (CH I A N V lt (some tw) 112 108 [.inr (5, [.ref 1, .ref 3, .ref 108, .int x0_3])])) :=
  (R_gob [21, 26, 37, 40, 44, 47] 400 _ _ _).trans rfl
set_option maxRecDepth 100000 in
theorem k40_r146_v1_21 (d sl : Nat) (I : Nat → Nat → Int32) (A : Nat → Nat → Int32) (N : Nat → Nat → Int64) (V : Nat → Nat → Option Nat) (lt : Int64) (tw : Option Nat) (b0 : Int32) (x0_3 : Int32) :
  R (d + 1) 40 (21, [some (.ref 146), some (.null)], [.int b0], sl, (CH I A N V lt tw 112 108 [.inr (5, [.ref 1, .ref 3, .ref 108, .int x0_3])])) =
    some (21, [some (.ref 146), some (.null)], [.int b0], sl, (CH I A N V lt tw 112 108 [.inr (5, [.ref 1, .ref 3, .ref 108, .int x0_3])])) :=
  (R_gob [21, 26, 37, 40, 44, 47] 400 _ _ _).trans rfl
set_option maxRecDepth 100000 in
theorem k40_r146_v1_26 (d sl : Nat) (I : Nat → Nat → Int32) (A : Nat → Nat → Int32) (N : Nat → Nat → Int64) (V : Nat → Nat → Option Nat) (lt : Int64) (tw : Option Nat) (a1 : Nat) (b1 : Nat) (x0_3 : Int32) (h_b1 : x_isw b1 = true) :
  R (d + 1) 40 (26, [some (.ref 146), some (.ref a1)], [.ref 1000011, .ref b1], sl, (CH I A N V lt tw 112 108 [.inr (5, [.ref 1, .ref 3, .ref 108, .int x0_3])])) =
    cond ((Nat.beq b1 1000011)) (R (d + 1) 40 (50, [some (.ref 146), some (.ref a1)], [], sl, (CH I A N V lt tw 112 108 [.inr (5, [.ref 1, .ref 3, .ref 108, .int x0_3])]))) (R (d + 1) 40 (29, [some (.ref 146), some (.ref a1)], [], sl, (CH I A N V lt tw 112 108 [.inr (5, [.ref 1, .ref 3, .ref 108, .int x0_3])]))) :=
  R_aceq (show xk 40 26 = (.if_acmp .eq 24, 29, [50], 0) by decide +kernel) h_b1 (by decide)
set_option maxRecDepth 100000 in
theorem k40_r146_v1_50 (d sl : Nat) (I : Nat → Nat → Int32) (A : Nat → Nat → Int32) (N : Nat → Nat → Int64) (V : Nat → Nat → Option Nat) (lt : Int64) (tw : Option Nat) (a1 : Nat) (x0_3 : Int32) :
  R (d + 1) 40 (50, [some (.ref 146), some (.ref a1)], [], sl, (CH I A N V lt tw 112 108 [.inr (5, [.ref 1, .ref 3, .ref 108, .int x0_3])])) =
    some (55, [some (.ref 146), some (.ref a1)], [.int (nI 1)], sl, (CH I A N V lt tw 112 108 [.inr (5, [.ref 1, .ref 3, .ref 108, .int x0_3])])) :=
  (R_gob [21, 26, 29, 37, 40, 44, 47, 50] 400 _ _ _).trans rfl
set_option maxRecDepth 100000 in
theorem k40_r146_v1_29 (d sl : Nat) (I : Nat → Nat → Int32) (A : Nat → Nat → Int32) (N : Nat → Nat → Int64) (V : Nat → Nat → Option Nat) (lt : Int64) (tw : Option Nat) (a1 : Nat) (x0_3 : Int32) :
  R (d + 1) 40 (29, [some (.ref 146), some (.ref a1)], [], sl, (CH I A N V lt tw 112 108 [.inr (5, [.ref 1, .ref 3, .ref 108, .int x0_3])])) =
    R (d + 1) 40 (33, [some (.ref 146), some (.ref a1)], [.ref 1000016, .ref a1], sl, (CH I A N V lt tw 112 108 [.inr (5, [.ref 1, .ref 3, .ref 108, .int x0_3])])) :=
  (R_gob [21, 26, 29, 33, 37, 40, 44, 47, 50] 400 _ _ _).trans rfl
set_option maxRecDepth 100000 in
theorem k40_r146_v1_33 (d sl : Nat) (I : Nat → Nat → Int32) (A : Nat → Nat → Int32) (N : Nat → Nat → Int64) (V : Nat → Nat → Option Nat) (lt : Int64) (tw : Option Nat) (a1 : Nat) (b1 : Nat) (x0_3 : Int32) (h_b1 : x_isw b1 = true) :
  R (d + 1) 40 (33, [some (.ref 146), some (.ref a1)], [.ref 1000016, .ref b1], sl, (CH I A N V lt tw 112 108 [.inr (5, [.ref 1, .ref 3, .ref 108, .int x0_3])])) =
    cond ((Nat.beq b1 1000016)) (R (d + 1) 40 (50, [some (.ref 146), some (.ref a1)], [], sl, (CH I A N V lt tw 112 108 [.inr (5, [.ref 1, .ref 3, .ref 108, .int x0_3])]))) (R (d + 1) 40 (36, [some (.ref 146), some (.ref a1)], [], sl, (CH I A N V lt tw 112 108 [.inr (5, [.ref 1, .ref 3, .ref 108, .int x0_3])]))) :=
  R_aceq (show xk 40 33 = (.if_acmp .eq 17, 36, [50], 0) by decide +kernel) h_b1 (by decide)
set_option maxRecDepth 100000 in
theorem k40_r146_v1_36 (d sl : Nat) (I : Nat → Nat → Int32) (A : Nat → Nat → Int32) (N : Nat → Nat → Int64) (V : Nat → Nat → Option Nat) (lt : Int64) (tw : Option Nat) (a1 : Nat) (x0_3 : Int32) :
  R (d + 1) 40 (36, [some (.ref 146), some (.ref a1)], [], sl, (CH I A N V lt tw 112 108 [.inr (5, [.ref 1, .ref 3, .ref 108, .int x0_3])])) =
    R (d + 1) 40 (37, [some (.ref 146), some (.ref a1)], [.ref a1], sl, (CH I A N V lt tw 112 108 [.inr (5, [.ref 1, .ref 3, .ref 108, .int x0_3])])) :=
  (R_gob [21, 26, 29, 33, 36, 37, 40, 44, 47, 50] 400 _ _ _).trans rfl
set_option maxRecDepth 100000 in
theorem k40_r146_v1_37 (d sl : Nat) (I : Nat → Nat → Int32) (A : Nat → Nat → Int32) (N : Nat → Nat → Int64) (V : Nat → Nat → Option Nat) (lt : Int64) (tw : Option Nat) (a1 : Nat) (b0 : Nat) (x0_3 : Int32) (h_w : x_isw b0 = true) :
  R (d + 1) 40 (37, [some (.ref 146), some (.ref a1)], [.ref b0], sl, (CH I A N V lt tw 112 108 [.inr (5, [.ref 1, .ref 3, .ref 108, .int x0_3])])) =
    bC (C d 4 [.ref b0] sl (CH I A N V lt tw 112 108 [.inr (5, [.ref 1, .ref 3, .ref 108, .int x0_3])])) (fun vs sl h => R (d + 1) 40 (40, [some (.ref 146), some (.ref a1)], vs ++ [], sl, h)) :=
  R_wc (show xk 40 37 = (.invokevirtual 84, 40, [4, 1, 99], 0) by decide +kernel) h_w rfl (cl_far rfl)
set_option maxRecDepth 100000 in
theorem k40_r146_v1_40 (d sl : Nat) (I : Nat → Nat → Int32) (A : Nat → Nat → Int32) (N : Nat → Nat → Int64) (V : Nat → Nat → Option Nat) (lt : Int64) (tw : Option Nat) (a1 : Nat) (b0 : Int32) (x0_3 : Int32) :
  R (d + 1) 40 (40, [some (.ref 146), some (.ref a1)], [.int b0], sl, (CH I A N V lt tw 112 108 [.inr (5, [.ref 1, .ref 3, .ref 108, .int x0_3])])) =
    cond (!decide (b0 = (nI 0))) (R (d + 1) 40 (50, [some (.ref 146), some (.ref a1)], [], sl, (CH I A N V lt tw 112 108 [.inr (5, [.ref 1, .ref 3, .ref 108, .int x0_3])]))) (R (d + 1) 40 (44, [some (.ref 146), some (.ref a1)], [.ref a1], sl, (CH I A N V lt tw 112 108 [.inr (5, [.ref 1, .ref 3, .ref 108, .int x0_3])]))) :=
  (R_gob [21, 26, 29, 33, 36, 37, 40, 44, 47, 50] 400 _ _ _).trans rfl
set_option maxRecDepth 100000 in
theorem k40_r146_v1_44 (d sl : Nat) (I : Nat → Nat → Int32) (A : Nat → Nat → Int32) (N : Nat → Nat → Int64) (V : Nat → Nat → Option Nat) (lt : Int64) (tw : Option Nat) (a1 : Nat) (b0 : Nat) (x0_3 : Int32) (h_w : x_isw b0 = true) :
  R (d + 1) 40 (44, [some (.ref 146), some (.ref a1)], [.ref b0], sl, (CH I A N V lt tw 112 108 [.inr (5, [.ref 1, .ref 3, .ref 108, .int x0_3])])) =
    bC (C d 5 [.ref b0] sl (CH I A N V lt tw 112 108 [.inr (5, [.ref 1, .ref 3, .ref 108, .int x0_3])])) (fun vs sl h => R (d + 1) 40 (47, [some (.ref 146), some (.ref a1)], vs ++ [], sl, h)) :=
  R_wc (show xk 40 44 = (.invokevirtual 87, 47, [5, 1, 99], 0) by decide +kernel) h_w rfl (cl_far rfl)
set_option maxRecDepth 100000 in
theorem k40_r146_v1_47 (d sl : Nat) (I : Nat → Nat → Int32) (A : Nat → Nat → Int32) (N : Nat → Nat → Int64) (V : Nat → Nat → Option Nat) (lt : Int64) (tw : Option Nat) (a1 : Nat) (b0 : Int32) (x0_3 : Int32) :
  R (d + 1) 40 (47, [some (.ref 146), some (.ref a1)], [.int b0], sl, (CH I A N V lt tw 112 108 [.inr (5, [.ref 1, .ref 3, .ref 108, .int x0_3])])) =
    cond (decide (b0 = (nI 0))) (some (55, [some (.ref 146), some (.ref a1)], [.int (nI 0)], sl, (CH I A N V lt tw 112 108 [.inr (5, [.ref 1, .ref 3, .ref 108, .int x0_3])]))) (R (d + 1) 40 (50, [some (.ref 146), some (.ref a1)], [], sl, (CH I A N V lt tw 112 108 [.inr (5, [.ref 1, .ref 3, .ref 108, .int x0_3])]))) :=
  (R_gob [21, 26, 29, 33, 36, 37, 40, 44, 47, 50] 400 _ _ _).trans rfl
set_option maxRecDepth 100000 in
theorem k31_r112_r1000011_0 (d sl : Nat) (I : Nat → Nat → Int32) (A : Nat → Nat → Int32) (N : Nat → Nat → Int64) (V : Nat → Nat → Option Nat) (lt : Int64) (tw : Option Nat) (sp sr : Nat) (X : List AC) (a2 : Int32) (a3 : Int32) :
  R d 31 (0, [some (.ref 112), some (.ref 1000011), some (.int a2), some (.int a3)], [], sl, (CH I A N V lt tw sp sr X)) =
    cond (decide ((nI 40) ≤ (I 112 3))) (some (49, [some (.ref 112), some (.ref 1000011), some (.int a2), some (.int a3)], [], sl, (CH I A N V lt tw sp sr X))) (R d 31 (18, [some (.ref 112), some (.ref 1000011), some (.int a2), some (.int a3)], [.ref 1000011, .int (I 112 3), .ref 113], sl, (CH I A N V lt tw sp sr X))) :=
  (R_gob [18] 400 _ _ _).trans rfl
set_option maxRecDepth 100000 in
theorem k31_r112_r1000011_18 (d sl : Nat) (I : Nat → Nat → Int32) (A : Nat → Nat → Int32) (N : Nat → Nat → Int64) (V : Nat → Nat → Option Nat) (lt : Int64) (tw : Option Nat) (sp sr : Nat) (X : List AC) (a2 : Int32) (a3 : Int32) (b1 : Int32) (hX : Nat.ble X.length 1 = true) :
  R d 31 (18, [some (.ref 112), some (.ref 1000011), some (.int a2), some (.int a3)], [.ref 1000011, .int b1, .ref 113], sl, (CH I A N V lt tw sp sr X)) =
    cond (x_in b1 40) (R d 31 (19, [some (.ref 112), some (.ref 1000011), some (.int a2), some (.int a3)], [], sl, (CH I A N (up1 V 113 (va_up (V 113) b1.toNatClampNeg (some 1000011))) lt tw sp sr X))) none :=
  R_aas31 (a := 113) (show xk 31 18 = (.aastore, 19, [], 0) by decide +kernel) rfl rfl (fun _ => rfl) (cl_far hX)
set_option maxRecDepth 100000 in
theorem k31_r112_r1000011_19 (d sl : Nat) (I : Nat → Nat → Int32) (A : Nat → Nat → Int32) (N : Nat → Nat → Int64) (V : Nat → Nat → Option Nat) (lt : Int64) (tw : Option Nat) (sp sr : Nat) (X : List AC) (a2 : Int32) (a3 : Int32) :
  R d 31 (19, [some (.ref 112), some (.ref 1000011), some (.int a2), some (.int a3)], [], sl, (CH I A N V lt tw sp sr X)) =
    cond (x_in (I 112 3) 40) (cond (x_in (I 112 3) 40) (some (49, [some (.ref 112), some (.ref 1000011), some (.int a2), some (.int a3)], [], sl, (CH (up1 I 112 (up1 (I 112) 3 ((I 112 3) + (nI 1)))) (up1 (up1 A 114 (upd (A 114) (I 112 3).toNatClampNeg a2)) 115 (upd (A 115) (I 112 3).toNatClampNeg a3)) N V lt tw sp sr X))) none) none :=
  (R_gob [18, 19] 400 _ _ _).trans rfl
set_option maxRecDepth 100000 in
theorem k41_r146_v0_0 (d sl : Nat) (I : Nat → Nat → Int32) (A : Nat → Nat → Int32) (N : Nat → Nat → Int64) (V : Nat → Nat → Option Nat) (lt : Int64) (tw : Option Nat) (a1 : Nat) (x0_3 : Int32) :
  R (d + 1) 41 (0, [some (.ref 146), some (.ref a1), none], [], sl, (CH I A N V lt tw 108 112 [.inr (5, [.ref 1, .ref 3, .ref 112, .int x0_3])])) =
    R (d + 1) 41 (4, [some (.ref 146), some (.ref a1), none], [.ref 1000016, .ref a1], sl, (CH I A N V lt tw 108 112 [.inr (5, [.ref 1, .ref 3, .ref 112, .int x0_3])])) :=
  (R_gob [4, 19, 40, 43, 46, 59, 68, 92, 113] 400 _ _ _).trans rfl
set_option maxRecDepth 100000 in
theorem k41_r146_v0_4 (d sl : Nat) (I : Nat → Nat → Int32) (A : Nat → Nat → Int32) (N : Nat → Nat → Int64) (V : Nat → Nat → Option Nat) (lt : Int64) (tw : Option Nat) (a1 : Nat) (b1 : Nat) (x0_3 : Int32) (h_b1 : x_isw b1 = true) :
  R (d + 1) 41 (4, [some (.ref 146), some (.ref a1), none], [.ref 1000016, .ref b1], sl, (CH I A N V lt tw 108 112 [.inr (5, [.ref 1, .ref 3, .ref 112, .int x0_3])])) =
    cond (!(Nat.beq b1 1000016)) (R (d + 1) 41 (42, [some (.ref 146), some (.ref a1), none], [], sl, (CH I A N V lt tw 108 112 [.inr (5, [.ref 1, .ref 3, .ref 112, .int x0_3])]))) (R (d + 1) 41 (7, [some (.ref 146), some (.ref a1), none], [], sl, (CH I A N V lt tw 108 112 [.inr (5, [.ref 1, .ref 3, .ref 112, .int x0_3])]))) :=
  R_acne (show xk 41 4 = (.if_acmp .ne 38, 7, [42], 0) by decide +kernel) h_b1 (by decide)
set_option maxRecDepth 100000 in
theorem k41_r146_v0_42 (d sl : Nat) (I : Nat → Nat → Int32) (A : Nat → Nat → Int32) (N : Nat → Nat → Int64) (V : Nat → Nat → Option Nat) (lt : Int64) (tw : Option Nat) (a1 : Nat) (x0_3 : Int32) :
  R (d + 1) 41 (42, [some (.ref 146), some (.ref a1), none], [], sl, (CH I A N V lt tw 108 112 [.inr (5, [.ref 1, .ref 3, .ref 112, .int x0_3])])) =
    R (d + 1) 41 (43, [some (.ref 146), some (.ref a1), none], [.ref a1], sl, (CH I A N V lt tw 108 112 [.inr (5, [.ref 1, .ref 3, .ref 112, .int x0_3])])) :=
  (R_gob [4, 7, 19, 40, 42, 43, 46, 59, 68, 92, 113] 400 _ _ _).trans rfl
set_option maxRecDepth 100000 in
theorem k41_r146_v0_7 (d sl : Nat) (I : Nat → Nat → Int32) (A : Nat → Nat → Int32) (N : Nat → Nat → Int64) (V : Nat → Nat → Option Nat) (lt : Int64) (tw : Option Nat) (a1 : Nat) (x0_3 : Int32) :
  R (d + 1) 41 (7, [some (.ref 146), some (.ref a1), none], [], sl, (CH I A N V lt tw 108 112 [.inr (5, [.ref 1, .ref 3, .ref 112, .int x0_3])])) =
    bC (C d 104 [.ref 1, .ref 3, .int (-1 : Int32)] sl (CH I A N V lt tw 108 112 [.inr (5, [.ref 1, .ref 3, .ref 112, .int x0_3])])) (fun vs sl h => R (d + 1) 41 (19, [some (.ref 146), some (.ref a1), none], vs ++ [], sl, h)) :=
  (R_gob [4, 7, 19, 40, 42, 43, 46, 59, 68, 92, 113] 400 _ _ _).trans rfl
set_option maxRecDepth 100000 in
theorem k41_r146_v0_43 (d sl : Nat) (I : Nat → Nat → Int32) (A : Nat → Nat → Int32) (N : Nat → Nat → Int64) (V : Nat → Nat → Option Nat) (lt : Int64) (tw : Option Nat) (a1 : Nat) (b0 : Nat) (x0_3 : Int32) (h_w : x_isw b0 = true) :
  R (d + 1) 41 (43, [some (.ref 146), some (.ref a1), none], [.ref b0], sl, (CH I A N V lt tw 108 112 [.inr (5, [.ref 1, .ref 3, .ref 112, .int x0_3])])) =
    bC (C d 4 [.ref b0] sl (CH I A N V lt tw 108 112 [.inr (5, [.ref 1, .ref 3, .ref 112, .int x0_3])])) (fun vs sl h => R (d + 1) 41 (46, [some (.ref 146), some (.ref a1), none], vs ++ [], sl, h)) :=
  R_wc (show xk 41 43 = (.invokevirtual 84, 46, [4, 1, 99], 0) by decide +kernel) h_w rfl (cl_far rfl)
set_option maxRecDepth 100000 in
theorem k41_r146_v0_19 (d sl : Nat) (I : Nat → Nat → Int32) (A : Nat → Nat → Int32) (N : Nat → Nat → Int64) (V : Nat → Nat → Option Nat) (lt : Int64) (tw : Option Nat) (a1 : Nat) (b0 : Int32) (x0_3 : Int32) :
  R (d + 1) 41 (19, [some (.ref 146), some (.ref a1), none], [.int b0], sl, (CH I A N V lt tw 108 112 [.inr (5, [.ref 1, .ref 3, .ref 112, .int x0_3])])) =
    cond (!decide (b0 = (nI 0))) (bC (C d 31 [.ref 112, .ref a1, .int (nI 0), .int (I 1 9)] sl (CH I A N V lt tw 108 112 [.inr (5, [.ref 1, .ref 3, .ref 112, .int x0_3])])) (fun vs sl h => R (d + 1) 41 (40, [some (.ref 146), some (.ref a1), none], vs ++ [], sl, h))) (some (23, [some (.ref 146), some (.ref a1), none], [.int (nI 0)], sl, (CH I A N V lt tw 108 112 [.inr (5, [.ref 1, .ref 3, .ref 112, .int x0_3])]))) :=
  (R_gob [4, 7, 19, 40, 42, 43, 46, 59, 68, 92, 113] 400 _ _ _).trans rfl
set_option maxRecDepth 100000 in
theorem k41_r146_v0_46 (d sl : Nat) (I : Nat → Nat → Int32) (A : Nat → Nat → Int32) (N : Nat → Nat → Int64) (V : Nat → Nat → Option Nat) (lt : Int64) (tw : Option Nat) (a1 : Nat) (b0 : Int32) (x0_3 : Int32) :
  R (d + 1) 41 (46, [some (.ref 146), some (.ref a1), none], [.int b0], sl, (CH I A N V lt tw 108 112 [.inr (5, [.ref 1, .ref 3, .ref 112, .int x0_3])])) =
    cond (decide (b0 = (nI 0))) (bC (C d 100 [.ref 1] sl (CH I A N V lt tw 108 112 [.inr (5, [.ref 1, .ref 3, .ref 112, .int x0_3])])) (fun vs sl h => R (d + 1) 41 (68, [some (.ref 146), some (.ref a1), none], vs ++ [], sl, h))) (bC (C d 31 [.ref 112, .ref a1, .int (nI 0), .int (nI 0)] sl (CH I A N V lt tw 108 112 [.inr (5, [.ref 1, .ref 3, .ref 112, .int x0_3])])) (fun vs sl h => R (d + 1) 41 (59, [some (.ref 146), some (.ref a1), none], vs ++ [], sl, h))) :=
  (R_gob [4, 7, 19, 40, 42, 43, 46, 59, 68, 92, 113] 400 _ _ _).trans rfl
set_option maxRecDepth 100000 in
theorem k41_r146_v0_40 (d sl : Nat) (I : Nat → Nat → Int32) (A : Nat → Nat → Int32) (N : Nat → Nat → Int64) (V : Nat → Nat → Option Nat) (lt : Int64) (tw : Option Nat) (a1 : Nat) (x0_3 : Int32) :
  R (d + 1) 41 (40, [some (.ref 146), some (.ref a1), none], [], sl, (CH I A N V lt tw 108 112 [.inr (5, [.ref 1, .ref 3, .ref 112, .int x0_3])])) =
    some (41, [some (.ref 146), some (.ref a1), none], [.int (nI 1)], sl, (CH I A N V lt tw 108 112 [.inr (5, [.ref 1, .ref 3, .ref 112, .int x0_3])])) :=
  (R_gob [4, 7, 19, 40, 42, 43, 46, 59, 68, 92, 113] 400 _ _ _).trans rfl
set_option maxRecDepth 100000 in
theorem k41_r146_v0_68 (d sl : Nat) (I : Nat → Nat → Int32) (A : Nat → Nat → Int32) (N : Nat → Nat → Int64) (V : Nat → Nat → Option Nat) (lt : Int64) (tw : Option Nat) (a1 : Nat) (b0 : Int32) (x0_3 : Int32) :
  R (d + 1) 41 (68, [some (.ref 146), some (.ref a1), none], [.int b0], sl, (CH I A N V lt tw 108 112 [.inr (5, [.ref 1, .ref 3, .ref 112, .int x0_3])])) =
    cond (!decide (b0 = (nI 0))) (bC (C d 102 [.ref 1, .int (nI 0), .int (nI 999)] sl (CH I A N V lt tw 108 112 [.inr (5, [.ref 1, .ref 3, .ref 112, .int x0_3])])) (fun vs sl h => R (d + 1) 41 (92, [some (.ref 146), some (.ref a1), some (.int (I 1 9))], vs ++ [], sl, h))) (some (72, [some (.ref 146), some (.ref a1), none], [.int (nI 0)], sl, (CH I A N V lt tw 108 112 [.inr (5, [.ref 1, .ref 3, .ref 112, .int x0_3])]))) :=
  (R_gob [4, 7, 19, 40, 42, 43, 46, 59, 68, 92, 113] 400 _ _ _).trans rfl
set_option maxRecDepth 100000 in
theorem k41_r146_v0_59 (d sl : Nat) (I : Nat → Nat → Int32) (A : Nat → Nat → Int32) (N : Nat → Nat → Int64) (V : Nat → Nat → Option Nat) (lt : Int64) (tw : Option Nat) (a1 : Nat) (x0_3 : Int32) :
  R (d + 1) 41 (59, [some (.ref 146), some (.ref a1), none], [], sl, (CH I A N V lt tw 108 112 [.inr (5, [.ref 1, .ref 3, .ref 112, .int x0_3])])) =
    some (60, [some (.ref 146), some (.ref a1), none], [.int (nI 1)], sl, (CH I A N V lt tw 108 112 [.inr (5, [.ref 1, .ref 3, .ref 112, .int x0_3])])) :=
  (R_gob [4, 7, 19, 40, 42, 43, 46, 59, 68, 92, 113] 400 _ _ _).trans rfl
set_option maxRecDepth 100000 in
theorem k41_r146_v0_92 (d sl : Nat) (I : Nat → Nat → Int32) (A : Nat → Nat → Int32) (N : Nat → Nat → Int64) (V : Nat → Nat → Option Nat) (lt : Int64) (tw : Option Nat) (a1 : Nat) (a2 : Int32) (b0 : Int32) (x0_3 : Int32) :
  R (d + 1) 41 (92, [some (.ref 146), some (.ref a1), some (.int a2)], [.int b0], sl, (CH I A N V lt tw 108 112 [.inr (5, [.ref 1, .ref 3, .ref 112, .int x0_3])])) =
    cond (!decide (b0 = (nI 0))) (bC (C d 31 [.ref 112, .ref a1, .int a2, .int (I 1 9)] sl (CH I A N V lt tw 108 112 [.inr (5, [.ref 1, .ref 3, .ref 112, .int x0_3])])) (fun vs sl h => R (d + 1) 41 (113, [some (.ref 146), some (.ref a1), some (.int a2)], vs ++ [], sl, h))) (some (96, [some (.ref 146), some (.ref a1), some (.int a2)], [.int (nI 0)], sl, (CH I A N V lt tw 108 112 [.inr (5, [.ref 1, .ref 3, .ref 112, .int x0_3])]))) :=
  (R_gob [4, 7, 19, 40, 42, 43, 46, 59, 68, 92, 113] 400 _ _ _).trans rfl
set_option maxRecDepth 100000 in
theorem k41_r146_v0_113 (d sl : Nat) (I : Nat → Nat → Int32) (A : Nat → Nat → Int32) (N : Nat → Nat → Int64) (V : Nat → Nat → Option Nat) (lt : Int64) (tw : Option Nat) (a1 : Nat) (a2 : Int32) (x0_3 : Int32) :
  R (d + 1) 41 (113, [some (.ref 146), some (.ref a1), some (.int a2)], [], sl, (CH I A N V lt tw 108 112 [.inr (5, [.ref 1, .ref 3, .ref 112, .int x0_3])])) =
    some (114, [some (.ref 146), some (.ref a1), some (.int a2)], [.int (nI 1)], sl, (CH I A N V lt tw 108 112 [.inr (5, [.ref 1, .ref 3, .ref 112, .int x0_3])])) :=
  (R_gob [4, 7, 19, 40, 42, 43, 46, 59, 68, 92, 113] 400 _ _ _).trans rfl
set_option maxRecDepth 100000 in
theorem k41_r146_v1_0 (d sl : Nat) (I : Nat → Nat → Int32) (A : Nat → Nat → Int32) (N : Nat → Nat → Int64) (V : Nat → Nat → Option Nat) (lt : Int64) (tw : Option Nat) (a1 : Nat) (x0_3 : Int32) :
  R (d + 1) 41 (0, [some (.ref 146), some (.ref a1), none], [], sl, (CH I A N V lt tw 112 108 [.inr (5, [.ref 1, .ref 3, .ref 108, .int x0_3])])) =
    R (d + 1) 41 (4, [some (.ref 146), some (.ref a1), none], [.ref 1000016, .ref a1], sl, (CH I A N V lt tw 112 108 [.inr (5, [.ref 1, .ref 3, .ref 108, .int x0_3])])) :=
  (R_gob [4, 19, 40, 43, 46, 59, 68, 92, 113] 400 _ _ _).trans rfl
set_option maxRecDepth 100000 in
theorem k41_r146_v1_4 (d sl : Nat) (I : Nat → Nat → Int32) (A : Nat → Nat → Int32) (N : Nat → Nat → Int64) (V : Nat → Nat → Option Nat) (lt : Int64) (tw : Option Nat) (a1 : Nat) (b1 : Nat) (x0_3 : Int32) (h_b1 : x_isw b1 = true) :
  R (d + 1) 41 (4, [some (.ref 146), some (.ref a1), none], [.ref 1000016, .ref b1], sl, (CH I A N V lt tw 112 108 [.inr (5, [.ref 1, .ref 3, .ref 108, .int x0_3])])) =
    cond (!(Nat.beq b1 1000016)) (R (d + 1) 41 (42, [some (.ref 146), some (.ref a1), none], [], sl, (CH I A N V lt tw 112 108 [.inr (5, [.ref 1, .ref 3, .ref 108, .int x0_3])]))) (R (d + 1) 41 (7, [some (.ref 146), some (.ref a1), none], [], sl, (CH I A N V lt tw 112 108 [.inr (5, [.ref 1, .ref 3, .ref 108, .int x0_3])]))) :=
  R_acne (show xk 41 4 = (.if_acmp .ne 38, 7, [42], 0) by decide +kernel) h_b1 (by decide)
set_option maxRecDepth 100000 in
theorem k41_r146_v1_42 (d sl : Nat) (I : Nat → Nat → Int32) (A : Nat → Nat → Int32) (N : Nat → Nat → Int64) (V : Nat → Nat → Option Nat) (lt : Int64) (tw : Option Nat) (a1 : Nat) (x0_3 : Int32) :
  R (d + 1) 41 (42, [some (.ref 146), some (.ref a1), none], [], sl, (CH I A N V lt tw 112 108 [.inr (5, [.ref 1, .ref 3, .ref 108, .int x0_3])])) =
    R (d + 1) 41 (43, [some (.ref 146), some (.ref a1), none], [.ref a1], sl, (CH I A N V lt tw 112 108 [.inr (5, [.ref 1, .ref 3, .ref 108, .int x0_3])])) :=
  (R_gob [4, 7, 19, 40, 42, 43, 46, 59, 68, 92, 113] 400 _ _ _).trans rfl
set_option maxRecDepth 100000 in
theorem k41_r146_v1_7 (d sl : Nat) (I : Nat → Nat → Int32) (A : Nat → Nat → Int32) (N : Nat → Nat → Int64) (V : Nat → Nat → Option Nat) (lt : Int64) (tw : Option Nat) (a1 : Nat) (x0_3 : Int32) :
  R (d + 1) 41 (7, [some (.ref 146), some (.ref a1), none], [], sl, (CH I A N V lt tw 112 108 [.inr (5, [.ref 1, .ref 3, .ref 108, .int x0_3])])) =
    bC (C d 104 [.ref 1, .ref 3, .int (-1 : Int32)] sl (CH I A N V lt tw 112 108 [.inr (5, [.ref 1, .ref 3, .ref 108, .int x0_3])])) (fun vs sl h => R (d + 1) 41 (19, [some (.ref 146), some (.ref a1), none], vs ++ [], sl, h)) :=
  (R_gob [4, 7, 19, 40, 42, 43, 46, 59, 68, 92, 113] 400 _ _ _).trans rfl
set_option maxRecDepth 100000 in
theorem k41_r146_v1_43 (d sl : Nat) (I : Nat → Nat → Int32) (A : Nat → Nat → Int32) (N : Nat → Nat → Int64) (V : Nat → Nat → Option Nat) (lt : Int64) (tw : Option Nat) (a1 : Nat) (b0 : Nat) (x0_3 : Int32) (h_w : x_isw b0 = true) :
  R (d + 1) 41 (43, [some (.ref 146), some (.ref a1), none], [.ref b0], sl, (CH I A N V lt tw 112 108 [.inr (5, [.ref 1, .ref 3, .ref 108, .int x0_3])])) =
    bC (C d 4 [.ref b0] sl (CH I A N V lt tw 112 108 [.inr (5, [.ref 1, .ref 3, .ref 108, .int x0_3])])) (fun vs sl h => R (d + 1) 41 (46, [some (.ref 146), some (.ref a1), none], vs ++ [], sl, h)) :=
  R_wc (show xk 41 43 = (.invokevirtual 84, 46, [4, 1, 99], 0) by decide +kernel) h_w rfl (cl_far rfl)
set_option maxRecDepth 100000 in
theorem k41_r146_v1_19 (d sl : Nat) (I : Nat → Nat → Int32) (A : Nat → Nat → Int32) (N : Nat → Nat → Int64) (V : Nat → Nat → Option Nat) (lt : Int64) (tw : Option Nat) (a1 : Nat) (b0 : Int32) (x0_3 : Int32) :
  R (d + 1) 41 (19, [some (.ref 146), some (.ref a1), none], [.int b0], sl, (CH I A N V lt tw 112 108 [.inr (5, [.ref 1, .ref 3, .ref 108, .int x0_3])])) =
    cond (!decide (b0 = (nI 0))) (bC (C d 31 [.ref 108, .ref a1, .int (nI 0), .int (I 1 9)] sl (CH I A N V lt tw 112 108 [.inr (5, [.ref 1, .ref 3, .ref 108, .int x0_3])])) (fun vs sl h => R (d + 1) 41 (40, [some (.ref 146), some (.ref a1), none], vs ++ [], sl, h))) (some (23, [some (.ref 146), some (.ref a1), none], [.int (nI 0)], sl, (CH I A N V lt tw 112 108 [.inr (5, [.ref 1, .ref 3, .ref 108, .int x0_3])]))) :=
  (R_gob [4, 7, 19, 40, 42, 43, 46, 59, 68, 92, 113] 400 _ _ _).trans rfl
set_option maxRecDepth 100000 in
theorem k41_r146_v1_46 (d sl : Nat) (I : Nat → Nat → Int32) (A : Nat → Nat → Int32) (N : Nat → Nat → Int64) (V : Nat → Nat → Option Nat) (lt : Int64) (tw : Option Nat) (a1 : Nat) (b0 : Int32) (x0_3 : Int32) :
  R (d + 1) 41 (46, [some (.ref 146), some (.ref a1), none], [.int b0], sl, (CH I A N V lt tw 112 108 [.inr (5, [.ref 1, .ref 3, .ref 108, .int x0_3])])) =
    cond (decide (b0 = (nI 0))) (bC (C d 100 [.ref 1] sl (CH I A N V lt tw 112 108 [.inr (5, [.ref 1, .ref 3, .ref 108, .int x0_3])])) (fun vs sl h => R (d + 1) 41 (68, [some (.ref 146), some (.ref a1), none], vs ++ [], sl, h))) (bC (C d 31 [.ref 108, .ref a1, .int (nI 0), .int (nI 0)] sl (CH I A N V lt tw 112 108 [.inr (5, [.ref 1, .ref 3, .ref 108, .int x0_3])])) (fun vs sl h => R (d + 1) 41 (59, [some (.ref 146), some (.ref a1), none], vs ++ [], sl, h))) :=
  (R_gob [4, 7, 19, 40, 42, 43, 46, 59, 68, 92, 113] 400 _ _ _).trans rfl
set_option maxRecDepth 100000 in
theorem k41_r146_v1_40 (d sl : Nat) (I : Nat → Nat → Int32) (A : Nat → Nat → Int32) (N : Nat → Nat → Int64) (V : Nat → Nat → Option Nat) (lt : Int64) (tw : Option Nat) (a1 : Nat) (x0_3 : Int32) :
  R (d + 1) 41 (40, [some (.ref 146), some (.ref a1), none], [], sl, (CH I A N V lt tw 112 108 [.inr (5, [.ref 1, .ref 3, .ref 108, .int x0_3])])) =
    some (41, [some (.ref 146), some (.ref a1), none], [.int (nI 1)], sl, (CH I A N V lt tw 112 108 [.inr (5, [.ref 1, .ref 3, .ref 108, .int x0_3])])) :=
  (R_gob [4, 7, 19, 40, 42, 43, 46, 59, 68, 92, 113] 400 _ _ _).trans rfl
set_option maxRecDepth 100000 in
theorem k41_r146_v1_68 (d sl : Nat) (I : Nat → Nat → Int32) (A : Nat → Nat → Int32) (N : Nat → Nat → Int64) (V : Nat → Nat → Option Nat) (lt : Int64) (tw : Option Nat) (a1 : Nat) (b0 : Int32) (x0_3 : Int32) :
  R (d + 1) 41 (68, [some (.ref 146), some (.ref a1), none], [.int b0], sl, (CH I A N V lt tw 112 108 [.inr (5, [.ref 1, .ref 3, .ref 108, .int x0_3])])) =
    cond (!decide (b0 = (nI 0))) (bC (C d 102 [.ref 1, .int (nI 0), .int (nI 999)] sl (CH I A N V lt tw 112 108 [.inr (5, [.ref 1, .ref 3, .ref 108, .int x0_3])])) (fun vs sl h => R (d + 1) 41 (92, [some (.ref 146), some (.ref a1), some (.int (I 1 9))], vs ++ [], sl, h))) (some (72, [some (.ref 146), some (.ref a1), none], [.int (nI 0)], sl, (CH I A N V lt tw 112 108 [.inr (5, [.ref 1, .ref 3, .ref 108, .int x0_3])]))) :=
  (R_gob [4, 7, 19, 40, 42, 43, 46, 59, 68, 92, 113] 400 _ _ _).trans rfl
set_option maxRecDepth 100000 in
theorem k41_r146_v1_59 (d sl : Nat) (I : Nat → Nat → Int32) (A : Nat → Nat → Int32) (N : Nat → Nat → Int64) (V : Nat → Nat → Option Nat) (lt : Int64) (tw : Option Nat) (a1 : Nat) (x0_3 : Int32) :
  R (d + 1) 41 (59, [some (.ref 146), some (.ref a1), none], [], sl, (CH I A N V lt tw 112 108 [.inr (5, [.ref 1, .ref 3, .ref 108, .int x0_3])])) =
    some (60, [some (.ref 146), some (.ref a1), none], [.int (nI 1)], sl, (CH I A N V lt tw 112 108 [.inr (5, [.ref 1, .ref 3, .ref 108, .int x0_3])])) :=
  (R_gob [4, 7, 19, 40, 42, 43, 46, 59, 68, 92, 113] 400 _ _ _).trans rfl
set_option maxRecDepth 100000 in
theorem k41_r146_v1_92 (d sl : Nat) (I : Nat → Nat → Int32) (A : Nat → Nat → Int32) (N : Nat → Nat → Int64) (V : Nat → Nat → Option Nat) (lt : Int64) (tw : Option Nat) (a1 : Nat) (a2 : Int32) (b0 : Int32) (x0_3 : Int32) :
  R (d + 1) 41 (92, [some (.ref 146), some (.ref a1), some (.int a2)], [.int b0], sl, (CH I A N V lt tw 112 108 [.inr (5, [.ref 1, .ref 3, .ref 108, .int x0_3])])) =
    cond (!decide (b0 = (nI 0))) (bC (C d 31 [.ref 108, .ref a1, .int a2, .int (I 1 9)] sl (CH I A N V lt tw 112 108 [.inr (5, [.ref 1, .ref 3, .ref 108, .int x0_3])])) (fun vs sl h => R (d + 1) 41 (113, [some (.ref 146), some (.ref a1), some (.int a2)], vs ++ [], sl, h))) (some (96, [some (.ref 146), some (.ref a1), some (.int a2)], [.int (nI 0)], sl, (CH I A N V lt tw 112 108 [.inr (5, [.ref 1, .ref 3, .ref 108, .int x0_3])]))) :=
  (R_gob [4, 7, 19, 40, 42, 43, 46, 59, 68, 92, 113] 400 _ _ _).trans rfl
set_option maxRecDepth 100000 in
theorem k41_r146_v1_113 (d sl : Nat) (I : Nat → Nat → Int32) (A : Nat → Nat → Int32) (N : Nat → Nat → Int64) (V : Nat → Nat → Option Nat) (lt : Int64) (tw : Option Nat) (a1 : Nat) (a2 : Int32) (x0_3 : Int32) :
  R (d + 1) 41 (113, [some (.ref 146), some (.ref a1), some (.int a2)], [], sl, (CH I A N V lt tw 112 108 [.inr (5, [.ref 1, .ref 3, .ref 108, .int x0_3])])) =
    some (114, [some (.ref 146), some (.ref a1), some (.int a2)], [.int (nI 1)], sl, (CH I A N V lt tw 112 108 [.inr (5, [.ref 1, .ref 3, .ref 108, .int x0_3])])) :=
  (R_gob [4, 7, 19, 40, 42, 43, 46, 59, 68, 92, 113] 400 _ _ _).trans rfl
set_option maxRecDepth 100000 in
theorem k31_r108_r1000011_0 (d sl : Nat) (I : Nat → Nat → Int32) (A : Nat → Nat → Int32) (N : Nat → Nat → Int64) (V : Nat → Nat → Option Nat) (lt : Int64) (tw : Option Nat) (sp sr : Nat) (X : List AC) (a2 : Int32) (a3 : Int32) :
  R d 31 (0, [some (.ref 108), some (.ref 1000011), some (.int a2), some (.int a3)], [], sl, (CH I A N V lt tw sp sr X)) =
    cond (decide ((nI 40) ≤ (I 108 3))) (some (49, [some (.ref 108), some (.ref 1000011), some (.int a2), some (.int a3)], [], sl, (CH I A N V lt tw sp sr X))) (R d 31 (18, [some (.ref 108), some (.ref 1000011), some (.int a2), some (.int a3)], [.ref 1000011, .int (I 108 3), .ref 109], sl, (CH I A N V lt tw sp sr X))) :=
  (R_gob [18] 400 _ _ _).trans rfl
set_option maxRecDepth 100000 in
theorem k31_r108_r1000011_18 (d sl : Nat) (I : Nat → Nat → Int32) (A : Nat → Nat → Int32) (N : Nat → Nat → Int64) (V : Nat → Nat → Option Nat) (lt : Int64) (tw : Option Nat) (sp sr : Nat) (X : List AC) (a2 : Int32) (a3 : Int32) (b1 : Int32) (hX : Nat.ble X.length 1 = true) :
  R d 31 (18, [some (.ref 108), some (.ref 1000011), some (.int a2), some (.int a3)], [.ref 1000011, .int b1, .ref 109], sl, (CH I A N V lt tw sp sr X)) =
    cond (x_in b1 40) (R d 31 (19, [some (.ref 108), some (.ref 1000011), some (.int a2), some (.int a3)], [], sl, (CH I A N (up1 V 109 (va_up (V 109) b1.toNatClampNeg (some 1000011))) lt tw sp sr X))) none :=
  R_aas31 (a := 109) (show xk 31 18 = (.aastore, 19, [], 0) by decide +kernel) rfl rfl (fun _ => rfl) (cl_far hX)
set_option maxRecDepth 100000 in
theorem k31_r108_r1000011_19 (d sl : Nat) (I : Nat → Nat → Int32) (A : Nat → Nat → Int32) (N : Nat → Nat → Int64) (V : Nat → Nat → Option Nat) (lt : Int64) (tw : Option Nat) (sp sr : Nat) (X : List AC) (a2 : Int32) (a3 : Int32) :
  R d 31 (19, [some (.ref 108), some (.ref 1000011), some (.int a2), some (.int a3)], [], sl, (CH I A N V lt tw sp sr X)) =
    cond (x_in (I 108 3) 40) (cond (x_in (I 108 3) 40) (some (49, [some (.ref 108), some (.ref 1000011), some (.int a2), some (.int a3)], [], sl, (CH (up1 I 108 (up1 (I 108) 3 ((I 108 3) + (nI 1)))) (up1 (up1 A 110 (upd (A 110) (I 108 3).toNatClampNeg a2)) 111 (upd (A 111) (I 108 3).toNatClampNeg a3)) N V lt tw sp sr X))) none) none :=
  (R_gob [18, 19] 400 _ _ _).trans rfl
set_option maxRecDepth 100000 in
theorem k4_0 (d sl : Nat) (I : Nat → Nat → Int32) (A : Nat → Nat → Int32) (N : Nat → Nat → Int64) (V : Nat → Nat → Option Nat) (lt : Int64) (tw : Option Nat) (sp sr : Nat) (X : List AC) (a0 : Nat) :
  R d 4 (0, [some (.ref a0)], [], sl, (CH I A N V lt tw sp sr X)) =
    R d 4 (4, [some (.ref a0)], [.ref 1000012, .ref a0], sl, (CH I A N V lt tw sp sr X)) :=
  (R_gob [4] 400 _ _ _).trans rfl
set_option maxRecDepth 100000 in
theorem k4_4 (d sl : Nat) (I : Nat → Nat → Int32) (A : Nat → Nat → Int32) (N : Nat → Nat → Int64) (V : Nat → Nat → Option Nat) (lt : Int64) (tw : Option Nat) (sp sr : Nat) (X : List AC) (a0 : Nat) (b1 : Nat) (h_b1 : x_isw b1 = true) :
  R d 4 (4, [some (.ref a0)], [.ref 1000012, .ref b1], sl, (CH I A N V lt tw sp sr X)) =
    cond ((Nat.beq b1 1000012)) (R d 4 (28, [some (.ref a0)], [], sl, (CH I A N V lt tw sp sr X))) (R d 4 (7, [some (.ref a0)], [], sl, (CH I A N V lt tw sp sr X))) :=
  R_aceq (show xk 4 4 = (.if_acmp .eq 24, 7, [28], 0) by decide +kernel) h_b1 (by decide)
set_option maxRecDepth 100000 in
theorem k4_28 (d sl : Nat) (I : Nat → Nat → Int32) (A : Nat → Nat → Int32) (N : Nat → Nat → Int64) (V : Nat → Nat → Option Nat) (lt : Int64) (tw : Option Nat) (sp sr : Nat) (X : List AC) (a0 : Nat) :
  R d 4 (28, [some (.ref a0)], [], sl, (CH I A N V lt tw sp sr X)) =
    some (33, [some (.ref a0)], [.int (nI 1)], sl, (CH I A N V lt tw sp sr X)) :=
  (R_gob [4, 7, 28] 400 _ _ _).trans rfl
set_option maxRecDepth 100000 in
theorem k4_7 (d sl : Nat) (I : Nat → Nat → Int32) (A : Nat → Nat → Int32) (N : Nat → Nat → Int64) (V : Nat → Nat → Option Nat) (lt : Int64) (tw : Option Nat) (sp sr : Nat) (X : List AC) (a0 : Nat) :
  R d 4 (7, [some (.ref a0)], [], sl, (CH I A N V lt tw sp sr X)) =
    R d 4 (11, [some (.ref a0)], [.ref 1000013, .ref a0], sl, (CH I A N V lt tw sp sr X)) :=
  (R_gob [4, 7, 11, 28] 400 _ _ _).trans rfl
set_option maxRecDepth 100000 in
theorem k4_11 (d sl : Nat) (I : Nat → Nat → Int32) (A : Nat → Nat → Int32) (N : Nat → Nat → Int64) (V : Nat → Nat → Option Nat) (lt : Int64) (tw : Option Nat) (sp sr : Nat) (X : List AC) (a0 : Nat) (b1 : Nat) (h_b1 : x_isw b1 = true) :
  R d 4 (11, [some (.ref a0)], [.ref 1000013, .ref b1], sl, (CH I A N V lt tw sp sr X)) =
    cond ((Nat.beq b1 1000013)) (R d 4 (28, [some (.ref a0)], [], sl, (CH I A N V lt tw sp sr X))) (R d 4 (14, [some (.ref a0)], [], sl, (CH I A N V lt tw sp sr X))) :=
  R_aceq (show xk 4 11 = (.if_acmp .eq 17, 14, [28], 0) by decide +kernel) h_b1 (by decide)
set_option maxRecDepth 100000 in
theorem k4_14 (d sl : Nat) (I : Nat → Nat → Int32) (A : Nat → Nat → Int32) (N : Nat → Nat → Int64) (V : Nat → Nat → Option Nat) (lt : Int64) (tw : Option Nat) (sp sr : Nat) (X : List AC) (a0 : Nat) :
  R d 4 (14, [some (.ref a0)], [], sl, (CH I A N V lt tw sp sr X)) =
    R d 4 (18, [some (.ref a0)], [.ref 1000014, .ref a0], sl, (CH I A N V lt tw sp sr X)) :=
  (R_gob [4, 7, 11, 14, 18, 28] 400 _ _ _).trans rfl
set_option maxRecDepth 100000 in
theorem k4_18 (d sl : Nat) (I : Nat → Nat → Int32) (A : Nat → Nat → Int32) (N : Nat → Nat → Int64) (V : Nat → Nat → Option Nat) (lt : Int64) (tw : Option Nat) (sp sr : Nat) (X : List AC) (a0 : Nat) (b1 : Nat) (h_b1 : x_isw b1 = true) :
  R d 4 (18, [some (.ref a0)], [.ref 1000014, .ref b1], sl, (CH I A N V lt tw sp sr X)) =
    cond ((Nat.beq b1 1000014)) (R d 4 (28, [some (.ref a0)], [], sl, (CH I A N V lt tw sp sr X))) (R d 4 (21, [some (.ref a0)], [], sl, (CH I A N V lt tw sp sr X))) :=
  R_aceq (show xk 4 18 = (.if_acmp .eq 10, 21, [28], 0) by decide +kernel) h_b1 (by decide)
set_option maxRecDepth 100000 in
theorem k4_21 (d sl : Nat) (I : Nat → Nat → Int32) (A : Nat → Nat → Int32) (N : Nat → Nat → Int64) (V : Nat → Nat → Option Nat) (lt : Int64) (tw : Option Nat) (sp sr : Nat) (X : List AC) (a0 : Nat) :
  R d 4 (21, [some (.ref a0)], [], sl, (CH I A N V lt tw sp sr X)) =
    R d 4 (25, [some (.ref a0)], [.ref 1000015, .ref a0], sl, (CH I A N V lt tw sp sr X)) :=
  (R_gob [4, 7, 11, 14, 18, 21, 25, 28] 400 _ _ _).trans rfl
set_option maxRecDepth 100000 in
theorem k4_25 (d sl : Nat) (I : Nat → Nat → Int32) (A : Nat → Nat → Int32) (N : Nat → Nat → Int64) (V : Nat → Nat → Option Nat) (lt : Int64) (tw : Option Nat) (sp sr : Nat) (X : List AC) (a0 : Nat) (b1 : Nat) (h_b1 : x_isw b1 = true) :
  R d 4 (25, [some (.ref a0)], [.ref 1000015, .ref b1], sl, (CH I A N V lt tw sp sr X)) =
    cond (!(Nat.beq b1 1000015)) (R d 4 (32, [some (.ref a0)], [], sl, (CH I A N V lt tw sp sr X))) (R d 4 (28, [some (.ref a0)], [], sl, (CH I A N V lt tw sp sr X))) :=
  R_acne (show xk 4 25 = (.if_acmp .ne 7, 28, [32], 0) by decide +kernel) h_b1 (by decide)
set_option maxRecDepth 100000 in
theorem k4_32 (d sl : Nat) (I : Nat → Nat → Int32) (A : Nat → Nat → Int32) (N : Nat → Nat → Int64) (V : Nat → Nat → Option Nat) (lt : Int64) (tw : Option Nat) (sp sr : Nat) (X : List AC) (a0 : Nat) :
  R d 4 (32, [some (.ref a0)], [], sl, (CH I A N V lt tw sp sr X)) =
    some (33, [some (.ref a0)], [.int (nI 0)], sl, (CH I A N V lt tw sp sr X)) :=
  (R_gob [4, 7, 11, 14, 18, 21, 25, 28, 32] 400 _ _ _).trans rfl
set_option maxRecDepth 100000 in
theorem k5_0 (d sl : Nat) (I : Nat → Nat → Int32) (A : Nat → Nat → Int32) (N : Nat → Nat → Int64) (V : Nat → Nat → Option Nat) (lt : Int64) (tw : Option Nat) (sp sr : Nat) (X : List AC) (a0 : Nat) :
  R d 5 (0, [some (.ref a0)], [], sl, (CH I A N V lt tw sp sr X)) =
    R d 5 (4, [some (.ref a0)], [.ref 1000017, .ref a0], sl, (CH I A N V lt tw sp sr X)) :=
  (R_gob [4] 400 _ _ _).trans rfl
set_option maxRecDepth 100000 in
theorem k5_4 (d sl : Nat) (I : Nat → Nat → Int32) (A : Nat → Nat → Int32) (N : Nat → Nat → Int64) (V : Nat → Nat → Option Nat) (lt : Int64) (tw : Option Nat) (sp sr : Nat) (X : List AC) (a0 : Nat) (b1 : Nat) (h_b1 : x_isw b1 = true) :
  R d 5 (4, [some (.ref a0)], [.ref 1000017, .ref b1], sl, (CH I A N V lt tw sp sr X)) =
    cond ((Nat.beq b1 1000017)) (R d 5 (28, [some (.ref a0)], [], sl, (CH I A N V lt tw sp sr X))) (R d 5 (7, [some (.ref a0)], [], sl, (CH I A N V lt tw sp sr X))) :=
  R_aceq (show xk 5 4 = (.if_acmp .eq 24, 7, [28], 0) by decide +kernel) h_b1 (by decide)
set_option maxRecDepth 100000 in
theorem k5_28 (d sl : Nat) (I : Nat → Nat → Int32) (A : Nat → Nat → Int32) (N : Nat → Nat → Int64) (V : Nat → Nat → Option Nat) (lt : Int64) (tw : Option Nat) (sp sr : Nat) (X : List AC) (a0 : Nat) :
  R d 5 (28, [some (.ref a0)], [], sl, (CH I A N V lt tw sp sr X)) =
    some (33, [some (.ref a0)], [.int (nI 1)], sl, (CH I A N V lt tw sp sr X)) :=
  (R_gob [4, 7, 28] 400 _ _ _).trans rfl
set_option maxRecDepth 100000 in
theorem k5_7 (d sl : Nat) (I : Nat → Nat → Int32) (A : Nat → Nat → Int32) (N : Nat → Nat → Int64) (V : Nat → Nat → Option Nat) (lt : Int64) (tw : Option Nat) (sp sr : Nat) (X : List AC) (a0 : Nat) :
  R d 5 (7, [some (.ref a0)], [], sl, (CH I A N V lt tw sp sr X)) =
    R d 5 (11, [some (.ref a0)], [.ref 1000018, .ref a0], sl, (CH I A N V lt tw sp sr X)) :=
  (R_gob [4, 7, 11, 28] 400 _ _ _).trans rfl
set_option maxRecDepth 100000 in
theorem k5_11 (d sl : Nat) (I : Nat → Nat → Int32) (A : Nat → Nat → Int32) (N : Nat → Nat → Int64) (V : Nat → Nat → Option Nat) (lt : Int64) (tw : Option Nat) (sp sr : Nat) (X : List AC) (a0 : Nat) (b1 : Nat) (h_b1 : x_isw b1 = true) :
  R d 5 (11, [some (.ref a0)], [.ref 1000018, .ref b1], sl, (CH I A N V lt tw sp sr X)) =
    cond ((Nat.beq b1 1000018)) (R d 5 (28, [some (.ref a0)], [], sl, (CH I A N V lt tw sp sr X))) (R d 5 (14, [some (.ref a0)], [], sl, (CH I A N V lt tw sp sr X))) :=
  R_aceq (show xk 5 11 = (.if_acmp .eq 17, 14, [28], 0) by decide +kernel) h_b1 (by decide)
set_option maxRecDepth 100000 in
theorem k5_14 (d sl : Nat) (I : Nat → Nat → Int32) (A : Nat → Nat → Int32) (N : Nat → Nat → Int64) (V : Nat → Nat → Option Nat) (lt : Int64) (tw : Option Nat) (sp sr : Nat) (X : List AC) (a0 : Nat) :
  R d 5 (14, [some (.ref a0)], [], sl, (CH I A N V lt tw sp sr X)) =
    R d 5 (18, [some (.ref a0)], [.ref 1000019, .ref a0], sl, (CH I A N V lt tw sp sr X)) :=
  (R_gob [4, 7, 11, 14, 18, 28] 400 _ _ _).trans rfl
set_option maxRecDepth 100000 in
theorem k5_18 (d sl : Nat) (I : Nat → Nat → Int32) (A : Nat → Nat → Int32) (N : Nat → Nat → Int64) (V : Nat → Nat → Option Nat) (lt : Int64) (tw : Option Nat) (sp sr : Nat) (X : List AC) (a0 : Nat) (b1 : Nat) (h_b1 : x_isw b1 = true) :
  R d 5 (18, [some (.ref a0)], [.ref 1000019, .ref b1], sl, (CH I A N V lt tw sp sr X)) =
    cond ((Nat.beq b1 1000019)) (R d 5 (28, [some (.ref a0)], [], sl, (CH I A N V lt tw sp sr X))) (R d 5 (21, [some (.ref a0)], [], sl, (CH I A N V lt tw sp sr X))) :=
  R_aceq (show xk 5 18 = (.if_acmp .eq 10, 21, [28], 0) by decide +kernel) h_b1 (by decide)
set_option maxRecDepth 100000 in
theorem k5_21 (d sl : Nat) (I : Nat → Nat → Int32) (A : Nat → Nat → Int32) (N : Nat → Nat → Int64) (V : Nat → Nat → Option Nat) (lt : Int64) (tw : Option Nat) (sp sr : Nat) (X : List AC) (a0 : Nat) :
  R d 5 (21, [some (.ref a0)], [], sl, (CH I A N V lt tw sp sr X)) =
    R d 5 (25, [some (.ref a0)], [.ref 1000020, .ref a0], sl, (CH I A N V lt tw sp sr X)) :=
  (R_gob [4, 7, 11, 14, 18, 21, 25, 28] 400 _ _ _).trans rfl
set_option maxRecDepth 100000 in
theorem k5_25 (d sl : Nat) (I : Nat → Nat → Int32) (A : Nat → Nat → Int32) (N : Nat → Nat → Int64) (V : Nat → Nat → Option Nat) (lt : Int64) (tw : Option Nat) (sp sr : Nat) (X : List AC) (a0 : Nat) (b1 : Nat) (h_b1 : x_isw b1 = true) :
  R d 5 (25, [some (.ref a0)], [.ref 1000020, .ref b1], sl, (CH I A N V lt tw sp sr X)) =
    cond (!(Nat.beq b1 1000020)) (R d 5 (32, [some (.ref a0)], [], sl, (CH I A N V lt tw sp sr X))) (R d 5 (28, [some (.ref a0)], [], sl, (CH I A N V lt tw sp sr X))) :=
  R_acne (show xk 5 25 = (.if_acmp .ne 7, 28, [32], 0) by decide +kernel) h_b1 (by decide)
set_option maxRecDepth 100000 in
theorem k5_32 (d sl : Nat) (I : Nat → Nat → Int32) (A : Nat → Nat → Int32) (N : Nat → Nat → Int64) (V : Nat → Nat → Option Nat) (lt : Int64) (tw : Option Nat) (sp sr : Nat) (X : List AC) (a0 : Nat) :
  R d 5 (32, [some (.ref a0)], [], sl, (CH I A N V lt tw sp sr X)) =
    some (33, [some (.ref a0)], [.int (nI 0)], sl, (CH I A N V lt tw sp sr X)) :=
  (R_gob [4, 7, 11, 14, 18, 21, 25, 28, 32] 400 _ _ _).trans rfl
set_option maxRecDepth 100000 in
theorem k100_r1_0 (d sl : Nat) (I : Nat → Nat → Int32) (A : Nat → Nat → Int32) (N : Nat → Nat → Int64) (V : Nat → Nat → Option Nat) (lt : Int64) (tw : Option Nat) (sp sr : Nat) (X : List AC)  :
  R (d + 1) 100 (0, [some (.ref 1)], [], sl, (CH I A N V lt tw sp sr X)) =
    bC (C d 96 [.ref 1, .int (nI 60)] sl (CH I A N V lt tw sp sr X)) (fun vs sl h => R (d + 1) 100 (6, [some (.ref 1)], vs ++ [], sl, h)) :=
  (R_gob [6, 15, 24, 32, 45] 400 _ _ _).trans rfl
set_option maxRecDepth 100000 in
theorem k100_r1_6 (d sl : Nat) (I : Nat → Nat → Int32) (A : Nat → Nat → Int32) (N : Nat → Nat → Int64) (V : Nat → Nat → Option Nat) (lt : Int64) (tw : Option Nat) (sp sr : Nat) (X : List AC) (b0 : Int32) :
  R (d + 1) 100 (6, [some (.ref 1)], [.int b0], sl, (CH I A N V lt tw sp sr X)) =
    cond (!decide (b0 = (nI 0))) (bC (C d 90 [.ref 1] sl (CH (up1 I 1 (up1 (I 1) 9 (I 1 8))) A N V lt tw sp sr X)) (fun vs sl h => R (d + 1) 100 (45, [some (.ref 1)], vs ++ [], sl, h))) (bC (C d 96 [.ref 1, .int (nI 61)] sl (CH I A N V lt tw sp sr X)) (fun vs sl h => R (d + 1) 100 (15, [some (.ref 1)], vs ++ [], sl, h))) :=
  (R_gob [6, 15, 24, 32, 45] 400 _ _ _).trans rfl
set_option maxRecDepth 100000 in
theorem k100_r1_45 (d sl : Nat) (I : Nat → Nat → Int32) (A : Nat → Nat → Int32) (N : Nat → Nat → Int64) (V : Nat → Nat → Option Nat) (lt : Int64) (tw : Option Nat) (sp sr : Nat) (X : List AC)  :
  R (d + 1) 100 (45, [some (.ref 1)], [], sl, (CH I A N V lt tw sp sr X)) =
    some (46, [some (.ref 1)], [.int (nI 1)], sl, (CH I A N V lt tw sp sr X)) :=
  (R_gob [6, 15, 24, 32, 45] 400 _ _ _).trans rfl
set_option maxRecDepth 100000 in
theorem k100_r1_15 (d sl : Nat) (I : Nat → Nat → Int32) (A : Nat → Nat → Int32) (N : Nat → Nat → Int64) (V : Nat → Nat → Option Nat) (lt : Int64) (tw : Option Nat) (sp sr : Nat) (X : List AC) (b0 : Int32) :
  R (d + 1) 100 (15, [some (.ref 1)], [.int b0], sl, (CH I A N V lt tw sp sr X)) =
    cond (!decide (b0 = (nI 0))) (bC (C d 90 [.ref 1] sl (CH (up1 I 1 (up1 (I 1) 9 (I 1 8))) A N V lt tw sp sr X)) (fun vs sl h => R (d + 1) 100 (45, [some (.ref 1)], vs ++ [], sl, h))) (bC (C d 96 [.ref 1, .int (nI 62)] sl (CH I A N V lt tw sp sr X)) (fun vs sl h => R (d + 1) 100 (24, [some (.ref 1)], vs ++ [], sl, h))) :=
  (R_gob [6, 15, 24, 32, 45] 400 _ _ _).trans rfl
set_option maxRecDepth 100000 in
theorem k100_r1_24 (d sl : Nat) (I : Nat → Nat → Int32) (A : Nat → Nat → Int32) (N : Nat → Nat → Int64) (V : Nat → Nat → Option Nat) (lt : Int64) (tw : Option Nat) (sp sr : Nat) (X : List AC) (b0 : Int32) :
  R (d + 1) 100 (24, [some (.ref 1)], [.int b0], sl, (CH I A N V lt tw sp sr X)) =
    cond (!decide (b0 = (nI 0))) (bC (C d 90 [.ref 1] sl (CH (up1 I 1 (up1 (I 1) 9 (I 1 8))) A N V lt tw sp sr X)) (fun vs sl h => R (d + 1) 100 (45, [some (.ref 1)], vs ++ [], sl, h))) (bC (C d 97 [.ref 1, .int (nI 1)] sl (CH I A N V lt tw sp sr X)) (fun vs sl h => R (d + 1) 100 (32, [some (.ref 1)], vs ++ [], sl, h))) :=
  (R_gob [6, 15, 24, 32, 45] 400 _ _ _).trans rfl
set_option maxRecDepth 100000 in
theorem k100_r1_32 (d sl : Nat) (I : Nat → Nat → Int32) (A : Nat → Nat → Int32) (N : Nat → Nat → Int64) (V : Nat → Nat → Option Nat) (lt : Int64) (tw : Option Nat) (sp sr : Nat) (X : List AC) (b0 : Int32) :
  R (d + 1) 100 (32, [some (.ref 1)], [.int b0], sl, (CH I A N V lt tw sp sr X)) =
    some (32, [some (.ref 1)], [.int b0], sl, (CH I A N V lt tw sp sr X)) :=
  (R_gob [6, 15, 24, 32, 45] 400 _ _ _).trans rfl
