set_option maxRecDepth 100000 in
theorem k134_0 (d sl : Nat) (I : Nat → Nat → Int32) (A : Nat → Nat → Int32) (N : Nat → Nat → Int64) (V : Nat → Nat → Option Nat) (lt : Int64) (tw : Option Nat) (sp sr : Nat) (a1 : Int32) (a2 : Int32) :
  R (d + 1) 134 (0, [some (.ref 0), some (.int a1), some (.int a2), none], [], sl, (CH I A N V lt tw sp sr [])) =
    cond (decide (a1 < (nI 1))) (some (12, [some (.ref 0), some (.int a1), some (.int a2), none], [.int (-1 : Int32)], sl, (CH I A N V lt tw sp sr []))) (cond (decide (a1 ≤ (nI 60))) (bC (C d 44 [.ref 12, .ref 3] sl (CH I A N V lt tw sp sr [])) (fun vs sl h => R (d + 1) 134 (24, [some (.ref 0), some (.int a1), some (.int a2), none], vs ++ [], sl, h))) (some (12, [some (.ref 0), some (.int a1), some (.int a2), none], [.int (-1 : Int32)], sl, (CH I A N V lt tw sp sr [])))) :=
  (R_gob [24, 37, 40, 56] 400 _ _ _).trans rfl
set_option maxRecDepth 100000 in
theorem k134_24 (d sl : Nat) (I : Nat → Nat → Int32) (A : Nat → Nat → Int32) (N : Nat → Nat → Int64) (V : Nat → Nat → Option Nat) (lt : Int64) (tw : Option Nat) (sp sr : Nat) (a1 : Int32) (a2 : Int32) :
  R (d + 1) 134 (24, [some (.ref 0), some (.int a1), some (.int a2), none], [], sl, (CH I A N V lt tw sp sr [])) =
    bC (C d 6 [.ref 146, .int a2] (sl + 1) (CH I A N V lt tw sp sr [.inr (0, [.int 0])])) (fun vs sl h => R (d + 1) 134 (37, [some (.ref 0), some (.int a1), some (.int a2), none], vs ++ [.ref 146, .int a1, .ref 3], sl, h)) :=
  (R_gob [24, 37, 40, 56] 400 _ _ _).trans rfl
set_option maxRecDepth 100000 in
theorem k134_37 (d sl : Nat) (I : Nat → Nat → Int32) (A : Nat → Nat → Int32) (N : Nat → Nat → Int64) (V : Nat → Nat → Option Nat) (lt : Int64) (tw : Option Nat) (sp sr : Nat) (a1 : Int32) (a2 : Int32) (b1 : Int32) (x0_0 : Int32) :
  R (d + 1) 134 (37, [some (.ref 0), some (.int a1), some (.int a2), none], [.ref 146, .int b1, .ref 3], sl, (CH I A N V lt tw sp sr [.inr (0, [.int x0_0])])) =
    bC (C d 78 [.ref 3, .int b1, .ref 146] sl (CH I A N V lt tw sp sr [.inr (0, [.int x0_0])])) (fun vs sl h => R (d + 1) 134 (40, [some (.ref 0), some (.int a1), some (.int a2), none], vs ++ [], sl, h)) :=
  (R_gob [24, 37, 40, 56] 400 _ _ _).trans rfl
set_option maxRecDepth 100000 in
theorem k134_40 (d sl : Nat) (I : Nat → Nat → Int32) (A : Nat → Nat → Int32) (N : Nat → Nat → Int64) (V : Nat → Nat → Option Nat) (lt : Int64) (tw : Option Nat) (sp sr : Nat) (a1 : Int32) (a2 : Int32) (b0 : Int32) (x0_0 : Int32) :
  R (d + 1) 134 (40, [some (.ref 0), some (.int a1), some (.int a2), none], [.int b0], sl, (CH I A N V lt tw sp sr [.inr (0, [.int x0_0])])) =
    cond (decide (b0 ≤ (nI 0))) (R (d + 1) 134 (56, [some (.ref 0), some (.int a1), some (.int a2), some (.int b0)], [], sl, (CH I A N V lt tw sp sr [.inr (0, [.int x0_0])]))) (bC (C d 27 [.ref 21, .ref 12] sl (CH I A N V lt tw sp sr [.inr (0, [.int x0_0])])) (fun vs sl h => R (d + 1) 134 (56, [some (.ref 0), some (.int a1), some (.int a2), some (.int b0)], vs ++ [], sl, h))) :=
  (R_gob [24, 37, 40, 56] 400 _ _ _).trans rfl
set_option maxRecDepth 100000 in
theorem k134_56 (d sl : Nat) (I : Nat → Nat → Int32) (A : Nat → Nat → Int32) (N : Nat → Nat → Int64) (V : Nat → Nat → Option Nat) (lt : Int64) (tw : Option Nat) (sp sr : Nat) (a1 : Int32) (a2 : Int32) (a3 : Int32) (x0_0 : Int32) :
  R (d + 1) 134 (56, [some (.ref 0), some (.int a1), some (.int a2), some (.int a3)], [], sl, (CH I A N V lt tw sp sr [.inr (0, [.int x0_0])])) =
    some (57, [some (.ref 0), some (.int a1), some (.int a2), some (.int a3)], [.int a3], sl, (CH I A N V lt tw sp sr [.inr (0, [.int x0_0])])) :=
  (R_gob [24, 37, 40, 56] 400 _ _ _).trans rfl
set_option maxRecDepth 100000 in
theorem k135_0 (d sl : Nat) (I : Nat → Nat → Int32) (A : Nat → Nat → Int32) (N : Nat → Nat → Int64) (V : Nat → Nat → Option Nat) (lt : Int64) (tw : Option Nat) (sp sr : Nat) (a1 : Int32) (a2 : Int32) (a3 : Int32) :
  R (d + 1) 135 (0, [some (.ref 0), some (.int a1), some (.int a2), some (.int a3), none, none, none], [], sl, (CH I A N V lt tw sp sr [])) =
    bC (C d 45 [.ref 3, .int a1] sl (CH I A N V lt tw sp sr [])) (fun vs sl h => R (d + 1) 135 (8, [some (.ref 0), some (.int a1), some (.int a2), some (.int a3), none, none, none], vs ++ [], sl, h)) :=
  (R_gob [8, 32, 40, 57, 77, 86] 400 _ _ _).trans rfl
set_option maxRecDepth 100000 in
theorem k135_8 (d sl : Nat) (I : Nat → Nat → Int32) (A : Nat → Nat → Int32) (N : Nat → Nat → Int64) (V : Nat → Nat → Option Nat) (lt : Int64) (tw : Option Nat) (sp sr : Nat) (a1 : Int32) (a2 : Int32) (a3 : Int32) (b0 : Int32) :
  R (d + 1) 135 (8, [some (.ref 0), some (.int a1), some (.int a2), some (.int a3), none, none, none], [.int b0], sl, (CH I A N V lt tw sp sr [])) =
    cond (decide (b0 = (nI 0))) (some (23, [some (.ref 0), some (.int a1), some (.int a2), some (.int a3), none, none, none], [.int (-1 : Int32)], sl, (CH I A N V lt tw sp sr []))) (cond (decide (a2 < (nI 1))) (some (23, [some (.ref 0), some (.int a1), some (.int a2), some (.int a3), none, none, none], [.int (-1 : Int32)], sl, (CH I A N V lt tw sp sr []))) (cond (decide (a2 ≤ (nI 30))) (bC (C d 6 [.ref 146, .int a3] (sl + 1) (CH I A N V lt tw sp sr [.inr (0, [.int 0])])) (fun vs sl h => R (d + 1) 135 (32, [some (.ref 0), some (.int a1), some (.int a2), some (.int a3), none, none, none], vs ++ [.ref 146], sl, h))) (some (23, [some (.ref 0), some (.int a1), some (.int a2), some (.int a3), none, none, none], [.int (-1 : Int32)], sl, (CH I A N V lt tw sp sr []))))) :=
  (R_gob [8, 32, 40, 57, 77, 86] 400 _ _ _).trans rfl
set_option maxRecDepth 100000 in
theorem k135_32 (d sl : Nat) (I : Nat → Nat → Int32) (A : Nat → Nat → Int32) (N : Nat → Nat → Int64) (V : Nat → Nat → Option Nat) (lt : Int64) (tw : Option Nat) (sp sr : Nat) (a1 : Int32) (a2 : Int32) (a3 : Int32) (x0_0 : Int32) :
  R (d + 1) 135 (32, [some (.ref 0), some (.int a1), some (.int a2), some (.int a3), none, none, none], [.ref 146], sl, (CH I A N V lt tw sp sr [.inr (0, [.int x0_0])])) =
    R (d + 1) 135 (40, [some (.ref 0), some (.int a1), some (.int a2), some (.int a3), some (.ref 146), some (.int (nI 0)), some (.int (nI 0))], [], sl, (CH I A N V lt tw sp sr [.inr (0, [.int x0_0])])) :=
  (R_gob [8, 32, 40, 57, 77, 86] 400 _ _ _).trans rfl
set_option maxRecDepth 100000 in
theorem k135_40 (d sl : Nat) (I : Nat → Nat → Int32) (A : Nat → Nat → Int32) (N : Nat → Nat → Int64) (V : Nat → Nat → Option Nat) (lt : Int64) (tw : Option Nat) (sp sr : Nat) (a1 : Int32) (a2 : Int32) (a3 : Int32) (a5 : Int32) (a6 : Int32) (x0_0 : Int32) :
  R (d + 1) 135 (40, [some (.ref 0), some (.int a1), some (.int a2), some (.int a3), some (.ref 146), some (.int a5), some (.int a6)], [], sl, (CH I A N V lt tw sp sr [.inr (0, [.int x0_0])])) =
    cond (decide (a2 ≤ a6)) (some (100, [some (.ref 0), some (.int a1), some (.int a2), some (.int a3), some (.ref 146), some (.int a5), some (.int a6)], [.int a5], sl, (CH I A N V lt tw sp sr [.inr (0, [.int x0_0])]))) (bC (C d 44 [.ref 12, .ref 3] sl (CH I A N V lt tw sp sr [.inr (0, [.int x0_0])])) (fun vs sl h => R (d + 1) 135 (57, [some (.ref 0), some (.int a1), some (.int a2), some (.int a3), some (.ref 146), some (.int a5), some (.int a6)], vs ++ [], sl, h))) :=
  (R_gob [8, 32, 40, 57, 77, 86] 400 _ _ _).trans rfl
set_option maxRecDepth 100000 in
theorem k135_57 (d sl : Nat) (I : Nat → Nat → Int32) (A : Nat → Nat → Int32) (N : Nat → Nat → Int64) (V : Nat → Nat → Option Nat) (lt : Int64) (tw : Option Nat) (sp sr : Nat) (a1 : Int32) (a2 : Int32) (a3 : Int32) (a5 : Int32) (a6 : Int32) (x0_0 : Int32) :
  R (d + 1) 135 (57, [some (.ref 0), some (.int a1), some (.int a2), some (.int a3), some (.ref 146), some (.int a5), some (.int a6)], [], sl, (CH I A N V lt tw sp sr [.inr (0, [.int x0_0])])) =
    bC (C d 78 [.ref 12, .int (nI 20), .ref 146] sl (CH I A N V lt tw sp sr [.inr (0, [.int (a3 + a6)])])) (fun vs sl h => R (d + 1) 135 (77, [some (.ref 0), some (.int a1), some (.int a2), some (.int a3), some (.ref 146), some (.int a5), some (.int a6)], vs ++ [], sl, h)) :=
  (R_gob [8, 32, 40, 57, 77, 86] 400 _ _ _).trans rfl
set_option maxRecDepth 100000 in
theorem k135_77 (d sl : Nat) (I : Nat → Nat → Int32) (A : Nat → Nat → Int32) (N : Nat → Nat → Int64) (V : Nat → Nat → Option Nat) (lt : Int64) (tw : Option Nat) (sp sr : Nat) (a1 : Int32) (a2 : Int32) (a3 : Int32) (a5 : Int32) (a6 : Int32) (b0 : Int32) (x0_0 : Int32) :
  R (d + 1) 135 (77, [some (.ref 0), some (.int a1), some (.int a2), some (.int a3), some (.ref 146), some (.int a5), some (.int a6)], [.int b0], sl, (CH I A N V lt tw sp sr [.inr (0, [.int x0_0])])) =
    bC (C d 62 [.ref 12, .int a1] sl (CH I A N V lt tw sp sr [.inr (0, [.int x0_0])])) (fun vs sl h => R (d + 1) 135 (86, [some (.ref 0), some (.int a1), some (.int a2), some (.int a3), some (.ref 146), some (.int a5), some (.int a6)], vs ++ [], sl, h)) :=
  (R_gob [8, 32, 40, 57, 77, 86] 400 _ _ _).trans rfl
set_option maxRecDepth 100000 in
theorem k135_86 (d sl : Nat) (I : Nat → Nat → Int32) (A : Nat → Nat → Int32) (N : Nat → Nat → Int64) (V : Nat → Nat → Option Nat) (lt : Int64) (tw : Option Nat) (sp sr : Nat) (a1 : Int32) (a2 : Int32) (a3 : Int32) (a5 : Int32) (a6 : Int32) (b0 : Int32) (x0_0 : Int32) :
  R (d + 1) 135 (86, [some (.ref 0), some (.int a1), some (.int a2), some (.int a3), some (.ref 146), some (.int a5), some (.int a6)], [.int b0], sl, (CH I A N V lt tw sp sr [.inr (0, [.int x0_0])])) =
    cond (decide (b0 = (nI 0))) (R (d + 1) 135 (40, [some (.ref 0), some (.int a1), some (.int a2), some (.int a3), some (.ref 146), some (.int a5), some (.int (a6 + (nI 1)))], [], sl, (CH I A N V lt tw sp sr [.inr (0, [.int x0_0])]))) (R (d + 1) 135 (40, [some (.ref 0), some (.int a1), some (.int a2), some (.int a3), some (.ref 146), some (.int (a5 + (nI 1))), some (.int (a6 + (nI 1)))], [], sl, (CH I A N V lt tw sp sr [.inr (0, [.int x0_0])]))) :=
  (R_gob [8, 32, 40, 57, 77, 86] 400 _ _ _).trans rfl
set_option maxRecDepth 100000 in
theorem k136_0 (d sl : Nat) (I : Nat → Nat → Int32) (A : Nat → Nat → Int32) (N : Nat → Nat → Int64) (V : Nat → Nat → Option Nat) (lt : Int64) (tw : Option Nat) (sp sr : Nat) (X : List AC) (a1 : Int32) :
  R (d + 1) 136 (0, [some (.ref 0), some (.int a1)], [], sl, (CH I A N V lt tw sp sr X)) =
    bC (C d 46 [.ref 3, .int a1] sl (CH I A N V lt tw sp sr X)) (fun vs sl h => R (d + 1) 136 (8, [some (.ref 0), some (.int a1)], vs ++ [], sl, h)) :=
  (R_gob [8, 19, 32] 400 _ _ _).trans rfl
set_option maxRecDepth 100000 in
theorem k136_8 (d sl : Nat) (I : Nat → Nat → Int32) (A : Nat → Nat → Int32) (N : Nat → Nat → Int64) (V : Nat → Nat → Option Nat) (lt : Int64) (tw : Option Nat) (sp sr : Nat) (X : List AC) (a1 : Int32) (b0 : Int32) :
  R (d + 1) 136 (8, [some (.ref 0), some (.int a1)], [.int b0], sl, (CH I A N V lt tw sp sr X)) =
    cond (decide (b0 = (nI 0))) (some (23, [some (.ref 0), some (.int a1)], [.int (-1 : Int32)], sl, (CH I A N V lt tw sp sr X))) (bC (C d 50 [.ref 3, .int a1] sl (CH I A N V lt tw sp sr X)) (fun vs sl h => R (d + 1) 136 (19, [some (.ref 0), some (.int a1)], vs ++ [], sl, h))) :=
  (R_gob [8, 19, 32] 400 _ _ _).trans rfl
set_option maxRecDepth 100000 in
theorem k136_19 (d sl : Nat) (I : Nat → Nat → Int32) (A : Nat → Nat → Int32) (N : Nat → Nat → Int64) (V : Nat → Nat → Option Nat) (lt : Int64) (tw : Option Nat) (sp sr : Nat) (X : List AC) (a1 : Int32) (b0 : Int32) :
  R (d + 1) 136 (19, [some (.ref 0), some (.int a1)], [.int b0], sl, (CH I A N V lt tw sp sr X)) =
    cond (!decide (b0 = (nI 0))) (bC (C d 54 [.ref 3, .int a1] sl (CH I A N V lt tw sp sr X)) (fun vs sl h => R (d + 1) 136 (32, [some (.ref 0), some (.int a1)], vs ++ [], sl, h))) (some (23, [some (.ref 0), some (.int a1)], [.int (-1 : Int32)], sl, (CH I A N V lt tw sp sr X))) :=
  (R_gob [8, 19, 32] 400 _ _ _).trans rfl
set_option maxRecDepth 100000 in
theorem k136_32 (d sl : Nat) (I : Nat → Nat → Int32) (A : Nat → Nat → Int32) (N : Nat → Nat → Int64) (V : Nat → Nat → Option Nat) (lt : Int64) (tw : Option Nat) (sp sr : Nat) (X : List AC) (a1 : Int32) (b0 : Int32) :
  R (d + 1) 136 (32, [some (.ref 0), some (.int a1)], [.int b0], sl, (CH I A N V lt tw sp sr X)) =
    some (32, [some (.ref 0), some (.int a1)], [.int b0], sl, (CH I A N V lt tw sp sr X)) :=
  (R_gob [8, 19, 32] 400 _ _ _).trans rfl
set_option maxRecDepth 100000 in
theorem k137_0 (d sl : Nat) (I : Nat → Nat → Int32) (A : Nat → Nat → Int32) (N : Nat → Nat → Int64) (V : Nat → Nat → Option Nat) (lt : Int64) (tw : Option Nat) (sp sr : Nat) (X : List AC) (a1 : Int32) :
  R (d + 1) 137 (0, [some (.ref 0), some (.int a1)], [], sl, (CH I A N V lt tw sp sr X)) =
    bC (C d 45 [.ref 3, .int a1] sl (CH I A N V lt tw sp sr X)) (fun vs sl h => R (d + 1) 137 (8, [some (.ref 0), some (.int a1)], vs ++ [], sl, h)) :=
  (R_gob [8, 22, 32] 400 _ _ _).trans rfl
set_option maxRecDepth 100000 in
theorem k137_8 (d sl : Nat) (I : Nat → Nat → Int32) (A : Nat → Nat → Int32) (N : Nat → Nat → Int64) (V : Nat → Nat → Option Nat) (lt : Int64) (tw : Option Nat) (sp sr : Nat) (X : List AC) (a1 : Int32) (b0 : Int32) :
  R (d + 1) 137 (8, [some (.ref 0), some (.int a1)], [.int b0], sl, (CH I A N V lt tw sp sr X)) =
    cond (!decide (b0 = (nI 0))) (bC (C d 68 [.ref 3, .int a1] sl (CH I A N V lt tw sp sr X)) (fun vs sl h => R (d + 1) 137 (22, [some (.ref 0), some (.int a1)], vs ++ [.ref 0], sl, h))) (some (12, [some (.ref 0), some (.int a1)], [.int (-1 : Int32)], sl, (CH I A N V lt tw sp sr X))) :=
  (R_gob [8, 22, 32] 400 _ _ _).trans rfl
set_option maxRecDepth 100000 in
theorem k137_22 (d sl : Nat) (I : Nat → Nat → Int32) (A : Nat → Nat → Int32) (N : Nat → Nat → Int64) (V : Nat → Nat → Option Nat) (lt : Int64) (tw : Option Nat) (sp sr : Nat) (X : List AC) (a1 : Int32) (b0 : Int32) :
  R (d + 1) 137 (22, [some (.ref 0), some (.int a1)], [.int b0, .ref 0], sl, (CH I A N V lt tw sp sr X)) =
    bC (C d 2 [.int b0] sl (CH (up1 I 0 (up1 (I 0) 14 b0)) A N V lt tw sp sr X)) (fun vs sl h => R (d + 1) 137 (32, [some (.ref 0), some (.int a1)], vs ++ [], sl, h)) :=
  (R_gob [8, 22, 32] 400 _ _ _).trans rfl
set_option maxRecDepth 100000 in
theorem k137_32 (d sl : Nat) (I : Nat → Nat → Int32) (A : Nat → Nat → Int32) (N : Nat → Nat → Int64) (V : Nat → Nat → Option Nat) (lt : Int64) (tw : Option Nat) (sp sr : Nat) (X : List AC) (a1 : Int32) (b0 : Int32) :
  R (d + 1) 137 (32, [some (.ref 0), some (.int a1)], [.int b0], sl, (CH I A N V lt tw sp sr X)) =
    some (32, [some (.ref 0), some (.int a1)], [.int b0], sl, (CH I A N V lt tw sp sr X)) :=
  (R_gob [8, 22, 32] 400 _ _ _).trans rfl
set_option maxRecDepth 100000 in
theorem k138_0 (d sl : Nat) (I : Nat → Nat → Int32) (A : Nat → Nat → Int32) (N : Nat → Nat → Int64) (V : Nat → Nat → Option Nat) (lt : Int64) (tw : Option Nat) (sp sr : Nat) (X : List AC)  :
  R d 138 (0, [some (.ref 0)], [], sl, (CH I A N V lt tw sp sr X)) =
    some (4, [some (.ref 0)], [.int (I 0 14)], sl, (CH I A N V lt tw sp sr X)) :=
  (R_gob [] 400 _ _ _).trans rfl
set_option maxRecDepth 100000 in
theorem k139_0 (d sl : Nat) (I : Nat → Nat → Int32) (A : Nat → Nat → Int32) (N : Nat → Nat → Int64) (V : Nat → Nat → Option Nat) (lt : Int64) (tw : Option Nat) (sp sr : Nat) (X : List AC) (a1 : Int32) :
  R (d + 1) 139 (0, [some (.ref 0), some (.int a1), none], [], sl, (CH I A N V lt tw sp sr X)) =
    bC (C d 45 [.ref 3, .int a1] sl (CH I A N V lt tw sp sr X)) (fun vs sl h => R (d + 1) 139 (8, [some (.ref 0), some (.int a1), none], vs ++ [], sl, h)) :=
  (R_gob [8, 24, 26, 40, 52] 400 _ _ _).trans rfl
set_option maxRecDepth 100000 in
theorem k139_8 (d sl : Nat) (I : Nat → Nat → Int32) (A : Nat → Nat → Int32) (N : Nat → Nat → Int64) (V : Nat → Nat → Option Nat) (lt : Int64) (tw : Option Nat) (sp sr : Nat) (X : List AC) (a1 : Int32) (b0 : Int32) :
  R (d + 1) 139 (8, [some (.ref 0), some (.int a1), none], [.int b0], sl, (CH I A N V lt tw sp sr X)) =
    cond (!decide (b0 = (nI 0))) (bC (C d 44 [.ref 12, .ref 3] sl (CH I A N V lt tw sp sr X)) (fun vs sl h => R (d + 1) 139 (24, [some (.ref 0), some (.int a1), none], vs ++ [], sl, h))) (some (12, [some (.ref 0), some (.int a1), none], [.int (-1 : Int32)], sl, (CH I A N V lt tw sp sr X))) :=
  (R_gob [8, 24, 26, 40, 52] 400 _ _ _).trans rfl
set_option maxRecDepth 100000 in
theorem k139_24 (d sl : Nat) (I : Nat → Nat → Int32) (A : Nat → Nat → Int32) (N : Nat → Nat → Int64) (V : Nat → Nat → Option Nat) (lt : Int64) (tw : Option Nat) (sp sr : Nat) (X : List AC) (a1 : Int32) :
  R (d + 1) 139 (24, [some (.ref 0), some (.int a1), none], [], sl, (CH I A N V lt tw sp sr X)) =
    R (d + 1) 139 (26, [some (.ref 0), some (.int a1), some (.int (nI 0))], [], sl, (CH I A N V lt tw sp sr X)) :=
  (R_gob [8, 24, 26, 40, 52] 400 _ _ _).trans rfl
set_option maxRecDepth 100000 in
theorem k139_26 (d sl : Nat) (I : Nat → Nat → Int32) (A : Nat → Nat → Int32) (N : Nat → Nat → Int64) (V : Nat → Nat → Option Nat) (lt : Int64) (tw : Option Nat) (sp sr : Nat) (X : List AC) (a1 : Int32) (a2 : Int32) :
  R (d + 1) 139 (26, [some (.ref 0), some (.int a1), some (.int a2)], [], sl, (CH I A N V lt tw sp sr X)) =
    cond (decide ((nI 99) < a2)) (some (59, [some (.ref 0), some (.int a1), some (.int a2)], [.int (-1 : Int32)], sl, (CH I A N V lt tw sp sr X))) (bC (C d 62 [.ref 12, .int a1] sl (CH I A N V lt tw sp sr X)) (fun vs sl h => R (d + 1) 139 (40, [some (.ref 0), some (.int a1), some (.int a2)], vs ++ [], sl, h))) :=
  (R_gob [8, 24, 26, 40, 52] 400 _ _ _).trans rfl
set_option maxRecDepth 100000 in
theorem k139_40 (d sl : Nat) (I : Nat → Nat → Int32) (A : Nat → Nat → Int32) (N : Nat → Nat → Int64) (V : Nat → Nat → Option Nat) (lt : Int64) (tw : Option Nat) (sp sr : Nat) (X : List AC) (a1 : Int32) (a2 : Int32) (b0 : Int32) :
  R (d + 1) 139 (40, [some (.ref 0), some (.int a1), some (.int a2)], [.int b0], sl, (CH I A N V lt tw sp sr X)) =
    cond (decide (b0 = (nI 0))) (bC (C d 77 [.ref 12] sl (CH I A N V lt tw sp sr X)) (fun vs sl h => R (d + 1) 139 (52, [some (.ref 0), some (.int a1), some (.int a2)], vs ++ [], sl, h))) (some (44, [some (.ref 0), some (.int a1), some (.int a2)], [.int a2], sl, (CH I A N V lt tw sp sr X))) :=
  (R_gob [8, 24, 26, 40, 52] 400 _ _ _).trans rfl
set_option maxRecDepth 100000 in
theorem k139_52 (d sl : Nat) (I : Nat → Nat → Int32) (A : Nat → Nat → Int32) (N : Nat → Nat → Int64) (V : Nat → Nat → Option Nat) (lt : Int64) (tw : Option Nat) (sp sr : Nat) (X : List AC) (a1 : Int32) (a2 : Int32) :
  R (d + 1) 139 (52, [some (.ref 0), some (.int a1), some (.int a2)], [], sl, (CH I A N V lt tw sp sr X)) =
    R (d + 1) 139 (26, [some (.ref 0), some (.int a1), some (.int (a2 + (nI 1)))], [], sl, (CH I A N V lt tw sp sr X)) :=
  (R_gob [8, 24, 26, 40, 52] 400 _ _ _).trans rfl
set_option maxRecDepth 100000 in
theorem k140_0 (d sl : Nat) (I : Nat → Nat → Int32) (A : Nat → Nat → Int32) (N : Nat → Nat → Int64) (V : Nat → Nat → Option Nat) (lt : Int64) (tw : Option Nat) (sp sr : Nat) (X : List AC) (a1 : Int32) :
  R (d + 1) 140 (0, [some (.ref 0), some (.int a1)], [], sl, (CH I A N V lt tw sp sr X)) =
    bC (C d 45 [.ref 3, .int a1] sl (CH I A N V lt tw sp sr X)) (fun vs sl h => R (d + 1) 140 (8, [some (.ref 0), some (.int a1)], vs ++ [], sl, h)) :=
  (R_gob [8, 25] 400 _ _ _).trans rfl
set_option maxRecDepth 100000 in
theorem k140_8 (d sl : Nat) (I : Nat → Nat → Int32) (A : Nat → Nat → Int32) (N : Nat → Nat → Int64) (V : Nat → Nat → Option Nat) (lt : Int64) (tw : Option Nat) (sp sr : Nat) (X : List AC) (a1 : Int32) (b0 : Int32) :
  R (d + 1) 140 (8, [some (.ref 0), some (.int a1)], [.int b0], sl, (CH I A N V lt tw sp sr X)) =
    cond (!decide (b0 = (nI 0))) (bC (C d 107 [.ref 95, .ref 3, .int a1] sl (CH I A N V lt tw sp sr X)) (fun vs sl h => R (d + 1) 140 (25, [some (.ref 0), some (.int a1)], vs ++ [], sl, h))) (some (12, [some (.ref 0), some (.int a1)], [.int (-1 : Int32)], sl, (CH I A N V lt tw sp sr X))) :=
  (R_gob [8, 25] 400 _ _ _).trans rfl
set_option maxRecDepth 100000 in
theorem k140_25 (d sl : Nat) (I : Nat → Nat → Int32) (A : Nat → Nat → Int32) (N : Nat → Nat → Int64) (V : Nat → Nat → Option Nat) (lt : Int64) (tw : Option Nat) (sp sr : Nat) (X : List AC) (a1 : Int32) (b0 : Int32) :
  R (d + 1) 140 (25, [some (.ref 0), some (.int a1)], [.int b0], sl, (CH I A N V lt tw sp sr X)) =
    cond (decide (b0 = (nI 0))) (some (39, [some (.ref 0), some (.int a1)], [.int (-1 : Int32)], sl, (CH I A N V lt tw sp sr X))) (some (39, [some (.ref 0), some (.int a1)], [.int (I 95 3)], sl, (CH I A N V lt tw sp sr X))) :=
  (R_gob [8, 25] 400 _ _ _).trans rfl
set_option maxRecDepth 100000 in
theorem k141_0 (d sl : Nat) (I : Nat → Nat → Int32) (A : Nat → Nat → Int32) (N : Nat → Nat → Int64) (V : Nat → Nat → Option Nat) (lt : Int64) (tw : Option Nat) (sp sr : Nat) (X : List AC) (a1 : Int32) :
  R d 141 (0, [some (.ref 0), some (.int a1)], [], sl, (CH I A N V lt tw sp sr X)) =
    cond (decide (a1 < (nI 0))) (some (28, [some (.ref 0), some (.int a1)], [.int (-1 : Int32)], sl, (CH I A N V lt tw sp sr X))) (cond (decide ((I 95 3) ≤ a1)) (some (28, [some (.ref 0), some (.int a1)], [.int (-1 : Int32)], sl, (CH I A N V lt tw sp sr X))) (cond (x_in a1 6) (some (28, [some (.ref 0), some (.int a1)], [.int ((A 98) a1.toNatClampNeg)], sl, (CH I A N V lt tw sp sr X))) none)) :=
  (R_gob [] 400 _ _ _).trans rfl
set_option maxRecDepth 100000 in
theorem k142_0 (d sl : Nat) (I : Nat → Nat → Int32) (A : Nat → Nat → Int32) (N : Nat → Nat → Int64) (V : Nat → Nat → Option Nat) (lt : Int64) (tw : Option Nat) (sp sr : Nat) (X : List AC)  :
  R (d + 1) 142 (0, [some (.ref 0)], [], sl, (CH I A N V lt tw sp sr X)) =
    bC (C d 112 [.ref 95, .ref 3] sl (CH I A N V lt tw sp sr X)) (fun vs sl h => R (d + 1) 142 (11, [some (.ref 0)], vs ++ [], sl, h)) :=
  (R_gob [11] 400 _ _ _).trans rfl
set_option maxRecDepth 100000 in
theorem k142_11 (d sl : Nat) (I : Nat → Nat → Int32) (A : Nat → Nat → Int32) (N : Nat → Nat → Int64) (V : Nat → Nat → Option Nat) (lt : Int64) (tw : Option Nat) (sp sr : Nat) (X : List AC) (b0 : Int32) :
  R (d + 1) 142 (11, [some (.ref 0)], [.int b0], sl, (CH I A N V lt tw sp sr X)) =
    some (11, [some (.ref 0)], [.int b0], sl, (CH I A N V lt tw sp sr X)) :=
  (R_gob [11] 400 _ _ _).trans rfl
set_option maxRecDepth 100000 in
theorem k143_0 (d sl : Nat) (I : Nat → Nat → Int32) (A : Nat → Nat → Int32) (N : Nat → Nat → Int64) (V : Nat → Nat → Option Nat) (lt : Int64) (tw : Option Nat) (sp sr : Nat) (X : List AC)  :
  R (d + 1) 143 (0, [some (.ref 0), none, none], [], sl, (CH I A N V lt tw sp sr X)) =
    cond (!decide ((I 3 8) = (nI 0))) (R (d + 1) 143 (16, [some (.ref 0), some (.int (nI 0)), some (.int (nI 1))], [], sl, (CH I A N V lt tw sp sr X))) (some (11, [some (.ref 0), none, none], [.int (-1 : Int32)], sl, (CH I A N V lt tw sp sr X))) :=
  (R_gob [16, 35, 53] 400 _ _ _).trans rfl
set_option maxRecDepth 100000 in
theorem k143_16 (d sl : Nat) (I : Nat → Nat → Int32) (A : Nat → Nat → Int32) (N : Nat → Nat → Int64) (V : Nat → Nat → Option Nat) (lt : Int64) (tw : Option Nat) (sp sr : Nat) (X : List AC) (a1 : Int32) (a2 : Int32) :
  R (d + 1) 143 (16, [some (.ref 0), some (.int a1), some (.int a2)], [], sl, (CH I A N V lt tw sp sr X)) =
    cond (decide ((I 3 8) ≤ a2)) (some (75, [some (.ref 0), some (.int a1), some (.int a2)], [.int a1], sl, (CH I A N V lt tw sp sr X))) (bC (C d 60 [.ref 3, .int a2] sl (CH I A N V lt tw sp sr X)) (fun vs sl h => R (d + 1) 143 (35, [some (.ref 0), some (.int a1), some (.int a2)], vs ++ [], sl, h))) :=
  (R_gob [16, 35, 53] 400 _ _ _).trans rfl
set_option maxRecDepth 100000 in
theorem k143_35 (d sl : Nat) (I : Nat → Nat → Int32) (A : Nat → Nat → Int32) (N : Nat → Nat → Int64) (V : Nat → Nat → Option Nat) (lt : Int64) (tw : Option Nat) (sp sr : Nat) (X : List AC) (a1 : Int32) (a2 : Int32) (b0 : Int32) :
  R (d + 1) 143 (35, [some (.ref 0), some (.int a1), some (.int a2)], [.int b0], sl, (CH I A N V lt tw sp sr X)) =
    cond (x_in a1 6) (bC (C d 60 [.ref 3, .int a1] sl (CH I A N V lt tw sp sr X)) (fun vs sl h => R (d + 1) 143 (53, [some (.ref 0), some (.int a1), some (.int a2)], vs ++ [.int (b0 * ((A 7) a1.toNatClampNeg))], sl, h))) none :=
  (R_gob [16, 35, 53] 400 _ _ _).trans rfl
set_option maxRecDepth 100000 in
theorem k143_53 (d sl : Nat) (I : Nat → Nat → Int32) (A : Nat → Nat → Int32) (N : Nat → Nat → Int64) (V : Nat → Nat → Option Nat) (lt : Int64) (tw : Option Nat) (sp sr : Nat) (X : List AC) (a1 : Int32) (a2 : Int32) (b0 : Int32) (b1 : Int32) :
  R (d + 1) 143 (53, [some (.ref 0), some (.int a1), some (.int a2)], [.int b0, .int b1], sl, (CH I A N V lt tw sp sr X)) =
    cond (x_in a2 6) (cond (decide (b1 ≤ (b0 * ((A 7) a2.toNatClampNeg)))) (R (d + 1) 143 (16, [some (.ref 0), some (.int a1), some (.int (a2 + (nI 1)))], [], sl, (CH I A N V lt tw sp sr X))) (R (d + 1) 143 (16, [some (.ref 0), some (.int a2), some (.int (a2 + (nI 1)))], [], sl, (CH I A N V lt tw sp sr X)))) none :=
  (R_gob [16, 35, 53] 400 _ _ _).trans rfl
set_option maxRecDepth 100000 in
theorem k144_0 (d sl : Nat) (I : Nat → Nat → Int32) (A : Nat → Nat → Int32) (N : Nat → Nat → Int64) (V : Nat → Nat → Option Nat) (lt : Int64) (tw : Option Nat) (sp sr : Nat) (X : List AC) (a1 : Int32) (a2 : Int32) :
  R (d + 1) 144 (0, [some (.ref 0), some (.int a1), some (.int a2), none, none, none], [], sl, (CH I A N V lt tw sp sr X)) =
    bC (C d 45 [.ref 3, .int a1] sl (CH I A N V lt tw sp sr X)) (fun vs sl h => R (d + 1) 144 (8, [some (.ref 0), some (.int a1), some (.int a2), none, none, none], vs ++ [], sl, h)) :=
  (R_gob [8, 39, 64, 72] 400 _ _ _).trans rfl
set_option maxRecDepth 100000 in
theorem k144_8 (d sl : Nat) (I : Nat → Nat → Int32) (A : Nat → Nat → Int32) (N : Nat → Nat → Int64) (V : Nat → Nat → Option Nat) (lt : Int64) (tw : Option Nat) (sp sr : Nat) (X : List AC) (a1 : Int32) (a2 : Int32) (b0 : Int32) :
  R (d + 1) 144 (8, [some (.ref 0), some (.int a1), some (.int a2), none, none, none], [.int b0], sl, (CH I A N V lt tw sp sr X)) =
    cond (decide (b0 = (nI 0))) (some (20, [some (.ref 0), some (.int a1), some (.int a2), none, none, none], [], sl, (CH I A N V lt tw sp sr X))) (cond (decide (a2 < (nI 0))) (some (20, [some (.ref 0), some (.int a1), some (.int a2), none, none, none], [], sl, (CH I A N V lt tw sp sr X))) (cond (decide (a2 ≤ (nI 1))) (bC (C d 60 [.ref 3, .int a1] sl (CH I A N V lt tw sp sr X)) (fun vs sl h => R (d + 1) 144 (39, [some (.ref 0), some (.int a1), some (.int a2), none, none, none], vs ++ [], sl, h))) (some (20, [some (.ref 0), some (.int a1), some (.int a2), none, none, none], [], sl, (CH I A N V lt tw sp sr X))))) :=
  (R_gob [8, 39, 64, 72] 400 _ _ _).trans rfl
set_option maxRecDepth 100000 in
theorem k144_39 (d sl : Nat) (I : Nat → Nat → Int32) (A : Nat → Nat → Int32) (N : Nat → Nat → Int64) (V : Nat → Nat → Option Nat) (lt : Int64) (tw : Option Nat) (sp sr : Nat) (X : List AC) (a1 : Int32) (a2 : Int32) (b0 : Int32) :
  R (d + 1) 144 (39, [some (.ref 0), some (.int a1), some (.int a2), none, none, none], [.int b0], sl, (CH I A N V lt tw sp sr X)) =
    cond (decide ((nI 1) ≤ b0)) (bC (C d 61 [.ref 3, .int a1] sl (CH I A N V lt tw sp sr X)) (fun vs sl h => R (d + 1) 144 (64, [some (.ref 0), some (.int a1), some (.int a2), some (.int b0), none, none], vs ++ [], sl, h))) (some (45, [some (.ref 0), some (.int a1), some (.int a2), some (.int b0), none, none], [], sl, (CH I A N V lt tw sp sr X))) :=
  (R_gob [8, 39, 64, 72] 400 _ _ _).trans rfl
set_option maxRecDepth 100000 in
theorem k144_64 (d sl : Nat) (I : Nat → Nat → Int32) (A : Nat → Nat → Int32) (N : Nat → Nat → Int64) (V : Nat → Nat → Option Nat) (lt : Int64) (tw : Option Nat) (sp sr : Nat) (X : List AC) (a1 : Int32) (a2 : Int32) (a3 : Int32) (b0 : Int32) :
  R (d + 1) 144 (64, [some (.ref 0), some (.int a1), some (.int a2), some (.int a3), none, none], [.int b0], sl, (CH I A N V lt tw sp sr X)) =
    bC (C d 145 [.int b0, .int a3] sl (CH I A N V lt tw sp sr X)) (fun vs sl h => R (d + 1) 144 (72, [some (.ref 0), some (.int a1), some (.int a2), some (.int a3), some (.int b0), none], vs ++ [], sl, h)) :=
  (R_gob [8, 39, 64, 72] 400 _ _ _).trans rfl
set_option maxRecDepth 100000 in
theorem k144_72 (d sl : Nat) (I : Nat → Nat → Int32) (A : Nat → Nat → Int32) (N : Nat → Nat → Int64) (V : Nat → Nat → Option Nat) (lt : Int64) (tw : Option Nat) (sp sr : Nat) (X : List AC) (a1 : Int32) (a2 : Int32) (a3 : Int32) (a4 : Int32) (b0 : Int32) :
  R (d + 1) 144 (72, [some (.ref 0), some (.int a1), some (.int a2), some (.int a3), some (.int a4), none], [.int b0], sl, (CH I A N V lt tw sp sr X)) =
    cond (!decide (a2 = (nI 0))) (cond (!decide (b0 = (nI 0))) (some (87, [some (.ref 0), some (.int a1), some (.int a2), some (.int a3), some (.int a4), some (.int b0)], [.int (a3 / b0)], sl, (CH I A N V lt tw sp sr X))) none) (cond (!decide (b0 = (nI 0))) (some (87, [some (.ref 0), some (.int a1), some (.int a2), some (.int a3), some (.int a4), some (.int b0)], [.int (a4 / b0)], sl, (CH I A N V lt tw sp sr X))) none) :=
  (R_gob [8, 39, 64, 72] 400 _ _ _).trans rfl
set_option maxRecDepth 100000 in
theorem k146_0 (d sl : Nat) (I : Nat → Nat → Int32) (A : Nat → Nat → Int32) (N : Nat → Nat → Int64) (V : Nat → Nat → Option Nat) (lt : Int64) (tw : Option Nat) (sp sr : Nat) (X : List AC)  :
  R (d + 1) 146 (0, [some (.ref 0), none], [], sl, (CH I A N V lt tw sp sr X)) =
    bC (C d 148 [.ref 0] sl (CH I A N V lt tw sp sr X)) (fun vs sl h => R (d + 1) 146 (4, [some (.ref 0), none], vs ++ [], sl, h)) :=
  (R_gob [4, 23] 400 _ _ _).trans rfl
set_option maxRecDepth 100000 in
theorem k146_4 (d sl : Nat) (I : Nat → Nat → Int32) (A : Nat → Nat → Int32) (N : Nat → Nat → Int64) (V : Nat → Nat → Option Nat) (lt : Int64) (tw : Option Nat) (sp sr : Nat) (X : List AC) (b0 : Int32) :
  R (d + 1) 146 (4, [some (.ref 0), none], [.int b0], sl, (CH I A N V lt tw sp sr X)) =
    cond (decide (b0 ≤ (nI 0))) (some (27, [some (.ref 0), some (.int b0)], [.int b0], sl, (CH (up1 I 1 (up1 (I 1) 1 (nI 0))) A N V lt tw sp sr X))) (bC (C d 150 [.ref 0, .int b0] sl (CH (up1 I 1 (up1 (I 1) 1 (nI 0))) A N V lt tw sp sr X)) (fun vs sl h => R (d + 1) 146 (23, [some (.ref 0), some (.int b0)], vs ++ [.ref 0], sl, h))) :=
  (R_gob [4, 23] 400 _ _ _).trans rfl
set_option maxRecDepth 100000 in
theorem k146_23 (d sl : Nat) (I : Nat → Nat → Int32) (A : Nat → Nat → Int32) (N : Nat → Nat → Int64) (V : Nat → Nat → Option Nat) (lt : Int64) (tw : Option Nat) (sp sr : Nat) (X : List AC) (a1 : Int32) (b0 : Int32) :
  R (d + 1) 146 (23, [some (.ref 0), some (.int a1)], [.int b0, .ref 0], sl, (CH I A N V lt tw sp sr X)) =
    some (27, [some (.ref 0), some (.int a1)], [.int a1], sl, (CH (up1 I 0 (up1 (I 0) 15 b0)) A N V lt tw sp sr X)) :=
  (R_gob [4, 23] 400 _ _ _).trans rfl
set_option maxRecDepth 100000 in
theorem k147_0 (d sl : Nat) (I : Nat → Nat → Int32) (A : Nat → Nat → Int32) (N : Nat → Nat → Int64) (V : Nat → Nat → Option Nat) (lt : Int64) (tw : Option Nat) (sp sr : Nat) (X : List AC)  :
  R d 147 (0, [some (.ref 0)], [], sl, (CH I A N V lt tw sp sr X)) =
    some (4, [some (.ref 0)], [.int (I 0 15)], sl, (CH I A N V lt tw sp sr X)) :=
  (R_gob [] 400 _ _ _).trans rfl
set_option maxRecDepth 100000 in
theorem k152_0 (d sl : Nat) (I : Nat → Nat → Int32) (A : Nat → Nat → Int32) (N : Nat → Nat → Int64) (V : Nat → Nat → Option Nat) (lt : Int64) (tw : Option Nat) (sp sr : Nat) (X : List AC) (a1 : Int32) :
  R (d + 1) 152 (0, [some (.ref 0), some (.int a1)], [], sl, (CH I A N V lt tw sp sr X)) =
    bC (C d 46 [.ref 3, .int a1] sl (CH I A N V lt tw sp sr X)) (fun vs sl h => R (d + 1) 152 (8, [some (.ref 0), some (.int a1)], vs ++ [], sl, h)) :=
  (R_gob [8, 25] 400 _ _ _).trans rfl
set_option maxRecDepth 100000 in
theorem k152_8 (d sl : Nat) (I : Nat → Nat → Int32) (A : Nat → Nat → Int32) (N : Nat → Nat → Int64) (V : Nat → Nat → Option Nat) (lt : Int64) (tw : Option Nat) (sp sr : Nat) (X : List AC) (a1 : Int32) (b0 : Int32) :
  R (d + 1) 152 (8, [some (.ref 0), some (.int a1)], [.int b0], sl, (CH I A N V lt tw sp sr X)) =
    cond (!decide (b0 = (nI 0))) (bC (C d 20 [.ref 106, .ref 3, .int a1] sl (CH I A N V lt tw sp sr X)) (fun vs sl h => R (d + 1) 152 (25, [some (.ref 0), some (.int a1)], vs ++ [], sl, h))) (some (12, [some (.ref 0), some (.int a1)], [.int (-1 : Int32)], sl, (CH I A N V lt tw sp sr X))) :=
  (R_gob [8, 25] 400 _ _ _).trans rfl
set_option maxRecDepth 100000 in
theorem k152_25 (d sl : Nat) (I : Nat → Nat → Int32) (A : Nat → Nat → Int32) (N : Nat → Nat → Int64) (V : Nat → Nat → Option Nat) (lt : Int64) (tw : Option Nat) (sp sr : Nat) (X : List AC) (a1 : Int32) :
  R (d + 1) 152 (25, [some (.ref 0), some (.int a1)], [], sl, (CH I A N V lt tw sp sr X)) =
    some (32, [some (.ref 0), some (.int a1)], [.int (I 106 1)], sl, (CH I A N V lt tw sp sr X)) :=
  (R_gob [8, 25] 400 _ _ _).trans rfl
set_option maxRecDepth 100000 in
theorem k153_0 (d sl : Nat) (I : Nat → Nat → Int32) (A : Nat → Nat → Int32) (N : Nat → Nat → Int64) (V : Nat → Nat → Option Nat) (lt : Int64) (tw : Option Nat) (sp sr : Nat) (X : List AC) (a1 : Int32) :
  R (d + 1) 153 (0, [some (.ref 0), some (.int a1)], [], sl, (CH I A N V lt tw sp sr X)) =
    bC (C d 21 [.ref 106, .int a1] sl (CH I A N V lt tw sp sr X)) (fun vs sl h => R (d + 1) 153 (8, [some (.ref 0), some (.int a1)], vs ++ [], sl, h)) :=
  (R_gob [8] 400 _ _ _).trans rfl
set_option maxRecDepth 100000 in
theorem k153_8 (d sl : Nat) (I : Nat → Nat → Int32) (A : Nat → Nat → Int32) (N : Nat → Nat → Int64) (V : Nat → Nat → Option Nat) (lt : Int64) (tw : Option Nat) (sp sr : Nat) (X : List AC) (a1 : Int32) (b0 : Int32) :
  R (d + 1) 153 (8, [some (.ref 0), some (.int a1)], [.int b0], sl, (CH I A N V lt tw sp sr X)) =
    some (8, [some (.ref 0), some (.int a1)], [.int b0], sl, (CH I A N V lt tw sp sr X)) :=
  (R_gob [8] 400 _ _ _).trans rfl
set_option maxRecDepth 100000 in
theorem k154_0 (d sl : Nat) (I : Nat → Nat → Int32) (A : Nat → Nat → Int32) (N : Nat → Nat → Int64) (V : Nat → Nat → Option Nat) (lt : Int64) (tw : Option Nat) (sp sr : Nat) (X : List AC) (a1 : Int32) :
  R (d + 1) 154 (0, [some (.ref 0), some (.int a1), none], [], sl, (CH I A N V lt tw sp sr X)) =
    cond (decide (a1 = (nI 0))) (bC (C d 89 [.ref 1, .int (nI 400)] sl (CH I A N V lt tw sp sr X)) (fun vs sl h => R (d + 1) 154 (23, [some (.ref 0), some (.int a1), none], vs ++ [], sl, h))) (cond (decide (a1 = (nI 1))) (bC (C d 89 [.ref 1, .int (nI 400)] sl (CH I A N V lt tw sp sr X)) (fun vs sl h => R (d + 1) 154 (23, [some (.ref 0), some (.int a1), none], vs ++ [], sl, h))) (some (12, [some (.ref 0), some (.int a1), none], [.int (-1000 : Int32)], sl, (CH I A N V lt tw sp sr X)))) :=
  (R_gob [23, 38, 43, 69, 80, 106, 117] 400 _ _ _).trans rfl
set_option maxRecDepth 100000 in
theorem k154_23 (d sl : Nat) (I : Nat → Nat → Int32) (A : Nat → Nat → Int32) (N : Nat → Nat → Int64) (V : Nat → Nat → Option Nat) (lt : Int64) (tw : Option Nat) (sp sr : Nat) (X : List AC) (a1 : Int32) :
  R (d + 1) 154 (23, [some (.ref 0), some (.int a1), none], [], sl, (CH I A N V lt tw sp sr X)) =
    bC (C d 9 [.ref 101, .ref 1, .ref 3] sl (CH I A N V lt tw sp sr X)) (fun vs sl h => R (d + 1) 154 (38, [some (.ref 0), some (.int a1), none], vs ++ [], sl, h)) :=
  (R_gob [23, 38, 43, 69, 80, 106, 117] 400 _ _ _).trans rfl
set_option maxRecDepth 100000 in
theorem k154_38 (d sl : Nat) (I : Nat → Nat → Int32) (A : Nat → Nat → Int32) (N : Nat → Nat → Int64) (V : Nat → Nat → Option Nat) (lt : Int64) (tw : Option Nat) (sp sr : Nat) (X : List AC) (a1 : Int32) (b0 : Int32) :
  R (d + 1) 154 (38, [some (.ref 0), some (.int a1), none], [.int b0], sl, (CH I A N V lt tw sp sr X)) =
    bC (C d 119 [.ref 0] sl (CH I A N V lt tw sp sr X)) (fun vs sl h => R (d + 1) 154 (43, [some (.ref 0), some (.int a1), some (.int b0)], vs ++ [], sl, h)) :=
  (R_gob [23, 38, 43, 69, 80, 106, 117] 400 _ _ _).trans rfl
set_option maxRecDepth 100000 in
theorem k154_43 (d sl : Nat) (I : Nat → Nat → Int32) (A : Nat → Nat → Int32) (N : Nat → Nat → Int64) (V : Nat → Nat → Option Nat) (lt : Int64) (tw : Option Nat) (sp sr : Nat) (X : List AC) (a1 : Int32) (a2 : Int32) :
  R (d + 1) 154 (43, [some (.ref 0), some (.int a1), some (.int a2)], [], sl, (CH I A N V lt tw sp sr X)) =
    cond (!decide (a2 = (nI 0))) (bC (C d 44 [.ref 12, .ref 3] sl (CH I A N V lt tw sp sr X)) (fun vs sl h => R (d + 1) 154 (69, [some (.ref 0), some (.int a1), some (.int a2)], vs ++ [], sl, h))) (some (57, [some (.ref 0), some (.int a1), some (.int a2)], [.int ((-2 : Int32) - (I 1 11))], sl, (CH I A N V lt tw sp sr X))) :=
  (R_gob [23, 38, 43, 69, 80, 106, 117] 400 _ _ _).trans rfl
set_option maxRecDepth 100000 in
theorem k154_69 (d sl : Nat) (I : Nat → Nat → Int32) (A : Nat → Nat → Int32) (N : Nat → Nat → Int64) (V : Nat → Nat → Option Nat) (lt : Int64) (tw : Option Nat) (sp sr : Nat) (X : List AC) (a1 : Int32) (a2 : Int32) :
  R (d + 1) 154 (69, [some (.ref 0), some (.int a1), some (.int a2)], [], sl, (CH I A N V lt tw sp sr X)) =
    bC (C d 15 [.ref 101, .ref 12] sl (CH I A N V lt tw sp sr X)) (fun vs sl h => R (d + 1) 154 (80, [some (.ref 0), some (.int a1), some (.int a2)], vs ++ [], sl, h)) :=
  (R_gob [23, 38, 43, 69, 80, 106, 117] 400 _ _ _).trans rfl
set_option maxRecDepth 100000 in
theorem k154_80 (d sl : Nat) (I : Nat → Nat → Int32) (A : Nat → Nat → Int32) (N : Nat → Nat → Int64) (V : Nat → Nat → Option Nat) (lt : Int64) (tw : Option Nat) (sp sr : Nat) (X : List AC) (a1 : Int32) (a2 : Int32) :
  R (d + 1) 154 (80, [some (.ref 0), some (.int a1), some (.int a2)], [], sl, (CH I A N V lt tw sp sr X)) =
    cond (!decide (a1 = (nI 1))) (R (d + 1) 154 (117, [some (.ref 0), some (.int a1), some (.int a2)], [], sl, (CH I A N V lt tw sp sr X))) (cond (decide ((I 101 7) ≤ (nI 0))) (R (d + 1) 154 (117, [some (.ref 0), some (.int a1), some (.int a2)], [], sl, (CH I A N V lt tw sp sr X))) (bC (C d 27 [.ref 21, .ref 3] sl (CH I A N V lt tw sp sr X)) (fun vs sl h => R (d + 1) 154 (106, [some (.ref 0), some (.int a1), some (.int a2)], vs ++ [], sl, h)))) :=
  (R_gob [23, 38, 43, 69, 80, 106, 117] 400 _ _ _).trans rfl
set_option maxRecDepth 100000 in
theorem k154_117 (d sl : Nat) (I : Nat → Nat → Int32) (A : Nat → Nat → Int32) (N : Nat → Nat → Int64) (V : Nat → Nat → Option Nat) (lt : Int64) (tw : Option Nat) (sp sr : Nat) (X : List AC) (a1 : Int32) (a2 : Int32) :
  R (d + 1) 154 (117, [some (.ref 0), some (.int a1), some (.int a2)], [], sl, (CH I A N V lt tw sp sr X)) =
    cond (!decide ((I 101 6) = (nI 0))) (some (138, [some (.ref 0), some (.int a1), some (.int a2)], [.int (I 101 7)], sl, (CH I A N V lt tw sp sr X))) (some (138, [some (.ref 0), some (.int a1), some (.int a2)], [.int (-1 : Int32)], sl, (CH I A N V lt tw sp sr X))) :=
  (R_gob [23, 38, 43, 69, 80, 106, 117] 400 _ _ _).trans rfl
set_option maxRecDepth 100000 in
theorem k154_106 (d sl : Nat) (I : Nat → Nat → Int32) (A : Nat → Nat → Int32) (N : Nat → Nat → Int64) (V : Nat → Nat → Option Nat) (lt : Int64) (tw : Option Nat) (sp sr : Nat) (X : List AC) (a1 : Int32) (a2 : Int32) :
  R (d + 1) 154 (106, [some (.ref 0), some (.int a1), some (.int a2)], [], sl, (CH I A N V lt tw sp sr X)) =
    bC (C d 44 [.ref 3, .ref 12] sl (CH I A N V lt tw sp sr X)) (fun vs sl h => R (d + 1) 154 (117, [some (.ref 0), some (.int a1), some (.int a2)], vs ++ [], sl, h)) :=
  (R_gob [23, 38, 43, 69, 80, 106, 117] 400 _ _ _).trans rfl
set_option maxRecDepth 100000 in
theorem k155_0 (d sl : Nat) (I : Nat → Nat → Int32) (A : Nat → Nat → Int32) (N : Nat → Nat → Int64) (V : Nat → Nat → Option Nat) (lt : Int64) (tw : Option Nat) (sp sr : Nat) (X : List AC) (a1 : Int32) :
  R d 155 (0, [some (.ref 0), some (.int a1)], [], sl, (CH I A N V lt tw sp sr X)) =
    cond (!decide ((I 101 5) = (nI 0))) (R d 155 (13, [some (.ref 0), some (.int a1)], [.int a1], sl, (CH I A N V lt tw sp sr X))) (some (11, [some (.ref 0), some (.int a1)], [.int (-1 : Int32)], sl, (CH I A N V lt tw sp sr X))) :=
  (R_gob [13] 400 _ _ _).trans rfl
set_option maxRecDepth 100000 in
theorem k155_13_out (d sl : Nat) (I : Nat → Nat → Int32) (A : Nat → Nat → Int32) (N : Nat → Nat → Int64) (V : Nat → Nat → Option Nat) (lt : Int64) (tw : Option Nat) (sp sr : Nat) (X : List AC) (a1 : Int32) (x : Int32) (hx : (decide (x.toInt < (0)) || decide ((3) < x.toInt)) = true) :
  R d 155 (13, [some (.ref 0), some (.int a1)], .int x :: [], sl, (CH I A N V lt tw sp sr X)) = R d 155 (76, [some (.ref 0), some (.int a1)], [], sl, (CH I A N V lt tw sp sr X)) :=
  (R_tsw (show xk 155 13 = (.tableswitch 63 0 3 #[31, 39, 47, 55], 44, [], 0) by decide +kernel)).trans (congrArg (fun q => R d 155 (q, [some (.ref 0), some (.int a1)], [], sl, (CH I A N V lt tw sp sr X))) ((x_tsw_out hx).trans (by decide +kernel)))
set_option maxRecDepth 100000 in
theorem k155_13_c0 (d sl : Nat) (I : Nat → Nat → Int32) (A : Nat → Nat → Int32) (N : Nat → Nat → Int64) (V : Nat → Nat → Option Nat) (lt : Int64) (tw : Option Nat) (sp sr : Nat) (X : List AC) (a1 : Int32)  :
  R d 155 (13, [some (.ref 0), some (.int a1)], .int (nI 0) :: [], sl, (CH I A N V lt tw sp sr X)) = R d 155 (44, [some (.ref 0), some (.int a1)], [], sl, (CH I A N V lt tw sp sr X)) :=
  (R_tsw (show xk 155 13 = (.tableswitch 63 0 3 #[31, 39, 47, 55], 44, [], 0) by decide +kernel)).trans (congrArg (fun q => R d 155 (q, [some (.ref 0), some (.int a1)], [], sl, (CH I A N V lt tw sp sr X))) (by decide +kernel))
set_option maxRecDepth 100000 in
theorem k155_13_c1 (d sl : Nat) (I : Nat → Nat → Int32) (A : Nat → Nat → Int32) (N : Nat → Nat → Int64) (V : Nat → Nat → Option Nat) (lt : Int64) (tw : Option Nat) (sp sr : Nat) (X : List AC) (a1 : Int32)  :
  R d 155 (13, [some (.ref 0), some (.int a1)], .int (nI 1) :: [], sl, (CH I A N V lt tw sp sr X)) = R d 155 (52, [some (.ref 0), some (.int a1)], [], sl, (CH I A N V lt tw sp sr X)) :=
  (R_tsw (show xk 155 13 = (.tableswitch 63 0 3 #[31, 39, 47, 55], 44, [], 0) by decide +kernel)).trans (congrArg (fun q => R d 155 (q, [some (.ref 0), some (.int a1)], [], sl, (CH I A N V lt tw sp sr X))) (by decide +kernel))
set_option maxRecDepth 100000 in
theorem k155_13_c2 (d sl : Nat) (I : Nat → Nat → Int32) (A : Nat → Nat → Int32) (N : Nat → Nat → Int64) (V : Nat → Nat → Option Nat) (lt : Int64) (tw : Option Nat) (sp sr : Nat) (X : List AC) (a1 : Int32)  :
  R d 155 (13, [some (.ref 0), some (.int a1)], .int (nI 2) :: [], sl, (CH I A N V lt tw sp sr X)) = R d 155 (60, [some (.ref 0), some (.int a1)], [], sl, (CH I A N V lt tw sp sr X)) :=
  (R_tsw (show xk 155 13 = (.tableswitch 63 0 3 #[31, 39, 47, 55], 44, [], 0) by decide +kernel)).trans (congrArg (fun q => R d 155 (q, [some (.ref 0), some (.int a1)], [], sl, (CH I A N V lt tw sp sr X))) (by decide +kernel))
set_option maxRecDepth 100000 in
theorem k155_13_c3 (d sl : Nat) (I : Nat → Nat → Int32) (A : Nat → Nat → Int32) (N : Nat → Nat → Int64) (V : Nat → Nat → Option Nat) (lt : Int64) (tw : Option Nat) (sp sr : Nat) (X : List AC) (a1 : Int32)  :
  R d 155 (13, [some (.ref 0), some (.int a1)], .int (nI 3) :: [], sl, (CH I A N V lt tw sp sr X)) = R d 155 (68, [some (.ref 0), some (.int a1)], [], sl, (CH I A N V lt tw sp sr X)) :=
  (R_tsw (show xk 155 13 = (.tableswitch 63 0 3 #[31, 39, 47, 55], 44, [], 0) by decide +kernel)).trans (congrArg (fun q => R d 155 (q, [some (.ref 0), some (.int a1)], [], sl, (CH I A N V lt tw sp sr X))) (by decide +kernel))
set_option maxRecDepth 100000 in
theorem k155_76 (d sl : Nat) (I : Nat → Nat → Int32) (A : Nat → Nat → Int32) (N : Nat → Nat → Int64) (V : Nat → Nat → Option Nat) (lt : Int64) (tw : Option Nat) (sp sr : Nat) (X : List AC) (a1 : Int32) :
  R d 155 (76, [some (.ref 0), some (.int a1)], [], sl, (CH I A N V lt tw sp sr X)) =
    some (77, [some (.ref 0), some (.int a1)], [.int (-1 : Int32)], sl, (CH I A N V lt tw sp sr X)) :=
  (R_gob [13, 44, 52, 60, 68, 76] 400 _ _ _).trans rfl
set_option maxRecDepth 100000 in
theorem k155_44 (d sl : Nat) (I : Nat → Nat → Int32) (A : Nat → Nat → Int32) (N : Nat → Nat → Int64) (V : Nat → Nat → Option Nat) (lt : Int64) (tw : Option Nat) (sp sr : Nat) (X : List AC) (a1 : Int32) :
  R d 155 (44, [some (.ref 0), some (.int a1)], [], sl, (CH I A N V lt tw sp sr X)) =
    some (51, [some (.ref 0), some (.int a1)], [.int (I 101 6)], sl, (CH I A N V lt tw sp sr X)) :=
  (R_gob [13, 44, 52, 60, 68, 76] 400 _ _ _).trans rfl
set_option maxRecDepth 100000 in
theorem k155_52 (d sl : Nat) (I : Nat → Nat → Int32) (A : Nat → Nat → Int32) (N : Nat → Nat → Int64) (V : Nat → Nat → Option Nat) (lt : Int64) (tw : Option Nat) (sp sr : Nat) (X : List AC) (a1 : Int32) :
  R d 155 (52, [some (.ref 0), some (.int a1)], [], sl, (CH I A N V lt tw sp sr X)) =
    some (59, [some (.ref 0), some (.int a1)], [.int (I 101 7)], sl, (CH I A N V lt tw sp sr X)) :=
  (R_gob [13, 44, 52, 60, 68, 76] 400 _ _ _).trans rfl
set_option maxRecDepth 100000 in
theorem k155_60 (d sl : Nat) (I : Nat → Nat → Int32) (A : Nat → Nat → Int32) (N : Nat → Nat → Int64) (V : Nat → Nat → Option Nat) (lt : Int64) (tw : Option Nat) (sp sr : Nat) (X : List AC) (a1 : Int32) :
  R d 155 (60, [some (.ref 0), some (.int a1)], [], sl, (CH I A N V lt tw sp sr X)) =
    some (67, [some (.ref 0), some (.int a1)], [.int (I 101 8)], sl, (CH I A N V lt tw sp sr X)) :=
  (R_gob [13, 44, 52, 60, 68, 76] 400 _ _ _).trans rfl
set_option maxRecDepth 100000 in
theorem k155_68 (d sl : Nat) (I : Nat → Nat → Int32) (A : Nat → Nat → Int32) (N : Nat → Nat → Int64) (V : Nat → Nat → Option Nat) (lt : Int64) (tw : Option Nat) (sp sr : Nat) (X : List AC) (a1 : Int32) :
  R d 155 (68, [some (.ref 0), some (.int a1)], [], sl, (CH I A N V lt tw sp sr X)) =
    some (75, [some (.ref 0), some (.int a1)], [.int (I 101 9)], sl, (CH I A N V lt tw sp sr X)) :=
  (R_gob [13, 44, 52, 60, 68, 76] 400 _ _ _).trans rfl
set_option maxRecDepth 100000 in
theorem k156_0 (d sl : Nat) (I : Nat → Nat → Int32) (A : Nat → Nat → Int32) (N : Nat → Nat → Int64) (V : Nat → Nat → Option Nat) (lt : Int64) (tw : Option Nat) (sp sr : Nat)  :
  R (d + 1) 156 (0, [some (.ref 0), none, none, none], [], sl, (CH I A N V lt tw sp sr [])) =
    bC (C d 89 [.ref 1, .int (nI 200)] sl (CH I A N V lt tw sp sr [])) (fun vs sl h => R (d + 1) 156 (10, [some (.ref 0), none, none, none], vs ++ [], sl, h)) :=
  (R_gob [10, 37, 43, 53, 66] 400 _ _ _).trans rfl
set_option maxRecDepth 100000 in
theorem k156_10 (d sl : Nat) (I : Nat → Nat → Int32) (A : Nat → Nat → Int32) (N : Nat → Nat → Int64) (V : Nat → Nat → Option Nat) (lt : Int64) (tw : Option Nat)  :
  R (d + 1) 156 (10, [some (.ref 0), none, none, none], [], sl, (CH I A N V lt tw 108 112 [])) =
    bC (C d 36 [.ref 146, .ref 1, .ref 3, .ref 112] (sl + 4) (CH (up1 I 112 (up1 (I 112) 3 (nI 0))) A N V lt tw 108 112 [.inr (5, [.null, .null, .null, .int 0])])) (fun vs sl h => R (d + 1) 156 (37, [some (.ref 0), none, none, none], vs ++ [.ref 146], sl, h)) :=
  (R_gob [10, 37, 43, 53, 66] 400 _ _ _).trans rfl
set_option maxRecDepth 100000 in
theorem k156_10_1 (d sl : Nat) (I : Nat → Nat → Int32) (A : Nat → Nat → Int32) (N : Nat → Nat → Int64) (V : Nat → Nat → Option Nat) (lt : Int64) (tw : Option Nat)  :
  R (d + 1) 156 (10, [some (.ref 0), none, none, none], [], sl, (CH I A N V lt tw 112 108 [])) =
    bC (C d 36 [.ref 146, .ref 1, .ref 3, .ref 108] (sl + 4) (CH (up1 I 108 (up1 (I 108) 3 (nI 0))) A N V lt tw 112 108 [.inr (5, [.null, .null, .null, .int 0])])) (fun vs sl h => R (d + 1) 156 (37, [some (.ref 0), none, none, none], vs ++ [.ref 146], sl, h)) :=
  (R_gob [10, 37, 43, 53, 66] 400 _ _ _).trans rfl
set_option maxRecDepth 100000 in
theorem k156_37 (d sl : Nat) (I : Nat → Nat → Int32) (A : Nat → Nat → Int32) (N : Nat → Nat → Int64) (V : Nat → Nat → Option Nat) (lt : Int64) (tw : Option Nat) (x0_3 : Int32) :
  R (d + 1) 156 (37, [some (.ref 0), none, none, none], [.ref 146], sl, (CH I A N V lt tw 108 112 [.inr (5, [.null, .null, .null, .int x0_3])])) =
    bC (C d 37 [.ref 146, .int (nI 1)] sl (CH I A N V lt tw 108 112 [.inr (5, [.null, .null, .null, .int x0_3])])) (fun vs sl h => R (d + 1) 156 (43, [some (.ref 0), some (.ref 146), none, none], vs ++ [], sl, h)) :=
  (R_gob [10, 37, 43, 53, 66] 400 _ _ _).trans rfl
set_option maxRecDepth 100000 in
theorem k156_37_1 (d sl : Nat) (I : Nat → Nat → Int32) (A : Nat → Nat → Int32) (N : Nat → Nat → Int64) (V : Nat → Nat → Option Nat) (lt : Int64) (tw : Option Nat) (x0_3 : Int32) :
  R (d + 1) 156 (37, [some (.ref 0), none, none, none], [.ref 146], sl, (CH I A N V lt tw 112 108 [.inr (5, [.null, .null, .null, .int x0_3])])) =
    bC (C d 37 [.ref 146, .int (nI 1)] sl (CH I A N V lt tw 112 108 [.inr (5, [.null, .null, .null, .int x0_3])])) (fun vs sl h => R (d + 1) 156 (43, [some (.ref 0), some (.ref 146), none, none], vs ++ [], sl, h)) :=
  (R_gob [10, 37, 43, 53, 66] 400 _ _ _).trans rfl
set_option maxRecDepth 100000 in
theorem k156_43 (d sl : Nat) (I : Nat → Nat → Int32) (A : Nat → Nat → Int32) (N : Nat → Nat → Int64) (V : Nat → Nat → Option Nat) (lt : Int64) (tw : Option Nat) (b0 : Int32) (x0_3 : Int32) :
  R (d + 1) 156 (43, [some (.ref 0), some (.ref 146), none, none], [.int b0], sl, (CH I A N V lt tw 108 112 [.inr (5, [.null, .null, .null, .int x0_3])])) =
    cond (decide (b0 = (nI 0))) (bC (C d 119 [.ref 0] sl (CH I A N V lt tw 108 112 [.inr (5, [.null, .null, .null, .int x0_3])])) (fun vs sl h => R (d + 1) 156 (66, [some (.ref 0), some (.ref 146), some (.int (nI 0)), none], vs ++ [], sl, h))) (bC (C d 99 [.ref 1] sl (CH I A N V lt tw 108 112 [.inr (5, [.null, .null, .null, .int x0_3])])) (fun vs sl h => R (d + 1) 156 (53, [some (.ref 0), some (.ref 146), none, none], vs ++ [], sl, h))) :=
  (R_gob [10, 37, 43, 53, 66] 400 _ _ _).trans rfl
set_option maxRecDepth 100000 in
theorem k156_43_1 (d sl : Nat) (I : Nat → Nat → Int32) (A : Nat → Nat → Int32) (N : Nat → Nat → Int64) (V : Nat → Nat → Option Nat) (lt : Int64) (tw : Option Nat) (b0 : Int32) (x0_3 : Int32) :
  R (d + 1) 156 (43, [some (.ref 0), some (.ref 146), none, none], [.int b0], sl, (CH I A N V lt tw 112 108 [.inr (5, [.null, .null, .null, .int x0_3])])) =
    cond (decide (b0 = (nI 0))) (bC (C d 119 [.ref 0] sl (CH I A N V lt tw 112 108 [.inr (5, [.null, .null, .null, .int x0_3])])) (fun vs sl h => R (d + 1) 156 (66, [some (.ref 0), some (.ref 146), some (.int (nI 0)), none], vs ++ [], sl, h))) (bC (C d 99 [.ref 1] sl (CH I A N V lt tw 112 108 [.inr (5, [.null, .null, .null, .int x0_3])])) (fun vs sl h => R (d + 1) 156 (53, [some (.ref 0), some (.ref 146), none, none], vs ++ [], sl, h))) :=
  (R_gob [10, 37, 43, 53, 66] 400 _ _ _).trans rfl
set_option maxRecDepth 100000 in
theorem k156_66 (d sl : Nat) (I : Nat → Nat → Int32) (A : Nat → Nat → Int32) (N : Nat → Nat → Int64) (V : Nat → Nat → Option Nat) (lt : Int64) (tw : Option Nat) (a2 : Int32) (x0_3 : Int32) :
  R (d + 1) 156 (66, [some (.ref 0), some (.ref 146), some (.int a2), none], [], sl, (CH I A N V lt tw 108 112 [.inr (5, [.null, .null, .null, .int x0_3])])) =
    cond (!decide (a2 = (nI 0))) (some (102, [some (.ref 0), some (.ref 146), some (.int a2), some (.ref 108)], [.int x0_3], sl, (CH I A N V lt tw 112 108 [.inr (5, [.null, .null, .null, .int x0_3])]))) (some (79, [some (.ref 0), some (.ref 146), some (.int a2), none], [.int ((-1 : Int32) - (I 1 11))], sl, (CH I A N V lt tw 108 112 [.inr (5, [.null, .null, .null, .int x0_3])]))) :=
  (R_gob [10, 37, 43, 53, 66] 400 _ _ _).trans rfl
set_option maxRecDepth 100000 in
theorem k156_53 (d sl : Nat) (I : Nat → Nat → Int32) (A : Nat → Nat → Int32) (N : Nat → Nat → Int64) (V : Nat → Nat → Option Nat) (lt : Int64) (tw : Option Nat) (b0 : Int32) (x0_3 : Int32) :
  R (d + 1) 156 (53, [some (.ref 0), some (.ref 146), none, none], [.int b0], sl, (CH I A N V lt tw 108 112 [.inr (5, [.null, .null, .null, .int x0_3])])) =
    cond (decide (b0 = (nI 0))) (bC (C d 119 [.ref 0] sl (CH I A N V lt tw 108 112 [.inr (5, [.null, .null, .null, .int x0_3])])) (fun vs sl h => R (d + 1) 156 (66, [some (.ref 0), some (.ref 146), some (.int (nI 0)), none], vs ++ [], sl, h))) (bC (C d 119 [.ref 0] sl (CH I A N V lt tw 108 112 [.inr (5, [.null, .null, .null, .int x0_3])])) (fun vs sl h => R (d + 1) 156 (66, [some (.ref 0), some (.ref 146), some (.int (nI 1)), none], vs ++ [], sl, h))) :=
  (R_gob [10, 37, 43, 53, 66] 400 _ _ _).trans rfl
set_option maxRecDepth 100000 in
theorem k156_66_1 (d sl : Nat) (I : Nat → Nat → Int32) (A : Nat → Nat → Int32) (N : Nat → Nat → Int64) (V : Nat → Nat → Option Nat) (lt : Int64) (tw : Option Nat) (a2 : Int32) (x0_3 : Int32) :
  R (d + 1) 156 (66, [some (.ref 0), some (.ref 146), some (.int a2), none], [], sl, (CH I A N V lt tw 112 108 [.inr (5, [.null, .null, .null, .int x0_3])])) =
    cond (!decide (a2 = (nI 0))) (some (102, [some (.ref 0), some (.ref 146), some (.int a2), some (.ref 112)], [.int x0_3], sl, (CH I A N V lt tw 108 112 [.inr (5, [.null, .null, .null, .int x0_3])]))) (some (79, [some (.ref 0), some (.ref 146), some (.int a2), none], [.int ((-1 : Int32) - (I 1 11))], sl, (CH I A N V lt tw 112 108 [.inr (5, [.null, .null, .null, .int x0_3])]))) :=
  (R_gob [10, 37, 43, 53, 66] 400 _ _ _).trans rfl
set_option maxRecDepth 100000 in
theorem k156_53_1 (d sl : Nat) (I : Nat → Nat → Int32) (A : Nat → Nat → Int32) (N : Nat → Nat → Int64) (V : Nat → Nat → Option Nat) (lt : Int64) (tw : Option Nat) (b0 : Int32) (x0_3 : Int32) :
  R (d + 1) 156 (53, [some (.ref 0), some (.ref 146), none, none], [.int b0], sl, (CH I A N V lt tw 112 108 [.inr (5, [.null, .null, .null, .int x0_3])])) =
    cond (decide (b0 = (nI 0))) (bC (C d 119 [.ref 0] sl (CH I A N V lt tw 112 108 [.inr (5, [.null, .null, .null, .int x0_3])])) (fun vs sl h => R (d + 1) 156 (66, [some (.ref 0), some (.ref 146), some (.int (nI 0)), none], vs ++ [], sl, h))) (bC (C d 119 [.ref 0] sl (CH I A N V lt tw 112 108 [.inr (5, [.null, .null, .null, .int x0_3])])) (fun vs sl h => R (d + 1) 156 (66, [some (.ref 0), some (.ref 146), some (.int (nI 1)), none], vs ++ [], sl, h))) :=
  (R_gob [10, 37, 43, 53, 66] 400 _ _ _).trans rfl
set_option maxRecDepth 100000 in
theorem k157_0 (d sl : Nat) (I : Nat → Nat → Int32) (A : Nat → Nat → Int32) (N : Nat → Nat → Int64) (V : Nat → Nat → Option Nat) (lt : Int64) (tw : Option Nat) (X : List AC) (a1 : Int32) :
  R (d + 1) 157 (0, [some (.ref 0), some (.int a1), none, none, none], [], sl, (CH I A N V lt tw 108 112 X)) =
    cond (decide ((I 108 3) = (nI 0))) (some (16, [some (.ref 0), some (.int a1), none, none, none], [.int (-1 : Int32)], sl, (CH I A N V lt tw 108 112 X))) (cond (decide ((-1 : Int32) ≤ a1)) (bC (C d 106 [.ref 95, .ref 3] sl (CH I A N V lt tw 108 112 X)) (fun vs sl h => R (d + 1) 157 (28, [some (.ref 0), some (.int a1), none, none, none], vs ++ [], sl, h))) (some (16, [some (.ref 0), some (.int a1), none, none, none], [.int (-1 : Int32)], sl, (CH I A N V lt tw 108 112 X)))) :=
  (R_gob [28, 34, 60] 400 _ _ _).trans rfl
set_option maxRecDepth 100000 in
theorem k157_0_1 (d sl : Nat) (I : Nat → Nat → Int32) (A : Nat → Nat → Int32) (N : Nat → Nat → Int64) (V : Nat → Nat → Option Nat) (lt : Int64) (tw : Option Nat) (X : List AC) (a1 : Int32) :
  R (d + 1) 157 (0, [some (.ref 0), some (.int a1), none, none, none], [], sl, (CH I A N V lt tw 112 108 X)) =
    cond (decide ((I 112 3) = (nI 0))) (some (16, [some (.ref 0), some (.int a1), none, none, none], [.int (-1 : Int32)], sl, (CH I A N V lt tw 112 108 X))) (cond (decide ((-1 : Int32) ≤ a1)) (bC (C d 106 [.ref 95, .ref 3] sl (CH I A N V lt tw 112 108 X)) (fun vs sl h => R (d + 1) 157 (28, [some (.ref 0), some (.int a1), none, none, none], vs ++ [], sl, h))) (some (16, [some (.ref 0), some (.int a1), none, none, none], [.int (-1 : Int32)], sl, (CH I A N V lt tw 112 108 X)))) :=
  (R_gob [28, 34, 60] 400 _ _ _).trans rfl
set_option maxRecDepth 100000 in
theorem k157_28 (d sl : Nat) (I : Nat → Nat → Int32) (A : Nat → Nat → Int32) (N : Nat → Nat → Int64) (V : Nat → Nat → Option Nat) (lt : Int64) (tw : Option Nat) (X : List AC) (a1 : Int32) (b0 : Int32) :
  R (d + 1) 157 (28, [some (.ref 0), some (.int a1), none, none, none], [.int b0], sl, (CH I A N V lt tw 108 112 X)) =
    R (d + 1) 157 (34, [some (.ref 0), some (.int a1), some (.int b0), some (.int (nI 0)), some (.int (nI 0))], [], sl, (CH I A N V lt tw 108 112 X)) :=
  (R_gob [28, 34, 60] 400 _ _ _).trans rfl
set_option maxRecDepth 100000 in
theorem k157_28_1 (d sl : Nat) (I : Nat → Nat → Int32) (A : Nat → Nat → Int32) (N : Nat → Nat → Int64) (V : Nat → Nat → Option Nat) (lt : Int64) (tw : Option Nat) (X : List AC) (a1 : Int32) (b0 : Int32) :
  R (d + 1) 157 (28, [some (.ref 0), some (.int a1), none, none, none], [.int b0], sl, (CH I A N V lt tw 112 108 X)) =
    R (d + 1) 157 (34, [some (.ref 0), some (.int a1), some (.int b0), some (.int (nI 0)), some (.int (nI 0))], [], sl, (CH I A N V lt tw 112 108 X)) :=
  (R_gob [28, 34, 60] 400 _ _ _).trans rfl
set_option maxRecDepth 100000 in
theorem k157_34 (d sl : Nat) (I : Nat → Nat → Int32) (A : Nat → Nat → Int32) (N : Nat → Nat → Int64) (V : Nat → Nat → Option Nat) (lt : Int64) (tw : Option Nat) (X : List AC) (a1 : Int32) (a2 : Int32) (a3 : Int32) (a4 : Int32) :
  R (d + 1) 157 (34, [some (.ref 0), some (.int a1), some (.int a2), some (.int a3), some (.int a4)], [], sl, (CH I A N V lt tw 108 112 X)) =
    cond (decide ((I 3 8) ≤ a4)) (cond (!decide (a1 = (-1 : Int32))) (some (90, [some (.ref 0), some (.int a1), some (.int a2), some (.int a3), some (.int a4)], [.int (-1 : Int32)], sl, (CH I A N V lt tw 108 112 X))) (some (90, [some (.ref 0), some (.int a1), some (.int a2), some (.int a3), some (.int a4)], [.int a3], sl, (CH I A N V lt tw 108 112 X)))) (bC (C d 33 [.ref 108, .ref 3, .int a4, .int a2] sl (CH I A N V lt tw 108 112 X)) (fun vs sl h => R (d + 1) 157 (60, [some (.ref 0), some (.int a1), some (.int a2), some (.int a3), some (.int a4)], vs ++ [], sl, h))) :=
  (R_gob [28, 34, 60] 400 _ _ _).trans rfl
set_option maxRecDepth 100000 in
theorem k157_34_1 (d sl : Nat) (I : Nat → Nat → Int32) (A : Nat → Nat → Int32) (N : Nat → Nat → Int64) (V : Nat → Nat → Option Nat) (lt : Int64) (tw : Option Nat) (X : List AC) (a1 : Int32) (a2 : Int32) (a3 : Int32) (a4 : Int32) :
  R (d + 1) 157 (34, [some (.ref 0), some (.int a1), some (.int a2), some (.int a3), some (.int a4)], [], sl, (CH I A N V lt tw 112 108 X)) =
    cond (decide ((I 3 8) ≤ a4)) (cond (!decide (a1 = (-1 : Int32))) (some (90, [some (.ref 0), some (.int a1), some (.int a2), some (.int a3), some (.int a4)], [.int (-1 : Int32)], sl, (CH I A N V lt tw 112 108 X))) (some (90, [some (.ref 0), some (.int a1), some (.int a2), some (.int a3), some (.int a4)], [.int a3], sl, (CH I A N V lt tw 112 108 X)))) (bC (C d 33 [.ref 112, .ref 3, .int a4, .int a2] sl (CH I A N V lt tw 112 108 X)) (fun vs sl h => R (d + 1) 157 (60, [some (.ref 0), some (.int a1), some (.int a2), some (.int a3), some (.int a4)], vs ++ [], sl, h))) :=
  (R_gob [28, 34, 60] 400 _ _ _).trans rfl
set_option maxRecDepth 100000 in
theorem k157_60 (d sl : Nat) (I : Nat → Nat → Int32) (A : Nat → Nat → Int32) (N : Nat → Nat → Int64) (V : Nat → Nat → Option Nat) (lt : Int64) (tw : Option Nat) (X : List AC) (a1 : Int32) (a2 : Int32) (a3 : Int32) (a4 : Int32) (b0 : Int32) :
  R (d + 1) 157 (60, [some (.ref 0), some (.int a1), some (.int a2), some (.int a3), some (.int a4)], [.int b0], sl, (CH I A N V lt tw 108 112 X)) =
    cond (decide (b0 = (nI 0))) (R (d + 1) 157 (34, [some (.ref 0), some (.int a1), some (.int a2), some (.int a3), some (.int (a4 + (nI 1)))], [], sl, (CH I A N V lt tw 108 112 X))) (cond (!decide (a3 = a1)) (R (d + 1) 157 (34, [some (.ref 0), some (.int a1), some (.int a2), some (.int (a3 + (nI 1))), some (.int (a4 + (nI 1)))], [], sl, (CH I A N V lt tw 108 112 X))) (some (70, [some (.ref 0), some (.int a1), some (.int a2), some (.int a3), some (.int a4)], [.int a4], sl, (CH I A N V lt tw 108 112 X)))) :=
  (R_gob [28, 34, 60] 400 _ _ _).trans rfl
set_option maxRecDepth 100000 in
theorem k157_60_1 (d sl : Nat) (I : Nat → Nat → Int32) (A : Nat → Nat → Int32) (N : Nat → Nat → Int64) (V : Nat → Nat → Option Nat) (lt : Int64) (tw : Option Nat) (X : List AC) (a1 : Int32) (a2 : Int32) (a3 : Int32) (a4 : Int32) (b0 : Int32) :
  R (d + 1) 157 (60, [some (.ref 0), some (.int a1), some (.int a2), some (.int a3), some (.int a4)], [.int b0], sl, (CH I A N V lt tw 112 108 X)) =
    cond (decide (b0 = (nI 0))) (R (d + 1) 157 (34, [some (.ref 0), some (.int a1), some (.int a2), some (.int a3), some (.int (a4 + (nI 1)))], [], sl, (CH I A N V lt tw 112 108 X))) (cond (!decide (a3 = a1)) (R (d + 1) 157 (34, [some (.ref 0), some (.int a1), some (.int a2), some (.int (a3 + (nI 1))), some (.int (a4 + (nI 1)))], [], sl, (CH I A N V lt tw 112 108 X))) (some (70, [some (.ref 0), some (.int a1), some (.int a2), some (.int a3), some (.int a4)], [.int a4], sl, (CH I A N V lt tw 112 108 X)))) :=
  (R_gob [28, 34, 60] 400 _ _ _).trans rfl
set_option maxRecDepth 100000 in
theorem k158_0 (d sl : Nat) (I : Nat → Nat → Int32) (A : Nat → Nat → Int32) (N : Nat → Nat → Int64) (V : Nat → Nat → Option Nat) (lt : Int64) (tw : Option Nat) (sp sr : Nat) (X : List AC) (a1 : Int32) :
  R (d + 1) 158 (0, [some (.ref 0), some (.int a1)], [], sl, (CH I A N V lt tw sp sr X)) =
    cond (decide (a1 < (nI 0))) (some (10, [some (.ref 0), some (.int a1)], [.int (nI 0)], sl, (CH I A N V lt tw sp sr X))) (cond (decide (a1 < (nI 2))) (cond (x_in a1 2) (R (d + 1) 158 (17, [some (.ref 0), some (.int a1)], [x_rf ((V 116) a1.toNatClampNeg)], sl, (CH I A N V lt tw sp sr X))) none) (some (10, [some (.ref 0), some (.int a1)], [.int (nI 0)], sl, (CH I A N V lt tw sp sr X)))) :=
  (R_gob [17, 24, 37] 400 _ _ _).trans rfl
set_option maxRecDepth 100000 in
theorem k158_17 (d sl : Nat) (I : Nat → Nat → Int32) (A : Nat → Nat → Int32) (N : Nat → Nat → Int64) (V : Nat → Nat → Option Nat) (lt : Int64) (tw : Option Nat) (sp sr : Nat) (X : List AC) (a1 : Int32) :
  R (d + 1) 158 (17, [some (.ref 0), some (.int a1)], [.ref 120], sl, (CH I A N V lt tw sp sr X)) =
    bC (C d 44 [.ref 120, .ref 3] sl (CH I A N V lt tw sp sr X)) (fun vs sl h => R (d + 1) 158 (24, [some (.ref 0), some (.int a1)], vs ++ [], sl, h)) :=
  (R_gob [17, 24, 37] 400 _ _ _).trans rfl
set_option maxRecDepth 100000 in
theorem k158_17_1 (d sl : Nat) (I : Nat → Nat → Int32) (A : Nat → Nat → Int32) (N : Nat → Nat → Int64) (V : Nat → Nat → Option Nat) (lt : Int64) (tw : Option Nat) (sp sr : Nat) (X : List AC) (a1 : Int32) :
  R (d + 1) 158 (17, [some (.ref 0), some (.int a1)], [.ref 133], sl, (CH I A N V lt tw sp sr X)) =
    bC (C d 44 [.ref 133, .ref 3] sl (CH I A N V lt tw sp sr X)) (fun vs sl h => R (d + 1) 158 (24, [some (.ref 0), some (.int a1)], vs ++ [], sl, h)) :=
  (R_gob [17, 24, 37] 400 _ _ _).trans rfl
set_option maxRecDepth 100000 in
theorem k158_24 (d sl : Nat) (I : Nat → Nat → Int32) (A : Nat → Nat → Int32) (N : Nat → Nat → Int64) (V : Nat → Nat → Option Nat) (lt : Int64) (tw : Option Nat) (sp sr : Nat) (X : List AC) (a1 : Int32) :
  R (d + 1) 158 (24, [some (.ref 0), some (.int a1)], [], sl, (CH I A N V lt tw sp sr X)) =
    cond (x_in a1 2) (R (d + 1) 158 (30, [some (.ref 0), some (.int a1)], [x_rf ((V 117) a1.toNatClampNeg)], sl, (CH I A N V lt tw sp sr X))) none :=
  (R_gob [17, 24, 30, 37] 400 _ _ _).trans rfl
set_option maxRecDepth 100000 in
theorem k158_30 (d sl : Nat) (I : Nat → Nat → Int32) (A : Nat → Nat → Int32) (N : Nat → Nat → Int64) (V : Nat → Nat → Option Nat) (lt : Int64) (tw : Option Nat) (X : List AC) (a1 : Int32) :
  R (d + 1) 158 (30, [some (.ref 0), some (.int a1)], [.ref 129], sl, (CH I A N V lt tw 108 112 X)) =
    bC (C d 32 [.ref 129, .ref 108] sl (CH I A N V lt tw 108 112 X)) (fun vs sl h => R (d + 1) 158 (37, [some (.ref 0), some (.int a1)], vs ++ [], sl, h)) :=
  (R_gob [17, 24, 30, 37] 400 _ _ _).trans rfl
set_option maxRecDepth 100000 in
theorem k158_30_1 (d sl : Nat) (I : Nat → Nat → Int32) (A : Nat → Nat → Int32) (N : Nat → Nat → Int64) (V : Nat → Nat → Option Nat) (lt : Int64) (tw : Option Nat) (X : List AC) (a1 : Int32) :
  R (d + 1) 158 (30, [some (.ref 0), some (.int a1)], [.ref 129], sl, (CH I A N V lt tw 112 108 X)) =
    bC (C d 32 [.ref 129, .ref 112] sl (CH I A N V lt tw 112 108 X)) (fun vs sl h => R (d + 1) 158 (37, [some (.ref 0), some (.int a1)], vs ++ [], sl, h)) :=
  (R_gob [17, 24, 30, 37] 400 _ _ _).trans rfl
set_option maxRecDepth 100000 in
theorem k158_30_2 (d sl : Nat) (I : Nat → Nat → Int32) (A : Nat → Nat → Int32) (N : Nat → Nat → Int64) (V : Nat → Nat → Option Nat) (lt : Int64) (tw : Option Nat) (X : List AC) (a1 : Int32) :
  R (d + 1) 158 (30, [some (.ref 0), some (.int a1)], [.ref 142], sl, (CH I A N V lt tw 108 112 X)) =
    bC (C d 32 [.ref 142, .ref 108] sl (CH I A N V lt tw 108 112 X)) (fun vs sl h => R (d + 1) 158 (37, [some (.ref 0), some (.int a1)], vs ++ [], sl, h)) :=
  (R_gob [17, 24, 30, 37] 400 _ _ _).trans rfl
set_option maxRecDepth 100000 in
theorem k158_30_3 (d sl : Nat) (I : Nat → Nat → Int32) (A : Nat → Nat → Int32) (N : Nat → Nat → Int64) (V : Nat → Nat → Option Nat) (lt : Int64) (tw : Option Nat) (X : List AC) (a1 : Int32) :
  R (d + 1) 158 (30, [some (.ref 0), some (.int a1)], [.ref 142], sl, (CH I A N V lt tw 112 108 X)) =
    bC (C d 32 [.ref 142, .ref 112] sl (CH I A N V lt tw 112 108 X)) (fun vs sl h => R (d + 1) 158 (37, [some (.ref 0), some (.int a1)], vs ++ [], sl, h)) :=
  (R_gob [17, 24, 30, 37] 400 _ _ _).trans rfl
set_option maxRecDepth 100000 in
theorem k158_37 (d sl : Nat) (I : Nat → Nat → Int32) (A : Nat → Nat → Int32) (N : Nat → Nat → Int64) (V : Nat → Nat → Option Nat) (lt : Int64) (tw : Option Nat) (X : List AC) (a1 : Int32) :
  R (d + 1) 158 (37, [some (.ref 0), some (.int a1)], [], sl, (CH I A N V lt tw 108 112 X)) =
    cond (x_in a1 2) (some (45, [some (.ref 0), some (.int a1)], [.int (nI 1)], sl, (CH I (up1 A 118 (upd (A 118) a1.toNatClampNeg (vp_nar .boolean (nI 1)))) N V lt tw 108 112 X))) none :=
  (R_gob [17, 24, 30, 37] 400 _ _ _).trans rfl
set_option maxRecDepth 100000 in
theorem k158_37_1 (d sl : Nat) (I : Nat → Nat → Int32) (A : Nat → Nat → Int32) (N : Nat → Nat → Int64) (V : Nat → Nat → Option Nat) (lt : Int64) (tw : Option Nat) (X : List AC) (a1 : Int32) :
  R (d + 1) 158 (37, [some (.ref 0), some (.int a1)], [], sl, (CH I A N V lt tw 112 108 X)) =
    cond (x_in a1 2) (some (45, [some (.ref 0), some (.int a1)], [.int (nI 1)], sl, (CH I (up1 A 118 (upd (A 118) a1.toNatClampNeg (vp_nar .boolean (nI 1)))) N V lt tw 112 108 X))) none :=
  (R_gob [17, 24, 30, 37] 400 _ _ _).trans rfl
set_option maxRecDepth 100000 in
theorem k159_0 (d sl : Nat) (I : Nat → Nat → Int32) (A : Nat → Nat → Int32) (N : Nat → Nat → Int64) (V : Nat → Nat → Option Nat) (lt : Int64) (tw : Option Nat) (sp sr : Nat) (X : List AC) (a1 : Int32) :
  R (d + 1) 159 (0, [some (.ref 0), some (.int a1)], [], sl, (CH I A N V lt tw sp sr X)) =
    cond (decide (a1 < (nI 0))) (some (19, [some (.ref 0), some (.int a1)], [.int (nI 0)], sl, (CH I A N V lt tw sp sr X))) (cond (decide ((nI 2) ≤ a1)) (some (19, [some (.ref 0), some (.int a1)], [.int (nI 0)], sl, (CH I A N V lt tw sp sr X))) (cond (x_in a1 2) (cond (!decide (((A 118) a1.toNatClampNeg) = (nI 0))) (cond (x_in a1 2) (R (d + 1) 159 (30, [some (.ref 0), some (.int a1)], [x_rf ((V 116) a1.toNatClampNeg), .ref 3], sl, (CH I A N V lt tw sp sr X))) none) (some (19, [some (.ref 0), some (.int a1)], [.int (nI 0)], sl, (CH I A N V lt tw sp sr X)))) none)) :=
  (R_gob [30, 33, 46, 53] 400 _ _ _).trans rfl
set_option maxRecDepth 100000 in
theorem k159_30 (d sl : Nat) (I : Nat → Nat → Int32) (A : Nat → Nat → Int32) (N : Nat → Nat → Int64) (V : Nat → Nat → Option Nat) (lt : Int64) (tw : Option Nat) (sp sr : Nat) (X : List AC) (a1 : Int32) :
  R (d + 1) 159 (30, [some (.ref 0), some (.int a1)], [.ref 120, .ref 3], sl, (CH I A N V lt tw sp sr X)) =
    bC (C d 44 [.ref 3, .ref 120] sl (CH I A N V lt tw sp sr X)) (fun vs sl h => R (d + 1) 159 (33, [some (.ref 0), some (.int a1)], vs ++ [], sl, h)) :=
  (R_gob [30, 33, 46, 53] 400 _ _ _).trans rfl
set_option maxRecDepth 100000 in
theorem k159_30_1 (d sl : Nat) (I : Nat → Nat → Int32) (A : Nat → Nat → Int32) (N : Nat → Nat → Int64) (V : Nat → Nat → Option Nat) (lt : Int64) (tw : Option Nat) (sp sr : Nat) (X : List AC) (a1 : Int32) :
  R (d + 1) 159 (30, [some (.ref 0), some (.int a1)], [.ref 133, .ref 3], sl, (CH I A N V lt tw sp sr X)) =
    bC (C d 44 [.ref 3, .ref 133] sl (CH I A N V lt tw sp sr X)) (fun vs sl h => R (d + 1) 159 (33, [some (.ref 0), some (.int a1)], vs ++ [], sl, h)) :=
  (R_gob [30, 33, 46, 53] 400 _ _ _).trans rfl
set_option maxRecDepth 100000 in
theorem k159_33 (d sl : Nat) (I : Nat → Nat → Int32) (A : Nat → Nat → Int32) (N : Nat → Nat → Int64) (V : Nat → Nat → Option Nat) (lt : Int64) (tw : Option Nat) (X : List AC) (a1 : Int32) :
  R (d + 1) 159 (33, [some (.ref 0), some (.int a1)], [], sl, (CH I A N V lt tw 108 112 X)) =
    cond (x_in a1 2) (R (d + 1) 159 (43, [some (.ref 0), some (.int a1)], [x_rf ((V 117) a1.toNatClampNeg), .ref 108], sl, (CH I A N V lt tw 108 112 X))) none :=
  (R_gob [30, 33, 43, 46, 53] 400 _ _ _).trans rfl
set_option maxRecDepth 100000 in
theorem k159_33_1 (d sl : Nat) (I : Nat → Nat → Int32) (A : Nat → Nat → Int32) (N : Nat → Nat → Int64) (V : Nat → Nat → Option Nat) (lt : Int64) (tw : Option Nat) (X : List AC) (a1 : Int32) :
  R (d + 1) 159 (33, [some (.ref 0), some (.int a1)], [], sl, (CH I A N V lt tw 112 108 X)) =
    cond (x_in a1 2) (R (d + 1) 159 (43, [some (.ref 0), some (.int a1)], [x_rf ((V 117) a1.toNatClampNeg), .ref 112], sl, (CH I A N V lt tw 112 108 X))) none :=
  (R_gob [30, 33, 43, 46, 53] 400 _ _ _).trans rfl
set_option maxRecDepth 100000 in
theorem k159_43 (d sl : Nat) (I : Nat → Nat → Int32) (A : Nat → Nat → Int32) (N : Nat → Nat → Int64) (V : Nat → Nat → Option Nat) (lt : Int64) (tw : Option Nat) (X : List AC) (a1 : Int32) :
  R (d + 1) 159 (43, [some (.ref 0), some (.int a1)], [.ref 129, .ref 108], sl, (CH I A N V lt tw 108 112 X)) =
    bC (C d 32 [.ref 108, .ref 129] sl (CH I A N V lt tw 108 112 X)) (fun vs sl h => R (d + 1) 159 (46, [some (.ref 0), some (.int a1)], vs ++ [], sl, h)) :=
  (R_gob [30, 33, 43, 46, 53] 400 _ _ _).trans rfl
set_option maxRecDepth 100000 in
theorem k159_43_1 (d sl : Nat) (I : Nat → Nat → Int32) (A : Nat → Nat → Int32) (N : Nat → Nat → Int64) (V : Nat → Nat → Option Nat) (lt : Int64) (tw : Option Nat) (X : List AC) (a1 : Int32) :
  R (d + 1) 159 (43, [some (.ref 0), some (.int a1)], [.ref 142, .ref 108], sl, (CH I A N V lt tw 108 112 X)) =
    bC (C d 32 [.ref 108, .ref 142] sl (CH I A N V lt tw 108 112 X)) (fun vs sl h => R (d + 1) 159 (46, [some (.ref 0), some (.int a1)], vs ++ [], sl, h)) :=
  (R_gob [30, 33, 43, 46, 53] 400 _ _ _).trans rfl
set_option maxRecDepth 100000 in
theorem k159_43_2 (d sl : Nat) (I : Nat → Nat → Int32) (A : Nat → Nat → Int32) (N : Nat → Nat → Int64) (V : Nat → Nat → Option Nat) (lt : Int64) (tw : Option Nat) (X : List AC) (a1 : Int32) :
  R (d + 1) 159 (43, [some (.ref 0), some (.int a1)], [.ref 129, .ref 112], sl, (CH I A N V lt tw 112 108 X)) =
    bC (C d 32 [.ref 112, .ref 129] sl (CH I A N V lt tw 112 108 X)) (fun vs sl h => R (d + 1) 159 (46, [some (.ref 0), some (.int a1)], vs ++ [], sl, h)) :=
  (R_gob [30, 33, 43, 46, 53] 400 _ _ _).trans rfl
set_option maxRecDepth 100000 in
theorem k159_43_3 (d sl : Nat) (I : Nat → Nat → Int32) (A : Nat → Nat → Int32) (N : Nat → Nat → Int64) (V : Nat → Nat → Option Nat) (lt : Int64) (tw : Option Nat) (X : List AC) (a1 : Int32) :
  R (d + 1) 159 (43, [some (.ref 0), some (.int a1)], [.ref 142, .ref 112], sl, (CH I A N V lt tw 112 108 X)) =
    bC (C d 32 [.ref 112, .ref 142] sl (CH I A N V lt tw 112 108 X)) (fun vs sl h => R (d + 1) 159 (46, [some (.ref 0), some (.int a1)], vs ++ [], sl, h)) :=
  (R_gob [30, 33, 43, 46, 53] 400 _ _ _).trans rfl
set_option maxRecDepth 100000 in
theorem k159_46 (d sl : Nat) (I : Nat → Nat → Int32) (A : Nat → Nat → Int32) (N : Nat → Nat → Int64) (V : Nat → Nat → Option Nat) (lt : Int64) (tw : Option Nat) (X : List AC) (a1 : Int32) :
  R (d + 1) 159 (46, [some (.ref 0), some (.int a1)], [], sl, (CH I A N V lt tw 108 112 X)) =
    bC (C d 29 [.ref 21] sl (CH I A N V lt tw 108 112 X)) (fun vs sl h => R (d + 1) 159 (53, [some (.ref 0), some (.int a1)], vs ++ [], sl, h)) :=
  (R_gob [30, 33, 43, 46, 53] 400 _ _ _).trans rfl
set_option maxRecDepth 100000 in
theorem k159_46_1 (d sl : Nat) (I : Nat → Nat → Int32) (A : Nat → Nat → Int32) (N : Nat → Nat → Int64) (V : Nat → Nat → Option Nat) (lt : Int64) (tw : Option Nat) (X : List AC) (a1 : Int32) :
  R (d + 1) 159 (46, [some (.ref 0), some (.int a1)], [], sl, (CH I A N V lt tw 112 108 X)) =
    bC (C d 29 [.ref 21] sl (CH I A N V lt tw 112 108 X)) (fun vs sl h => R (d + 1) 159 (53, [some (.ref 0), some (.int a1)], vs ++ [], sl, h)) :=
  (R_gob [30, 33, 43, 46, 53] 400 _ _ _).trans rfl
set_option maxRecDepth 100000 in
theorem k159_53 (d sl : Nat) (I : Nat → Nat → Int32) (A : Nat → Nat → Int32) (N : Nat → Nat → Int64) (V : Nat → Nat → Option Nat) (lt : Int64) (tw : Option Nat) (X : List AC) (a1 : Int32) :
  R (d + 1) 159 (53, [some (.ref 0), some (.int a1)], [], sl, (CH I A N V lt tw 108 112 X)) =
    some (54, [some (.ref 0), some (.int a1)], [.int (nI 1)], sl, (CH I A N V lt tw 108 112 X)) :=
  (R_gob [30, 33, 43, 46, 53] 400 _ _ _).trans rfl
set_option maxRecDepth 100000 in
theorem k159_53_1 (d sl : Nat) (I : Nat → Nat → Int32) (A : Nat → Nat → Int32) (N : Nat → Nat → Int64) (V : Nat → Nat → Option Nat) (lt : Int64) (tw : Option Nat) (X : List AC) (a1 : Int32) :
  R (d + 1) 159 (53, [some (.ref 0), some (.int a1)], [], sl, (CH I A N V lt tw 112 108 X)) =
    some (54, [some (.ref 0), some (.int a1)], [.int (nI 1)], sl, (CH I A N V lt tw 112 108 X)) :=
  (R_gob [30, 33, 43, 46, 53] 400 _ _ _).trans rfl
set_option maxRecDepth 100000 in
theorem k87_r1_0 (d sl : Nat) (I : Nat → Nat → Int32) (A : Nat → Nat → Int32) (N : Nat → Nat → Int64) (V : Nat → Nat → Option Nat) (lt : Int64) (tw : Option Nat) (sp sr : Nat) (X : List AC) (a1 : Int32) :
  R d 87 (0, [some (.ref 1), some (.int a1), none], [], sl, (CH I A N V lt tw sp sr X)) =
    R d 87 (3, [some (.ref 1), some (.int a1), some (.int (nI 24))], [], sl, (CH I A N V lt tw sp sr X)) :=
  (R_gob [3] 400 _ _ _).trans rfl
set_option maxRecDepth 100000 in
theorem k87_r1_3 (d sl : Nat) (I : Nat → Nat → Int32) (A : Nat → Nat → Int32) (N : Nat → Nat → Int64) (V : Nat → Nat → Option Nat) (lt : Int64) (tw : Option Nat) (sp sr : Nat) (X : List AC) (a1 : Int32) (a2 : Int32) :
  R d 87 (3, [some (.ref 1), some (.int a1), some (.int a2)], [], sl, (CH I A N V lt tw sp sr X)) =
    cond (decide (a2 < (nI 0))) (some (46, [some (.ref 1), some (.int a1), some (.int a2)], [], sl, (CH I A N V lt tw sp sr X))) (cond (decide ((nI 940) ≤ (I 1 1))) (R d 87 (3, [some (.ref 1), some (.int a1), some (.int (a2 + (-8 : Int32)))], [], sl, (CH I A N V lt tw sp sr X))) (cond (x_in (I 1 1) 940) (R d 87 (3, [some (.ref 1), some (.int a1), some (.int (a2 + (-8 : Int32)))], [], sl, (CH (up1 I 1 (up1 (I 1) 1 ((I 1 1) + (nI 1)))) (up1 A 2 (upd (A 2) (I 1 1).toNatClampNeg (vp_nar .byte (a1.toUInt32 >>> (a2.toUInt32 &&& Int32.toUInt32 31)).toInt32.toInt8.toInt32))) N V lt tw sp sr X))) none)) :=
  (R_gob [3] 400 _ _ _).trans rfl
set_option maxRecDepth 100000 in
theorem k29_r21_0 (d sl : Nat) (I : Nat → Nat → Int32) (A : Nat → Nat → Int32) (N : Nat → Nat → Int64) (V : Nat → Nat → Option Nat) (lt : Int64) (tw : Option Nat) (sp sr : Nat) (X : List AC)  :
  R d 29 (0, [some (.ref 21)], [], sl, (CH I A N V lt tw sp sr X)) =
    some (5, [some (.ref 21)], [], sl, (CH (up1 I 21 (up1 (I 21) 2 (nI 0))) A N V lt tw sp sr X)) :=
  (R_gob [] 400 _ _ _).trans rfl
set_option maxRecDepth 100000 in
theorem k81_r146_0 (d sl : Nat) (I : Nat → Nat → Int32) (A : Nat → Nat → Int32) (N : Nat → Nat → Int64) (V : Nat → Nat → Option Nat) (lt : Int64) (tw : Option Nat) (sp sr : Nat) (x0_2 : Int32) :
  R (d + 1) 81 (0, [some (.ref 146), none], [], sl, (CH I A N V lt tw sp sr [.inr (7, [.ref 1, .ref 12, .int x0_2])])) =
    bC (C d 43 [.ref 12] sl (CH I A N V lt tw sp sr [.inr (7, [.ref 1, .ref 12, .int x0_2])])) (fun vs sl h => R (d + 1) 81 (7, [some (.ref 146), none], vs ++ [], sl, h)) :=
  (R_gob [7, 9, 23, 32, 44] 400 _ _ _).trans rfl
set_option maxRecDepth 100000 in
theorem k81_r146_7 (d sl : Nat) (I : Nat → Nat → Int32) (A : Nat → Nat → Int32) (N : Nat → Nat → Int64) (V : Nat → Nat → Option Nat) (lt : Int64) (tw : Option Nat) (sp sr : Nat) (x0_2 : Int32) :
  R (d + 1) 81 (7, [some (.ref 146), none], [], sl, (CH I A N V lt tw sp sr [.inr (7, [.ref 1, .ref 12, .int x0_2])])) =
    R (d + 1) 81 (9, [some (.ref 146), some (.int (nI 0))], [], sl, (CH I A N V lt tw sp sr [.inr (7, [.ref 1, .ref 12, .int x0_2])])) :=
  (R_gob [7, 9, 23, 32, 44] 400 _ _ _).trans rfl
set_option maxRecDepth 100000 in
theorem k81_r146_9 (d sl : Nat) (I : Nat → Nat → Int32) (A : Nat → Nat → Int32) (N : Nat → Nat → Int64) (V : Nat → Nat → Option Nat) (lt : Int64) (tw : Option Nat) (sp sr : Nat) (a1 : Int32) (x0_2 : Int32) :
  R (d + 1) 81 (9, [some (.ref 146), some (.int a1)], [], sl, (CH I A N V lt tw sp sr [.inr (7, [.ref 1, .ref 12, .int x0_2])])) =
    cond (decide ((nI 940) ≤ a1)) (some (56, [some (.ref 146), some (.int a1)], [.int (-1 : Int32)], sl, (CH I A N V lt tw sp sr [.inr (7, [.ref 1, .ref 12, .int x0_2])]))) (bC (C d 94 [.ref 1] sl (CH I A N V lt tw sp sr [.inr (7, [.ref 1, .ref 12, .int x0_2])])) (fun vs sl h => R (d + 1) 81 (23, [some (.ref 146), some (.int a1)], vs ++ [], sl, h))) :=
  (R_gob [7, 9, 23, 32, 44] 400 _ _ _).trans rfl
set_option maxRecDepth 100000 in
theorem k81_r146_23 (d sl : Nat) (I : Nat → Nat → Int32) (A : Nat → Nat → Int32) (N : Nat → Nat → Int64) (V : Nat → Nat → Option Nat) (lt : Int64) (tw : Option Nat) (sp sr : Nat) (a1 : Int32) (b0 : Int32) (x0_2 : Int32) :
  R (d + 1) 81 (23, [some (.ref 146), some (.int a1)], [.int b0], sl, (CH I A N V lt tw sp sr [.inr (7, [.ref 1, .ref 12, .int x0_2])])) =
    cond (decide (b0 = (nI 0))) (bC (C d 82 [.ref 146] sl (CH I A N V lt tw sp sr [.inr (7, [.ref 1, .ref 12, .int x0_2])])) (fun vs sl h => R (d + 1) 81 (32, [some (.ref 146), some (.int a1)], vs ++ [], sl, h))) (some (27, [some (.ref 146), some (.int a1)], [.int a1], sl, (CH I A N V lt tw sp sr [.inr (7, [.ref 1, .ref 12, .int x0_2])]))) :=
  (R_gob [7, 9, 23, 32, 44] 400 _ _ _).trans rfl
