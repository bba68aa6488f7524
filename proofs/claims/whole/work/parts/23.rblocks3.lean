set_option maxRecDepth 100000 in
theorem m229_60 (d sl : Nat) (I : Nat → Int32) (w : Int64) (A : Nat → Nat → Int32) (N : Nat → Nat → Int64) (a1 : Int32) (b0 : Int32) (b1 : Int32) :
  R (d + 1) 229 (60, [some (.ref 0), some (.int a1), none], [.int b0, .int b1, .ref 2], sl, (RH I w A N)) =
    cond (x_in b1 369) (R (d + 1) 229 (2, [some (.ref 0), some (.int (a1 + (nI 1))), none], [], sl, (RH I w (up1 A 2 (upd (A 2) b1.toNatClampNeg b0)) N))) none :=
  (R_gob [2, 60, 108, 124, 155, 181] 400 _ _ _).trans rfl
set_option maxRecDepth 100000 in
theorem m229_124 (d sl : Nat) (I : Nat → Int32) (w : Int64) (A : Nat → Nat → Int32) (N : Nat → Nat → Int64) (a1 : Int32) (a2 : Int32) (b0 : Int32) :
  R (d + 1) 229 (124, [some (.ref 0), some (.int a1), some (.int a2)], [.int b0], sl, (RH I w A N)) =
    cond (!decide (b0 = (nI 0))) (cond (x_in ((nI 115) + a2) 369) (bC (C d 169 [.int (nI 999), .int (((A 2) ((nI 115) + a2).toNatClampNeg) + (nI 1))] sl (RH I w A N)) (fun vs sl h => R (d + 1) 229 (155, [some (.ref 0), some (.int a1), some (.int a2)], vs ++ [.int ((nI 115) + a2), .ref 2], sl, h))) none) (R (d + 1) 229 (108, [some (.ref 0), some (.int a1), some (.int (a2 + (nI 1)))], [], sl, (RH I w A N))) :=
  (R_gob [2, 60, 108, 124, 155, 181] 400 _ _ _).trans rfl
set_option maxRecDepth 100000 in
theorem m229_155 (d sl : Nat) (I : Nat → Int32) (w : Int64) (A : Nat → Nat → Int32) (N : Nat → Nat → Int64) (a1 : Int32) (a2 : Int32) (b0 : Int32) (b1 : Int32) :
  R (d + 1) 229 (155, [some (.ref 0), some (.int a1), some (.int a2)], [.int b0, .int b1, .ref 2], sl, (RH I w A N)) =
    cond (x_in b1 369) (cond (x_in ((nI 103) + a2) 369) (bC (C d 169 [.int (nI 9999), .int (((upd (A 2) b1.toNatClampNeg b0) ((nI 103) + a2).toNatClampNeg) + a1)] sl (RH I w (up1 A 2 (upd (A 2) b1.toNatClampNeg b0)) N)) (fun vs sl h => R (d + 1) 229 (181, [some (.ref 0), some (.int a1), some (.int a2)], vs ++ [.int ((nI 103) + a2), .ref 2], sl, h))) none) none :=
  (R_gob [2, 60, 108, 124, 155, 181] 400 _ _ _).trans rfl
set_option maxRecDepth 100000 in
theorem m229_181 (d sl : Nat) (I : Nat → Int32) (w : Int64) (A : Nat → Nat → Int32) (N : Nat → Nat → Int64) (a1 : Int32) (a2 : Int32) (b0 : Int32) (b1 : Int32) :
  R (d + 1) 229 (181, [some (.ref 0), some (.int a1), some (.int a2)], [.int b0, .int b1, .ref 2], sl, (RH I w A N)) =
    cond (x_in b1 369) (R (d + 1) 229 (108, [some (.ref 0), some (.int a1), some (.int (a2 + (nI 1)))], [], sl, (RH I w (up1 A 2 (upd (A 2) b1.toNatClampNeg b0)) N))) none :=
  (R_gob [2, 60, 108, 124, 155, 181] 400 _ _ _).trans rfl
set_option maxRecDepth 100000 in
theorem m230_0 (d sl : Nat) (I : Nat → Int32) (w : Int64) (A : Nat → Nat → Int32) (N : Nat → Nat → Int64) (a1 : Int32) :
  R (d + 1) 230 (0, [some (.ref 0), some (.int a1), none, none], [], sl, (RH I w A N)) =
    bC (C d 169 [.int a1, .int ((nI 400) - ((A 2) 70))] sl (RH I w A N)) (fun vs sl h => R (d + 1) 230 (15, [some (.ref 0), some (.int a1), none, none], vs ++ [], sl, h)) :=
  (R_gob [15, 18, 27] 400 _ _ _).trans rfl
set_option maxRecDepth 100000 in
theorem m230_15 (d sl : Nat) (I : Nat → Int32) (w : Int64) (A : Nat → Nat → Int32) (N : Nat → Nat → Int64) (a1 : Int32) (b0 : Int32) :
  R (d + 1) 230 (15, [some (.ref 0), some (.int a1), none, none], [.int b0], sl, (RH I w A N)) =
    R (d + 1) 230 (18, [some (.ref 0), some (.int a1), some (.int b0), some (.int (nI 0))], [], sl, (RH I w A N)) :=
  (R_gob [15, 18, 27] 400 _ _ _).trans rfl
set_option maxRecDepth 100000 in
theorem m230_18 (d sl : Nat) (I : Nat → Int32) (w : Int64) (A : Nat → Nat → Int32) (N : Nat → Nat → Int64) (a1 : Int32) (a2 : Int32) (a3 : Int32) :
  R (d + 1) 230 (18, [some (.ref 0), some (.int a1), some (.int a2), some (.int a3)], [], sl, (RH I w A N)) =
    cond (decide (a2 ≤ a3)) (some (34, [some (.ref 0), some (.int a1), some (.int a2), some (.int a3)], [.int a2], sl, (RH I w A N))) (bC (C d 229 [.ref 0] sl (RH I w A N)) (fun vs sl h => R (d + 1) 230 (27, [some (.ref 0), some (.int a1), some (.int a2), some (.int a3)], vs ++ [], sl, h))) :=
  (R_gob [15, 18, 27] 400 _ _ _).trans rfl
set_option maxRecDepth 100000 in
theorem m230_27 (d sl : Nat) (I : Nat → Int32) (w : Int64) (A : Nat → Nat → Int32) (N : Nat → Nat → Int64) (a1 : Int32) (a2 : Int32) (a3 : Int32) :
  R (d + 1) 230 (27, [some (.ref 0), some (.int a1), some (.int a2), some (.int a3)], [], sl, (RH I w A N)) =
    R (d + 1) 230 (18, [some (.ref 0), some (.int a1), some (.int a2), some (.int (a3 + (nI 1)))], [], sl, (RH I w A N)) :=
  (R_gob [15, 18, 27] 400 _ _ _).trans rfl
set_option maxRecDepth 100000 in
theorem m231_0 (d sl : Nat) (I : Nat → Int32) (w : Int64) (A : Nat → Nat → Int32) (N : Nat → Nat → Int64) (a1 : Int32) :
  R (d + 1) 231 (0, [some (.ref 0), some (.int a1)], [], sl, (RH I w A N)) =
    bC (C d 166 [.int a1, .int (nI 1), .int (nI 60)] sl (RH (up1 I 0 (nI 0)) w A N)) (fun vs sl h => R (d + 1) 231 (12, [some (.ref 0), some (.int a1)], vs ++ [], sl, h)) :=
  (R_gob [12, 36, 41] 400 _ _ _).trans rfl
set_option maxRecDepth 100000 in
theorem m231_12 (d sl : Nat) (I : Nat → Int32) (w : Int64) (A : Nat → Nat → Int32) (N : Nat → Nat → Int64) (a1 : Int32) (b0 : Int32) :
  R (d + 1) 231 (12, [some (.ref 0), some (.int a1)], [.int b0], sl, (RH I w A N)) =
    cond (!decide (b0 = (nI 0))) (cond (!decide (((A 2) 70) = (nI 400))) (bC (C d 217 [.ref 0] sl (RH I w A N)) (fun vs sl h => R (d + 1) 231 (36, [some (.ref 0), some (.int a1)], vs ++ [], sl, h))) (some (31, [some (.ref 0), some (.int a1)], [.int (nI 0)], sl, (RH I w A N)))) (some (16, [some (.ref 0), some (.int a1)], [.int (-1 : Int32)], sl, (RH I w A N))) :=
  (R_gob [12, 36, 41] 400 _ _ _).trans rfl
set_option maxRecDepth 100000 in
theorem m231_36 (d sl : Nat) (I : Nat → Int32) (w : Int64) (A : Nat → Nat → Int32) (N : Nat → Nat → Int64) (a1 : Int32) :
  R (d + 1) 231 (36, [some (.ref 0), some (.int a1)], [], sl, (RH I w A N)) =
    bC (C d 230 [.ref 0, .int a1] sl (RH I w A N)) (fun vs sl h => R (d + 1) 231 (41, [some (.ref 0), some (.int a1)], vs ++ [], sl, h)) :=
  (R_gob [12, 36, 41] 400 _ _ _).trans rfl
set_option maxRecDepth 100000 in
theorem m231_41 (d sl : Nat) (I : Nat → Int32) (w : Int64) (A : Nat → Nat → Int32) (N : Nat → Nat → Int64) (a1 : Int32) (b0 : Int32) :
  R (d + 1) 231 (41, [some (.ref 0), some (.int a1)], [.int b0], sl, (RH I w A N)) =
    some (41, [some (.ref 0), some (.int a1)], [.int b0], sl, (RH I w A N)) :=
  (R_gob [12, 36, 41] 400 _ _ _).trans rfl
set_option maxRecDepth 100000 in
theorem m232_0 (d sl : Nat) (I : Nat → Int32) (w : Int64) (A : Nat → Nat → Int32) (N : Nat → Nat → Int64) (a1 : Int32) :
  R (d + 1) 232 (0, [some (.ref 0), some (.int a1)], [], sl, (RH I w A N)) =
    bC (C d 197 [.ref 0, .int a1] sl (RH (up1 I 0 (nI 0)) w A N)) (fun vs sl h => R (d + 1) 232 (10, [some (.ref 0), some (.int a1)], vs ++ [], sl, h)) :=
  (R_gob [10, 18, 27, 30] 400 _ _ _).trans rfl
set_option maxRecDepth 100000 in
theorem m232_10 (d sl : Nat) (I : Nat → Int32) (w : Int64) (A : Nat → Nat → Int32) (N : Nat → Nat → Int64) (a1 : Int32) (b0 : Int32) :
  R (d + 1) 232 (10, [some (.ref 0), some (.int a1)], [.int b0], sl, (RH I w A N)) =
    cond (decide (b0 = (nI 0))) (some (34, [some (.ref 0), some (.int a1)], [.int (-1 : Int32)], sl, (RH I w A N))) (bC (C d 198 [.ref 0, .int a1] sl (RH I w A N)) (fun vs sl h => R (d + 1) 232 (18, [some (.ref 0), some (.int a1)], vs ++ [], sl, h))) :=
  (R_gob [10, 18, 27, 30] 400 _ _ _).trans rfl
set_option maxRecDepth 100000 in
theorem m232_18 (d sl : Nat) (I : Nat → Int32) (w : Int64) (A : Nat → Nat → Int32) (N : Nat → Nat → Int64) (a1 : Int32) (b0 : Int32) :
  R (d + 1) 232 (18, [some (.ref 0), some (.int a1)], [.int b0], sl, (RH I w A N)) =
    cond (decide (b0 = (nI 0))) (some (34, [some (.ref 0), some (.int a1)], [.int (-1 : Int32)], sl, (RH I w A N))) (bC (C d 202 [.ref 0, .int a1] sl (RH I w A N)) (fun vs sl h => R (d + 1) 232 (27, [some (.ref 0), some (.int a1)], vs ++ [.ref 0], sl, h))) :=
  (R_gob [10, 18, 27, 30] 400 _ _ _).trans rfl
set_option maxRecDepth 100000 in
theorem m232_27 (d sl : Nat) (I : Nat → Int32) (w : Int64) (A : Nat → Nat → Int32) (N : Nat → Nat → Int64) (a1 : Int32) (b0 : Int32) :
  R (d + 1) 232 (27, [some (.ref 0), some (.int a1)], [.int b0, .ref 0], sl, (RH I w A N)) =
    bC (C d 203 [.ref 0, .int b0] sl (RH I w A N)) (fun vs sl h => R (d + 1) 232 (30, [some (.ref 0), some (.int a1)], vs ++ [], sl, h)) :=
  (R_gob [10, 18, 27, 30] 400 _ _ _).trans rfl
set_option maxRecDepth 100000 in
theorem m232_30 (d sl : Nat) (I : Nat → Int32) (w : Int64) (A : Nat → Nat → Int32) (N : Nat → Nat → Int64) (a1 : Int32) (b0 : Int32) :
  R (d + 1) 232 (30, [some (.ref 0), some (.int a1)], [.int b0], sl, (RH I w A N)) =
    some (34, [some (.ref 0), some (.int a1)], [.int b0], sl, (RH I w A N)) :=
  (R_gob [10, 18, 27, 30] 400 _ _ _).trans rfl
set_option maxRecDepth 100000 in
theorem m233_0 (d sl : Nat) (I : Nat → Int32) (w : Int64) (A : Nat → Nat → Int32) (N : Nat → Nat → Int64) (a1 : Int32) :
  R (d + 1) 233 (0, [some (.ref 0), some (.int a1), none, none, none, none], [], sl, (RH I w A N)) =
    bC (C d 196 [.ref 0, .int a1] sl (RH (up1 I 0 (nI 0)) w A N)) (fun vs sl h => R (d + 1) 233 (10, [some (.ref 0), some (.int a1), none, none, none, none], vs ++ [], sl, h)) :=
  (R_gob [10, 20, 29, 40, 61, 65, 73, 77, 87, 116] 400 _ _ _).trans rfl
set_option maxRecDepth 100000 in
theorem m233_10 (d sl : Nat) (I : Nat → Int32) (w : Int64) (A : Nat → Nat → Int32) (N : Nat → Nat → Int64) (a1 : Int32) (b0 : Int32) :
  R (d + 1) 233 (10, [some (.ref 0), some (.int a1), none, none, none, none], [.int b0], sl, (RH I w A N)) =
    cond (!decide (b0 = (nI 0))) (bC (C d 201 [.ref 0, .int a1] sl (RH I w A N)) (fun vs sl h => R (d + 1) 233 (20, [some (.ref 0), some (.int a1), none, none, none, none], vs ++ [], sl, h))) (some (14, [some (.ref 0), some (.int a1), none, none, none, none], [.int (-1 : Int32)], sl, (RH I w A N))) :=
  (R_gob [10, 20, 29, 40, 61, 65, 73, 77, 87, 116] 400 _ _ _).trans rfl
set_option maxRecDepth 100000 in
theorem m233_20 (d sl : Nat) (I : Nat → Int32) (w : Int64) (A : Nat → Nat → Int32) (N : Nat → Nat → Int64) (a1 : Int32) (b0 : Int32) :
  R (d + 1) 233 (20, [some (.ref 0), some (.int a1), none, none, none, none], [.int b0], sl, (RH I w A N)) =
    R (d + 1) 233 (29, [some (.ref 0), some (.int a1), some (.int b0), some (.int (nI 0)), some (.int (b0 &&& (-b0))), none], [], sl, (RH I w A N)) :=
  (R_gob [10, 20, 29, 40, 61, 65, 73, 77, 87, 116] 400 _ _ _).trans rfl
set_option maxRecDepth 100000 in
theorem m233_29 (d sl : Nat) (I : Nat → Int32) (w : Int64) (A : Nat → Nat → Int32) (N : Nat → Nat → Int64) (a1 : Int32) (a2 : Int32) (a3 : Int32) (a4 : Int32) :
  R (d + 1) 233 (29, [some (.ref 0), some (.int a1), some (.int a2), some (.int a3), some (.int a4), none], [], sl, (RH I w A N)) =
    cond (decide (a4 = (nI 0))) (bC (C d 168 [.int a3] sl (RH (up1 I 28 a3) w A N)) (fun vs sl h => R (d + 1) 233 (116, [some (.ref 0), some (.int a1), some (.int a2), some (.int a3), some (.int a4), none], vs ++ [], sl, h))) (bC (C d 203 [.ref 0, .int a4] sl (RH I w A N)) (fun vs sl h => R (d + 1) 233 (40, [some (.ref 0), some (.int a1), some (.int a2), some (.int a3), some (.int a4), none], vs ++ [], sl, h))) :=
  (R_gob [10, 20, 29, 40, 61, 65, 73, 77, 87, 116] 400 _ _ _).trans rfl
set_option maxRecDepth 100000 in
theorem m233_116 (d sl : Nat) (I : Nat → Int32) (w : Int64) (A : Nat → Nat → Int32) (N : Nat → Nat → Int64) (a1 : Int32) (a2 : Int32) (a3 : Int32) (a4 : Int32) (b0 : Int32) :
  R (d + 1) 233 (116, [some (.ref 0), some (.int a1), some (.int a2), some (.int a3), some (.int a4), none], [.int b0], sl, (RH I w A N)) =
    some (116, [some (.ref 0), some (.int a1), some (.int a2), some (.int a3), some (.int a4), none], [.int b0], sl, (RH I w A N)) :=
  (R_gob [10, 20, 29, 40, 61, 65, 73, 77, 87, 116] 400 _ _ _).trans rfl
set_option maxRecDepth 100000 in
theorem m233_40 (d sl : Nat) (I : Nat → Int32) (w : Int64) (A : Nat → Nat → Int32) (N : Nat → Nat → Int64) (a1 : Int32) (a2 : Int32) (a3 : Int32) (a4 : Int32) (b0 : Int32) :
  R (d + 1) 233 (40, [some (.ref 0), some (.int a1), some (.int a2), some (.int a3), some (.int a4), none], [.int b0], sl, (RH I w A N)) =
    cond (x_in ((nI 73) + a1) 369) (cond (decide (((A 2) ((nI 73) + a1).toNatClampNeg) < b0)) (R (d + 1) 233 (29, [some (.ref 0), some (.int a1), some (.int a2), some (.int a3), some (.int ((a4 - a2) &&& a2)), some (.int b0)], [], sl, (RH I w A N))) (bC (C d 168 [.int a4] sl (RH I w A N)) (fun vs sl h => R (d + 1) 233 (61, [some (.ref 0), some (.int a1), some (.int a2), some (.int a3), some (.int a4), some (.int b0)], vs ++ [], sl, h)))) none :=
  (R_gob [10, 20, 29, 40, 61, 65, 73, 77, 87, 116] 400 _ _ _).trans rfl
set_option maxRecDepth 100000 in
theorem m233_29_1 (d sl : Nat) (I : Nat → Int32) (w : Int64) (A : Nat → Nat → Int32) (N : Nat → Nat → Int64) (a1 : Int32) (a2 : Int32) (a3 : Int32) (a4 : Int32) (a5 : Int32) :
  R (d + 1) 233 (29, [some (.ref 0), some (.int a1), some (.int a2), some (.int a3), some (.int a4), some (.int a5)], [], sl, (RH I w A N)) =
    cond (decide (a4 = (nI 0))) (bC (C d 168 [.int a3] sl (RH (up1 I 28 a3) w A N)) (fun vs sl h => R (d + 1) 233 (116, [some (.ref 0), some (.int a1), some (.int a2), some (.int a3), some (.int a4), some (.int a5)], vs ++ [], sl, h))) (bC (C d 203 [.ref 0, .int a4] sl (RH I w A N)) (fun vs sl h => R (d + 1) 233 (40, [some (.ref 0), some (.int a1), some (.int a2), some (.int a3), some (.int a4), some (.int a5)], vs ++ [], sl, h))) :=
  (R_gob [10, 20, 29, 40, 61, 65, 73, 77, 87, 116] 400 _ _ _).trans rfl
set_option maxRecDepth 100000 in
theorem m233_61 (d sl : Nat) (I : Nat → Int32) (w : Int64) (A : Nat → Nat → Int32) (N : Nat → Nat → Int64) (a1 : Int32) (a2 : Int32) (a3 : Int32) (a4 : Int32) (a5 : Int32) (b0 : Int32) :
  R (d + 1) 233 (61, [some (.ref 0), some (.int a1), some (.int a2), some (.int a3), some (.int a4), some (.int a5)], [.int b0], sl, (RH I w A N)) =
    bC (C d 168 [.int a3] sl (RH I w A N)) (fun vs sl h => R (d + 1) 233 (65, [some (.ref 0), some (.int a1), some (.int a2), some (.int a3), some (.int a4), some (.int a5)], vs ++ [.int b0], sl, h)) :=
  (R_gob [10, 20, 29, 40, 61, 65, 73, 77, 87, 116] 400 _ _ _).trans rfl
set_option maxRecDepth 100000 in
theorem m233_116_1 (d sl : Nat) (I : Nat → Int32) (w : Int64) (A : Nat → Nat → Int32) (N : Nat → Nat → Int64) (a1 : Int32) (a2 : Int32) (a3 : Int32) (a4 : Int32) (a5 : Int32) (b0 : Int32) :
  R (d + 1) 233 (116, [some (.ref 0), some (.int a1), some (.int a2), some (.int a3), some (.int a4), some (.int a5)], [.int b0], sl, (RH I w A N)) =
    some (116, [some (.ref 0), some (.int a1), some (.int a2), some (.int a3), some (.int a4), some (.int a5)], [.int b0], sl, (RH I w A N)) :=
  (R_gob [10, 20, 29, 40, 61, 65, 73, 77, 87, 116] 400 _ _ _).trans rfl
set_option maxRecDepth 100000 in
theorem m233_40_1 (d sl : Nat) (I : Nat → Int32) (w : Int64) (A : Nat → Nat → Int32) (N : Nat → Nat → Int64) (a1 : Int32) (a2 : Int32) (a3 : Int32) (a4 : Int32) (a5 : Int32) (b0 : Int32) :
  R (d + 1) 233 (40, [some (.ref 0), some (.int a1), some (.int a2), some (.int a3), some (.int a4), some (.int a5)], [.int b0], sl, (RH I w A N)) =
    cond (x_in ((nI 73) + a1) 369) (cond (decide (((A 2) ((nI 73) + a1).toNatClampNeg) < b0)) (R (d + 1) 233 (29, [some (.ref 0), some (.int a1), some (.int a2), some (.int a3), some (.int ((a4 - a2) &&& a2)), some (.int b0)], [], sl, (RH I w A N))) (bC (C d 168 [.int a4] sl (RH I w A N)) (fun vs sl h => R (d + 1) 233 (61, [some (.ref 0), some (.int a1), some (.int a2), some (.int a3), some (.int a4), some (.int b0)], vs ++ [], sl, h)))) none :=
  (R_gob [10, 20, 29, 40, 61, 65, 73, 77, 87, 116] 400 _ _ _).trans rfl
set_option maxRecDepth 100000 in
theorem m233_65 (d sl : Nat) (I : Nat → Int32) (w : Int64) (A : Nat → Nat → Int32) (N : Nat → Nat → Int64) (a1 : Int32) (a2 : Int32) (a3 : Int32) (a4 : Int32) (a5 : Int32) (b0 : Int32) (b1 : Int32) :
  R (d + 1) 233 (65, [some (.ref 0), some (.int a1), some (.int a2), some (.int a3), some (.int a4), some (.int a5)], [.int b0, .int b1], sl, (RH I w A N)) =
    cond (decide (b1 < b0)) (R (d + 1) 233 (29, [some (.ref 0), some (.int a1), some (.int a2), some (.int a3), some (.int ((a4 - a2) &&& a2)), some (.int a5)], [], sl, (RH I w A N))) (bC (C d 168 [.int a4] sl (RH I w A N)) (fun vs sl h => R (d + 1) 233 (73, [some (.ref 0), some (.int a1), some (.int a2), some (.int a3), some (.int a4), some (.int a5)], vs ++ [], sl, h))) :=
  (R_gob [10, 20, 29, 40, 61, 65, 73, 77, 87, 116] 400 _ _ _).trans rfl
set_option maxRecDepth 100000 in
theorem m233_73 (d sl : Nat) (I : Nat → Int32) (w : Int64) (A : Nat → Nat → Int32) (N : Nat → Nat → Int64) (a1 : Int32) (a2 : Int32) (a3 : Int32) (a4 : Int32) (a5 : Int32) (b0 : Int32) :
  R (d + 1) 233 (73, [some (.ref 0), some (.int a1), some (.int a2), some (.int a3), some (.int a4), some (.int a5)], [.int b0], sl, (RH I w A N)) =
    bC (C d 168 [.int a3] sl (RH I w A N)) (fun vs sl h => R (d + 1) 233 (77, [some (.ref 0), some (.int a1), some (.int a2), some (.int a3), some (.int a4), some (.int a5)], vs ++ [.int b0], sl, h)) :=
  (R_gob [10, 20, 29, 40, 61, 65, 73, 77, 87, 116] 400 _ _ _).trans rfl
set_option maxRecDepth 100000 in
theorem m233_77 (d sl : Nat) (I : Nat → Int32) (w : Int64) (A : Nat → Nat → Int32) (N : Nat → Nat → Int64) (a1 : Int32) (a2 : Int32) (a3 : Int32) (a4 : Int32) (a5 : Int32) (b0 : Int32) (b1 : Int32) :
  R (d + 1) 233 (77, [some (.ref 0), some (.int a1), some (.int a2), some (.int a3), some (.int a4), some (.int a5)], [.int b0, .int b1], sl, (RH I w A N)) =
    cond (!decide (b1 = b0)) (R (d + 1) 233 (29, [some (.ref 0), some (.int a1), some (.int a2), some (.int a4), some (.int ((a4 - a2) &&& a2)), some (.int a5)], [], sl, (RH I w A N))) (bC (C d 203 [.ref 0, .int a3] sl (RH I w A N)) (fun vs sl h => R (d + 1) 233 (87, [some (.ref 0), some (.int a1), some (.int a2), some (.int a3), some (.int a4), some (.int a5)], vs ++ [.int a5], sl, h))) :=
  (R_gob [10, 20, 29, 40, 61, 65, 73, 77, 87, 116] 400 _ _ _).trans rfl
set_option maxRecDepth 100000 in
theorem m233_87 (d sl : Nat) (I : Nat → Int32) (w : Int64) (A : Nat → Nat → Int32) (N : Nat → Nat → Int64) (a1 : Int32) (a2 : Int32) (a3 : Int32) (a4 : Int32) (a5 : Int32) (b0 : Int32) (b1 : Int32) :
  R (d + 1) 233 (87, [some (.ref 0), some (.int a1), some (.int a2), some (.int a3), some (.int a4), some (.int a5)], [.int b0, .int b1], sl, (RH I w A N)) =
    cond (decide (b1 < b0)) (R (d + 1) 233 (29, [some (.ref 0), some (.int a1), some (.int a2), some (.int a4), some (.int ((a4 - a2) &&& a2)), some (.int a5)], [], sl, (RH I w A N))) (R (d + 1) 233 (29, [some (.ref 0), some (.int a1), some (.int a2), some (.int a3), some (.int ((a4 - a2) &&& a2)), some (.int a5)], [], sl, (RH I w A N))) :=
  (R_gob [10, 20, 29, 40, 61, 65, 73, 77, 87, 116] 400 _ _ _).trans rfl
set_option maxRecDepth 100000 in
theorem m234_0 (d sl : Nat) (I : Nat → Int32) (w : Int64) (A : Nat → Nat → Int32) (N : Nat → Nat → Int64)  :
  R d 234 (0, [some (.ref 0)], [], sl, (RH I w A N)) =
    some (9, [some (.ref 0)], [.int (I 28)], sl, (RH (up1 I 0 (nI 0)) w A N)) :=
  (R_gob [] 400 _ _ _).trans rfl
set_option maxRecDepth 100000 in
theorem m235_0 (d sl : Nat) (I : Nat → Int32) (w : Int64) (A : Nat → Nat → Int32) (N : Nat → Nat → Int64)  :
  R d 235 (0, [some (.ref 0), none], [], sl, (RH I w A N)) =
    R d 235 (2, [some (.ref 0), some (.int (nI 0))], [], sl, (RH I w A N)) :=
  (R_gob [2] 400 _ _ _).trans rfl
set_option maxRecDepth 100000 in
theorem m235_2 (d sl : Nat) (I : Nat → Int32) (w : Int64) (A : Nat → Nat → Int32) (N : Nat → Nat → Int64) (a1 : Int32) :
  R d 235 (2, [some (.ref 0), some (.int a1)], [], sl, (RH I w A N)) =
    cond (decide ((nI 57) ≤ a1)) (some (29, [some (.ref 0), some (.int a1)], [], sl, (RH I w A N))) (cond (x_in ((nI 70) + a1) 369) (cond (x_in a1 57) (R d 235 (2, [some (.ref 0), some (.int (a1 + (nI 1)))], [], sl, (RH I w (up1 A 6 (upd (A 6) a1.toNatClampNeg ((A 2) ((nI 70) + a1).toNatClampNeg))) N))) none) none) :=
  (R_gob [2] 400 _ _ _).trans rfl
set_option maxRecDepth 100000 in
theorem m236_0 (d sl : Nat) (I : Nat → Int32) (w : Int64) (A : Nat → Nat → Int32) (N : Nat → Nat → Int64)  :
  R d 236 (0, [some (.ref 0), none], [], sl, (RH I w A N)) =
    R d 236 (2, [some (.ref 0), some (.int (nI 0))], [], sl, (RH I w A N)) :=
  (R_gob [2] 400 _ _ _).trans rfl
set_option maxRecDepth 100000 in
theorem m236_2 (d sl : Nat) (I : Nat → Int32) (w : Int64) (A : Nat → Nat → Int32) (N : Nat → Nat → Int64) (a1 : Int32) :
  R d 236 (2, [some (.ref 0), some (.int a1)], [], sl, (RH I w A N)) =
    cond (decide ((nI 57) ≤ a1)) (some (29, [some (.ref 0), some (.int a1)], [], sl, (RH I w A N))) (cond (x_in a1 57) (cond (x_in ((nI 70) + a1) 369) (R d 236 (2, [some (.ref 0), some (.int (a1 + (nI 1)))], [], sl, (RH I w (up1 A 2 (upd (A 2) ((nI 70) + a1).toNatClampNeg ((A 6) a1.toNatClampNeg))) N))) none) none) :=
  (R_gob [2] 400 _ _ _).trans rfl
set_option maxRecDepth 100000 in
theorem m237_0 (d sl : Nat) (I : Nat → Int32) (w : Int64) (A : Nat → Nat → Int32) (N : Nat → Nat → Int64) (a1 : Int32) :
  R (d + 1) 237 (0, [some (.ref 0), some (.int a1), none], [], sl, (RH I w A N)) =
    bC (C d 196 [.ref 0, .int a1] sl (RH (up1 I 0 (nI 0)) w A N)) (fun vs sl h => R (d + 1) 237 (10, [some (.ref 0), some (.int a1), none], vs ++ [], sl, h)) :=
  (R_gob [10, 19, 21, 32, 39, 49] 400 _ _ _).trans rfl
set_option maxRecDepth 100000 in
theorem m237_10 (d sl : Nat) (I : Nat → Int32) (w : Int64) (A : Nat → Nat → Int32) (N : Nat → Nat → Int64) (a1 : Int32) (b0 : Int32) :
  R (d + 1) 237 (10, [some (.ref 0), some (.int a1), none], [.int b0], sl, (RH I w A N)) =
    cond (!decide (b0 = (nI 0))) (bC (C d 235 [.ref 0] sl (RH I w A N)) (fun vs sl h => R (d + 1) 237 (19, [some (.ref 0), some (.int a1), none], vs ++ [], sl, h))) (some (14, [some (.ref 0), some (.int a1), none], [.int (-1 : Int32)], sl, (RH I w A N))) :=
  (R_gob [10, 19, 21, 32, 39, 49] 400 _ _ _).trans rfl
set_option maxRecDepth 100000 in
theorem m237_19 (d sl : Nat) (I : Nat → Int32) (w : Int64) (A : Nat → Nat → Int32) (N : Nat → Nat → Int64) (a1 : Int32) :
  R (d + 1) 237 (19, [some (.ref 0), some (.int a1), none], [], sl, (RH I w A N)) =
    R (d + 1) 237 (21, [some (.ref 0), some (.int a1), some (.int (nI 0))], [], sl, (RH I w A N)) :=
  (R_gob [10, 19, 21, 32, 39, 49] 400 _ _ _).trans rfl
set_option maxRecDepth 100000 in
theorem m237_21 (d sl : Nat) (I : Nat → Int32) (w : Int64) (A : Nat → Nat → Int32) (N : Nat → Nat → Int64) (a1 : Int32) (a2 : Int32) :
  R (d + 1) 237 (21, [some (.ref 0), some (.int a1), some (.int a2)], [], sl, (RH I w A N)) =
    cond (decide ((nI 99) < a2)) (bC (C d 236 [.ref 0] sl (RH I w A N)) (fun vs sl h => R (d + 1) 237 (49, [some (.ref 0), some (.int a1), some (.int a2)], vs ++ [], sl, h))) (bC (C d 204 [.ref 0, .int a1] sl (RH I w A N)) (fun vs sl h => R (d + 1) 237 (32, [some (.ref 0), some (.int a1), some (.int a2)], vs ++ [], sl, h))) :=
  (R_gob [10, 19, 21, 32, 39, 49] 400 _ _ _).trans rfl
set_option maxRecDepth 100000 in
theorem m237_49 (d sl : Nat) (I : Nat → Int32) (w : Int64) (A : Nat → Nat → Int32) (N : Nat → Nat → Int64) (a1 : Int32) (a2 : Int32) :
  R (d + 1) 237 (49, [some (.ref 0), some (.int a1), some (.int a2)], [], sl, (RH I w A N)) =
    cond (decide (a2 ≤ (nI 99))) (some (60, [some (.ref 0), some (.int a1), some (.int a2)], [.int a2], sl, (RH I w A N))) (some (60, [some (.ref 0), some (.int a1), some (.int a2)], [.int (-1 : Int32)], sl, (RH I w A N))) :=
  (R_gob [10, 19, 21, 32, 39, 49] 400 _ _ _).trans rfl
set_option maxRecDepth 100000 in
theorem m237_32 (d sl : Nat) (I : Nat → Int32) (w : Int64) (A : Nat → Nat → Int32) (N : Nat → Nat → Int64) (a1 : Int32) (a2 : Int32) (b0 : Int32) :
  R (d + 1) 237 (32, [some (.ref 0), some (.int a1), some (.int a2)], [.int b0], sl, (RH I w A N)) =
    cond (!decide (b0 = (nI 0))) (bC (C d 236 [.ref 0] sl (RH I w A N)) (fun vs sl h => R (d + 1) 237 (49, [some (.ref 0), some (.int a1), some (.int a2)], vs ++ [], sl, h))) (bC (C d 229 [.ref 0] sl (RH I w A N)) (fun vs sl h => R (d + 1) 237 (39, [some (.ref 0), some (.int a1), some (.int a2)], vs ++ [], sl, h))) :=
  (R_gob [10, 19, 21, 32, 39, 49] 400 _ _ _).trans rfl
set_option maxRecDepth 100000 in
theorem m237_39 (d sl : Nat) (I : Nat → Int32) (w : Int64) (A : Nat → Nat → Int32) (N : Nat → Nat → Int64) (a1 : Int32) (a2 : Int32) :
  R (d + 1) 237 (39, [some (.ref 0), some (.int a1), some (.int a2)], [], sl, (RH I w A N)) =
    R (d + 1) 237 (21, [some (.ref 0), some (.int a1), some (.int (a2 + (nI 1)))], [], sl, (RH I w A N)) :=
  (R_gob [10, 19, 21, 32, 39, 49] 400 _ _ _).trans rfl
set_option maxRecDepth 100000 in
theorem m238_0 (d sl : Nat) (I : Nat → Int32) (w : Int64) (A : Nat → Nat → Int32) (N : Nat → Nat → Int64)  :
  R (d + 1) 238 (0, [some (.ref 0), none, none, none, none], [], sl, (RH I w A N)) =
    R (d + 1) 238 (9, [some (.ref 0), some (.int (nI 0)), some (.int (nI 0)), none, none], [], sl, (RH (up1 I 0 (nI 0)) w A N)) :=
  (R_gob [9, 26, 33, 50, 72, 85, 119, 127, 206] 400 _ _ _).trans rfl
set_option maxRecDepth 100000 in
theorem m238_9 (d sl : Nat) (I : Nat → Int32) (w : Int64) (A : Nat → Nat → Int32) (N : Nat → Nat → Int64) (a1 : Int32) (a2 : Int32) :
  R (d + 1) 238 (9, [some (.ref 0), some (.int a1), some (.int a2), none, none], [], sl, (RH I w A N)) =
    cond (decide (((A 2) 0) ≤ a2)) (R (d + 1) 238 (50, [some (.ref 0), some (.int a1), some (.int (nI 0)), none, none], [], sl, (RH I w A N))) (bC (C d 200 [.ref 0, .int (nI 91), .int a2] sl (RH I w A N)) (fun vs sl h => R (d + 1) 238 (26, [some (.ref 0), some (.int a1), some (.int a2), none, none], vs ++ [], sl, h))) :=
  (R_gob [9, 26, 33, 50, 72, 85, 119, 127, 206] 400 _ _ _).trans rfl
set_option maxRecDepth 100000 in
theorem m238_50 (d sl : Nat) (I : Nat → Int32) (w : Int64) (A : Nat → Nat → Int32) (N : Nat → Nat → Int64) (a1 : Int32) (a2 : Int32) :
  R (d + 1) 238 (50, [some (.ref 0), some (.int a1), some (.int a2), none, none], [], sl, (RH I w A N)) =
    cond (decide ((nI 64) ≤ a2)) (bC (C d 168 [.int a1] sl (RH I w A N)) (fun vs sl h => R (d + 1) 238 (206, [some (.ref 0), some (.int a1), some (.int a2), none, none], vs ++ [], sl, h))) (cond (x_in a2 64) (cond (x_in a2 64) (R (d + 1) 238 (72, [some (.ref 0), some (.int a1), some (.int a2), some (.int (nI 0)), none], [], sl, (RH I w (up1 (up1 A 13 (upd (A 13) a2.toNatClampNeg (nI 0))) 14 (upd (A 14) a2.toNatClampNeg (nI 0))) N))) none) none) :=
  (R_gob [9, 26, 33, 50, 72, 85, 119, 127, 206] 400 _ _ _).trans rfl
set_option maxRecDepth 100000 in
theorem m238_26 (d sl : Nat) (I : Nat → Int32) (w : Int64) (A : Nat → Nat → Int32) (N : Nat → Nat → Int64) (a1 : Int32) (a2 : Int32) (b0 : Int32) :
  R (d + 1) 238 (26, [some (.ref 0), some (.int a1), some (.int a2), none, none], [.int b0], sl, (RH I w A N)) =
    bC (C d 200 [.ref 0, .int (nI 79), .int a2] sl (RH I w A N)) (fun vs sl h => R (d + 1) 238 (33, [some (.ref 0), some (.int a1), some (.int a2), none, none], vs ++ [.int b0], sl, h)) :=
  (R_gob [9, 26, 33, 50, 72, 85, 119, 127, 206] 400 _ _ _).trans rfl
set_option maxRecDepth 100000 in
theorem m238_206 (d sl : Nat) (I : Nat → Int32) (w : Int64) (A : Nat → Nat → Int32) (N : Nat → Nat → Int64) (a1 : Int32) (a2 : Int32) (b0 : Int32) :
  R (d + 1) 238 (206, [some (.ref 0), some (.int a1), some (.int a2), none, none], [.int b0], sl, (RH I w A N)) =
    cond (x_in a1 64) (some (213, [some (.ref 0), some (.int a1), some (.int a2), none, none], [.int (b0 - ((A 14) a1.toNatClampNeg))], sl, (RH I w A N))) none :=
  (R_gob [9, 26, 33, 50, 72, 85, 119, 127, 206] 400 _ _ _).trans rfl
set_option maxRecDepth 100000 in
theorem m238_72 (d sl : Nat) (I : Nat → Int32) (w : Int64) (A : Nat → Nat → Int32) (N : Nat → Nat → Int64) (a1 : Int32) (a2 : Int32) (a3 : Int32) :
  R (d + 1) 238 (72, [some (.ref 0), some (.int a1), some (.int a2), some (.int a3), none], [], sl, (RH I w A N)) =
    cond (decide ((nI 6) ≤ a3)) (cond (decide ((a2 &&& a1) = (nI 0))) (R (d + 1) 238 (50, [some (.ref 0), some (.int a1), some (.int (a2 + (nI 1))), some (.int a3), none], [], sl, (RH I w A N))) (cond (!decide (a2 = (a2 &&& a1))) (R (d + 1) 238 (50, [some (.ref 0), some (.int a1), some (.int (a2 + (nI 1))), some (.int a3), none], [], sl, (RH I w A N))) (cond (x_in a2 64) (cond (!decide (((A 13) a2.toNatClampNeg) = (nI 0))) (R (d + 1) 238 (50, [some (.ref 0), some (.int a1), some (.int (a2 + (nI 1))), some (.int a3), none], [], sl, (RH I w A N))) (cond (x_in a2 64) (cond (x_in a2 64) (R (d + 1) 238 (50, [some (.ref 0), some (.int a1), some (.int (a2 + (nI 1))), some (.int a3), none], [], sl, (RH I w (up1 A 14 (upd (A 14) a2.toNatClampNeg (((A 14) a2.toNatClampNeg) + (nI 1)))) N))) none) none)) none))) (bC (C d 167 [.int (a2 &&& a1), .int a3] sl (RH I w A N)) (fun vs sl h => R (d + 1) 238 (85, [some (.ref 0), some (.int a1), some (.int a2), some (.int a3), none], vs ++ [], sl, h))) :=
  (R_gob [9, 26, 33, 50, 72, 85, 119, 127, 206] 400 _ _ _).trans rfl
set_option maxRecDepth 100000 in
theorem m238_33 (d sl : Nat) (I : Nat → Int32) (w : Int64) (A : Nat → Nat → Int32) (N : Nat → Nat → Int64) (a1 : Int32) (a2 : Int32) (b0 : Int32) (b1 : Int32) :
  R (d + 1) 238 (33, [some (.ref 0), some (.int a1), some (.int a2), none, none], [.int b0, .int b1], sl, (RH I w A N)) =
    cond (decide (b1 = b0)) (R (d + 1) 238 (9, [some (.ref 0), some (.int a1), some (.int (a2 + (nI 1))), none, none], [], sl, (RH I w A N))) (R (d + 1) 238 (9, [some (.ref 0), some (.int (a1 ||| ((nI 1) <<< (a2 &&& nI 31)))), some (.int (a2 + (nI 1))), none, none], [], sl, (RH I w A N))) :=
  (R_gob [9, 26, 33, 50, 72, 85, 119, 127, 206] 400 _ _ _).trans rfl
set_option maxRecDepth 100000 in
theorem m238_50_1 (d sl : Nat) (I : Nat → Int32) (w : Int64) (A : Nat → Nat → Int32) (N : Nat → Nat → Int64) (a1 : Int32) (a2 : Int32) (a3 : Int32) :
  R (d + 1) 238 (50, [some (.ref 0), some (.int a1), some (.int a2), some (.int a3), none], [], sl, (RH I w A N)) =
    cond (decide ((nI 64) ≤ a2)) (bC (C d 168 [.int a1] sl (RH I w A N)) (fun vs sl h => R (d + 1) 238 (206, [some (.ref 0), some (.int a1), some (.int a2), some (.int a3), none], vs ++ [], sl, h))) (cond (x_in a2 64) (cond (x_in a2 64) (R (d + 1) 238 (72, [some (.ref 0), some (.int a1), some (.int a2), some (.int (nI 0)), none], [], sl, (RH I w (up1 (up1 A 13 (upd (A 13) a2.toNatClampNeg (nI 0))) 14 (upd (A 14) a2.toNatClampNeg (nI 0))) N))) none) none) :=
  (R_gob [9, 26, 33, 50, 72, 85, 119, 127, 206] 400 _ _ _).trans rfl
set_option maxRecDepth 100000 in
theorem m238_85 (d sl : Nat) (I : Nat → Int32) (w : Int64) (A : Nat → Nat → Int32) (N : Nat → Nat → Int64) (a1 : Int32) (a2 : Int32) (a3 : Int32) (b0 : Int32) :
  R (d + 1) 238 (85, [some (.ref 0), some (.int a1), some (.int a2), some (.int a3), none], [.int b0], sl, (RH I w A N)) =
    cond (!decide (b0 = (nI 0))) (cond (x_in (a2 &&& (((nI 1) <<< (a3 &&& nI 31)) ^^^ (-1 : Int32))) 64) (bC (C d 200 [.ref 0, .int (nI 91), .int a3] sl (RH I w A N)) (fun vs sl h => R (d + 1) 238 (119, [some (.ref 0), some (.int a1), some (.int a2), some (.int a3), some (.int (a2 &&& (((nI 1) <<< (a3 &&& nI 31)) ^^^ (-1 : Int32))))], vs ++ [.int ((A 13) (a2 &&& (((nI 1) <<< (a3 &&& nI 31)) ^^^ (-1 : Int32))).toNatClampNeg), .int a2, .ref 13], sl, h))) none) (R (d + 1) 238 (72, [some (.ref 0), some (.int a1), some (.int a2), some (.int (a3 + (nI 1))), none], [], sl, (RH I w A N))) :=
  (R_gob [9, 26, 33, 50, 72, 85, 119, 127, 206] 400 _ _ _).trans rfl
set_option maxRecDepth 100000 in
theorem m238_206_1 (d sl : Nat) (I : Nat → Int32) (w : Int64) (A : Nat → Nat → Int32) (N : Nat → Nat → Int64) (a1 : Int32) (a2 : Int32) (a3 : Int32) (b0 : Int32) :
  R (d + 1) 238 (206, [some (.ref 0), some (.int a1), some (.int a2), some (.int a3), none], [.int b0], sl, (RH I w A N)) =
    cond (x_in a1 64) (some (213, [some (.ref 0), some (.int a1), some (.int a2), some (.int a3), none], [.int (b0 - ((A 14) a1.toNatClampNeg))], sl, (RH I w A N))) none :=
  (R_gob [9, 26, 33, 50, 72, 85, 119, 127, 206] 400 _ _ _).trans rfl
set_option maxRecDepth 100000 in
theorem m238_119 (d sl : Nat) (I : Nat → Int32) (w : Int64) (A : Nat → Nat → Int32) (N : Nat → Nat → Int64) (a1 : Int32) (a2 : Int32) (a3 : Int32) (a4 : Int32) (b0 : Int32) (b1 : Int32) (b2 : Int32) :
  R (d + 1) 238 (119, [some (.ref 0), some (.int a1), some (.int a2), some (.int a3), some (.int a4)], [.int b0, .int b1, .int b2, .ref 13], sl, (RH I w A N)) =
    bC (C d 200 [.ref 0, .int (nI 79), .int a3] sl (RH I w A N)) (fun vs sl h => R (d + 1) 238 (127, [some (.ref 0), some (.int a1), some (.int a2), some (.int a3), some (.int a4)], vs ++ [.int (b1 + b0), .int b2, .ref 13], sl, h)) :=
  (R_gob [9, 26, 33, 50, 72, 85, 119, 127, 206] 400 _ _ _).trans rfl
set_option maxRecDepth 100000 in
theorem m238_127 (d sl : Nat) (I : Nat → Int32) (w : Int64) (A : Nat → Nat → Int32) (N : Nat → Nat → Int64) (a1 : Int32) (a2 : Int32) (a3 : Int32) (a4 : Int32) (b0 : Int32) (b1 : Int32) (b2 : Int32) :
  R (d + 1) 238 (127, [some (.ref 0), some (.int a1), some (.int a2), some (.int a3), some (.int a4)], [.int b0, .int b1, .int b2, .ref 13], sl, (RH I w A N)) =
    cond (x_in b2 64) (cond (x_in a4 64) (cond (x_in a2 64) (cond (decide (((A 14) a4.toNatClampNeg) ≤ ((A 14) a2.toNatClampNeg))) (R (d + 1) 238 (72, [some (.ref 0), some (.int a1), some (.int a2), some (.int (a3 + (nI 1))), some (.int a4)], [], sl, (RH I w (up1 A 13 (upd (A 13) b2.toNatClampNeg (b1 - b0))) N))) (cond (x_in a4 64) (cond (x_in a2 64) (R (d + 1) 238 (72, [some (.ref 0), some (.int a1), some (.int a2), some (.int (a3 + (nI 1))), some (.int a4)], [], sl, (RH I w (up1 (up1 A 13 (upd (A 13) b2.toNatClampNeg (b1 - b0))) 14 (upd (A 14) a2.toNatClampNeg ((A 14) a4.toNatClampNeg))) N))) none) none)) none) none) none :=
  (R_gob [9, 26, 33, 50, 72, 85, 119, 127, 206] 400 _ _ _).trans rfl
set_option maxRecDepth 100000 in
theorem m238_72_1 (d sl : Nat) (I : Nat → Int32) (w : Int64) (A : Nat → Nat → Int32) (N : Nat → Nat → Int64) (a1 : Int32) (a2 : Int32) (a3 : Int32) (a4 : Int32) :
  R (d + 1) 238 (72, [some (.ref 0), some (.int a1), some (.int a2), some (.int a3), some (.int a4)], [], sl, (RH I w A N)) =
    cond (decide ((nI 6) ≤ a3)) (cond (decide ((a2 &&& a1) = (nI 0))) (R (d + 1) 238 (50, [some (.ref 0), some (.int a1), some (.int (a2 + (nI 1))), some (.int a3), some (.int a4)], [], sl, (RH I w A N))) (cond (!decide (a2 = (a2 &&& a1))) (R (d + 1) 238 (50, [some (.ref 0), some (.int a1), some (.int (a2 + (nI 1))), some (.int a3), some (.int a4)], [], sl, (RH I w A N))) (cond (x_in a2 64) (cond (!decide (((A 13) a2.toNatClampNeg) = (nI 0))) (R (d + 1) 238 (50, [some (.ref 0), some (.int a1), some (.int (a2 + (nI 1))), some (.int a3), some (.int a4)], [], sl, (RH I w A N))) (cond (x_in a2 64) (cond (x_in a2 64) (R (d + 1) 238 (50, [some (.ref 0), some (.int a1), some (.int (a2 + (nI 1))), some (.int a3), some (.int a4)], [], sl, (RH I w (up1 A 14 (upd (A 14) a2.toNatClampNeg (((A 14) a2.toNatClampNeg) + (nI 1)))) N))) none) none)) none))) (bC (C d 167 [.int (a2 &&& a1), .int a3] sl (RH I w A N)) (fun vs sl h => R (d + 1) 238 (85, [some (.ref 0), some (.int a1), some (.int a2), some (.int a3), some (.int a4)], vs ++ [], sl, h))) :=
  (R_gob [9, 26, 33, 50, 72, 85, 119, 127, 206] 400 _ _ _).trans rfl
set_option maxRecDepth 100000 in
theorem m238_50_2 (d sl : Nat) (I : Nat → Int32) (w : Int64) (A : Nat → Nat → Int32) (N : Nat → Nat → Int64) (a1 : Int32) (a2 : Int32) (a3 : Int32) (a4 : Int32) :
  R (d + 1) 238 (50, [some (.ref 0), some (.int a1), some (.int a2), some (.int a3), some (.int a4)], [], sl, (RH I w A N)) =
    cond (decide ((nI 64) ≤ a2)) (bC (C d 168 [.int a1] sl (RH I w A N)) (fun vs sl h => R (d + 1) 238 (206, [some (.ref 0), some (.int a1), some (.int a2), some (.int a3), some (.int a4)], vs ++ [], sl, h))) (cond (x_in a2 64) (cond (x_in a2 64) (R (d + 1) 238 (72, [some (.ref 0), some (.int a1), some (.int a2), some (.int (nI 0)), some (.int a4)], [], sl, (RH I w (up1 (up1 A 13 (upd (A 13) a2.toNatClampNeg (nI 0))) 14 (upd (A 14) a2.toNatClampNeg (nI 0))) N))) none) none) :=
  (R_gob [9, 26, 33, 50, 72, 85, 119, 127, 206] 400 _ _ _).trans rfl
set_option maxRecDepth 100000 in
theorem m238_85_1 (d sl : Nat) (I : Nat → Int32) (w : Int64) (A : Nat → Nat → Int32) (N : Nat → Nat → Int64) (a1 : Int32) (a2 : Int32) (a3 : Int32) (a4 : Int32) (b0 : Int32) :
  R (d + 1) 238 (85, [some (.ref 0), some (.int a1), some (.int a2), some (.int a3), some (.int a4)], [.int b0], sl, (RH I w A N)) =
    cond (!decide (b0 = (nI 0))) (cond (x_in (a2 &&& (((nI 1) <<< (a3 &&& nI 31)) ^^^ (-1 : Int32))) 64) (bC (C d 200 [.ref 0, .int (nI 91), .int a3] sl (RH I w A N)) (fun vs sl h => R (d + 1) 238 (119, [some (.ref 0), some (.int a1), some (.int a2), some (.int a3), some (.int (a2 &&& (((nI 1) <<< (a3 &&& nI 31)) ^^^ (-1 : Int32))))], vs ++ [.int ((A 13) (a2 &&& (((nI 1) <<< (a3 &&& nI 31)) ^^^ (-1 : Int32))).toNatClampNeg), .int a2, .ref 13], sl, h))) none) (R (d + 1) 238 (72, [some (.ref 0), some (.int a1), some (.int a2), some (.int (a3 + (nI 1))), some (.int a4)], [], sl, (RH I w A N))) :=
  (R_gob [9, 26, 33, 50, 72, 85, 119, 127, 206] 400 _ _ _).trans rfl
set_option maxRecDepth 100000 in
theorem m238_206_2 (d sl : Nat) (I : Nat → Int32) (w : Int64) (A : Nat → Nat → Int32) (N : Nat → Nat → Int64) (a1 : Int32) (a2 : Int32) (a3 : Int32) (a4 : Int32) (b0 : Int32) :
  R (d + 1) 238 (206, [some (.ref 0), some (.int a1), some (.int a2), some (.int a3), some (.int a4)], [.int b0], sl, (RH I w A N)) =
    cond (x_in a1 64) (some (213, [some (.ref 0), some (.int a1), some (.int a2), some (.int a3), some (.int a4)], [.int (b0 - ((A 14) a1.toNatClampNeg))], sl, (RH I w A N))) none :=
  (R_gob [9, 26, 33, 50, 72, 85, 119, 127, 206] 400 _ _ _).trans rfl
set_option maxRecDepth 100000 in
theorem m239_0 (d sl : Nat) (I : Nat → Int32) (w : Int64) (A : Nat → Nat → Int32) (N : Nat → Nat → Int64) (a1 : Int32) (a2 : Int32) :
  R (d + 1) 239 (0, [some (.ref 0), some (.int a1), some (.int a2)], [], sl, (RH I w A N)) =
    R (d + 1) 239 (1, [some (.ref 0), some (.int a1), some (.int a2)], [.int a2], sl, (RH I w A N)) :=
  (R_gob [1, 77] 400 _ _ _).trans rfl
set_option maxRecDepth 100000 in
theorem m239_1_out (d sl : Nat) (I : Nat → Int32) (w : Int64) (A : Nat → Nat → Int32) (N : Nat → Nat → Int64) (a1 : Int32) (a2 : Int32) (x : Int32) (hx : (decide (x.toInt < (0)) || decide ((3) < x.toInt)) = true) :
  R (d + 1) 239 (1, [some (.ref 0), some (.int a1), some (.int a2)], .int x :: [], sl, (RH I w A N)) = R (d + 1) 239 (72, [some (.ref 0), some (.int a1), some (.int a2)], [], sl, (RH I w A N)) :=
  (R_tsw (show xk 239 1 = (.tableswitch 71 0 3 #[31, 41, 51, 61], 32, [], 0) by decide +kernel)).trans (congrArg (fun q => R (d + 1) 239 (q, [some (.ref 0), some (.int a1), some (.int a2)], [], sl, (RH I w A N))) ((x_tsw_out hx).trans (by decide +kernel)))
set_option maxRecDepth 100000 in
theorem m239_1_c0 (d sl : Nat) (I : Nat → Int32) (w : Int64) (A : Nat → Nat → Int32) (N : Nat → Nat → Int64) (a1 : Int32) (a2 : Int32)  :
  R (d + 1) 239 (1, [some (.ref 0), some (.int a1), some (.int a2)], .int (nI 0) :: [], sl, (RH I w A N)) = R (d + 1) 239 (32, [some (.ref 0), some (.int a1), some (.int a2)], [], sl, (RH I w A N)) :=
  (R_tsw (show xk 239 1 = (.tableswitch 71 0 3 #[31, 41, 51, 61], 32, [], 0) by decide +kernel)).trans (congrArg (fun q => R (d + 1) 239 (q, [some (.ref 0), some (.int a1), some (.int a2)], [], sl, (RH I w A N))) (by decide +kernel))
set_option maxRecDepth 100000 in
theorem m239_1_c1 (d sl : Nat) (I : Nat → Int32) (w : Int64) (A : Nat → Nat → Int32) (N : Nat → Nat → Int64) (a1 : Int32) (a2 : Int32)  :
  R (d + 1) 239 (1, [some (.ref 0), some (.int a1), some (.int a2)], .int (nI 1) :: [], sl, (RH I w A N)) = R (d + 1) 239 (42, [some (.ref 0), some (.int a1), some (.int a2)], [], sl, (RH I w A N)) :=
  (R_tsw (show xk 239 1 = (.tableswitch 71 0 3 #[31, 41, 51, 61], 32, [], 0) by decide +kernel)).trans (congrArg (fun q => R (d + 1) 239 (q, [some (.ref 0), some (.int a1), some (.int a2)], [], sl, (RH I w A N))) (by decide +kernel))
set_option maxRecDepth 100000 in
theorem m239_1_c2 (d sl : Nat) (I : Nat → Int32) (w : Int64) (A : Nat → Nat → Int32) (N : Nat → Nat → Int64) (a1 : Int32) (a2 : Int32)  :
  R (d + 1) 239 (1, [some (.ref 0), some (.int a1), some (.int a2)], .int (nI 2) :: [], sl, (RH I w A N)) = R (d + 1) 239 (52, [some (.ref 0), some (.int a1), some (.int a2)], [], sl, (RH I w A N)) :=
  (R_tsw (show xk 239 1 = (.tableswitch 71 0 3 #[31, 41, 51, 61], 32, [], 0) by decide +kernel)).trans (congrArg (fun q => R (d + 1) 239 (q, [some (.ref 0), some (.int a1), some (.int a2)], [], sl, (RH I w A N))) (by decide +kernel))
set_option maxRecDepth 100000 in
theorem m239_1_c3 (d sl : Nat) (I : Nat → Int32) (w : Int64) (A : Nat → Nat → Int32) (N : Nat → Nat → Int64) (a1 : Int32) (a2 : Int32)  :
  R (d + 1) 239 (1, [some (.ref 0), some (.int a1), some (.int a2)], .int (nI 3) :: [], sl, (RH I w A N)) = R (d + 1) 239 (62, [some (.ref 0), some (.int a1), some (.int a2)], [], sl, (RH I w A N)) :=
  (R_tsw (show xk 239 1 = (.tableswitch 71 0 3 #[31, 41, 51, 61], 32, [], 0) by decide +kernel)).trans (congrArg (fun q => R (d + 1) 239 (q, [some (.ref 0), some (.int a1), some (.int a2)], [], sl, (RH I w A N))) (by decide +kernel))
set_option maxRecDepth 100000 in
theorem m239_72 (d sl : Nat) (I : Nat → Int32) (w : Int64) (A : Nat → Nat → Int32) (N : Nat → Nat → Int64) (a1 : Int32) (a2 : Int32) :
  R (d + 1) 239 (72, [some (.ref 0), some (.int a1), some (.int a2)], [], sl, (RH I w A N)) =
    bC (C d 207 [.ref 0, .int a1] sl (RH I w A N)) (fun vs sl h => R (d + 1) 239 (77, [some (.ref 0), some (.int a1), some (.int a2)], vs ++ [], sl, h)) :=
  (R_gob [1, 32, 42, 52, 62, 72, 77] 400 _ _ _).trans rfl
set_option maxRecDepth 100000 in
theorem m239_32 (d sl : Nat) (I : Nat → Int32) (w : Int64) (A : Nat → Nat → Int32) (N : Nat → Nat → Int64) (a1 : Int32) (a2 : Int32) :
  R (d + 1) 239 (32, [some (.ref 0), some (.int a1), some (.int a2)], [], sl, (RH I w A N)) =
    cond (x_in ((nI 79) + a1) 369) (some (41, [some (.ref 0), some (.int a1), some (.int a2)], [.int ((A 2) ((nI 79) + a1).toNatClampNeg)], sl, (RH I w A N))) none :=
  (R_gob [1, 32, 42, 52, 62, 72, 77] 400 _ _ _).trans rfl
set_option maxRecDepth 100000 in
theorem m239_42 (d sl : Nat) (I : Nat → Int32) (w : Int64) (A : Nat → Nat → Int32) (N : Nat → Nat → Int64) (a1 : Int32) (a2 : Int32) :
  R (d + 1) 239 (42, [some (.ref 0), some (.int a1), some (.int a2)], [], sl, (RH I w A N)) =
    cond (x_in ((nI 91) + a1) 369) (some (51, [some (.ref 0), some (.int a1), some (.int a2)], [.int ((A 2) ((nI 91) + a1).toNatClampNeg)], sl, (RH I w A N))) none :=
  (R_gob [1, 32, 42, 52, 62, 72, 77] 400 _ _ _).trans rfl
set_option maxRecDepth 100000 in
theorem m239_52 (d sl : Nat) (I : Nat → Int32) (w : Int64) (A : Nat → Nat → Int32) (N : Nat → Nat → Int64) (a1 : Int32) (a2 : Int32) :
  R (d + 1) 239 (52, [some (.ref 0), some (.int a1), some (.int a2)], [], sl, (RH I w A N)) =
    cond (x_in ((nI 103) + a1) 369) (some (61, [some (.ref 0), some (.int a1), some (.int a2)], [.int ((A 2) ((nI 103) + a1).toNatClampNeg)], sl, (RH I w A N))) none :=
  (R_gob [1, 32, 42, 52, 62, 72, 77] 400 _ _ _).trans rfl
set_option maxRecDepth 100000 in
theorem m239_62 (d sl : Nat) (I : Nat → Int32) (w : Int64) (A : Nat → Nat → Int32) (N : Nat → Nat → Int64) (a1 : Int32) (a2 : Int32) :
  R (d + 1) 239 (62, [some (.ref 0), some (.int a1), some (.int a2)], [], sl, (RH I w A N)) =
    cond (x_in ((nI 115) + a1) 369) (some (71, [some (.ref 0), some (.int a1), some (.int a2)], [.int ((A 2) ((nI 115) + a1).toNatClampNeg)], sl, (RH I w A N))) none :=
  (R_gob [1, 32, 42, 52, 62, 72, 77] 400 _ _ _).trans rfl
set_option maxRecDepth 100000 in
theorem m239_77 (d sl : Nat) (I : Nat → Int32) (w : Int64) (A : Nat → Nat → Int32) (N : Nat → Nat → Int64) (a1 : Int32) (a2 : Int32) (b0 : Int32) :
  R (d + 1) 239 (77, [some (.ref 0), some (.int a1), some (.int a2)], [.int b0], sl, (RH I w A N)) =
    some (77, [some (.ref 0), some (.int a1), some (.int a2)], [.int b0], sl, (RH I w A N)) :=
  (R_gob [1, 32, 42, 52, 62, 72, 77] 400 _ _ _).trans rfl
set_option maxRecDepth 100000 in
theorem m240_0 (d sl : Nat) (I : Nat → Int32) (w : Int64) (A : Nat → Nat → Int32) (N : Nat → Nat → Int64) (a1 : Int32) (a2 : Int32) :
  R (d + 1) 240 (0, [some (.ref 0), some (.int a1), some (.int a2), none, none, none, none], [], sl, (RH I w A N)) =
    R (d + 1) 240 (5, [some (.ref 0), some (.int a1), some (.int a2), some (.int (nI 0)), some (.int (nI 0)), none, none], [], sl, (RH I w A N)) :=
  (R_gob [5, 23, 35, 53, 63, 70] 400 _ _ _).trans rfl
set_option maxRecDepth 100000 in
theorem m240_5 (d sl : Nat) (I : Nat → Int32) (w : Int64) (A : Nat → Nat → Int32) (N : Nat → Nat → Int64) (a1 : Int32) (a2 : Int32) (a3 : Int32) (a4 : Int32) :
  R (d + 1) 240 (5, [some (.ref 0), some (.int a1), some (.int a2), some (.int a3), some (.int a4), none, none], [], sl, (RH I w A N)) =
    cond (decide (((A 2) 72) ≤ a4)) (some (98, [some (.ref 0), some (.int a1), some (.int a2), some (.int a3), some (.int a4), none, none], [.int a3], sl, (RH I w A N))) (bC (C d 167 [.int a1, .int a4] sl (RH I w A N)) (fun vs sl h => R (d + 1) 240 (23, [some (.ref 0), some (.int a1), some (.int a2), some (.int a3), some (.int a4), none, none], vs ++ [], sl, h))) :=
  (R_gob [5, 23, 35, 53, 63, 70] 400 _ _ _).trans rfl
set_option maxRecDepth 100000 in
theorem m240_23 (d sl : Nat) (I : Nat → Int32) (w : Int64) (A : Nat → Nat → Int32) (N : Nat → Nat → Int64) (a1 : Int32) (a2 : Int32) (a3 : Int32) (a4 : Int32) (b0 : Int32) :
  R (d + 1) 240 (23, [some (.ref 0), some (.int a1), some (.int a2), some (.int a3), some (.int a4), none, none], [.int b0], sl, (RH I w A N)) =
    cond (!decide (b0 = (nI 0))) (R (d + 1) 240 (35, [some (.ref 0), some (.int a1), some (.int a2), some (.int a3), some (.int a4), some (.int (nI 0)), some (.int (nI 0))], [], sl, (RH I w A N))) (R (d + 1) 240 (5, [some (.ref 0), some (.int a1), some (.int a2), some (.int a3), some (.int (a4 + (nI 1))), none, none], [], sl, (RH I w A N))) :=
  (R_gob [5, 23, 35, 53, 63, 70] 400 _ _ _).trans rfl
set_option maxRecDepth 100000 in
theorem m240_35 (d sl : Nat) (I : Nat → Int32) (w : Int64) (A : Nat → Nat → Int32) (N : Nat → Nat → Int64) (a1 : Int32) (a2 : Int32) (a3 : Int32) (a4 : Int32) (a5 : Int32) (a6 : Int32) :
  R (d + 1) 240 (35, [some (.ref 0), some (.int a1), some (.int a2), some (.int a3), some (.int a4), some (.int a5), some (.int a6)], [], sl, (RH I w A N)) =
    cond (decide (((A 2) 72) ≤ a6)) (cond (decide (a5 ≤ a3)) (R (d + 1) 240 (5, [some (.ref 0), some (.int a1), some (.int a2), some (.int a3), some (.int (a4 + (nI 1))), some (.int a5), some (.int a6)], [], sl, (RH I w A N))) (R (d + 1) 240 (5, [some (.ref 0), some (.int a1), some (.int a2), some (.int a5), some (.int (a4 + (nI 1))), some (.int a5), some (.int a6)], [], sl, (RH I w A N)))) (bC (C d 167 [.int a1, .int a6] sl (RH I w A N)) (fun vs sl h => R (d + 1) 240 (53, [some (.ref 0), some (.int a1), some (.int a2), some (.int a3), some (.int a4), some (.int a5), some (.int a6)], vs ++ [], sl, h))) :=
  (R_gob [5, 23, 35, 53, 63, 70] 400 _ _ _).trans rfl
set_option maxRecDepth 100000 in
theorem m240_5_1 (d sl : Nat) (I : Nat → Int32) (w : Int64) (A : Nat → Nat → Int32) (N : Nat → Nat → Int64) (a1 : Int32) (a2 : Int32) (a3 : Int32) (a4 : Int32) (a5 : Int32) (a6 : Int32) :
  R (d + 1) 240 (5, [some (.ref 0), some (.int a1), some (.int a2), some (.int a3), some (.int a4), some (.int a5), some (.int a6)], [], sl, (RH I w A N)) =
    cond (decide (((A 2) 72) ≤ a4)) (some (98, [some (.ref 0), some (.int a1), some (.int a2), some (.int a3), some (.int a4), some (.int a5), some (.int a6)], [.int a3], sl, (RH I w A N))) (bC (C d 167 [.int a1, .int a4] sl (RH I w A N)) (fun vs sl h => R (d + 1) 240 (23, [some (.ref 0), some (.int a1), some (.int a2), some (.int a3), some (.int a4), some (.int a5), some (.int a6)], vs ++ [], sl, h))) :=
  (R_gob [5, 23, 35, 53, 63, 70] 400 _ _ _).trans rfl
set_option maxRecDepth 100000 in
theorem m240_53 (d sl : Nat) (I : Nat → Int32) (w : Int64) (A : Nat → Nat → Int32) (N : Nat → Nat → Int64) (a1 : Int32) (a2 : Int32) (a3 : Int32) (a4 : Int32) (a5 : Int32) (a6 : Int32) (b0 : Int32) :
  R (d + 1) 240 (53, [some (.ref 0), some (.int a1), some (.int a2), some (.int a3), some (.int a4), some (.int a5), some (.int a6)], [.int b0], sl, (RH I w A N)) =
    cond (decide (b0 = (nI 0))) (R (d + 1) 240 (35, [some (.ref 0), some (.int a1), some (.int a2), some (.int a3), some (.int a4), some (.int a5), some (.int (a6 + (nI 1)))], [], sl, (RH I w A N))) (bC (C d 239 [.ref 0, .int a6, .int a2] sl (RH I w A N)) (fun vs sl h => R (d + 1) 240 (63, [some (.ref 0), some (.int a1), some (.int a2), some (.int a3), some (.int a4), some (.int a5), some (.int a6)], vs ++ [], sl, h))) :=
  (R_gob [5, 23, 35, 53, 63, 70] 400 _ _ _).trans rfl
set_option maxRecDepth 100000 in
theorem m240_23_1 (d sl : Nat) (I : Nat → Int32) (w : Int64) (A : Nat → Nat → Int32) (N : Nat → Nat → Int64) (a1 : Int32) (a2 : Int32) (a3 : Int32) (a4 : Int32) (a5 : Int32) (a6 : Int32) (b0 : Int32) :
  R (d + 1) 240 (23, [some (.ref 0), some (.int a1), some (.int a2), some (.int a3), some (.int a4), some (.int a5), some (.int a6)], [.int b0], sl, (RH I w A N)) =
    cond (!decide (b0 = (nI 0))) (R (d + 1) 240 (35, [some (.ref 0), some (.int a1), some (.int a2), some (.int a3), some (.int a4), some (.int (nI 0)), some (.int (nI 0))], [], sl, (RH I w A N))) (R (d + 1) 240 (5, [some (.ref 0), some (.int a1), some (.int a2), some (.int a3), some (.int (a4 + (nI 1))), some (.int a5), some (.int a6)], [], sl, (RH I w A N))) :=
  (R_gob [5, 23, 35, 53, 63, 70] 400 _ _ _).trans rfl
set_option maxRecDepth 100000 in
theorem m240_63 (d sl : Nat) (I : Nat → Int32) (w : Int64) (A : Nat → Nat → Int32) (N : Nat → Nat → Int64) (a1 : Int32) (a2 : Int32) (a3 : Int32) (a4 : Int32) (a5 : Int32) (a6 : Int32) (b0 : Int32) :
  R (d + 1) 240 (63, [some (.ref 0), some (.int a1), some (.int a2), some (.int a3), some (.int a4), some (.int a5), some (.int a6)], [.int b0], sl, (RH I w A N)) =
    bC (C d 239 [.ref 0, .int a4, .int a2] sl (RH I w A N)) (fun vs sl h => R (d + 1) 240 (70, [some (.ref 0), some (.int a1), some (.int a2), some (.int a3), some (.int a4), some (.int a5), some (.int a6)], vs ++ [.int b0], sl, h)) :=
  (R_gob [5, 23, 35, 53, 63, 70] 400 _ _ _).trans rfl
set_option maxRecDepth 100000 in
theorem m240_70 (d sl : Nat) (I : Nat → Int32) (w : Int64) (A : Nat → Nat → Int32) (N : Nat → Nat → Int64) (a1 : Int32) (a2 : Int32) (a3 : Int32) (a4 : Int32) (a5 : Int32) (a6 : Int32) (b0 : Int32) (b1 : Int32) :
  R (d + 1) 240 (70, [some (.ref 0), some (.int a1), some (.int a2), some (.int a3), some (.int a4), some (.int a5), some (.int a6)], [.int b0, .int b1], sl, (RH I w A N)) =
    cond (!decide (b1 = b0)) (R (d + 1) 240 (35, [some (.ref 0), some (.int a1), some (.int a2), some (.int a3), some (.int a4), some (.int a5), some (.int (a6 + (nI 1)))], [], sl, (RH I w A N))) (R (d + 1) 240 (35, [some (.ref 0), some (.int a1), some (.int a2), some (.int a3), some (.int a4), some (.int (a5 + (nI 1))), some (.int (a6 + (nI 1)))], [], sl, (RH I w A N))) :=
  (R_gob [5, 23, 35, 53, 63, 70] 400 _ _ _).trans rfl
set_option maxRecDepth 100000 in
theorem m241_0 (d sl : Nat) (I : Nat → Int32) (w : Int64) (A : Nat → Nat → Int32) (N : Nat → Nat → Int64)  :
  R (d + 1) 241 (0, [some (.ref 0), none, none, none, none, none], [], sl, (RH I w A N)) =
    bC (C d 165 [.ref 0] sl (RH (up1 I 0 (nI 0)) w A N)) (fun vs sl h => R (d + 1) 241 (9, [some (.ref 0), none, none, none, none, none], vs ++ [], sl, h)) :=
  (R_gob [9, 25, 32, 59, 75, 80, 103, 158, 169, 178] 400 _ _ _).trans rfl
set_option maxRecDepth 100000 in
theorem m241_9 (d sl : Nat) (I : Nat → Int32) (w : Int64) (A : Nat → Nat → Int32) (N : Nat → Nat → Int64) (b0 : Int32) :
  R (d + 1) 241 (9, [some (.ref 0), none, none, none, none, none], [.int b0], sl, (RH I w A N)) =
    cond (!decide ((b0 - b0 / (nI 2) * (nI 2)) = (nI 0))) (some (29, [some (.ref 0), some (.int b0), none, none, none, none], [.int (-1 : Int32)], sl, (RH I w A N))) (bC (C d 166 [.int (b0 / (nI 2)), .int (nI 1), .int (nI 8)] sl (RH I w A N)) (fun vs sl h => R (d + 1) 241 (25, [some (.ref 0), some (.int b0), none, none, none, none], vs ++ [], sl, h))) :=
  (R_gob [9, 25, 32, 59, 75, 80, 103, 158, 169, 178] 400 _ _ _).trans rfl
set_option maxRecDepth 100000 in
theorem m241_25 (d sl : Nat) (I : Nat → Int32) (w : Int64) (A : Nat → Nat → Int32) (N : Nat → Nat → Int64) (a1 : Int32) (b0 : Int32) :
  R (d + 1) 241 (25, [some (.ref 0), some (.int a1), none, none, none, none], [.int b0], sl, (RH I w A N)) =
    cond (!decide (b0 = (nI 0))) (R (d + 1) 241 (32, [some (.ref 0), some (.int a1), some (.int (nI 0)), none, none, none], [], sl, (RH I w A N))) (some (29, [some (.ref 0), some (.int a1), none, none, none, none], [.int (-1 : Int32)], sl, (RH I w A N))) :=
  (R_gob [9, 25, 32, 59, 75, 80, 103, 158, 169, 178] 400 _ _ _).trans rfl
set_option maxRecDepth 100000 in
theorem m241_32 (d sl : Nat) (I : Nat → Int32) (w : Int64) (A : Nat → Nat → Int32) (N : Nat → Nat → Int64) (a1 : Int32) (a2 : Int32) :
  R (d + 1) 241 (32, [some (.ref 0), some (.int a1), some (.int a2), none, none, none], [], sl, (RH I w A N)) =
    cond (decide (a1 ≤ a2)) (R (d + 1) 241 (59, [some (.ref 0), some (.int a1), some (.int (nI 0)), some (.int (nI 0)), none, none], [], sl, (RH I w A N))) (cond (x_in a2 940) (cond (decide (((A 1) a2.toNatClampNeg) ≤ (nI 4))) (R (d + 1) 241 (32, [some (.ref 0), some (.int a1), some (.int (a2 + (nI 2))), none, none, none], [], sl, (RH I w A N))) (some (48, [some (.ref 0), some (.int a1), some (.int a2), none, none, none], [.int (-1 : Int32)], sl, (RH I w A N)))) none) :=
  (R_gob [9, 25, 32, 59, 75, 80, 103, 158, 169, 178] 400 _ _ _).trans rfl
set_option maxRecDepth 100000 in
theorem m241_59 (d sl : Nat) (I : Nat → Int32) (w : Int64) (A : Nat → Nat → Int32) (N : Nat → Nat → Int64) (a1 : Int32) (a2 : Int32) (a3 : Int32) :
  R (d + 1) 241 (59, [some (.ref 0), some (.int a1), some (.int a2), some (.int a3), none, none], [], sl, (RH I w A N)) =
    cond (decide (((A 2) 72) ≤ a3)) (cond (!decide (a2 = (nI 0))) (R (d + 1) 241 (158, [some (.ref 0), some (.int a1), some (.int a2), some (.int (nI 1)), none, none], [], sl, (RH (up1 I 31 (nI 0)) w A N))) (some (150, [some (.ref 0), some (.int a1), some (.int a2), some (.int a3), none, none], [.int (nI 0)], sl, (RH I w A N)))) (bC (C d 198 [.ref 0, .int a3] sl (RH I w A N)) (fun vs sl h => R (d + 1) 241 (75, [some (.ref 0), some (.int a1), some (.int a2), some (.int a3), none, none], vs ++ [], sl, h))) :=
  (R_gob [9, 25, 32, 59, 75, 80, 103, 158, 169, 178] 400 _ _ _).trans rfl
set_option maxRecDepth 100000 in
theorem m241_158 (d sl : Nat) (I : Nat → Int32) (w : Int64) (A : Nat → Nat → Int32) (N : Nat → Nat → Int64) (a1 : Int32) (a2 : Int32) (a3 : Int32) :
  R (d + 1) 241 (158, [some (.ref 0), some (.int a1), some (.int a2), some (.int a3), none, none], [], sl, (RH I w A N)) =
    cond (decide ((nI 5) ≤ a3)) (some (193, [some (.ref 0), some (.int a1), some (.int a2), some (.int a3), none, none], [.int a2], sl, (RH I w A N))) (bC (C d 240 [.ref 0, .int a2, .int a3] sl (RH I w A N)) (fun vs sl h => R (d + 1) 241 (169, [some (.ref 0), some (.int a1), some (.int a2), some (.int a3), none, none], vs ++ [], sl, h))) :=
  (R_gob [9, 25, 32, 59, 75, 80, 103, 158, 169, 178] 400 _ _ _).trans rfl
set_option maxRecDepth 100000 in
theorem m241_75 (d sl : Nat) (I : Nat → Int32) (w : Int64) (A : Nat → Nat → Int32) (N : Nat → Nat → Int64) (a1 : Int32) (a2 : Int32) (a3 : Int32) (b0 : Int32) :
  R (d + 1) 241 (75, [some (.ref 0), some (.int a1), some (.int a2), some (.int a3), none, none], [.int b0], sl, (RH I w A N)) =
    R (d + 1) 241 (80, [some (.ref 0), some (.int a1), some (.int a2), some (.int a3), some (.int b0), some (.int (nI 0))], [], sl, (RH I w A N)) :=
  (R_gob [9, 25, 32, 59, 75, 80, 103, 158, 169, 178] 400 _ _ _).trans rfl
set_option maxRecDepth 100000 in
theorem m241_169 (d sl : Nat) (I : Nat → Int32) (w : Int64) (A : Nat → Nat → Int32) (N : Nat → Nat → Int64) (a1 : Int32) (a2 : Int32) (a3 : Int32) (b0 : Int32) :
  R (d + 1) 241 (169, [some (.ref 0), some (.int a1), some (.int a2), some (.int a3), none, none], [.int b0], sl, (RH I w A N)) =
    bC (C d 240 [.ref 0, .int a2, .int (I 31)] sl (RH I w A N)) (fun vs sl h => R (d + 1) 241 (178, [some (.ref 0), some (.int a1), some (.int a2), some (.int a3), none, none], vs ++ [.int b0], sl, h)) :=
  (R_gob [9, 25, 32, 59, 75, 80, 103, 158, 169, 178] 400 _ _ _).trans rfl
set_option maxRecDepth 100000 in
theorem m241_80 (d sl : Nat) (I : Nat → Int32) (w : Int64) (A : Nat → Nat → Int32) (N : Nat → Nat → Int64) (a1 : Int32) (a2 : Int32) (a3 : Int32) (a4 : Int32) (a5 : Int32) :
  R (d + 1) 241 (80, [some (.ref 0), some (.int a1), some (.int a2), some (.int a3), some (.int a4), some (.int a5)], [], sl, (RH I w A N)) =
    cond (decide (a1 ≤ a5)) (cond (decide (a4 = (nI 0))) (R (d + 1) 241 (59, [some (.ref 0), some (.int a1), some (.int a2), some (.int (a3 + (nI 1))), some (.int a4), some (.int a5)], [], sl, (RH I w A N))) (R (d + 1) 241 (59, [some (.ref 0), some (.int a1), some (.int (a2 ||| ((nI 1) <<< (a3 &&& nI 31)))), some (.int (a3 + (nI 1))), some (.int a4), some (.int a5)], [], sl, (RH I w A N)))) (cond (decide (a4 = (nI 0))) (R (d + 1) 241 (80, [some (.ref 0), some (.int a1), some (.int a2), some (.int a3), some (.int (nI 0)), some (.int (a5 + (nI 2)))], [], sl, (RH I w A N))) (cond (x_in a5 940) (bC (C d 239 [.ref 0, .int a3, .int ((A 1) a5.toNatClampNeg)] sl (RH I w A N)) (fun vs sl h => R (d + 1) 241 (103, [some (.ref 0), some (.int a1), some (.int a2), some (.int a3), some (.int a4), some (.int a5)], vs ++ [], sl, h))) none)) :=
  (R_gob [9, 25, 32, 59, 75, 80, 103, 158, 169, 178] 400 _ _ _).trans rfl
set_option maxRecDepth 100000 in
theorem m241_178 (d sl : Nat) (I : Nat → Int32) (w : Int64) (A : Nat → Nat → Int32) (N : Nat → Nat → Int64) (a1 : Int32) (a2 : Int32) (a3 : Int32) (b0 : Int32) (b1 : Int32) :
  R (d + 1) 241 (178, [some (.ref 0), some (.int a1), some (.int a2), some (.int a3), none, none], [.int b0, .int b1], sl, (RH I w A N)) =
    cond (decide (b0 ≤ b1)) (R (d + 1) 241 (158, [some (.ref 0), some (.int a1), some (.int a2), some (.int (a3 + (nI 1))), none, none], [], sl, (RH I w A N))) (R (d + 1) 241 (158, [some (.ref 0), some (.int a1), some (.int a2), some (.int (a3 + (nI 1))), none, none], [], sl, (RH (up1 I 31 a3) w A N))) :=
  (R_gob [9, 25, 32, 59, 75, 80, 103, 158, 169, 178] 400 _ _ _).trans rfl
set_option maxRecDepth 100000 in
theorem m241_59_1 (d sl : Nat) (I : Nat → Int32) (w : Int64) (A : Nat → Nat → Int32) (N : Nat → Nat → Int64) (a1 : Int32) (a2 : Int32) (a3 : Int32) (a4 : Int32) (a5 : Int32) :
  R (d + 1) 241 (59, [some (.ref 0), some (.int a1), some (.int a2), some (.int a3), some (.int a4), some (.int a5)], [], sl, (RH I w A N)) =
    cond (decide (((A 2) 72) ≤ a3)) (cond (!decide (a2 = (nI 0))) (R (d + 1) 241 (158, [some (.ref 0), some (.int a1), some (.int a2), some (.int (nI 1)), some (.int a4), some (.int a5)], [], sl, (RH (up1 I 31 (nI 0)) w A N))) (some (150, [some (.ref 0), some (.int a1), some (.int a2), some (.int a3), some (.int a4), some (.int a5)], [.int (nI 0)], sl, (RH I w A N)))) (bC (C d 198 [.ref 0, .int a3] sl (RH I w A N)) (fun vs sl h => R (d + 1) 241 (75, [some (.ref 0), some (.int a1), some (.int a2), some (.int a3), some (.int a4), some (.int a5)], vs ++ [], sl, h))) :=
  (R_gob [9, 25, 32, 59, 75, 80, 103, 158, 169, 178] 400 _ _ _).trans rfl
set_option maxRecDepth 100000 in
theorem m241_103 (d sl : Nat) (I : Nat → Int32) (w : Int64) (A : Nat → Nat → Int32) (N : Nat → Nat → Int64) (a1 : Int32) (a2 : Int32) (a3 : Int32) (a4 : Int32) (a5 : Int32) (b0 : Int32) :
  R (d + 1) 241 (103, [some (.ref 0), some (.int a1), some (.int a2), some (.int a3), some (.int a4), some (.int a5)], [.int b0], sl, (RH I w A N)) =
    cond (x_in (a5 + (nI 1)) 940) (cond (!decide (b0 = ((A 1) (a5 + (nI 1)).toNatClampNeg))) (R (d + 1) 241 (80, [some (.ref 0), some (.int a1), some (.int a2), some (.int a3), some (.int (nI 0)), some (.int (a5 + (nI 2)))], [], sl, (RH I w A N))) (R (d + 1) 241 (80, [some (.ref 0), some (.int a1), some (.int a2), some (.int a3), some (.int (nI 1)), some (.int (a5 + (nI 2)))], [], sl, (RH I w A N)))) none :=
  (R_gob [9, 25, 32, 59, 75, 80, 103, 158, 169, 178] 400 _ _ _).trans rfl
set_option maxRecDepth 100000 in
theorem m241_158_1 (d sl : Nat) (I : Nat → Int32) (w : Int64) (A : Nat → Nat → Int32) (N : Nat → Nat → Int64) (a1 : Int32) (a2 : Int32) (a3 : Int32) (a4 : Int32) (a5 : Int32) :
  R (d + 1) 241 (158, [some (.ref 0), some (.int a1), some (.int a2), some (.int a3), some (.int a4), some (.int a5)], [], sl, (RH I w A N)) =
    cond (decide ((nI 5) ≤ a3)) (some (193, [some (.ref 0), some (.int a1), some (.int a2), some (.int a3), some (.int a4), some (.int a5)], [.int a2], sl, (RH I w A N))) (bC (C d 240 [.ref 0, .int a2, .int a3] sl (RH I w A N)) (fun vs sl h => R (d + 1) 241 (169, [some (.ref 0), some (.int a1), some (.int a2), some (.int a3), some (.int a4), some (.int a5)], vs ++ [], sl, h))) :=
  (R_gob [9, 25, 32, 59, 75, 80, 103, 158, 169, 178] 400 _ _ _).trans rfl
set_option maxRecDepth 100000 in
theorem m241_75_1 (d sl : Nat) (I : Nat → Int32) (w : Int64) (A : Nat → Nat → Int32) (N : Nat → Nat → Int64) (a1 : Int32) (a2 : Int32) (a3 : Int32) (a4 : Int32) (a5 : Int32) (b0 : Int32) :
  R (d + 1) 241 (75, [some (.ref 0), some (.int a1), some (.int a2), some (.int a3), some (.int a4), some (.int a5)], [.int b0], sl, (RH I w A N)) =
    R (d + 1) 241 (80, [some (.ref 0), some (.int a1), some (.int a2), some (.int a3), some (.int b0), some (.int (nI 0))], [], sl, (RH I w A N)) :=
  (R_gob [9, 25, 32, 59, 75, 80, 103, 158, 169, 178] 400 _ _ _).trans rfl
set_option maxRecDepth 100000 in
theorem m241_169_1 (d sl : Nat) (I : Nat → Int32) (w : Int64) (A : Nat → Nat → Int32) (N : Nat → Nat → Int64) (a1 : Int32) (a2 : Int32) (a3 : Int32) (a4 : Int32) (a5 : Int32) (b0 : Int32) :
  R (d + 1) 241 (169, [some (.ref 0), some (.int a1), some (.int a2), some (.int a3), some (.int a4), some (.int a5)], [.int b0], sl, (RH I w A N)) =
    bC (C d 240 [.ref 0, .int a2, .int (I 31)] sl (RH I w A N)) (fun vs sl h => R (d + 1) 241 (178, [some (.ref 0), some (.int a1), some (.int a2), some (.int a3), some (.int a4), some (.int a5)], vs ++ [.int b0], sl, h)) :=
  (R_gob [9, 25, 32, 59, 75, 80, 103, 158, 169, 178] 400 _ _ _).trans rfl
set_option maxRecDepth 100000 in
theorem m241_178_1 (d sl : Nat) (I : Nat → Int32) (w : Int64) (A : Nat → Nat → Int32) (N : Nat → Nat → Int64) (a1 : Int32) (a2 : Int32) (a3 : Int32) (a4 : Int32) (a5 : Int32) (b0 : Int32) (b1 : Int32) :
  R (d + 1) 241 (178, [some (.ref 0), some (.int a1), some (.int a2), some (.int a3), some (.int a4), some (.int a5)], [.int b0, .int b1], sl, (RH I w A N)) =
    cond (decide (b0 ≤ b1)) (R (d + 1) 241 (158, [some (.ref 0), some (.int a1), some (.int a2), some (.int (a3 + (nI 1))), some (.int a4), some (.int a5)], [], sl, (RH I w A N))) (R (d + 1) 241 (158, [some (.ref 0), some (.int a1), some (.int a2), some (.int (a3 + (nI 1))), some (.int a4), some (.int a5)], [], sl, (RH (up1 I 31 a3) w A N))) :=
  (R_gob [9, 25, 32, 59, 75, 80, 103, 158, 169, 178] 400 _ _ _).trans rfl
set_option maxRecDepth 100000 in
theorem m242_0 (d sl : Nat) (I : Nat → Int32) (w : Int64) (A : Nat → Nat → Int32) (N : Nat → Nat → Int64)  :
  R d 242 (0, [some (.ref 0)], [], sl, (RH I w A N)) =
    some (9, [some (.ref 0)], [.int (I 31)], sl, (RH (up1 I 0 (nI 0)) w A N)) :=
  (R_gob [] 400 _ _ _).trans rfl
set_option maxRecDepth 100000 in
theorem m243_0 (d sl : Nat) (I : Nat → Int32) (w : Int64) (A : Nat → Nat → Int32) (N : Nat → Nat → Int64)  :
  R (d + 1) 243 (0, [some (.ref 0), none, none], [], sl, (RH I w A N)) =
    R (d + 1) 243 (9, [some (.ref 0), some (.int (-1 : Int32)), some (.int (nI 0))], [], sl, (RH (up1 I 0 (nI 0)) w A N)) :=
  (R_gob [9, 29, 32, 47, 50] 400 _ _ _).trans rfl
set_option maxRecDepth 100000 in
theorem m243_9 (d sl : Nat) (I : Nat → Int32) (w : Int64) (A : Nat → Nat → Int32) (N : Nat → Nat → Int64) (a1 : Int32) (a2 : Int32) :
  R (d + 1) 243 (9, [some (.ref 0), some (.int a1), some (.int a2)], [], sl, (RH I w A N)) =
    cond (decide (((A 2) 0) ≤ a2)) (some (72, [some (.ref 0), some (.int a1), some (.int a2)], [.int a1], sl, (RH I w A N))) (cond (decide (a1 = (-1 : Int32))) (R (d + 1) 243 (9, [some (.ref 0), some (.int a2), some (.int (a2 + (nI 1)))], [], sl, (RH I w A N))) (bC (C d 201 [.ref 0, .int a2] sl (RH I w A N)) (fun vs sl h => R (d + 1) 243 (29, [some (.ref 0), some (.int a1), some (.int a2)], vs ++ [], sl, h)))) :=
  (R_gob [9, 29, 32, 47, 50] 400 _ _ _).trans rfl
set_option maxRecDepth 100000 in
theorem m243_29 (d sl : Nat) (I : Nat → Int32) (w : Int64) (A : Nat → Nat → Int32) (N : Nat → Nat → Int64) (a1 : Int32) (a2 : Int32) (b0 : Int32) :
  R (d + 1) 243 (29, [some (.ref 0), some (.int a1), some (.int a2)], [.int b0], sl, (RH I w A N)) =
    bC (C d 168 [.int b0] sl (RH I w A N)) (fun vs sl h => R (d + 1) 243 (32, [some (.ref 0), some (.int a1), some (.int a2)], vs ++ [], sl, h)) :=
  (R_gob [9, 29, 32, 47, 50] 400 _ _ _).trans rfl
set_option maxRecDepth 100000 in
theorem m243_32 (d sl : Nat) (I : Nat → Int32) (w : Int64) (A : Nat → Nat → Int32) (N : Nat → Nat → Int64) (a1 : Int32) (a2 : Int32) (b0 : Int32) :
  R (d + 1) 243 (32, [some (.ref 0), some (.int a1), some (.int a2)], [.int b0], sl, (RH I w A N)) =
    cond (x_in ((nI 16) + a1) 369) (bC (C d 201 [.ref 0, .int a1] sl (RH I w A N)) (fun vs sl h => R (d + 1) 243 (47, [some (.ref 0), some (.int a1), some (.int a2)], vs ++ [.int (b0 * ((A 2) ((nI 16) + a1).toNatClampNeg))], sl, h))) none :=
  (R_gob [9, 29, 32, 47, 50] 400 _ _ _).trans rfl
set_option maxRecDepth 100000 in
theorem m243_47 (d sl : Nat) (I : Nat → Int32) (w : Int64) (A : Nat → Nat → Int32) (N : Nat → Nat → Int64) (a1 : Int32) (a2 : Int32) (b0 : Int32) (b1 : Int32) :
  R (d + 1) 243 (47, [some (.ref 0), some (.int a1), some (.int a2)], [.int b0, .int b1], sl, (RH I w A N)) =
    bC (C d 168 [.int b0] sl (RH I w A N)) (fun vs sl h => R (d + 1) 243 (50, [some (.ref 0), some (.int a1), some (.int a2)], vs ++ [.int b1], sl, h)) :=
  (R_gob [9, 29, 32, 47, 50] 400 _ _ _).trans rfl
set_option maxRecDepth 100000 in
theorem m243_50 (d sl : Nat) (I : Nat → Int32) (w : Int64) (A : Nat → Nat → Int32) (N : Nat → Nat → Int64) (a1 : Int32) (a2 : Int32) (b0 : Int32) (b1 : Int32) :
  R (d + 1) 243 (50, [some (.ref 0), some (.int a1), some (.int a2)], [.int b0, .int b1], sl, (RH I w A N)) =
    cond (x_in ((nI 16) + a2) 369) (cond (decide (b1 ≤ (b0 * ((A 2) ((nI 16) + a2).toNatClampNeg)))) (R (d + 1) 243 (9, [some (.ref 0), some (.int a1), some (.int (a2 + (nI 1)))], [], sl, (RH I w A N))) (R (d + 1) 243 (9, [some (.ref 0), some (.int a2), some (.int (a2 + (nI 1)))], [], sl, (RH I w A N)))) none :=
  (R_gob [9, 29, 32, 47, 50] 400 _ _ _).trans rfl
set_option maxRecDepth 100000 in
theorem m244_0 (d sl : Nat) (I : Nat → Int32) (w : Int64) (A : Nat → Nat → Int32) (N : Nat → Nat → Int64) (a1 : Int32) (a2 : Int32) :
  R (d + 1) 244 (0, [some (.ref 0), some (.int a1), some (.int a2), none, none], [], sl, (RH I w A N)) =
    bC (C d 196 [.ref 0, .int a1] sl (RH (up1 I 0 (nI 0)) w A N)) (fun vs sl h => R (d + 1) 244 (10, [some (.ref 0), some (.int a1), some (.int a2), none, none], vs ++ [], sl, h)) :=
  (R_gob [10, 18, 27, 34, 40, 52, 57, 84, 87, 105] 400 _ _ _).trans rfl
set_option maxRecDepth 100000 in
theorem m244_10 (d sl : Nat) (I : Nat → Int32) (w : Int64) (A : Nat → Nat → Int32) (N : Nat → Nat → Int64) (a1 : Int32) (a2 : Int32) (b0 : Int32) :
  R (d + 1) 244 (10, [some (.ref 0), some (.int a1), some (.int a2), none, none], [.int b0], sl, (RH I w A N)) =
    cond (decide (b0 = (nI 0))) (bC (C d 161 [.ref 0] sl (RH I w A N)) (fun vs sl h => R (d + 1) 244 (34, [some (.ref 0), some (.int a1), some (.int a2), none, none], vs ++ [], sl, h))) (bC (C d 201 [.ref 0, .int a1] sl (RH I w A N)) (fun vs sl h => R (d + 1) 244 (18, [some (.ref 0), some (.int a1), some (.int a2), none, none], vs ++ [], sl, h))) :=
  (R_gob [10, 18, 27, 34, 40, 52, 57, 84, 87, 105] 400 _ _ _).trans rfl
set_option maxRecDepth 100000 in
theorem m244_34 (d sl : Nat) (I : Nat → Int32) (w : Int64) (A : Nat → Nat → Int32) (N : Nat → Nat → Int64) (a1 : Int32) (a2 : Int32) (b0 : Int32) :
  R (d + 1) 244 (34, [some (.ref 0), some (.int a1), some (.int a2), none, none], [.int b0], sl, (RH I w A N)) =
    some (34, [some (.ref 0), some (.int a1), some (.int a2), none, none], [.int b0], sl, (RH I w A N)) :=
  (R_gob [10, 18, 27, 34, 40, 52, 57, 84, 87, 105] 400 _ _ _).trans rfl
set_option maxRecDepth 100000 in
theorem m244_18 (d sl : Nat) (I : Nat → Int32) (w : Int64) (A : Nat → Nat → Int32) (N : Nat → Nat → Int64) (a1 : Int32) (a2 : Int32) (b0 : Int32) :
  R (d + 1) 244 (18, [some (.ref 0), some (.int a1), some (.int a2), none, none], [.int b0], sl, (RH I w A N)) =
    cond (decide (b0 = (nI 0))) (bC (C d 161 [.ref 0] sl (RH I w A N)) (fun vs sl h => R (d + 1) 244 (34, [some (.ref 0), some (.int a1), some (.int a2), none, none], vs ++ [], sl, h))) (bC (C d 166 [.int a2, .int (nI 0), .int (nI 1)] sl (RH I w A N)) (fun vs sl h => R (d + 1) 244 (27, [some (.ref 0), some (.int a1), some (.int a2), none, none], vs ++ [], sl, h))) :=
  (R_gob [10, 18, 27, 34, 40, 52, 57, 84, 87, 105] 400 _ _ _).trans rfl
set_option maxRecDepth 100000 in
theorem m244_27 (d sl : Nat) (I : Nat → Int32) (w : Int64) (A : Nat → Nat → Int32) (N : Nat → Nat → Int64) (a1 : Int32) (a2 : Int32) (b0 : Int32) :
  R (d + 1) 244 (27, [some (.ref 0), some (.int a1), some (.int a2), none, none], [.int b0], sl, (RH I w A N)) =
    cond (!decide (b0 = (nI 0))) (R (d + 1) 244 (40, [some (.ref 0), some (.int a1), some (.int a2), some (.int (nI 0)), some (.int (nI 0))], [], sl, (RH I w A N))) (bC (C d 161 [.ref 0] sl (RH I w A N)) (fun vs sl h => R (d + 1) 244 (34, [some (.ref 0), some (.int a1), some (.int a2), none, none], vs ++ [], sl, h))) :=
  (R_gob [10, 18, 27, 34, 40, 52, 57, 84, 87, 105] 400 _ _ _).trans rfl
set_option maxRecDepth 100000 in
theorem m244_40 (d sl : Nat) (I : Nat → Int32) (w : Int64) (A : Nat → Nat → Int32) (N : Nat → Nat → Int64) (a1 : Int32) (a2 : Int32) (a3 : Int32) (a4 : Int32) :
  R (d + 1) 244 (40, [some (.ref 0), some (.int a1), some (.int a2), some (.int a3), some (.int a4)], [], sl, (RH I w A N)) =
    cond (decide ((nI 12) ≤ a4)) (bC (C d 201 [.ref 0, .int a1] sl (RH I w A N)) (fun vs sl h => R (d + 1) 244 (84, [some (.ref 0), some (.int a1), some (.int a2), some (.int a3), some (.int a4)], vs ++ [], sl, h))) (bC (C d 201 [.ref 0, .int a1] sl (RH I w A N)) (fun vs sl h => R (d + 1) 244 (52, [some (.ref 0), some (.int a1), some (.int a2), some (.int a3), some (.int a4)], vs ++ [], sl, h))) :=
  (R_gob [10, 18, 27, 34, 40, 52, 57, 84, 87, 105] 400 _ _ _).trans rfl
set_option maxRecDepth 100000 in
theorem m244_84 (d sl : Nat) (I : Nat → Int32) (w : Int64) (A : Nat → Nat → Int32) (N : Nat → Nat → Int64) (a1 : Int32) (a2 : Int32) (a3 : Int32) (a4 : Int32) (b0 : Int32) :
  R (d + 1) 244 (84, [some (.ref 0), some (.int a1), some (.int a2), some (.int a3), some (.int a4)], [.int b0], sl, (RH I w A N)) =
    bC (C d 168 [.int b0] sl (RH I w A N)) (fun vs sl h => R (d + 1) 244 (87, [some (.ref 0), some (.int a1), some (.int a2), some (.int a3), some (.int a4)], vs ++ [], sl, h)) :=
  (R_gob [10, 18, 27, 34, 40, 52, 57, 84, 87, 105] 400 _ _ _).trans rfl
set_option maxRecDepth 100000 in
theorem m244_52 (d sl : Nat) (I : Nat → Int32) (w : Int64) (A : Nat → Nat → Int32) (N : Nat → Nat → Int64) (a1 : Int32) (a2 : Int32) (a3 : Int32) (a4 : Int32) (b0 : Int32) :
  R (d + 1) 244 (52, [some (.ref 0), some (.int a1), some (.int a2), some (.int a3), some (.int a4)], [.int b0], sl, (RH I w A N)) =
    bC (C d 167 [.int b0, .int a4] sl (RH I w A N)) (fun vs sl h => R (d + 1) 244 (57, [some (.ref 0), some (.int a1), some (.int a2), some (.int a3), some (.int a4)], vs ++ [], sl, h)) :=
  (R_gob [10, 18, 27, 34, 40, 52, 57, 84, 87, 105] 400 _ _ _).trans rfl
set_option maxRecDepth 100000 in
theorem m244_87 (d sl : Nat) (I : Nat → Int32) (w : Int64) (A : Nat → Nat → Int32) (N : Nat → Nat → Int64) (a1 : Int32) (a2 : Int32) (a3 : Int32) (a4 : Int32) (b0 : Int32) :
  R (d + 1) 244 (87, [some (.ref 0), some (.int a1), some (.int a2), some (.int a3), some (.int a4)], [.int b0], sl, (RH I w A N)) =
    cond (!decide (a2 = (nI 0))) (bC (C d 170 [.int a3, .int b0] sl (RH I w A N)) (fun vs sl h => R (d + 1) 244 (105, [some (.ref 0), some (.int a1), some (.int a2), some (.int a3), some (.int b0)], vs ++ [.int b0], sl, h))) (bC (C d 170 [.int a3, .int b0] sl (RH I w A N)) (fun vs sl h => R (d + 1) 244 (105, [some (.ref 0), some (.int a1), some (.int a2), some (.int a3), some (.int b0)], vs ++ [.int a3], sl, h))) :=
  (R_gob [10, 18, 27, 34, 40, 52, 57, 84, 87, 105] 400 _ _ _).trans rfl
set_option maxRecDepth 100000 in
theorem m244_57 (d sl : Nat) (I : Nat → Int32) (w : Int64) (A : Nat → Nat → Int32) (N : Nat → Nat → Int64) (a1 : Int32) (a2 : Int32) (a3 : Int32) (a4 : Int32) (b0 : Int32) :
  R (d + 1) 244 (57, [some (.ref 0), some (.int a1), some (.int a2), some (.int a3), some (.int a4)], [.int b0], sl, (RH I w A N)) =
    cond (decide (b0 = (nI 0))) (R (d + 1) 244 (40, [some (.ref 0), some (.int a1), some (.int a2), some (.int a3), some (.int (a4 + (nI 1)))], [], sl, (RH I w A N))) (cond (x_in ((nI 115) + a4) 369) (R (d + 1) 244 (40, [some (.ref 0), some (.int a1), some (.int a2), some (.int (a3 + ((A 2) ((nI 115) + a4).toNatClampNeg))), some (.int (a4 + (nI 1)))], [], sl, (RH I w A N))) none) :=
  (R_gob [10, 18, 27, 34, 40, 52, 57, 84, 87, 105] 400 _ _ _).trans rfl
set_option maxRecDepth 100000 in
theorem m244_105 (d sl : Nat) (I : Nat → Int32) (w : Int64) (A : Nat → Nat → Int32) (N : Nat → Nat → Int64) (a1 : Int32) (a2 : Int32) (a3 : Int32) (a4 : Int32) (b0 : Int32) (b1 : Int32) :
  R (d + 1) 244 (105, [some (.ref 0), some (.int a1), some (.int a2), some (.int a3), some (.int a4)], [.int b0, .int b1], sl, (RH I w A N)) =
    cond (!decide (b0 = (nI 0))) (some (106, [some (.ref 0), some (.int a1), some (.int a2), some (.int a3), some (.int a4)], [.int (b1 / b0)], sl, (RH I w A N))) none :=
  (R_gob [10, 18, 27, 34, 40, 52, 57, 84, 87, 105] 400 _ _ _).trans rfl
set_option maxRecDepth 100000 in
theorem m245_0 (d sl : Nat) (I : Nat → Int32) (w : Int64) (A : Nat → Nat → Int32) (N : Nat → Nat → Int64) (a1 : Int32) :
  R d 245 (0, [some (.ref 0), some (.int a1)], [], sl, (RH I w A N)) =
    cond (x_in (I 33) 64) (some (20, [some (.ref 0), some (.int a1)], [], sl, (RH (up1 I 33 ((I 33) + (nI 1))) w (up1 A 15 (upd (A 15) (I 33).toNatClampNeg a1)) N))) none :=
  (R_gob [] 400 _ _ _).trans rfl
set_option maxRecDepth 100000 in
theorem m246_0 (d sl : Nat) (I : Nat → Int32) (w : Int64) (A : Nat → Nat → Int32) (N : Nat → Nat → Int64) (a1 : Int64) :
  R (d + 1) 246 (0, [some (.ref 0), some (.long a1), none], [], sl, (RH I w A N)) =
    cond (decide ((lg_cmp a1 (nI 27).toInt64) < (nI 0))) (R (d + 1) 246 (17, [some (.ref 0), some (.long a1), none], [], sl, (RH I w A N))) (bC (C d 246 [.ref 0, .long (a1 / (nI 27).toInt64)] sl (RH I w A N)) (fun vs sl h => R (d + 1) 246 (17, [some (.ref 0), some (.long a1), none], vs ++ [], sl, h))) :=
  (R_gob [17, 30] 400 _ _ _).trans rfl
set_option maxRecDepth 100000 in
theorem m246_17 (d sl : Nat) (I : Nat → Int32) (w : Int64) (A : Nat → Nat → Int32) (N : Nat → Nat → Int64) (a1 : Int64) :
  R (d + 1) 246 (17, [some (.ref 0), some (.long a1), none], [], sl, (RH I w A N)) =
    bC (C d 245 [.ref 0, .int ((nI 96) + (a1 - a1 / (nI 27).toInt64 * (nI 27).toInt64).toInt32)] sl (RH I w A N)) (fun vs sl h => R (d + 1) 246 (30, [some (.ref 0), some (.long a1), none], vs ++ [], sl, h)) :=
  (R_gob [17, 30] 400 _ _ _).trans rfl
set_option maxRecDepth 100000 in
theorem m246_30 (d sl : Nat) (I : Nat → Int32) (w : Int64) (A : Nat → Nat → Int32) (N : Nat → Nat → Int64) (a1 : Int64) :
  R (d + 1) 246 (30, [some (.ref 0), some (.long a1), none], [], sl, (RH I w A N)) =
    some (30, [some (.ref 0), some (.long a1), none], [], sl, (RH I w A N)) :=
  (R_gob [17, 30] 400 _ _ _).trans rfl
set_option maxRecDepth 100000 in
theorem m247_0 (d sl : Nat) (I : Nat → Int32) (w : Int64) (A : Nat → Nat → Int32) (N : Nat → Nat → Int64) (a1 : Int32) :
  R (d + 1) 247 (0, [some (.ref 0), some (.int a1)], [], sl, (RH I w A N)) =
    cond (decide (a1 ≤ (nI 9))) (R (d + 1) 247 (14, [some (.ref 0), some (.int a1)], [], sl, (RH I w A N))) (bC (C d 247 [.ref 0, .int (a1 / (nI 10))] sl (RH I w A N)) (fun vs sl h => R (d + 1) 247 (14, [some (.ref 0), some (.int a1)], vs ++ [], sl, h))) :=
  (R_gob [14, 25] 400 _ _ _).trans rfl
set_option maxRecDepth 100000 in
theorem m247_14 (d sl : Nat) (I : Nat → Int32) (w : Int64) (A : Nat → Nat → Int32) (N : Nat → Nat → Int64) (a1 : Int32) :
  R (d + 1) 247 (14, [some (.ref 0), some (.int a1)], [], sl, (RH I w A N)) =
    bC (C d 245 [.ref 0, .int ((nI 48) + (a1 - a1 / (nI 10) * (nI 10)))] sl (RH I w A N)) (fun vs sl h => R (d + 1) 247 (25, [some (.ref 0), some (.int a1)], vs ++ [], sl, h)) :=
  (R_gob [14, 25] 400 _ _ _).trans rfl
set_option maxRecDepth 100000 in
theorem m247_25 (d sl : Nat) (I : Nat → Int32) (w : Int64) (A : Nat → Nat → Int32) (N : Nat → Nat → Int64) (a1 : Int32) :
  R (d + 1) 247 (25, [some (.ref 0), some (.int a1)], [], sl, (RH I w A N)) =
    some (25, [some (.ref 0), some (.int a1)], [], sl, (RH I w A N)) :=
  (R_gob [14, 25] 400 _ _ _).trans rfl
set_option maxRecDepth 100000 in
theorem m248_0 (d sl : Nat) (I : Nat → Int32) (w : Int64) (A : Nat → Nat → Int32) (N : Nat → Nat → Int64) (a1 : Int64) :
  R (d + 1) 248 (0, [some (.ref 0), some (.long a1), none], [], sl, (RH I w A N)) =
    bC (C d 245 [.ref 0, .int (nI 32)] sl (RH I w A N)) (fun vs sl h => R (d + 1) 248 (6, [some (.ref 0), some (.long a1), none], vs ++ [], sl, h)) :=
  (R_gob [6, 11] 400 _ _ _).trans rfl
set_option maxRecDepth 100000 in
theorem m248_6 (d sl : Nat) (I : Nat → Int32) (w : Int64) (A : Nat → Nat → Int32) (N : Nat → Nat → Int64) (a1 : Int64) :
  R (d + 1) 248 (6, [some (.ref 0), some (.long a1), none], [], sl, (RH I w A N)) =
    bC (C d 246 [.ref 0, .long a1] sl (RH I w A N)) (fun vs sl h => R (d + 1) 248 (11, [some (.ref 0), some (.long a1), none], vs ++ [], sl, h)) :=
  (R_gob [6, 11] 400 _ _ _).trans rfl
set_option maxRecDepth 100000 in
theorem m248_11 (d sl : Nat) (I : Nat → Int32) (w : Int64) (A : Nat → Nat → Int32) (N : Nat → Nat → Int64) (a1 : Int64) :
  R (d + 1) 248 (11, [some (.ref 0), some (.long a1), none], [], sl, (RH I w A N)) =
    some (11, [some (.ref 0), some (.long a1), none], [], sl, (RH I w A N)) :=
  (R_gob [6, 11] 400 _ _ _).trans rfl
set_option maxRecDepth 100000 in
theorem m249_0 (d sl : Nat) (I : Nat → Int32) (w : Int64) (A : Nat → Nat → Int32) (N : Nat → Nat → Int64) (a1 : Int32) :
  R (d + 1) 249 (0, [some (.ref 0), some (.int a1)], [], sl, (RH I w A N)) =
    bC (C d 245 [.ref 0, .int (nI 32)] sl (RH I w A N)) (fun vs sl h => R (d + 1) 249 (6, [some (.ref 0), some (.int a1)], vs ++ [], sl, h)) :=
  (R_gob [6, 11] 400 _ _ _).trans rfl
set_option maxRecDepth 100000 in
theorem m249_6 (d sl : Nat) (I : Nat → Int32) (w : Int64) (A : Nat → Nat → Int32) (N : Nat → Nat → Int64) (a1 : Int32) :
  R (d + 1) 249 (6, [some (.ref 0), some (.int a1)], [], sl, (RH I w A N)) =
    bC (C d 247 [.ref 0, .int a1] sl (RH I w A N)) (fun vs sl h => R (d + 1) 249 (11, [some (.ref 0), some (.int a1)], vs ++ [], sl, h)) :=
  (R_gob [6, 11] 400 _ _ _).trans rfl
