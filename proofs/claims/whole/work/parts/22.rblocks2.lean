set_option maxRecDepth 100000 in
theorem m208_82 (d sl : Nat) (I : Nat → Int32) (w : Int64) (A : Nat → Nat → Int32) (N : Nat → Nat → Int64) (a1 : Int32) (a2 : Int32) :
  R (d + 1) 208 (82, [some (.ref 0), some (.int a1), some (.int a2)], [], sl, (RH I w A N)) =
    cond (x_in ((nI 115) + a1) 369) (some (91, [some (.ref 0), some (.int a1), some (.int a2)], [.int ((A 2) ((nI 115) + a1).toNatClampNeg)], sl, (RH I w A N))) none :=
  (R_gob [10, 16, 52, 62, 72, 82, 92, 97, 98] 400 _ _ _).trans rfl
set_option maxRecDepth 100000 in
theorem m208_92 (d sl : Nat) (I : Nat → Int32) (w : Int64) (A : Nat → Nat → Int32) (N : Nat → Nat → Int64) (a1 : Int32) (a2 : Int32) :
  R (d + 1) 208 (92, [some (.ref 0), some (.int a1), some (.int a2)], [], sl, (RH I w A N)) =
    bC (C d 207 [.ref 0, .int a1] sl (RH I w A N)) (fun vs sl h => R (d + 1) 208 (97, [some (.ref 0), some (.int a1), some (.int a2)], vs ++ [], sl, h)) :=
  (R_gob [10, 16, 52, 62, 72, 82, 92, 97, 98] 400 _ _ _).trans rfl
set_option maxRecDepth 100000 in
theorem m208_97 (d sl : Nat) (I : Nat → Int32) (w : Int64) (A : Nat → Nat → Int32) (N : Nat → Nat → Int64) (a1 : Int32) (a2 : Int32) (b0 : Int32) :
  R (d + 1) 208 (97, [some (.ref 0), some (.int a1), some (.int a2)], [.int b0], sl, (RH I w A N)) =
    some (97, [some (.ref 0), some (.int a1), some (.int a2)], [.int b0], sl, (RH I w A N)) :=
  (R_gob [10, 16, 52, 62, 72, 82, 92, 97, 98] 400 _ _ _).trans rfl
set_option maxRecDepth 100000 in
theorem m209_0 (d sl : Nat) (I : Nat → Int32) (w : Int64) (A : Nat → Nat → Int32) (N : Nat → Nat → Int64) (a1 : Int32) (a2 : Int32) :
  R (d + 1) 209 (0, [some (.ref 0), some (.int a1), some (.int a2), none], [], sl, (RH I w A N)) =
    bC (C d 196 [.ref 0, .int a1] sl (RH (up1 I 0 (nI 0)) w A N)) (fun vs sl h => R (d + 1) 209 (10, [some (.ref 0), some (.int a1), some (.int a2), none], vs ++ [], sl, h)) :=
  (R_gob [10, 29, 36, 65] 400 _ _ _).trans rfl
set_option maxRecDepth 100000 in
theorem m209_10 (d sl : Nat) (I : Nat → Int32) (w : Int64) (A : Nat → Nat → Int32) (N : Nat → Nat → Int64) (a1 : Int32) (a2 : Int32) (b0 : Int32) :
  R (d + 1) 209 (10, [some (.ref 0), some (.int a1), some (.int a2), none], [.int b0], sl, (RH I w A N)) =
    cond (decide (b0 = (nI 0))) (some (33, [some (.ref 0), some (.int a1), some (.int a2), none], [.int (-1 : Int32)], sl, (RH I w A N))) (cond (x_in ((nI 16) + a1) 369) (bC (C d 166 [.int a2, .int (nI 0), .int (((A 2) ((nI 16) + a1).toNatClampNeg) - (nI 1))] sl (RH I w A N)) (fun vs sl h => R (d + 1) 209 (29, [some (.ref 0), some (.int a1), some (.int a2), none], vs ++ [], sl, h))) none) :=
  (R_gob [10, 29, 36, 65] 400 _ _ _).trans rfl
set_option maxRecDepth 100000 in
theorem m209_29 (d sl : Nat) (I : Nat → Int32) (w : Int64) (A : Nat → Nat → Int32) (N : Nat → Nat → Int64) (a1 : Int32) (a2 : Int32) (b0 : Int32) :
  R (d + 1) 209 (29, [some (.ref 0), some (.int a1), some (.int a2), none], [.int b0], sl, (RH I w A N)) =
    cond (!decide (b0 = (nI 0))) (R (d + 1) 209 (36, [some (.ref 0), some (.int a1), some (.int a2), some (.int (nI 0))], [], sl, (RH I w A N))) (some (33, [some (.ref 0), some (.int a1), some (.int a2), none], [.int (-1 : Int32)], sl, (RH I w A N))) :=
  (R_gob [10, 29, 36, 65] 400 _ _ _).trans rfl
set_option maxRecDepth 100000 in
theorem m209_36 (d sl : Nat) (I : Nat → Int32) (w : Int64) (A : Nat → Nat → Int32) (N : Nat → Nat → Int64) (a1 : Int32) (a2 : Int32) (a3 : Int32) :
  R (d + 1) 209 (36, [some (.ref 0), some (.int a1), some (.int a2), some (.int a3)], [], sl, (RH I w A N)) =
    cond (decide (((A 2) 72) ≤ a3)) (some (78, [some (.ref 0), some (.int a1), some (.int a2), some (.int a3)], [.int (-1 : Int32)], sl, (RH I w A N))) (cond (x_in ((nI 79) + a3) 369) (cond (!decide (((A 2) ((nI 79) + a3).toNatClampNeg) = a1)) (R (d + 1) 209 (36, [some (.ref 0), some (.int a1), some (.int a2), some (.int (a3 + (nI 1)))], [], sl, (RH I w A N))) (bC (C d 207 [.ref 0, .int a3] sl (RH I w A N)) (fun vs sl h => R (d + 1) 209 (65, [some (.ref 0), some (.int a1), some (.int a2), some (.int a3)], vs ++ [], sl, h)))) none) :=
  (R_gob [10, 29, 36, 65] 400 _ _ _).trans rfl
set_option maxRecDepth 100000 in
theorem m209_65 (d sl : Nat) (I : Nat → Int32) (w : Int64) (A : Nat → Nat → Int32) (N : Nat → Nat → Int64) (a1 : Int32) (a2 : Int32) (a3 : Int32) (b0 : Int32) :
  R (d + 1) 209 (65, [some (.ref 0), some (.int a1), some (.int a2), some (.int a3)], [.int b0], sl, (RH I w A N)) =
    cond (!decide (b0 = a2)) (R (d + 1) 209 (36, [some (.ref 0), some (.int a1), some (.int a2), some (.int (a3 + (nI 1)))], [], sl, (RH I w A N))) (some (70, [some (.ref 0), some (.int a1), some (.int a2), some (.int a3)], [.int a3], sl, (RH I w A N))) :=
  (R_gob [10, 29, 36, 65] 400 _ _ _).trans rfl
set_option maxRecDepth 100000 in
theorem m210_0 (d sl : Nat) (I : Nat → Int32) (w : Int64) (A : Nat → Nat → Int32) (N : Nat → Nat → Int64) (a1 : Int32) (a2 : Int32) :
  R (d + 1) 210 (0, [some (.ref 0), some (.int a1), some (.int a2), none], [], sl, (RH I w A N)) =
    R (d + 1) 210 (2, [some (.ref 0), some (.int a1), some (.int a2), some (.int (nI 0))], [], sl, (RH I w A N)) :=
  (R_gob [2, 18] 400 _ _ _).trans rfl
set_option maxRecDepth 100000 in
theorem m210_2 (d sl : Nat) (I : Nat → Int32) (w : Int64) (A : Nat → Nat → Int32) (N : Nat → Nat → Int64) (a1 : Int32) (a2 : Int32) (a3 : Int32) :
  R (d + 1) 210 (2, [some (.ref 0), some (.int a1), some (.int a2), some (.int a3)], [], sl, (RH I w A N)) =
    cond (decide (((A 2) 72) ≤ a3)) (some (56, [some (.ref 0), some (.int a1), some (.int a2), some (.int a3)], [.int (nI 0)], sl, (RH I w A N))) (bC (C d 198 [.ref 0, .int a3] sl (RH I w A N)) (fun vs sl h => R (d + 1) 210 (18, [some (.ref 0), some (.int a1), some (.int a2), some (.int a3)], vs ++ [], sl, h))) :=
  (R_gob [2, 18] 400 _ _ _).trans rfl
set_option maxRecDepth 100000 in
theorem m210_18 (d sl : Nat) (I : Nat → Int32) (w : Int64) (A : Nat → Nat → Int32) (N : Nat → Nat → Int64) (a1 : Int32) (a2 : Int32) (a3 : Int32) (b0 : Int32) :
  R (d + 1) 210 (18, [some (.ref 0), some (.int a1), some (.int a2), some (.int a3)], [.int b0], sl, (RH I w A N)) =
    cond (decide (b0 = (nI 0))) (R (d + 1) 210 (2, [some (.ref 0), some (.int a1), some (.int a2), some (.int (a3 + (nI 1)))], [], sl, (RH I w A N))) (cond (x_in ((nI 79) + a3) 369) (cond (!decide (((A 2) ((nI 79) + a3).toNatClampNeg) = a1)) (R (d + 1) 210 (2, [some (.ref 0), some (.int a1), some (.int a2), some (.int (a3 + (nI 1)))], [], sl, (RH I w A N))) (cond (x_in ((nI 91) + a3) 369) (cond (!decide (((A 2) ((nI 91) + a3).toNatClampNeg) = a2)) (R (d + 1) 210 (2, [some (.ref 0), some (.int a1), some (.int a2), some (.int (a3 + (nI 1)))], [], sl, (RH I w A N))) (some (48, [some (.ref 0), some (.int a1), some (.int a2), some (.int a3)], [.int (nI 1)], sl, (RH I w A N)))) none)) none) :=
  (R_gob [2, 18] 400 _ _ _).trans rfl
set_option maxRecDepth 100000 in
theorem m211_0 (d sl : Nat) (I : Nat → Int32) (w : Int64) (A : Nat → Nat → Int32) (N : Nat → Nat → Int64) (a1 : Int32) :
  R (d + 1) 211 (0, [some (.ref 0), some (.int a1), none, none, none], [], sl, (RH I w A N)) =
    R (d + 1) 211 (2, [some (.ref 0), some (.int a1), some (.int (nI 0)), none, none], [], sl, (RH I w A N)) :=
  (R_gob [2, 19, 37, 45, 58, 76, 102] 400 _ _ _).trans rfl
set_option maxRecDepth 100000 in
theorem m211_2 (d sl : Nat) (I : Nat → Int32) (w : Int64) (A : Nat → Nat → Int32) (N : Nat → Nat → Int64) (a1 : Int32) (a2 : Int32) :
  R (d + 1) 211 (2, [some (.ref 0), some (.int a1), some (.int a2), none, none], [], sl, (RH I w A N)) =
    cond (decide ((nI 6) ≤ a2)) (R (d + 1) 211 (37, [some (.ref 0), some (.int a1), some (.int (nI 0)), none, none], [], sl, (RH I w A N))) (bC (C d 210 [.ref 0, .int a2, .int a1] sl (RH I w A N)) (fun vs sl h => R (d + 1) 211 (19, [some (.ref 0), some (.int a1), some (.int a2), none, none], vs ++ [.int a2, .ref 11], sl, h))) :=
  (R_gob [2, 19, 37, 45, 58, 76, 102] 400 _ _ _).trans rfl
set_option maxRecDepth 100000 in
theorem m211_37 (d sl : Nat) (I : Nat → Int32) (w : Int64) (A : Nat → Nat → Int32) (N : Nat → Nat → Int64) (a1 : Int32) (a2 : Int32) :
  R (d + 1) 211 (37, [some (.ref 0), some (.int a1), some (.int a2), none, none], [], sl, (RH I w A N)) =
    cond (decide ((nI 6) ≤ a2)) (some (121, [some (.ref 0), some (.int a1), some (.int a2), none, none], [], sl, (RH I w A N))) (R (d + 1) 211 (45, [some (.ref 0), some (.int a1), some (.int a2), some (.int (nI 0)), none], [], sl, (RH I w A N))) :=
  (R_gob [2, 19, 37, 45, 58, 76, 102] 400 _ _ _).trans rfl
set_option maxRecDepth 100000 in
theorem m211_19 (d sl : Nat) (I : Nat → Int32) (w : Int64) (A : Nat → Nat → Int32) (N : Nat → Nat → Int64) (a1 : Int32) (a2 : Int32) (b0 : Int32) (b1 : Int32) :
  R (d + 1) 211 (19, [some (.ref 0), some (.int a1), some (.int a2), none, none], [.int b0, .int b1, .ref 11], sl, (RH I w A N)) =
    cond (decide (b0 = (nI 0))) (cond (x_in b1 6) (R (d + 1) 211 (2, [some (.ref 0), some (.int a1), some (.int (a2 + (nI 1))), none, none], [], sl, (RH I w (up1 A 11 (upd (A 11) b1.toNatClampNeg (nI 100000))) N))) none) (cond (x_in b1 6) (R (d + 1) 211 (2, [some (.ref 0), some (.int a1), some (.int (a2 + (nI 1))), none, none], [], sl, (RH I w (up1 A 11 (upd (A 11) b1.toNatClampNeg (nI 1))) N))) none) :=
  (R_gob [2, 19, 37, 45, 58, 76, 102] 400 _ _ _).trans rfl
set_option maxRecDepth 100000 in
theorem m211_45 (d sl : Nat) (I : Nat → Int32) (w : Int64) (A : Nat → Nat → Int32) (N : Nat → Nat → Int64) (a1 : Int32) (a2 : Int32) (a3 : Int32) :
  R (d + 1) 211 (45, [some (.ref 0), some (.int a1), some (.int a2), some (.int a3), none], [], sl, (RH I w A N)) =
    cond (decide (((A 2) 0) ≤ a3)) (R (d + 1) 211 (37, [some (.ref 0), some (.int a1), some (.int (a2 + (nI 1))), some (.int a3), none], [], sl, (RH I w A N))) (R (d + 1) 211 (58, [some (.ref 0), some (.int a1), some (.int a2), some (.int a3), some (.int (nI 0))], [], sl, (RH I w A N))) :=
  (R_gob [2, 19, 37, 45, 58, 76, 102] 400 _ _ _).trans rfl
set_option maxRecDepth 100000 in
theorem m211_37_1 (d sl : Nat) (I : Nat → Int32) (w : Int64) (A : Nat → Nat → Int32) (N : Nat → Nat → Int64) (a1 : Int32) (a2 : Int32) (a3 : Int32) :
  R (d + 1) 211 (37, [some (.ref 0), some (.int a1), some (.int a2), some (.int a3), none], [], sl, (RH I w A N)) =
    cond (decide ((nI 6) ≤ a2)) (some (121, [some (.ref 0), some (.int a1), some (.int a2), some (.int a3), none], [], sl, (RH I w A N))) (R (d + 1) 211 (45, [some (.ref 0), some (.int a1), some (.int a2), some (.int (nI 0)), none], [], sl, (RH I w A N))) :=
  (R_gob [2, 19, 37, 45, 58, 76, 102] 400 _ _ _).trans rfl
set_option maxRecDepth 100000 in
theorem m211_58 (d sl : Nat) (I : Nat → Int32) (w : Int64) (A : Nat → Nat → Int32) (N : Nat → Nat → Int64) (a1 : Int32) (a2 : Int32) (a3 : Int32) (a4 : Int32) :
  R (d + 1) 211 (58, [some (.ref 0), some (.int a1), some (.int a2), some (.int a3), some (.int a4)], [], sl, (RH I w A N)) =
    cond (decide (((A 2) 0) ≤ a4)) (R (d + 1) 211 (45, [some (.ref 0), some (.int a1), some (.int a2), some (.int (a3 + (nI 1))), some (.int a4)], [], sl, (RH I w A N))) (bC (C d 210 [.ref 0, .int a3, .int a4] sl (RH I w A N)) (fun vs sl h => R (d + 1) 211 (76, [some (.ref 0), some (.int a1), some (.int a2), some (.int a3), some (.int a4)], vs ++ [], sl, h))) :=
  (R_gob [2, 19, 37, 45, 58, 76, 102] 400 _ _ _).trans rfl
set_option maxRecDepth 100000 in
theorem m211_45_1 (d sl : Nat) (I : Nat → Int32) (w : Int64) (A : Nat → Nat → Int32) (N : Nat → Nat → Int64) (a1 : Int32) (a2 : Int32) (a3 : Int32) (a4 : Int32) :
  R (d + 1) 211 (45, [some (.ref 0), some (.int a1), some (.int a2), some (.int a3), some (.int a4)], [], sl, (RH I w A N)) =
    cond (decide (((A 2) 0) ≤ a3)) (R (d + 1) 211 (37, [some (.ref 0), some (.int a1), some (.int (a2 + (nI 1))), some (.int a3), some (.int a4)], [], sl, (RH I w A N))) (R (d + 1) 211 (58, [some (.ref 0), some (.int a1), some (.int a2), some (.int a3), some (.int (nI 0))], [], sl, (RH I w A N))) :=
  (R_gob [2, 19, 37, 45, 58, 76, 102] 400 _ _ _).trans rfl
set_option maxRecDepth 100000 in
theorem m211_76 (d sl : Nat) (I : Nat → Int32) (w : Int64) (A : Nat → Nat → Int32) (N : Nat → Nat → Int64) (a1 : Int32) (a2 : Int32) (a3 : Int32) (a4 : Int32) (b0 : Int32) :
  R (d + 1) 211 (76, [some (.ref 0), some (.int a1), some (.int a2), some (.int a3), some (.int a4)], [.int b0], sl, (RH I w A N)) =
    cond (decide (b0 = (nI 0))) (R (d + 1) 211 (58, [some (.ref 0), some (.int a1), some (.int a2), some (.int a3), some (.int (a4 + (nI 1)))], [], sl, (RH I w A N))) (cond (x_in a3 6) (cond (x_in a4 6) (bC (C d 169 [.int ((A 11) a3.toNatClampNeg), .int (((A 11) a4.toNatClampNeg) + (nI 1))] sl (RH I w A N)) (fun vs sl h => R (d + 1) 211 (102, [some (.ref 0), some (.int a1), some (.int a2), some (.int a3), some (.int a4)], vs ++ [.int a3, .ref 11], sl, h))) none) none) :=
  (R_gob [2, 19, 37, 45, 58, 76, 102] 400 _ _ _).trans rfl
set_option maxRecDepth 100000 in
theorem m211_37_2 (d sl : Nat) (I : Nat → Int32) (w : Int64) (A : Nat → Nat → Int32) (N : Nat → Nat → Int64) (a1 : Int32) (a2 : Int32) (a3 : Int32) (a4 : Int32) :
  R (d + 1) 211 (37, [some (.ref 0), some (.int a1), some (.int a2), some (.int a3), some (.int a4)], [], sl, (RH I w A N)) =
    cond (decide ((nI 6) ≤ a2)) (some (121, [some (.ref 0), some (.int a1), some (.int a2), some (.int a3), some (.int a4)], [], sl, (RH I w A N))) (R (d + 1) 211 (45, [some (.ref 0), some (.int a1), some (.int a2), some (.int (nI 0)), some (.int a4)], [], sl, (RH I w A N))) :=
  (R_gob [2, 19, 37, 45, 58, 76, 102] 400 _ _ _).trans rfl
set_option maxRecDepth 100000 in
theorem m211_102 (d sl : Nat) (I : Nat → Int32) (w : Int64) (A : Nat → Nat → Int32) (N : Nat → Nat → Int64) (a1 : Int32) (a2 : Int32) (a3 : Int32) (a4 : Int32) (b0 : Int32) (b1 : Int32) :
  R (d + 1) 211 (102, [some (.ref 0), some (.int a1), some (.int a2), some (.int a3), some (.int a4)], [.int b0, .int b1, .ref 11], sl, (RH I w A N)) =
    cond (x_in b1 6) (R (d + 1) 211 (58, [some (.ref 0), some (.int a1), some (.int a2), some (.int a3), some (.int (a4 + (nI 1)))], [], sl, (RH I w (up1 A 11 (upd (A 11) b1.toNatClampNeg b0)) N))) none :=
  (R_gob [2, 19, 37, 45, 58, 76, 102] 400 _ _ _).trans rfl
set_option maxRecDepth 100000 in
theorem m212_0 (d sl : Nat) (I : Nat → Int32) (w : Int64) (A : Nat → Nat → Int32) (N : Nat → Nat → Int64) (a1 : Int32) :
  R (d + 1) 212 (0, [some (.ref 0), some (.int a1)], [], sl, (RH I w A N)) =
    bC (C d 211 [.ref 0, .int a1] sl (RH I w A N)) (fun vs sl h => R (d + 1) 212 (5, [some (.ref 0), some (.int a1)], vs ++ [], sl, h)) :=
  (R_gob [5] 400 _ _ _).trans rfl
set_option maxRecDepth 100000 in
theorem m212_5 (d sl : Nat) (I : Nat → Int32) (w : Int64) (A : Nat → Nat → Int32) (N : Nat → Nat → Int64) (a1 : Int32) :
  R (d + 1) 212 (5, [some (.ref 0), some (.int a1)], [], sl, (RH I w A N)) =
    cond (x_in a1 6) (cond (decide ((nI 100000) ≤ ((A 11) a1.toNatClampNeg))) (some (21, [some (.ref 0), some (.int a1)], [.int (nI 0)], sl, (RH I w A N))) (some (21, [some (.ref 0), some (.int a1)], [.int (nI 1)], sl, (RH I w A N)))) none :=
  (R_gob [5] 400 _ _ _).trans rfl
set_option maxRecDepth 100000 in
theorem m213_0 (d sl : Nat) (I : Nat → Int32) (w : Int64) (A : Nat → Nat → Int32) (N : Nat → Nat → Int64) (a1 : Int32) :
  R (d + 1) 213 (0, [some (.ref 0), some (.int a1), none, none, none], [], sl, (RH I w A N)) =
    bC (C d 196 [.ref 0, .int a1] sl (RH (up1 I 0 (nI 0)) w A N)) (fun vs sl h => R (d + 1) 213 (10, [some (.ref 0), some (.int a1), none, none, none], vs ++ [], sl, h)) :=
  (R_gob [10, 18, 37, 55, 72] 400 _ _ _).trans rfl
set_option maxRecDepth 100000 in
theorem m213_10 (d sl : Nat) (I : Nat → Int32) (w : Int64) (A : Nat → Nat → Int32) (N : Nat → Nat → Int64) (a1 : Int32) (b0 : Int32) :
  R (d + 1) 213 (10, [some (.ref 0), some (.int a1), none, none, none], [.int b0], sl, (RH I w A N)) =
    cond (decide (b0 = (nI 0))) (some (22, [some (.ref 0), some (.int a1), none, none, none], [.int (-1 : Int32)], sl, (RH I w A N))) (bC (C d 212 [.ref 0, .int a1] sl (RH I w A N)) (fun vs sl h => R (d + 1) 213 (18, [some (.ref 0), some (.int a1), none, none, none], vs ++ [], sl, h))) :=
  (R_gob [10, 18, 37, 55, 72] 400 _ _ _).trans rfl
set_option maxRecDepth 100000 in
theorem m213_18 (d sl : Nat) (I : Nat → Int32) (w : Int64) (A : Nat → Nat → Int32) (N : Nat → Nat → Int64) (a1 : Int32) (b0 : Int32) :
  R (d + 1) 213 (18, [some (.ref 0), some (.int a1), none, none, none], [.int b0], sl, (RH I w A N)) =
    cond (!decide (b0 = (nI 0))) (cond (x_in a1 6) (R (d + 1) 213 (37, [some (.ref 0), some (.int a1), some (.int a1), some (.int (nI 0)), none], [], sl, (RH (up1 I 27 ((A 11) a1.toNatClampNeg)) w A N))) none) (some (22, [some (.ref 0), some (.int a1), none, none, none], [.int (-1 : Int32)], sl, (RH I w A N))) :=
  (R_gob [10, 18, 37, 55, 72] 400 _ _ _).trans rfl
set_option maxRecDepth 100000 in
theorem m213_37 (d sl : Nat) (I : Nat → Int32) (w : Int64) (A : Nat → Nat → Int32) (N : Nat → Nat → Int64) (a1 : Int32) (a2 : Int32) (a3 : Int32) :
  R (d + 1) 213 (37, [some (.ref 0), some (.int a1), some (.int a2), some (.int a3), none], [], sl, (RH I w A N)) =
    cond (decide ((I 27) ≤ a3)) (some (112, [some (.ref 0), some (.int a1), some (.int a2), some (.int a3), none], [.int (I 27)], sl, (RH I w A N))) (cond (x_in a3 6) (R (d + 1) 213 (55, [some (.ref 0), some (.int a1), some (.int a2), some (.int a3), some (.int (nI 0))], [], sl, (RH I w (up1 A 12 (upd (A 12) a3.toNatClampNeg a2)) N))) none) :=
  (R_gob [10, 18, 37, 55, 72] 400 _ _ _).trans rfl
set_option maxRecDepth 100000 in
theorem m213_55 (d sl : Nat) (I : Nat → Int32) (w : Int64) (A : Nat → Nat → Int32) (N : Nat → Nat → Int64) (a1 : Int32) (a2 : Int32) (a3 : Int32) (a4 : Int32) :
  R (d + 1) 213 (55, [some (.ref 0), some (.int a1), some (.int a2), some (.int a3), some (.int a4)], [], sl, (RH I w A N)) =
    cond (decide ((I 27) ≤ (a3 + (nI 1)))) (R (d + 1) 213 (37, [some (.ref 0), some (.int a1), some (.int a4), some (.int (a3 + (nI 1))), some (.int a4)], [], sl, (RH I w A N))) (bC (C d 210 [.ref 0, .int a2, .int a4] sl (RH I w A N)) (fun vs sl h => R (d + 1) 213 (72, [some (.ref 0), some (.int a1), some (.int a2), some (.int a3), some (.int a4)], vs ++ [], sl, h))) :=
  (R_gob [10, 18, 37, 55, 72] 400 _ _ _).trans rfl
set_option maxRecDepth 100000 in
theorem m213_37_1 (d sl : Nat) (I : Nat → Int32) (w : Int64) (A : Nat → Nat → Int32) (N : Nat → Nat → Int64) (a1 : Int32) (a2 : Int32) (a3 : Int32) (a4 : Int32) :
  R (d + 1) 213 (37, [some (.ref 0), some (.int a1), some (.int a2), some (.int a3), some (.int a4)], [], sl, (RH I w A N)) =
    cond (decide ((I 27) ≤ a3)) (some (112, [some (.ref 0), some (.int a1), some (.int a2), some (.int a3), some (.int a4)], [.int (I 27)], sl, (RH I w A N))) (cond (x_in a3 6) (R (d + 1) 213 (55, [some (.ref 0), some (.int a1), some (.int a2), some (.int a3), some (.int (nI 0))], [], sl, (RH I w (up1 A 12 (upd (A 12) a3.toNatClampNeg a2)) N))) none) :=
  (R_gob [10, 18, 37, 55, 72] 400 _ _ _).trans rfl
set_option maxRecDepth 100000 in
theorem m213_72 (d sl : Nat) (I : Nat → Int32) (w : Int64) (A : Nat → Nat → Int32) (N : Nat → Nat → Int64) (a1 : Int32) (a2 : Int32) (a3 : Int32) (a4 : Int32) (b0 : Int32) :
  R (d + 1) 213 (72, [some (.ref 0), some (.int a1), some (.int a2), some (.int a3), some (.int a4)], [.int b0], sl, (RH I w A N)) =
    cond (decide (b0 = (nI 0))) (R (d + 1) 213 (55, [some (.ref 0), some (.int a1), some (.int a2), some (.int a3), some (.int (a4 + (nI 1)))], [], sl, (RH I w A N))) (cond (x_in a4 6) (cond (decide (((A 11) a4.toNatClampNeg) = (((I 27) - a3) - (nI 1)))) (R (d + 1) 213 (37, [some (.ref 0), some (.int a1), some (.int a4), some (.int (a3 + (nI 1))), some (.int a4)], [], sl, (RH I w A N))) (R (d + 1) 213 (55, [some (.ref 0), some (.int a1), some (.int a2), some (.int a3), some (.int (a4 + (nI 1)))], [], sl, (RH I w A N)))) none) :=
  (R_gob [10, 18, 37, 55, 72] 400 _ _ _).trans rfl
set_option maxRecDepth 100000 in
theorem m214_0 (d sl : Nat) (I : Nat → Int32) (w : Int64) (A : Nat → Nat → Int32) (N : Nat → Nat → Int64) (a1 : Int32) :
  R (d + 1) 214 (0, [some (.ref 0), some (.int a1)], [], sl, (RH I w A N)) =
    bC (C d 166 [.int a1, .int (nI 0), .int ((I 27) - (nI 1))] sl (RH (up1 I 0 (nI 0)) w A N)) (fun vs sl h => R (d + 1) 214 (16, [some (.ref 0), some (.int a1)], vs ++ [], sl, h)) :=
  (R_gob [16] 400 _ _ _).trans rfl
set_option maxRecDepth 100000 in
theorem m214_16 (d sl : Nat) (I : Nat → Int32) (w : Int64) (A : Nat → Nat → Int32) (N : Nat → Nat → Int64) (a1 : Int32) (b0 : Int32) :
  R (d + 1) 214 (16, [some (.ref 0), some (.int a1)], [.int b0], sl, (RH I w A N)) =
    cond (decide (b0 = (nI 0))) (some (29, [some (.ref 0), some (.int a1)], [.int (-1 : Int32)], sl, (RH I w A N))) (cond (x_in a1 6) (some (29, [some (.ref 0), some (.int a1)], [.int ((A 12) a1.toNatClampNeg)], sl, (RH I w A N))) none) :=
  (R_gob [16] 400 _ _ _).trans rfl
set_option maxRecDepth 100000 in
theorem m215_0 (d sl : Nat) (I : Nat → Int32) (w : Int64) (A : Nat → Nat → Int32) (N : Nat → Nat → Int64) (a1 : Int32) (a2 : Int32) :
  R d 215 (0, [some (.ref 0), some (.int a1), some (.int a2), none, none], [], sl, (RH I w A N)) =
    R d 215 (5, [some (.ref 0), some (.int a1), some (.int a2), some (.int (nI 0)), some (.int (nI 0))], [], sl, (RH I w A N)) :=
  (R_gob [5] 400 _ _ _).trans rfl
set_option maxRecDepth 100000 in
theorem m215_5 (d sl : Nat) (I : Nat → Int32) (w : Int64) (A : Nat → Nat → Int32) (N : Nat → Nat → Int64) (a1 : Int32) (a2 : Int32) (a3 : Int32) (a4 : Int32) :
  R d 215 (5, [some (.ref 0), some (.int a1), some (.int a2), some (.int a3), some (.int a4)], [], sl, (RH I w A N)) =
    cond (decide (a2 ≤ a4)) (some (30, [some (.ref 0), some (.int a1), some (.int a2), some (.int a3), some (.int a4)], [.int a3], sl, (RH I w A N))) (cond (x_in (a1 + a4) 369) (R d 215 (5, [some (.ref 0), some (.int a1), some (.int a2), some (.int (a3 + ((A 2) (a1 + a4).toNatClampNeg))), some (.int (a4 + (nI 1)))], [], sl, (RH I w A N))) none) :=
  (R_gob [5] 400 _ _ _).trans rfl
set_option maxRecDepth 100000 in
theorem m216_0 (d sl : Nat) (I : Nat → Int32) (w : Int64) (A : Nat → Nat → Int32) (N : Nat → Nat → Int64) (a1 : Int32) :
  R (d + 1) 216 (0, [some (.ref 0), some (.int a1), none, none], [], sl, (RH I w A N)) =
    R (d + 1) 216 (8, [some (.ref 0), some (.int a1), some (.int (nI 0)), none], [.int a1], sl, (RH (up1 I 0 (nI 0)) w A N)) :=
  (R_gob [8, 68, 77, 80, 96, 123, 138, 157, 172] 400 _ _ _).trans rfl
set_option maxRecDepth 100000 in
theorem m216_8_out (d sl : Nat) (I : Nat → Int32) (w : Int64) (A : Nat → Nat → Int32) (N : Nat → Nat → Int64) (a1 : Int32) (a2 : Int32) (x : Int32) (hx : (decide (x.toInt < (0)) || decide ((6) < x.toInt)) = true) :
  R (d + 1) 216 (8, [some (.ref 0), some (.int a1), some (.int a2), none], .int x :: [], sl, (RH I w A N)) = R (d + 1) 216 (189, [some (.ref 0), some (.int a1), some (.int a2), none], [], sl, (RH I w A N)) :=
  (R_tsw (show xk 216 8 = (.tableswitch 181 0 6 #[44, 52, 61, 70, 105, 113, 147], 52, [], 0) by decide +kernel)).trans (congrArg (fun q => R (d + 1) 216 (q, [some (.ref 0), some (.int a1), some (.int a2), none], [], sl, (RH I w A N))) ((x_tsw_out hx).trans (by decide +kernel)))
set_option maxRecDepth 100000 in
theorem m216_8_c0 (d sl : Nat) (I : Nat → Int32) (w : Int64) (A : Nat → Nat → Int32) (N : Nat → Nat → Int64) (a1 : Int32) (a2 : Int32)  :
  R (d + 1) 216 (8, [some (.ref 0), some (.int a1), some (.int a2), none], .int (nI 0) :: [], sl, (RH I w A N)) = R (d + 1) 216 (52, [some (.ref 0), some (.int a1), some (.int a2), none], [], sl, (RH I w A N)) :=
  (R_tsw (show xk 216 8 = (.tableswitch 181 0 6 #[44, 52, 61, 70, 105, 113, 147], 52, [], 0) by decide +kernel)).trans (congrArg (fun q => R (d + 1) 216 (q, [some (.ref 0), some (.int a1), some (.int a2), none], [], sl, (RH I w A N))) (by decide +kernel))
set_option maxRecDepth 100000 in
theorem m216_8_c1 (d sl : Nat) (I : Nat → Int32) (w : Int64) (A : Nat → Nat → Int32) (N : Nat → Nat → Int64) (a1 : Int32) (a2 : Int32)  :
  R (d + 1) 216 (8, [some (.ref 0), some (.int a1), some (.int a2), none], .int (nI 1) :: [], sl, (RH I w A N)) = R (d + 1) 216 (60, [some (.ref 0), some (.int a1), some (.int a2), none], [], sl, (RH I w A N)) :=
  (R_tsw (show xk 216 8 = (.tableswitch 181 0 6 #[44, 52, 61, 70, 105, 113, 147], 52, [], 0) by decide +kernel)).trans (congrArg (fun q => R (d + 1) 216 (q, [some (.ref 0), some (.int a1), some (.int a2), none], [], sl, (RH I w A N))) (by decide +kernel))
set_option maxRecDepth 100000 in
theorem m216_8_c2 (d sl : Nat) (I : Nat → Int32) (w : Int64) (A : Nat → Nat → Int32) (N : Nat → Nat → Int64) (a1 : Int32) (a2 : Int32)  :
  R (d + 1) 216 (8, [some (.ref 0), some (.int a1), some (.int a2), none], .int (nI 2) :: [], sl, (RH I w A N)) = R (d + 1) 216 (69, [some (.ref 0), some (.int a1), some (.int a2), none], [], sl, (RH I w A N)) :=
  (R_tsw (show xk 216 8 = (.tableswitch 181 0 6 #[44, 52, 61, 70, 105, 113, 147], 52, [], 0) by decide +kernel)).trans (congrArg (fun q => R (d + 1) 216 (q, [some (.ref 0), some (.int a1), some (.int a2), none], [], sl, (RH I w A N))) (by decide +kernel))
set_option maxRecDepth 100000 in
theorem m216_8_c3 (d sl : Nat) (I : Nat → Int32) (w : Int64) (A : Nat → Nat → Int32) (N : Nat → Nat → Int64) (a1 : Int32) (a2 : Int32)  :
  R (d + 1) 216 (8, [some (.ref 0), some (.int a1), some (.int a2), none], .int (nI 3) :: [], sl, (RH I w A N)) = R (d + 1) 216 (78, [some (.ref 0), some (.int a1), some (.int a2), none], [], sl, (RH I w A N)) :=
  (R_tsw (show xk 216 8 = (.tableswitch 181 0 6 #[44, 52, 61, 70, 105, 113, 147], 52, [], 0) by decide +kernel)).trans (congrArg (fun q => R (d + 1) 216 (q, [some (.ref 0), some (.int a1), some (.int a2), none], [], sl, (RH I w A N))) (by decide +kernel))
set_option maxRecDepth 100000 in
theorem m216_8_c4 (d sl : Nat) (I : Nat → Int32) (w : Int64) (A : Nat → Nat → Int32) (N : Nat → Nat → Int64) (a1 : Int32) (a2 : Int32)  :
  R (d + 1) 216 (8, [some (.ref 0), some (.int a1), some (.int a2), none], .int (nI 4) :: [], sl, (RH I w A N)) = R (d + 1) 216 (113, [some (.ref 0), some (.int a1), some (.int a2), none], [], sl, (RH I w A N)) :=
  (R_tsw (show xk 216 8 = (.tableswitch 181 0 6 #[44, 52, 61, 70, 105, 113, 147], 52, [], 0) by decide +kernel)).trans (congrArg (fun q => R (d + 1) 216 (q, [some (.ref 0), some (.int a1), some (.int a2), none], [], sl, (RH I w A N))) (by decide +kernel))
set_option maxRecDepth 100000 in
theorem m216_8_c5 (d sl : Nat) (I : Nat → Int32) (w : Int64) (A : Nat → Nat → Int32) (N : Nat → Nat → Int64) (a1 : Int32) (a2 : Int32)  :
  R (d + 1) 216 (8, [some (.ref 0), some (.int a1), some (.int a2), none], .int (nI 5) :: [], sl, (RH I w A N)) = R (d + 1) 216 (121, [some (.ref 0), some (.int a1), some (.int a2), none], [], sl, (RH I w A N)) :=
  (R_tsw (show xk 216 8 = (.tableswitch 181 0 6 #[44, 52, 61, 70, 105, 113, 147], 52, [], 0) by decide +kernel)).trans (congrArg (fun q => R (d + 1) 216 (q, [some (.ref 0), some (.int a1), some (.int a2), none], [], sl, (RH I w A N))) (by decide +kernel))
set_option maxRecDepth 100000 in
theorem m216_8_c6 (d sl : Nat) (I : Nat → Int32) (w : Int64) (A : Nat → Nat → Int32) (N : Nat → Nat → Int64) (a1 : Int32) (a2 : Int32)  :
  R (d + 1) 216 (8, [some (.ref 0), some (.int a1), some (.int a2), none], .int (nI 6) :: [], sl, (RH I w A N)) = R (d + 1) 216 (155, [some (.ref 0), some (.int a1), some (.int a2), none], [], sl, (RH I w A N)) :=
  (R_tsw (show xk 216 8 = (.tableswitch 181 0 6 #[44, 52, 61, 70, 105, 113, 147], 52, [], 0) by decide +kernel)).trans (congrArg (fun q => R (d + 1) 216 (q, [some (.ref 0), some (.int a1), some (.int a2), none], [], sl, (RH I w A N))) (by decide +kernel))
set_option maxRecDepth 100000 in
theorem m216_189 (d sl : Nat) (I : Nat → Int32) (w : Int64) (A : Nat → Nat → Int32) (N : Nat → Nat → Int64) (a1 : Int32) (a2 : Int32) :
  R (d + 1) 216 (189, [some (.ref 0), some (.int a1), some (.int a2), none], [], sl, (RH I w A N)) =
    some (190, [some (.ref 0), some (.int a1), some (.int a2), none], [.int (-1 : Int32)], sl, (RH I w A N)) :=
  (R_gob [8, 52, 60, 68, 69, 77, 78, 80, 96, 113, 121, 123, 138, 155, 157, 172, 189] 400 _ _ _).trans rfl
set_option maxRecDepth 100000 in
theorem m216_52 (d sl : Nat) (I : Nat → Int32) (w : Int64) (A : Nat → Nat → Int32) (N : Nat → Nat → Int64) (a1 : Int32) (a2 : Int32) :
  R (d + 1) 216 (52, [some (.ref 0), some (.int a1), some (.int a2), none], [], sl, (RH I w A N)) =
    some (59, [some (.ref 0), some (.int a1), some (.int a2), none], [.int ((A 2) 70)], sl, (RH I w A N)) :=
  (R_gob [8, 52, 60, 68, 69, 77, 78, 80, 96, 113, 121, 123, 138, 155, 157, 172, 189] 400 _ _ _).trans rfl
set_option maxRecDepth 100000 in
theorem m216_60 (d sl : Nat) (I : Nat → Int32) (w : Int64) (A : Nat → Nat → Int32) (N : Nat → Nat → Int64) (a1 : Int32) (a2 : Int32) :
  R (d + 1) 216 (60, [some (.ref 0), some (.int a1), some (.int a2), none], [], sl, (RH I w A N)) =
    bC (C d 215 [.ref 0, .int (nI 73), .int (nI 6)] sl (RH I w A N)) (fun vs sl h => R (d + 1) 216 (68, [some (.ref 0), some (.int a1), some (.int a2), none], vs ++ [], sl, h)) :=
  (R_gob [8, 52, 60, 68, 69, 77, 78, 80, 96, 113, 121, 123, 138, 155, 157, 172, 189] 400 _ _ _).trans rfl
set_option maxRecDepth 100000 in
theorem m216_69 (d sl : Nat) (I : Nat → Int32) (w : Int64) (A : Nat → Nat → Int32) (N : Nat → Nat → Int64) (a1 : Int32) (a2 : Int32) :
  R (d + 1) 216 (69, [some (.ref 0), some (.int a1), some (.int a2), none], [], sl, (RH I w A N)) =
    bC (C d 215 [.ref 0, .int (nI 103), .int (nI 12)] sl (RH I w A N)) (fun vs sl h => R (d + 1) 216 (77, [some (.ref 0), some (.int a1), some (.int a2), none], vs ++ [], sl, h)) :=
  (R_gob [8, 52, 60, 68, 69, 77, 78, 80, 96, 113, 121, 123, 138, 155, 157, 172, 189] 400 _ _ _).trans rfl
set_option maxRecDepth 100000 in
theorem m216_78 (d sl : Nat) (I : Nat → Int32) (w : Int64) (A : Nat → Nat → Int32) (N : Nat → Nat → Int64) (a1 : Int32) (a2 : Int32) :
  R (d + 1) 216 (78, [some (.ref 0), some (.int a1), some (.int a2), none], [], sl, (RH I w A N)) =
    R (d + 1) 216 (80, [some (.ref 0), some (.int a1), some (.int a2), some (.int (nI 0))], [], sl, (RH I w A N)) :=
  (R_gob [8, 52, 60, 68, 69, 77, 78, 80, 96, 113, 121, 123, 138, 155, 157, 172, 189] 400 _ _ _).trans rfl
set_option maxRecDepth 100000 in
theorem m216_113 (d sl : Nat) (I : Nat → Int32) (w : Int64) (A : Nat → Nat → Int32) (N : Nat → Nat → Int64) (a1 : Int32) (a2 : Int32) :
  R (d + 1) 216 (113, [some (.ref 0), some (.int a1), some (.int a2), none], [], sl, (RH I w A N)) =
    some (120, [some (.ref 0), some (.int a1), some (.int a2), none], [.int ((A 2) 71)], sl, (RH I w A N)) :=
  (R_gob [8, 52, 60, 68, 69, 77, 78, 80, 96, 113, 121, 123, 138, 155, 157, 172, 189] 400 _ _ _).trans rfl
set_option maxRecDepth 100000 in
theorem m216_121 (d sl : Nat) (I : Nat → Int32) (w : Int64) (A : Nat → Nat → Int32) (N : Nat → Nat → Int64) (a1 : Int32) (a2 : Int32) :
  R (d + 1) 216 (121, [some (.ref 0), some (.int a1), some (.int a2), none], [], sl, (RH I w A N)) =
    R (d + 1) 216 (123, [some (.ref 0), some (.int a1), some (.int a2), some (.int (nI 0))], [], sl, (RH I w A N)) :=
  (R_gob [8, 52, 60, 68, 69, 77, 78, 80, 96, 113, 121, 123, 138, 155, 157, 172, 189] 400 _ _ _).trans rfl
set_option maxRecDepth 100000 in
theorem m216_155 (d sl : Nat) (I : Nat → Int32) (w : Int64) (A : Nat → Nat → Int32) (N : Nat → Nat → Int64) (a1 : Int32) (a2 : Int32) :
  R (d + 1) 216 (155, [some (.ref 0), some (.int a1), some (.int a2), none], [], sl, (RH I w A N)) =
    R (d + 1) 216 (157, [some (.ref 0), some (.int a1), some (.int a2), some (.int (nI 0))], [], sl, (RH I w A N)) :=
  (R_gob [8, 52, 60, 68, 69, 77, 78, 80, 96, 113, 121, 123, 138, 155, 157, 172, 189] 400 _ _ _).trans rfl
set_option maxRecDepth 100000 in
theorem m216_68 (d sl : Nat) (I : Nat → Int32) (w : Int64) (A : Nat → Nat → Int32) (N : Nat → Nat → Int64) (a1 : Int32) (a2 : Int32) (b0 : Int32) :
  R (d + 1) 216 (68, [some (.ref 0), some (.int a1), some (.int a2), none], [.int b0], sl, (RH I w A N)) =
    some (68, [some (.ref 0), some (.int a1), some (.int a2), none], [.int b0], sl, (RH I w A N)) :=
  (R_gob [8, 52, 60, 68, 69, 77, 78, 80, 96, 113, 121, 123, 138, 155, 157, 172, 189] 400 _ _ _).trans rfl
set_option maxRecDepth 100000 in
theorem m216_77 (d sl : Nat) (I : Nat → Int32) (w : Int64) (A : Nat → Nat → Int32) (N : Nat → Nat → Int64) (a1 : Int32) (a2 : Int32) (b0 : Int32) :
  R (d + 1) 216 (77, [some (.ref 0), some (.int a1), some (.int a2), none], [.int b0], sl, (RH I w A N)) =
    some (77, [some (.ref 0), some (.int a1), some (.int a2), none], [.int b0], sl, (RH I w A N)) :=
  (R_gob [8, 52, 60, 68, 69, 77, 78, 80, 96, 113, 121, 123, 138, 155, 157, 172, 189] 400 _ _ _).trans rfl
set_option maxRecDepth 100000 in
theorem m216_80 (d sl : Nat) (I : Nat → Int32) (w : Int64) (A : Nat → Nat → Int32) (N : Nat → Nat → Int64) (a1 : Int32) (a2 : Int32) (a3 : Int32) :
  R (d + 1) 216 (80, [some (.ref 0), some (.int a1), some (.int a2), some (.int a3)], [], sl, (RH I w A N)) =
    cond (decide (((A 2) 72) ≤ a3)) (some (112, [some (.ref 0), some (.int a1), some (.int a2), some (.int a3)], [.int a2], sl, (RH I w A N))) (bC (C d 198 [.ref 0, .int a3] sl (RH I w A N)) (fun vs sl h => R (d + 1) 216 (96, [some (.ref 0), some (.int a1), some (.int a2), some (.int a3)], vs ++ [], sl, h))) :=
  (R_gob [8, 52, 60, 68, 69, 77, 78, 80, 96, 113, 121, 123, 138, 155, 157, 172, 189] 400 _ _ _).trans rfl
set_option maxRecDepth 100000 in
theorem m216_123 (d sl : Nat) (I : Nat → Int32) (w : Int64) (A : Nat → Nat → Int32) (N : Nat → Nat → Int64) (a1 : Int32) (a2 : Int32) (a3 : Int32) :
  R (d + 1) 216 (123, [some (.ref 0), some (.int a1), some (.int a2), some (.int a3)], [], sl, (RH I w A N)) =
    cond (decide (((A 2) 0) ≤ a3)) (some (154, [some (.ref 0), some (.int a1), some (.int a2), some (.int a3)], [.int a2], sl, (RH I w A N))) (bC (C d 204 [.ref 0, .int a3] sl (RH I w A N)) (fun vs sl h => R (d + 1) 216 (138, [some (.ref 0), some (.int a1), some (.int a2), some (.int a3)], vs ++ [], sl, h))) :=
  (R_gob [8, 52, 60, 68, 69, 77, 78, 80, 96, 113, 121, 123, 138, 155, 157, 172, 189] 400 _ _ _).trans rfl
set_option maxRecDepth 100000 in
theorem m216_157 (d sl : Nat) (I : Nat → Int32) (w : Int64) (A : Nat → Nat → Int32) (N : Nat → Nat → Int64) (a1 : Int32) (a2 : Int32) (a3 : Int32) :
  R (d + 1) 216 (157, [some (.ref 0), some (.int a1), some (.int a2), some (.int a3)], [], sl, (RH I w A N)) =
    cond (decide (((A 2) 0) ≤ a3)) (some (188, [some (.ref 0), some (.int a1), some (.int a2), some (.int a3)], [.int a2], sl, (RH I w A N))) (bC (C d 212 [.ref 0, .int a3] sl (RH I w A N)) (fun vs sl h => R (d + 1) 216 (172, [some (.ref 0), some (.int a1), some (.int a2), some (.int a3)], vs ++ [], sl, h))) :=
  (R_gob [8, 52, 60, 68, 69, 77, 78, 80, 96, 113, 121, 123, 138, 155, 157, 172, 189] 400 _ _ _).trans rfl
set_option maxRecDepth 100000 in
theorem m216_96 (d sl : Nat) (I : Nat → Int32) (w : Int64) (A : Nat → Nat → Int32) (N : Nat → Nat → Int64) (a1 : Int32) (a2 : Int32) (a3 : Int32) (b0 : Int32) :
  R (d + 1) 216 (96, [some (.ref 0), some (.int a1), some (.int a2), some (.int a3)], [.int b0], sl, (RH I w A N)) =
    cond (decide (b0 = (nI 0))) (R (d + 1) 216 (80, [some (.ref 0), some (.int a1), some (.int a2), some (.int (a3 + (nI 1)))], [], sl, (RH I w A N))) (R (d + 1) 216 (80, [some (.ref 0), some (.int a1), some (.int (a2 ||| ((nI 1) <<< (a3 &&& nI 31)))), some (.int (a3 + (nI 1)))], [], sl, (RH I w A N))) :=
  (R_gob [8, 52, 60, 68, 69, 77, 78, 80, 96, 113, 121, 123, 138, 155, 157, 172, 189] 400 _ _ _).trans rfl
set_option maxRecDepth 100000 in
theorem m216_138 (d sl : Nat) (I : Nat → Int32) (w : Int64) (A : Nat → Nat → Int32) (N : Nat → Nat → Int64) (a1 : Int32) (a2 : Int32) (a3 : Int32) (b0 : Int32) :
  R (d + 1) 216 (138, [some (.ref 0), some (.int a1), some (.int a2), some (.int a3)], [.int b0], sl, (RH I w A N)) =
    cond (decide (b0 = (nI 0))) (R (d + 1) 216 (123, [some (.ref 0), some (.int a1), some (.int a2), some (.int (a3 + (nI 1)))], [], sl, (RH I w A N))) (R (d + 1) 216 (123, [some (.ref 0), some (.int a1), some (.int (a2 ||| ((nI 1) <<< (a3 &&& nI 31)))), some (.int (a3 + (nI 1)))], [], sl, (RH I w A N))) :=
  (R_gob [8, 52, 60, 68, 69, 77, 78, 80, 96, 113, 121, 123, 138, 155, 157, 172, 189] 400 _ _ _).trans rfl
set_option maxRecDepth 100000 in
theorem m216_172 (d sl : Nat) (I : Nat → Int32) (w : Int64) (A : Nat → Nat → Int32) (N : Nat → Nat → Int64) (a1 : Int32) (a2 : Int32) (a3 : Int32) (b0 : Int32) :
  R (d + 1) 216 (172, [some (.ref 0), some (.int a1), some (.int a2), some (.int a3)], [.int b0], sl, (RH I w A N)) =
    cond (decide (b0 = (nI 0))) (R (d + 1) 216 (157, [some (.ref 0), some (.int a1), some (.int a2), some (.int (a3 + (nI 1)))], [], sl, (RH I w A N))) (R (d + 1) 216 (157, [some (.ref 0), some (.int a1), some (.int (a2 ||| ((nI 1) <<< (a3 &&& nI 31)))), some (.int (a3 + (nI 1)))], [], sl, (RH I w A N))) :=
  (R_gob [8, 52, 60, 68, 69, 77, 78, 80, 96, 113, 121, 123, 138, 155, 157, 172, 189] 400 _ _ _).trans rfl
set_option maxRecDepth 100000 in
theorem m217_0 (d sl : Nat) (I : Nat → Int32) (w : Int64) (A : Nat → Nat → Int32) (N : Nat → Nat → Int64)  :
  R d 217 (0, [some (.ref 0), none], [], sl, (RH I w A N)) =
    cond (!decide ((I 24) = (nI 8))) (R d 217 (51, [some (.ref 0), some (.int (nI 0))], [], sl, (RH I w A N))) (R d 217 (11, [some (.ref 0), some (.int (nI 0))], [], sl, (RH I w A N))) :=
  (R_gob [11, 51] 400 _ _ _).trans rfl
set_option maxRecDepth 100000 in
theorem m217_51 (d sl : Nat) (I : Nat → Int32) (w : Int64) (A : Nat → Nat → Int32) (N : Nat → Nat → Int64) (a1 : Int32) :
  R d 217 (51, [some (.ref 0), some (.int a1)], [], sl, (RH I w A N)) =
    cond (decide ((nI 57) ≤ a1)) (some (96, [some (.ref 0), some (.int a1)], [], sl, (RH (up1 I 24 ((I 24) + (nI 1))) w A N))) (cond (x_in ((nI 70) + a1) 369) (cond (x_in (((nI 57) * (I 24)) + a1) 456) (R d 217 (51, [some (.ref 0), some (.int (a1 + (nI 1)))], [], sl, (RH I w (up1 A 5 (upd (A 5) (((nI 57) * (I 24)) + a1).toNatClampNeg ((A 2) ((nI 70) + a1).toNatClampNeg))) N))) none) none) :=
  (R_gob [11, 51] 400 _ _ _).trans rfl
set_option maxRecDepth 100000 in
theorem m217_11 (d sl : Nat) (I : Nat → Int32) (w : Int64) (A : Nat → Nat → Int32) (N : Nat → Nat → Int64) (a1 : Int32) :
  R d 217 (11, [some (.ref 0), some (.int a1)], [], sl, (RH I w A N)) =
    cond (decide ((nI 399) ≤ a1)) (R d 217 (51, [some (.ref 0), some (.int (nI 0))], [], sl, (RH (up1 I 24 ((I 24) - (nI 1))) w A N))) (cond (x_in (a1 + (nI 57)) 456) (cond (x_in a1 456) (R d 217 (11, [some (.ref 0), some (.int (a1 + (nI 1)))], [], sl, (RH I w (up1 A 5 (upd (A 5) a1.toNatClampNeg ((A 5) (a1 + (nI 57)).toNatClampNeg))) N))) none) none) :=
  (R_gob [11, 51] 400 _ _ _).trans rfl
set_option maxRecDepth 100000 in
theorem m218_0 (d sl : Nat) (I : Nat → Int32) (w : Int64) (A : Nat → Nat → Int32) (N : Nat → Nat → Int64) (a1 : Int32) (a2 : Int32) :
  R (d + 1) 218 (0, [some (.ref 0), some (.int a1), some (.int a2)], [], sl, (RH I w A N)) =
    bC (C d 198 [.ref 0, .int a1] sl (RH I w A N)) (fun vs sl h => R (d + 1) 218 (5, [some (.ref 0), some (.int a1), some (.int a2)], vs ++ [], sl, h)) :=
  (R_gob [5] 400 _ _ _).trans rfl
set_option maxRecDepth 100000 in
theorem m218_5 (d sl : Nat) (I : Nat → Int32) (w : Int64) (A : Nat → Nat → Int32) (N : Nat → Nat → Int64) (a1 : Int32) (a2 : Int32) (b0 : Int32) :
  R (d + 1) 218 (5, [some (.ref 0), some (.int a1), some (.int a2)], [.int b0], sl, (RH I w A N)) =
    cond (!decide (b0 = (nI 0))) (cond (x_in ((nI 91) + a1) 369) (cond (!decide (((A 2) ((nI 91) + a1).toNatClampNeg) = a2)) (cond (x_in ((nI 79) + a1) 369) (cond (!decide (((A 2) ((nI 79) + a1).toNatClampNeg) = a2)) (cond (x_in ((nI 73) + a2) 369) (cond (x_in ((nI 103) + a1) 369) (cond (decide (((A 2) ((nI 103) + a1).toNatClampNeg) ≤ ((A 2) ((nI 73) + a2).toNatClampNeg))) (some (70, [some (.ref 0), some (.int a1), some (.int a2)], [.int (nI 0)], sl, (RH I w A N))) (some (70, [some (.ref 0), some (.int a1), some (.int a2)], [.int (nI 4)], sl, (RH I w A N)))) none) none) (some (70, [some (.ref 0), some (.int a1), some (.int a2)], [.int (nI 3)], sl, (RH I w A N)))) none) (some (70, [some (.ref 0), some (.int a1), some (.int a2)], [.int (nI 2)], sl, (RH I w A N)))) none) (some (9, [some (.ref 0), some (.int a1), some (.int a2)], [.int (nI 1)], sl, (RH I w A N))) :=
  (R_gob [5] 400 _ _ _).trans rfl
set_option maxRecDepth 100000 in
theorem m219_0 (d sl : Nat) (I : Nat → Int32) (w : Int64) (A : Nat → Nat → Int32) (N : Nat → Nat → Int64) (a1 : Int32) (a2 : Int32) (a3 : Int32) (a4 : Int32) :
  R (d + 1) 219 (0, [some (.ref 0), some (.int a1), some (.int a2), some (.int a3), some (.int a4)], [], sl, (RH I w A N)) =
    R (d + 1) 219 (1, [some (.ref 0), some (.int a1), some (.int a2), some (.int a3), some (.int a4)], [.int a1], sl, (RH I w A N)) :=
  (R_gob [1, 37, 130, 136, 150, 158] 400 _ _ _).trans rfl
set_option maxRecDepth 100000 in
theorem m219_1_out (d sl : Nat) (I : Nat → Int32) (w : Int64) (A : Nat → Nat → Int32) (N : Nat → Nat → Int64) (a1 : Int32) (a2 : Int32) (a3 : Int32) (a4 : Int32) (x : Int32) (hx : (decide (x.toInt < (0)) || decide ((3) < x.toInt)) = true) :
  R (d + 1) 219 (1, [some (.ref 0), some (.int a1), some (.int a2), some (.int a3), some (.int a4)], .int x :: [], sl, (RH I w A N)) = R (d + 1) 219 (145, [some (.ref 0), some (.int a1), some (.int a2), some (.int a3), some (.int a4)], [], sl, (RH I w A N)) :=
  (R_tsw (show xk 219 1 = (.tableswitch 144 0 3 #[31, 87, 123, 130], 32, [], 0) by decide +kernel)).trans (congrArg (fun q => R (d + 1) 219 (q, [some (.ref 0), some (.int a1), some (.int a2), some (.int a3), some (.int a4)], [], sl, (RH I w A N))) ((x_tsw_out hx).trans (by decide +kernel)))
set_option maxRecDepth 100000 in
theorem m219_1_c0 (d sl : Nat) (I : Nat → Int32) (w : Int64) (A : Nat → Nat → Int32) (N : Nat → Nat → Int64) (a1 : Int32) (a2 : Int32) (a3 : Int32) (a4 : Int32)  :
  R (d + 1) 219 (1, [some (.ref 0), some (.int a1), some (.int a2), some (.int a3), some (.int a4)], .int (nI 0) :: [], sl, (RH I w A N)) = R (d + 1) 219 (32, [some (.ref 0), some (.int a1), some (.int a2), some (.int a3), some (.int a4)], [], sl, (RH I w A N)) :=
  (R_tsw (show xk 219 1 = (.tableswitch 144 0 3 #[31, 87, 123, 130], 32, [], 0) by decide +kernel)).trans (congrArg (fun q => R (d + 1) 219 (q, [some (.ref 0), some (.int a1), some (.int a2), some (.int a3), some (.int a4)], [], sl, (RH I w A N))) (by decide +kernel))
set_option maxRecDepth 100000 in
theorem m219_1_c1 (d sl : Nat) (I : Nat → Int32) (w : Int64) (A : Nat → Nat → Int32) (N : Nat → Nat → Int64) (a1 : Int32) (a2 : Int32) (a3 : Int32) (a4 : Int32)  :
  R (d + 1) 219 (1, [some (.ref 0), some (.int a1), some (.int a2), some (.int a3), some (.int a4)], .int (nI 1) :: [], sl, (RH I w A N)) = R (d + 1) 219 (88, [some (.ref 0), some (.int a1), some (.int a2), some (.int a3), some (.int a4)], [], sl, (RH I w A N)) :=
  (R_tsw (show xk 219 1 = (.tableswitch 144 0 3 #[31, 87, 123, 130], 32, [], 0) by decide +kernel)).trans (congrArg (fun q => R (d + 1) 219 (q, [some (.ref 0), some (.int a1), some (.int a2), some (.int a3), some (.int a4)], [], sl, (RH I w A N))) (by decide +kernel))
set_option maxRecDepth 100000 in
theorem m219_1_c2 (d sl : Nat) (I : Nat → Int32) (w : Int64) (A : Nat → Nat → Int32) (N : Nat → Nat → Int64) (a1 : Int32) (a2 : Int32) (a3 : Int32) (a4 : Int32)  :
  R (d + 1) 219 (1, [some (.ref 0), some (.int a1), some (.int a2), some (.int a3), some (.int a4)], .int (nI 2) :: [], sl, (RH I w A N)) = R (d + 1) 219 (124, [some (.ref 0), some (.int a1), some (.int a2), some (.int a3), some (.int a4)], [], sl, (RH I w A N)) :=
  (R_tsw (show xk 219 1 = (.tableswitch 144 0 3 #[31, 87, 123, 130], 32, [], 0) by decide +kernel)).trans (congrArg (fun q => R (d + 1) 219 (q, [some (.ref 0), some (.int a1), some (.int a2), some (.int a3), some (.int a4)], [], sl, (RH I w A N))) (by decide +kernel))
set_option maxRecDepth 100000 in
theorem m219_1_c3 (d sl : Nat) (I : Nat → Int32) (w : Int64) (A : Nat → Nat → Int32) (N : Nat → Nat → Int64) (a1 : Int32) (a2 : Int32) (a3 : Int32) (a4 : Int32)  :
  R (d + 1) 219 (1, [some (.ref 0), some (.int a1), some (.int a2), some (.int a3), some (.int a4)], .int (nI 3) :: [], sl, (RH I w A N)) = R (d + 1) 219 (131, [some (.ref 0), some (.int a1), some (.int a2), some (.int a3), some (.int a4)], [], sl, (RH I w A N)) :=
  (R_tsw (show xk 219 1 = (.tableswitch 144 0 3 #[31, 87, 123, 130], 32, [], 0) by decide +kernel)).trans (congrArg (fun q => R (d + 1) 219 (q, [some (.ref 0), some (.int a1), some (.int a2), some (.int a3), some (.int a4)], [], sl, (RH I w A N))) (by decide +kernel))
set_option maxRecDepth 100000 in
theorem m219_145 (d sl : Nat) (I : Nat → Int32) (w : Int64) (A : Nat → Nat → Int32) (N : Nat → Nat → Int64) (a1 : Int32) (a2 : Int32) (a3 : Int32) (a4 : Int32) :
  R (d + 1) 219 (145, [some (.ref 0), some (.int a1), some (.int a2), some (.int a3), some (.int a4)], [], sl, (RH I w A N)) =
    bC (C d 198 [.ref 0, .int a2] sl (RH I w A N)) (fun vs sl h => R (d + 1) 219 (150, [some (.ref 0), some (.int a1), some (.int a2), some (.int a3), some (.int a4)], vs ++ [], sl, h)) :=
  (R_gob [1, 32, 37, 88, 124, 130, 131, 136, 145, 150, 158] 400 _ _ _).trans rfl
set_option maxRecDepth 100000 in
theorem m219_32 (d sl : Nat) (I : Nat → Int32) (w : Int64) (A : Nat → Nat → Int32) (N : Nat → Nat → Int64) (a1 : Int32) (a2 : Int32) (a3 : Int32) (a4 : Int32) :
  R (d + 1) 219 (32, [some (.ref 0), some (.int a1), some (.int a2), some (.int a3), some (.int a4)], [], sl, (RH I w A N)) =
    bC (C d 198 [.ref 0, .int a2] sl (RH I w A N)) (fun vs sl h => R (d + 1) 219 (37, [some (.ref 0), some (.int a1), some (.int a2), some (.int a3), some (.int a4)], vs ++ [], sl, h)) :=
  (R_gob [1, 32, 37, 88, 124, 130, 131, 136, 145, 150, 158] 400 _ _ _).trans rfl
set_option maxRecDepth 100000 in
theorem m219_88 (d sl : Nat) (I : Nat → Int32) (w : Int64) (A : Nat → Nat → Int32) (N : Nat → Nat → Int64) (a1 : Int32) (a2 : Int32) (a3 : Int32) (a4 : Int32) :
  R (d + 1) 219 (88, [some (.ref 0), some (.int a1), some (.int a2), some (.int a3), some (.int a4)], [], sl, (RH I w A N)) =
    cond (!decide (((A 2) 72) = (nI 12))) (cond (x_in ((nI 73) + a3) 369) (cond (decide (a4 ≤ ((A 2) ((nI 73) + a3).toNatClampNeg))) (some (123, [some (.ref 0), some (.int a1), some (.int a2), some (.int a3), some (.int a4)], [.int (nI 0)], sl, (RH I w A N))) (some (123, [some (.ref 0), some (.int a1), some (.int a2), some (.int a3), some (.int a4)], [.int (nI 2)], sl, (RH I w A N)))) none) (some (123, [some (.ref 0), some (.int a1), some (.int a2), some (.int a3), some (.int a4)], [.int (nI 1)], sl, (RH I w A N))) :=
  (R_gob [1, 32, 37, 88, 124, 130, 131, 136, 145, 150, 158] 400 _ _ _).trans rfl
set_option maxRecDepth 100000 in
theorem m219_124 (d sl : Nat) (I : Nat → Int32) (w : Int64) (A : Nat → Nat → Int32) (N : Nat → Nat → Int64) (a1 : Int32) (a2 : Int32) (a3 : Int32) (a4 : Int32) :
  R (d + 1) 219 (124, [some (.ref 0), some (.int a1), some (.int a2), some (.int a3), some (.int a4)], [], sl, (RH I w A N)) =
    bC (C d 218 [.ref 0, .int a2, .int a3] sl (RH I w A N)) (fun vs sl h => R (d + 1) 219 (130, [some (.ref 0), some (.int a1), some (.int a2), some (.int a3), some (.int a4)], vs ++ [], sl, h)) :=
  (R_gob [1, 32, 37, 88, 124, 130, 131, 136, 145, 150, 158] 400 _ _ _).trans rfl
set_option maxRecDepth 100000 in
theorem m219_131 (d sl : Nat) (I : Nat → Int32) (w : Int64) (A : Nat → Nat → Int32) (N : Nat → Nat → Int64) (a1 : Int32) (a2 : Int32) (a3 : Int32) (a4 : Int32) :
  R (d + 1) 219 (131, [some (.ref 0), some (.int a1), some (.int a2), some (.int a3), some (.int a4)], [], sl, (RH I w A N)) =
    bC (C d 198 [.ref 0, .int a2] sl (RH I w A N)) (fun vs sl h => R (d + 1) 219 (136, [some (.ref 0), some (.int a1), some (.int a2), some (.int a3), some (.int a4)], vs ++ [], sl, h)) :=
  (R_gob [1, 32, 37, 88, 124, 130, 131, 136, 145, 150, 158] 400 _ _ _).trans rfl
set_option maxRecDepth 100000 in
theorem m219_150 (d sl : Nat) (I : Nat → Int32) (w : Int64) (A : Nat → Nat → Int32) (N : Nat → Nat → Int64) (a1 : Int32) (a2 : Int32) (a3 : Int32) (a4 : Int32) (b0 : Int32) :
  R (d + 1) 219 (150, [some (.ref 0), some (.int a1), some (.int a2), some (.int a3), some (.int a4)], [.int b0], sl, (RH I w A N)) =
    cond (decide (b0 = (nI 0))) (some (212, [some (.ref 0), some (.int a1), some (.int a2), some (.int a3), some (.int a4)], [.int (nI 1)], sl, (RH I w A N))) (bC (C d 198 [.ref 0, .int a3] sl (RH I w A N)) (fun vs sl h => R (d + 1) 219 (158, [some (.ref 0), some (.int a1), some (.int a2), some (.int a3), some (.int a4)], vs ++ [], sl, h))) :=
  (R_gob [1, 32, 37, 88, 124, 130, 131, 136, 145, 150, 158] 400 _ _ _).trans rfl
set_option maxRecDepth 100000 in
theorem m219_37 (d sl : Nat) (I : Nat → Int32) (w : Int64) (A : Nat → Nat → Int32) (N : Nat → Nat → Int64) (a1 : Int32) (a2 : Int32) (a3 : Int32) (a4 : Int32) (b0 : Int32) :
  R (d + 1) 219 (37, [some (.ref 0), some (.int a1), some (.int a2), some (.int a3), some (.int a4)], [.int b0], sl, (RH I w A N)) =
    cond (!decide (b0 = (nI 0))) (cond (x_in ((nI 103) + a2) 369) (cond (decide (a3 ≤ ((A 2) ((nI 103) + a2).toNatClampNeg))) (cond (x_in ((nI 79) + a2) 369) (cond (x_in ((nI 73) + ((A 2) ((nI 79) + a2).toNatClampNeg)) 369) (cond (decide (a3 ≤ ((A 2) ((nI 73) + ((A 2) ((nI 79) + a2).toNatClampNeg)).toNatClampNeg))) (some (87, [some (.ref 0), some (.int a1), some (.int a2), some (.int a3), some (.int a4)], [.int (nI 0)], sl, (RH I w A N))) (some (87, [some (.ref 0), some (.int a1), some (.int a2), some (.int a3), some (.int a4)], [.int (nI 3)], sl, (RH I w A N)))) none) none) (some (87, [some (.ref 0), some (.int a1), some (.int a2), some (.int a3), some (.int a4)], [.int (nI 2)], sl, (RH I w A N)))) none) (some (87, [some (.ref 0), some (.int a1), some (.int a2), some (.int a3), some (.int a4)], [.int (nI 1)], sl, (RH I w A N))) :=
  (R_gob [1, 32, 37, 88, 124, 130, 131, 136, 145, 150, 158] 400 _ _ _).trans rfl
set_option maxRecDepth 100000 in
theorem m219_130 (d sl : Nat) (I : Nat → Int32) (w : Int64) (A : Nat → Nat → Int32) (N : Nat → Nat → Int64) (a1 : Int32) (a2 : Int32) (a3 : Int32) (a4 : Int32) (b0 : Int32) :
  R (d + 1) 219 (130, [some (.ref 0), some (.int a1), some (.int a2), some (.int a3), some (.int a4)], [.int b0], sl, (RH I w A N)) =
    some (130, [some (.ref 0), some (.int a1), some (.int a2), some (.int a3), some (.int a4)], [.int b0], sl, (RH I w A N)) :=
  (R_gob [1, 32, 37, 88, 124, 130, 131, 136, 145, 150, 158] 400 _ _ _).trans rfl
set_option maxRecDepth 100000 in
theorem m219_136 (d sl : Nat) (I : Nat → Int32) (w : Int64) (A : Nat → Nat → Int32) (N : Nat → Nat → Int64) (a1 : Int32) (a2 : Int32) (a3 : Int32) (a4 : Int32) (b0 : Int32) :
  R (d + 1) 219 (136, [some (.ref 0), some (.int a1), some (.int a2), some (.int a3), some (.int a4)], [.int b0], sl, (RH I w A N)) =
    cond (decide (b0 = (nI 0))) (some (144, [some (.ref 0), some (.int a1), some (.int a2), some (.int a3), some (.int a4)], [.int (nI 1)], sl, (RH I w A N))) (some (144, [some (.ref 0), some (.int a1), some (.int a2), some (.int a3), some (.int a4)], [.int (nI 0)], sl, (RH I w A N))) :=
  (R_gob [1, 32, 37, 88, 124, 130, 131, 136, 145, 150, 158] 400 _ _ _).trans rfl
set_option maxRecDepth 100000 in
theorem m219_158 (d sl : Nat) (I : Nat → Int32) (w : Int64) (A : Nat → Nat → Int32) (N : Nat → Nat → Int64) (a1 : Int32) (a2 : Int32) (a3 : Int32) (a4 : Int32) (b0 : Int32) :
  R (d + 1) 219 (158, [some (.ref 0), some (.int a1), some (.int a2), some (.int a3), some (.int a4)], [.int b0], sl, (RH I w A N)) =
    cond (!decide (b0 = (nI 0))) (cond (x_in ((nI 79) + a2) 369) (cond (x_in ((nI 91) + a3) 369) (cond (!decide (((A 2) ((nI 79) + a2).toNatClampNeg) = ((A 2) ((nI 91) + a3).toNatClampNeg))) (some (212, [some (.ref 0), some (.int a1), some (.int a2), some (.int a3), some (.int a4)], [.int (nI 2)], sl, (RH I w A N))) (cond (x_in ((nI 91) + a2) 369) (cond (x_in ((nI 79) + a3) 369) (cond (!decide (((A 2) ((nI 91) + a2).toNatClampNeg) = ((A 2) ((nI 79) + a3).toNatClampNeg))) (some (212, [some (.ref 0), some (.int a1), some (.int a2), some (.int a3), some (.int a4)], [.int (nI 2)], sl, (RH I w A N))) (some (212, [some (.ref 0), some (.int a1), some (.int a2), some (.int a3), some (.int a4)], [.int (nI 0)], sl, (RH I w A N)))) none) none)) none) none) (some (212, [some (.ref 0), some (.int a1), some (.int a2), some (.int a3), some (.int a4)], [.int (nI 1)], sl, (RH I w A N))) :=
  (R_gob [1, 32, 37, 88, 124, 130, 131, 136, 145, 150, 158] 400 _ _ _).trans rfl
set_option maxRecDepth 100000 in
theorem m220_0 (d sl : Nat) (I : Nat → Int32) (w : Int64) (A : Nat → Nat → Int32) (N : Nat → Nat → Int64) (a1 : Int32) (a2 : Int32) (a3 : Int32) :
  R d 220 (0, [some (.ref 0), some (.int a1), some (.int a2), some (.int a3)], [], sl, (RH I w A N)) =
    cond (x_in ((nI 73) + a1) 369) (cond (x_in ((nI 73) + a1) 369) (cond (x_in ((nI 73) + a2) 369) (cond (x_in ((nI 73) + a2) 369) (some (26, [some (.ref 0), some (.int a1), some (.int a2), some (.int a3)], [], sl, (RH I w (up1 A 2 (upd (upd (A 2) ((nI 73) + a1).toNatClampNeg (((A 2) ((nI 73) + a1).toNatClampNeg) - a3)) ((nI 73) + a2).toNatClampNeg (((upd (A 2) ((nI 73) + a1).toNatClampNeg (((A 2) ((nI 73) + a1).toNatClampNeg) - a3)) ((nI 73) + a2).toNatClampNeg) + a3))) N))) none) none) none) none :=
  (R_gob [] 400 _ _ _).trans rfl
set_option maxRecDepth 100000 in
theorem m221_0 (d sl : Nat) (I : Nat → Int32) (w : Int64) (A : Nat → Nat → Int32) (N : Nat → Nat → Int64) (a1 : Int32) (a2 : Int32) (a3 : Int32) (a4 : Int32) :
  R (d + 1) 221 (0, [some (.ref 0), some (.int a1), some (.int a2), some (.int a3), some (.int a4), none], [], sl, (RH I w A N)) =
    R (d + 1) 221 (1, [some (.ref 0), some (.int a1), some (.int a2), some (.int a3), some (.int a4), none], [.int a1], sl, (RH I w A N)) :=
  (R_gob [1, 55, 97, 177, 220] 400 _ _ _).trans rfl
set_option maxRecDepth 100000 in
theorem m221_1_out (d sl : Nat) (I : Nat → Int32) (w : Int64) (A : Nat → Nat → Int32) (N : Nat → Nat → Int64) (a1 : Int32) (a2 : Int32) (a3 : Int32) (a4 : Int32) (x : Int32) (hx : (decide (x.toInt < (0)) || decide ((3) < x.toInt)) = true) :
  R (d + 1) 221 (1, [some (.ref 0), some (.int a1), some (.int a2), some (.int a3), some (.int a4), none], .int x :: [], sl, (RH I w A N)) = R (d + 1) 221 (199, [some (.ref 0), some (.int a1), some (.int a2), some (.int a3), some (.int a4), none], [], sl, (RH I w A N)) :=
  (R_tsw (show xk 221 1 = (.tableswitch 198 0 3 #[31, 79, 153, 187], 32, [], 0) by decide +kernel)).trans (congrArg (fun q => R (d + 1) 221 (q, [some (.ref 0), some (.int a1), some (.int a2), some (.int a3), some (.int a4), none], [], sl, (RH I w A N))) ((x_tsw_out hx).trans (by decide +kernel)))
set_option maxRecDepth 100000 in
theorem m221_1_c0 (d sl : Nat) (I : Nat → Int32) (w : Int64) (A : Nat → Nat → Int32) (N : Nat → Nat → Int64) (a1 : Int32) (a2 : Int32) (a3 : Int32) (a4 : Int32)  :
  R (d + 1) 221 (1, [some (.ref 0), some (.int a1), some (.int a2), some (.int a3), some (.int a4), none], .int (nI 0) :: [], sl, (RH I w A N)) = R (d + 1) 221 (32, [some (.ref 0), some (.int a1), some (.int a2), some (.int a3), some (.int a4), none], [], sl, (RH I w A N)) :=
  (R_tsw (show xk 221 1 = (.tableswitch 198 0 3 #[31, 79, 153, 187], 32, [], 0) by decide +kernel)).trans (congrArg (fun q => R (d + 1) 221 (q, [some (.ref 0), some (.int a1), some (.int a2), some (.int a3), some (.int a4), none], [], sl, (RH I w A N))) (by decide +kernel))
set_option maxRecDepth 100000 in
theorem m221_1_c1 (d sl : Nat) (I : Nat → Int32) (w : Int64) (A : Nat → Nat → Int32) (N : Nat → Nat → Int64) (a1 : Int32) (a2 : Int32) (a3 : Int32) (a4 : Int32)  :
  R (d + 1) 221 (1, [some (.ref 0), some (.int a1), some (.int a2), some (.int a3), some (.int a4), none], .int (nI 1) :: [], sl, (RH I w A N)) = R (d + 1) 221 (80, [some (.ref 0), some (.int a1), some (.int a2), some (.int a3), some (.int a4), none], [], sl, (RH I w A N)) :=
  (R_tsw (show xk 221 1 = (.tableswitch 198 0 3 #[31, 79, 153, 187], 32, [], 0) by decide +kernel)).trans (congrArg (fun q => R (d + 1) 221 (q, [some (.ref 0), some (.int a1), some (.int a2), some (.int a3), some (.int a4), none], [], sl, (RH I w A N))) (by decide +kernel))
set_option maxRecDepth 100000 in
theorem m221_1_c2 (d sl : Nat) (I : Nat → Int32) (w : Int64) (A : Nat → Nat → Int32) (N : Nat → Nat → Int64) (a1 : Int32) (a2 : Int32) (a3 : Int32) (a4 : Int32)  :
  R (d + 1) 221 (1, [some (.ref 0), some (.int a1), some (.int a2), some (.int a3), some (.int a4), none], .int (nI 2) :: [], sl, (RH I w A N)) = R (d + 1) 221 (154, [some (.ref 0), some (.int a1), some (.int a2), some (.int a3), some (.int a4), none], [], sl, (RH I w A N)) :=
  (R_tsw (show xk 221 1 = (.tableswitch 198 0 3 #[31, 79, 153, 187], 32, [], 0) by decide +kernel)).trans (congrArg (fun q => R (d + 1) 221 (q, [some (.ref 0), some (.int a1), some (.int a2), some (.int a3), some (.int a4), none], [], sl, (RH I w A N))) (by decide +kernel))
set_option maxRecDepth 100000 in
theorem m221_1_c3 (d sl : Nat) (I : Nat → Int32) (w : Int64) (A : Nat → Nat → Int32) (N : Nat → Nat → Int64) (a1 : Int32) (a2 : Int32) (a3 : Int32) (a4 : Int32)  :
  R (d + 1) 221 (1, [some (.ref 0), some (.int a1), some (.int a2), some (.int a3), some (.int a4), none], .int (nI 3) :: [], sl, (RH I w A N)) = R (d + 1) 221 (188, [some (.ref 0), some (.int a1), some (.int a2), some (.int a3), some (.int a4), none], [], sl, (RH I w A N)) :=
  (R_tsw (show xk 221 1 = (.tableswitch 198 0 3 #[31, 79, 153, 187], 32, [], 0) by decide +kernel)).trans (congrArg (fun q => R (d + 1) 221 (q, [some (.ref 0), some (.int a1), some (.int a2), some (.int a3), some (.int a4), none], [], sl, (RH I w A N))) (by decide +kernel))
set_option maxRecDepth 100000 in
theorem m221_199 (d sl : Nat) (I : Nat → Int32) (w : Int64) (A : Nat → Nat → Int32) (N : Nat → Nat → Int64) (a1 : Int32) (a2 : Int32) (a3 : Int32) (a4 : Int32) :
  R (d + 1) 221 (199, [some (.ref 0), some (.int a1), some (.int a2), some (.int a3), some (.int a4), none], [], sl, (RH I w A N)) =
    cond (x_in ((nI 103) + a2) 369) (cond (x_in ((nI 103) + a3) 369) (bC (C d 169 [.int ((A 2) ((nI 103) + a2).toNatClampNeg), .int ((A 2) ((nI 103) + a3).toNatClampNeg)] sl (RH I w A N)) (fun vs sl h => R (d + 1) 221 (220, [some (.ref 0), some (.int a1), some (.int a2), some (.int a3), some (.int a4), none], vs ++ [], sl, h))) none) none :=
  (R_gob [1, 32, 55, 80, 97, 154, 177, 188, 199, 220] 400 _ _ _).trans rfl
set_option maxRecDepth 100000 in
theorem m221_32 (d sl : Nat) (I : Nat → Int32) (w : Int64) (A : Nat → Nat → Int32) (N : Nat → Nat → Int64) (a1 : Int32) (a2 : Int32) (a3 : Int32) (a4 : Int32) :
  R (d + 1) 221 (32, [some (.ref 0), some (.int a1), some (.int a2), some (.int a3), some (.int a4), none], [], sl, (RH I w A N)) =
    cond (x_in ((nI 79) + a2) 369) (cond (x_in ((nI 91) + a2) 369) (bC (C d 220 [.ref 0, .int ((A 2) ((nI 79) + a2).toNatClampNeg), .int ((A 2) ((nI 91) + a2).toNatClampNeg), .int a3] sl (RH I w A N)) (fun vs sl h => R (d + 1) 221 (55, [some (.ref 0), some (.int a1), some (.int a2), some (.int a3), some (.int a4), none], vs ++ [], sl, h))) none) none :=
  (R_gob [1, 32, 55, 80, 97, 154, 177, 188, 199, 220] 400 _ _ _).trans rfl
set_option maxRecDepth 100000 in
theorem m221_80 (d sl : Nat) (I : Nat → Int32) (w : Int64) (A : Nat → Nat → Int32) (N : Nat → Nat → Int64) (a1 : Int32) (a2 : Int32) (a3 : Int32) (a4 : Int32) :
  R (d + 1) 221 (80, [some (.ref 0), some (.int a1), some (.int a2), some (.int a3), some (.int a4), none], [], sl, (RH I w A N)) =
    bC (C d 220 [.ref 0, .int a3, .int a2, .int a4] sl (RH I w A N)) (fun vs sl h => R (d + 1) 221 (97, [some (.ref 0), some (.int a1), some (.int a2), some (.int a3), some (.int a4), some (.int ((A 2) 72))], vs ++ [], sl, h)) :=
  (R_gob [1, 32, 55, 80, 97, 154, 177, 188, 199, 220] 400 _ _ _).trans rfl
set_option maxRecDepth 100000 in
theorem m221_154 (d sl : Nat) (I : Nat → Int32) (w : Int64) (A : Nat → Nat → Int32) (N : Nat → Nat → Int64) (a1 : Int32) (a2 : Int32) (a3 : Int32) (a4 : Int32) :
  R (d + 1) 221 (154, [some (.ref 0), some (.int a1), some (.int a2), some (.int a3), some (.int a4), none], [], sl, (RH I w A N)) =
    cond (x_in ((nI 91) + a2) 369) (cond (x_in ((nI 103) + a2) 369) (bC (C d 220 [.ref 0, .int a3, .int ((A 2) ((nI 91) + a2).toNatClampNeg), .int ((A 2) ((nI 103) + a2).toNatClampNeg)] sl (RH I w A N)) (fun vs sl h => R (d + 1) 221 (177, [some (.ref 0), some (.int a1), some (.int a2), some (.int a3), some (.int a4), none], vs ++ [], sl, h))) none) none :=
  (R_gob [1, 32, 55, 80, 97, 154, 177, 188, 199, 220] 400 _ _ _).trans rfl
set_option maxRecDepth 100000 in
theorem m221_188 (d sl : Nat) (I : Nat → Int32) (w : Int64) (A : Nat → Nat → Int32) (N : Nat → Nat → Int64) (a1 : Int32) (a2 : Int32) (a3 : Int32) (a4 : Int32) :
  R (d + 1) 221 (188, [some (.ref 0), some (.int a1), some (.int a2), some (.int a3), some (.int a4), none], [], sl, (RH I w A N)) =
    cond (x_in ((nI 103) + a2) 369) (some (198, [some (.ref 0), some (.int a1), some (.int a2), some (.int a3), some (.int a4), none], [], sl, (RH I w (up1 A 2 (upd (A 2) ((nI 103) + a2).toNatClampNeg (nI 0))) N))) none :=
  (R_gob [1, 32, 55, 80, 97, 154, 177, 188, 199, 220] 400 _ _ _).trans rfl
set_option maxRecDepth 100000 in
theorem m221_220 (d sl : Nat) (I : Nat → Int32) (w : Int64) (A : Nat → Nat → Int32) (N : Nat → Nat → Int64) (a1 : Int32) (a2 : Int32) (a3 : Int32) (a4 : Int32) (b0 : Int32) :
  R (d + 1) 221 (220, [some (.ref 0), some (.int a1), some (.int a2), some (.int a3), some (.int a4), none], [.int b0], sl, (RH I w A N)) =
    cond (x_in ((nI 103) + a2) 369) (cond (x_in ((nI 103) + a2) 369) (cond (x_in ((nI 103) + a3) 369) (cond (x_in ((nI 103) + a3) 369) (some (250, [some (.ref 0), some (.int a1), some (.int a2), some (.int a3), some (.int a4), some (.int b0)], [], sl, (RH I w (up1 A 2 (upd (upd (A 2) ((nI 103) + a2).toNatClampNeg (((A 2) ((nI 103) + a2).toNatClampNeg) - b0)) ((nI 103) + a3).toNatClampNeg (((upd (A 2) ((nI 103) + a2).toNatClampNeg (((A 2) ((nI 103) + a2).toNatClampNeg) - b0)) ((nI 103) + a3).toNatClampNeg) - b0))) N))) none) none) none) none :=
  (R_gob [1, 32, 55, 80, 97, 154, 177, 188, 199, 220] 400 _ _ _).trans rfl
set_option maxRecDepth 100000 in
theorem m221_55 (d sl : Nat) (I : Nat → Int32) (w : Int64) (A : Nat → Nat → Int32) (N : Nat → Nat → Int64) (a1 : Int32) (a2 : Int32) (a3 : Int32) (a4 : Int32) :
  R (d + 1) 221 (55, [some (.ref 0), some (.int a1), some (.int a2), some (.int a3), some (.int a4), none], [], sl, (RH I w A N)) =
    cond (x_in ((nI 103) + a2) 369) (cond (x_in ((nI 103) + a2) 369) (some (79, [some (.ref 0), some (.int a1), some (.int a2), some (.int a3), some (.int a4), none], [], sl, (RH I w (up1 A 2 (upd (upd (A 2) ((nI 103) + a2).toNatClampNeg (((A 2) ((nI 103) + a2).toNatClampNeg) - a3)) 71 (((upd (A 2) ((nI 103) + a2).toNatClampNeg (((A 2) ((nI 103) + a2).toNatClampNeg) - a3)) 71) + a3))) N))) none) none :=
  (R_gob [1, 32, 55, 80, 97, 154, 177, 188, 199, 220] 400 _ _ _).trans rfl
set_option maxRecDepth 100000 in
theorem m221_97 (d sl : Nat) (I : Nat → Int32) (w : Int64) (A : Nat → Nat → Int32) (N : Nat → Nat → Int64) (a1 : Int32) (a2 : Int32) (a3 : Int32) (a4 : Int32) (a5 : Int32) :
  R (d + 1) 221 (97, [some (.ref 0), some (.int a1), some (.int a2), some (.int a3), some (.int a4), some (.int a5)], [], sl, (RH I w A N)) =
    cond (x_in ((nI 79) + a5) 369) (cond (x_in ((nI 91) + a5) 369) (cond (x_in ((nI 103) + a5) 369) (cond (x_in ((nI 115) + a5) 369) (some (153, [some (.ref 0), some (.int a1), some (.int a2), some (.int a3), some (.int a4), some (.int a5)], [], sl, (RH I w (up1 A 2 (upd (upd (upd (upd (upd (A 2) ((nI 79) + a5).toNatClampNeg a2) ((nI 91) + a5).toNatClampNeg a3) ((nI 103) + a5).toNatClampNeg a4) ((nI 115) + a5).toNatClampNeg (nI 0)) 72 (((upd (upd (upd (upd (A 2) ((nI 79) + a5).toNatClampNeg a2) ((nI 91) + a5).toNatClampNeg a3) ((nI 103) + a5).toNatClampNeg a4) ((nI 115) + a5).toNatClampNeg (nI 0)) 72) + (nI 1)))) N))) none) none) none) none :=
  (R_gob [1, 32, 55, 80, 97, 154, 177, 188, 199, 220] 400 _ _ _).trans rfl
set_option maxRecDepth 100000 in
theorem m221_177 (d sl : Nat) (I : Nat → Int32) (w : Int64) (A : Nat → Nat → Int32) (N : Nat → Nat → Int64) (a1 : Int32) (a2 : Int32) (a3 : Int32) (a4 : Int32) :
  R (d + 1) 221 (177, [some (.ref 0), some (.int a1), some (.int a2), some (.int a3), some (.int a4), none], [], sl, (RH I w A N)) =
    cond (x_in ((nI 91) + a2) 369) (some (187, [some (.ref 0), some (.int a1), some (.int a2), some (.int a3), some (.int a4), none], [], sl, (RH I w (up1 A 2 (upd (A 2) ((nI 91) + a2).toNatClampNeg a3)) N))) none :=
  (R_gob [1, 32, 55, 80, 97, 154, 177, 188, 199, 220] 400 _ _ _).trans rfl
set_option maxRecDepth 100000 in
theorem m222_0 (d sl : Nat) (I : Nat → Int32) (w : Int64) (A : Nat → Nat → Int32) (N : Nat → Nat → Int64) (a1 : Int32) (a2 : Int32) (a3 : Int32) (a4 : Int32) (a5 : Int32) :
  R (d + 1) 222 (0, [some (.ref 0), some (.int a1), some (.int a2), some (.int a3), some (.int a4), some (.int a5), none], [], sl, (RH I w A N)) =
    cond (!decide (a5 = (nI 0))) (bC (C d 219 [.ref 0, .int a1, .int a2, .int a3, .int a4] sl (RH I w A N)) (fun vs sl h => R (d + 1) 222 (16, [some (.ref 0), some (.int a1), some (.int a2), some (.int a3), some (.int a4), some (.int a5), none], vs ++ [], sl, h))) (some (6, [some (.ref 0), some (.int a1), some (.int a2), some (.int a3), some (.int a4), some (.int a5), none], [.int (-1 : Int32)], sl, (RH I w A N))) :=
  (R_gob [16, 30, 39] 400 _ _ _).trans rfl
set_option maxRecDepth 100000 in
theorem m222_16 (d sl : Nat) (I : Nat → Int32) (w : Int64) (A : Nat → Nat → Int32) (N : Nat → Nat → Int64) (a1 : Int32) (a2 : Int32) (a3 : Int32) (a4 : Int32) (a5 : Int32) (b0 : Int32) :
  R (d + 1) 222 (16, [some (.ref 0), some (.int a1), some (.int a2), some (.int a3), some (.int a4), some (.int a5), none], [.int b0], sl, (RH I w A N)) =
    cond (decide (b0 = (nI 0))) (bC (C d 217 [.ref 0] sl (RH I w A N)) (fun vs sl h => R (d + 1) 222 (30, [some (.ref 0), some (.int a1), some (.int a2), some (.int a3), some (.int a4), some (.int a5), some (.int b0)], vs ++ [], sl, h))) (some (25, [some (.ref 0), some (.int a1), some (.int a2), some (.int a3), some (.int a4), some (.int a5), some (.int b0)], [.int b0], sl, (RH I w A N))) :=
  (R_gob [16, 30, 39] 400 _ _ _).trans rfl
set_option maxRecDepth 100000 in
theorem m222_30 (d sl : Nat) (I : Nat → Int32) (w : Int64) (A : Nat → Nat → Int32) (N : Nat → Nat → Int64) (a1 : Int32) (a2 : Int32) (a3 : Int32) (a4 : Int32) (a5 : Int32) (a6 : Int32) :
  R (d + 1) 222 (30, [some (.ref 0), some (.int a1), some (.int a2), some (.int a3), some (.int a4), some (.int a5), some (.int a6)], [], sl, (RH I w A N)) =
    bC (C d 221 [.ref 0, .int a1, .int a2, .int a3, .int a4] sl (RH I w A N)) (fun vs sl h => R (d + 1) 222 (39, [some (.ref 0), some (.int a1), some (.int a2), some (.int a3), some (.int a4), some (.int a5), some (.int a6)], vs ++ [], sl, h)) :=
  (R_gob [16, 30, 39] 400 _ _ _).trans rfl
set_option maxRecDepth 100000 in
theorem m222_39 (d sl : Nat) (I : Nat → Int32) (w : Int64) (A : Nat → Nat → Int32) (N : Nat → Nat → Int64) (a1 : Int32) (a2 : Int32) (a3 : Int32) (a4 : Int32) (a5 : Int32) (a6 : Int32) :
  R (d + 1) 222 (39, [some (.ref 0), some (.int a1), some (.int a2), some (.int a3), some (.int a4), some (.int a5), some (.int a6)], [], sl, (RH I w A N)) =
    some (40, [some (.ref 0), some (.int a1), some (.int a2), some (.int a3), some (.int a4), some (.int a5), some (.int a6)], [.int (nI 0)], sl, (RH I w A N)) :=
  (R_gob [16, 30, 39] 400 _ _ _).trans rfl
set_option maxRecDepth 100000 in
theorem m223_0 (d sl : Nat) (I : Nat → Int32) (w : Int64) (A : Nat → Nat → Int32) (N : Nat → Nat → Int64) (a1 : Int32) (a2 : Int32) :
  R (d + 1) 223 (0, [some (.ref 0), some (.int a1), some (.int a2)], [], sl, (RH I w A N)) =
    bC (C d 197 [.ref 0, .int a1] sl (RH (up1 I 0 (nI 0)) w A N)) (fun vs sl h => R (d + 1) 223 (15, [some (.ref 0), some (.int a1), some (.int a2)], vs ++ [.int (nI 0), .int a2, .int a1, .int (nI 0), .ref 0], sl, h)) :=
  (R_gob [15, 26, 37] 400 _ _ _).trans rfl
set_option maxRecDepth 100000 in
theorem m223_15 (d sl : Nat) (I : Nat → Int32) (w : Int64) (A : Nat → Nat → Int32) (N : Nat → Nat → Int64) (a1 : Int32) (a2 : Int32) (b0 : Int32) (b1 : Int32) (b2 : Int32) (b3 : Int32) (b4 : Int32) :
  R (d + 1) 223 (15, [some (.ref 0), some (.int a1), some (.int a2)], [.int b0, .int b1, .int b2, .int b3, .int b4, .ref 0], sl, (RH I w A N)) =
    cond (decide (b0 = (nI 0))) (bC (C d 222 [.ref 0, .int b4, .int b3, .int b2, .int b1, .int (nI 0)] sl (RH I w A N)) (fun vs sl h => R (d + 1) 223 (37, [some (.ref 0), some (.int a1), some (.int a2)], vs ++ [], sl, h))) (bC (C d 166 [.int a2, .int (nI 1), .int (nI 999)] sl (RH I w A N)) (fun vs sl h => R (d + 1) 223 (26, [some (.ref 0), some (.int a1), some (.int a2)], vs ++ [.int b1, .int b2, .int b3, .int b4, .ref 0], sl, h))) :=
  (R_gob [15, 26, 37] 400 _ _ _).trans rfl
set_option maxRecDepth 100000 in
theorem m223_37 (d sl : Nat) (I : Nat → Int32) (w : Int64) (A : Nat → Nat → Int32) (N : Nat → Nat → Int64) (a1 : Int32) (a2 : Int32) (b0 : Int32) :
  R (d + 1) 223 (37, [some (.ref 0), some (.int a1), some (.int a2)], [.int b0], sl, (RH I w A N)) =
    some (37, [some (.ref 0), some (.int a1), some (.int a2)], [.int b0], sl, (RH I w A N)) :=
  (R_gob [15, 26, 37] 400 _ _ _).trans rfl
set_option maxRecDepth 100000 in
theorem m223_26 (d sl : Nat) (I : Nat → Int32) (w : Int64) (A : Nat → Nat → Int32) (N : Nat → Nat → Int64) (a1 : Int32) (a2 : Int32) (b0 : Int32) (b1 : Int32) (b2 : Int32) (b3 : Int32) (b4 : Int32) :
  R (d + 1) 223 (26, [some (.ref 0), some (.int a1), some (.int a2)], [.int b0, .int b1, .int b2, .int b3, .int b4, .ref 0], sl, (RH I w A N)) =
    cond (decide (b0 = (nI 0))) (bC (C d 222 [.ref 0, .int b4, .int b3, .int b2, .int b1, .int (nI 0)] sl (RH I w A N)) (fun vs sl h => R (d + 1) 223 (37, [some (.ref 0), some (.int a1), some (.int a2)], vs ++ [], sl, h))) (bC (C d 222 [.ref 0, .int b4, .int b3, .int b2, .int b1, .int (nI 1)] sl (RH I w A N)) (fun vs sl h => R (d + 1) 223 (37, [some (.ref 0), some (.int a1), some (.int a2)], vs ++ [], sl, h))) :=
  (R_gob [15, 26, 37] 400 _ _ _).trans rfl
set_option maxRecDepth 100000 in
theorem m224_0 (d sl : Nat) (I : Nat → Int32) (w : Int64) (A : Nat → Nat → Int32) (N : Nat → Nat → Int64) (a1 : Int32) (a2 : Int32) (a3 : Int32) :
  R (d + 1) 224 (0, [some (.ref 0), some (.int a1), some (.int a2), some (.int a3)], [], sl, (RH I w A N)) =
    bC (C d 196 [.ref 0, .int a1] sl (RH (up1 I 0 (nI 0)) w A N)) (fun vs sl h => R (d + 1) 224 (15, [some (.ref 0), some (.int a1), some (.int a2), some (.int a3)], vs ++ [.int a3, .int a2, .int a1, .int (nI 1), .ref 0], sl, h)) :=
  (R_gob [15, 23, 39, 50] 400 _ _ _).trans rfl
set_option maxRecDepth 100000 in
theorem m224_15 (d sl : Nat) (I : Nat → Int32) (w : Int64) (A : Nat → Nat → Int32) (N : Nat → Nat → Int64) (a1 : Int32) (a2 : Int32) (a3 : Int32) (b0 : Int32) (b1 : Int32) (b2 : Int32) (b3 : Int32) (b4 : Int32) :
  R (d + 1) 224 (15, [some (.ref 0), some (.int a1), some (.int a2), some (.int a3)], [.int b0, .int b1, .int b2, .int b3, .int b4, .ref 0], sl, (RH I w A N)) =
    cond (decide (b0 = (nI 0))) (bC (C d 222 [.ref 0, .int b4, .int b3, .int b2, .int b1, .int (nI 0)] sl (RH I w A N)) (fun vs sl h => R (d + 1) 224 (50, [some (.ref 0), some (.int a1), some (.int a2), some (.int a3)], vs ++ [], sl, h))) (bC (C d 196 [.ref 0, .int a2] sl (RH I w A N)) (fun vs sl h => R (d + 1) 224 (23, [some (.ref 0), some (.int a1), some (.int a2), some (.int a3)], vs ++ [.int b1, .int b2, .int b3, .int b4, .ref 0], sl, h))) :=
  (R_gob [15, 23, 39, 50] 400 _ _ _).trans rfl
set_option maxRecDepth 100000 in
theorem m224_50 (d sl : Nat) (I : Nat → Int32) (w : Int64) (A : Nat → Nat → Int32) (N : Nat → Nat → Int64) (a1 : Int32) (a2 : Int32) (a3 : Int32) (b0 : Int32) :
  R (d + 1) 224 (50, [some (.ref 0), some (.int a1), some (.int a2), some (.int a3)], [.int b0], sl, (RH I w A N)) =
    some (50, [some (.ref 0), some (.int a1), some (.int a2), some (.int a3)], [.int b0], sl, (RH I w A N)) :=
  (R_gob [15, 23, 39, 50] 400 _ _ _).trans rfl
set_option maxRecDepth 100000 in
theorem m224_23 (d sl : Nat) (I : Nat → Int32) (w : Int64) (A : Nat → Nat → Int32) (N : Nat → Nat → Int64) (a1 : Int32) (a2 : Int32) (a3 : Int32) (b0 : Int32) (b1 : Int32) (b2 : Int32) (b3 : Int32) (b4 : Int32) :
  R (d + 1) 224 (23, [some (.ref 0), some (.int a1), some (.int a2), some (.int a3)], [.int b0, .int b1, .int b2, .int b3, .int b4, .ref 0], sl, (RH I w A N)) =
    cond (decide (b0 = (nI 0))) (bC (C d 222 [.ref 0, .int b4, .int b3, .int b2, .int b1, .int (nI 0)] sl (RH I w A N)) (fun vs sl h => R (d + 1) 224 (50, [some (.ref 0), some (.int a1), some (.int a2), some (.int a3)], vs ++ [], sl, h))) (cond (decide (a1 = a2)) (bC (C d 222 [.ref 0, .int b4, .int b3, .int b2, .int b1, .int (nI 0)] sl (RH I w A N)) (fun vs sl h => R (d + 1) 224 (50, [some (.ref 0), some (.int a1), some (.int a2), some (.int a3)], vs ++ [], sl, h))) (bC (C d 166 [.int a3, .int (nI 1), .int (nI 200)] sl (RH I w A N)) (fun vs sl h => R (d + 1) 224 (39, [some (.ref 0), some (.int a1), some (.int a2), some (.int a3)], vs ++ [.int b1, .int b2, .int b3, .int b4, .ref 0], sl, h)))) :=
  (R_gob [15, 23, 39, 50] 400 _ _ _).trans rfl
set_option maxRecDepth 100000 in
theorem m224_39 (d sl : Nat) (I : Nat → Int32) (w : Int64) (A : Nat → Nat → Int32) (N : Nat → Nat → Int64) (a1 : Int32) (a2 : Int32) (a3 : Int32) (b0 : Int32) (b1 : Int32) (b2 : Int32) (b3 : Int32) (b4 : Int32) :
  R (d + 1) 224 (39, [some (.ref 0), some (.int a1), some (.int a2), some (.int a3)], [.int b0, .int b1, .int b2, .int b3, .int b4, .ref 0], sl, (RH I w A N)) =
    cond (decide (b0 = (nI 0))) (bC (C d 222 [.ref 0, .int b4, .int b3, .int b2, .int b1, .int (nI 0)] sl (RH I w A N)) (fun vs sl h => R (d + 1) 224 (50, [some (.ref 0), some (.int a1), some (.int a2), some (.int a3)], vs ++ [], sl, h))) (bC (C d 222 [.ref 0, .int b4, .int b3, .int b2, .int b1, .int (nI 1)] sl (RH I w A N)) (fun vs sl h => R (d + 1) 224 (50, [some (.ref 0), some (.int a1), some (.int a2), some (.int a3)], vs ++ [], sl, h))) :=
  (R_gob [15, 23, 39, 50] 400 _ _ _).trans rfl
set_option maxRecDepth 100000 in
theorem m225_0 (d sl : Nat) (I : Nat → Int32) (w : Int64) (A : Nat → Nat → Int32) (N : Nat → Nat → Int64) (a1 : Int32) (a2 : Int32) :
  R (d + 1) 225 (0, [some (.ref 0), some (.int a1), some (.int a2)], [], sl, (RH I w A N)) =
    bC (C d 197 [.ref 0, .int a1] sl (RH (up1 I 0 (nI 0)) w A N)) (fun vs sl h => R (d + 1) 225 (15, [some (.ref 0), some (.int a1), some (.int a2)], vs ++ [.int (nI 0), .int a2, .int a1, .int (nI 2), .ref 0], sl, h)) :=
  (R_gob [15, 23, 34] 400 _ _ _).trans rfl
set_option maxRecDepth 100000 in
theorem m225_15 (d sl : Nat) (I : Nat → Int32) (w : Int64) (A : Nat → Nat → Int32) (N : Nat → Nat → Int64) (a1 : Int32) (a2 : Int32) (b0 : Int32) (b1 : Int32) (b2 : Int32) (b3 : Int32) (b4 : Int32) :
  R (d + 1) 225 (15, [some (.ref 0), some (.int a1), some (.int a2)], [.int b0, .int b1, .int b2, .int b3, .int b4, .ref 0], sl, (RH I w A N)) =
    cond (decide (b0 = (nI 0))) (bC (C d 222 [.ref 0, .int b4, .int b3, .int b2, .int b1, .int (nI 0)] sl (RH I w A N)) (fun vs sl h => R (d + 1) 225 (34, [some (.ref 0), some (.int a1), some (.int a2)], vs ++ [], sl, h))) (bC (C d 196 [.ref 0, .int a2] sl (RH I w A N)) (fun vs sl h => R (d + 1) 225 (23, [some (.ref 0), some (.int a1), some (.int a2)], vs ++ [.int b1, .int b2, .int b3, .int b4, .ref 0], sl, h))) :=
  (R_gob [15, 23, 34] 400 _ _ _).trans rfl
set_option maxRecDepth 100000 in
theorem m225_34 (d sl : Nat) (I : Nat → Int32) (w : Int64) (A : Nat → Nat → Int32) (N : Nat → Nat → Int64) (a1 : Int32) (a2 : Int32) (b0 : Int32) :
  R (d + 1) 225 (34, [some (.ref 0), some (.int a1), some (.int a2)], [.int b0], sl, (RH I w A N)) =
    some (34, [some (.ref 0), some (.int a1), some (.int a2)], [.int b0], sl, (RH I w A N)) :=
  (R_gob [15, 23, 34] 400 _ _ _).trans rfl
set_option maxRecDepth 100000 in
theorem m225_23 (d sl : Nat) (I : Nat → Int32) (w : Int64) (A : Nat → Nat → Int32) (N : Nat → Nat → Int64) (a1 : Int32) (a2 : Int32) (b0 : Int32) (b1 : Int32) (b2 : Int32) (b3 : Int32) (b4 : Int32) :
  R (d + 1) 225 (23, [some (.ref 0), some (.int a1), some (.int a2)], [.int b0, .int b1, .int b2, .int b3, .int b4, .ref 0], sl, (RH I w A N)) =
    cond (decide (b0 = (nI 0))) (bC (C d 222 [.ref 0, .int b4, .int b3, .int b2, .int b1, .int (nI 0)] sl (RH I w A N)) (fun vs sl h => R (d + 1) 225 (34, [some (.ref 0), some (.int a1), some (.int a2)], vs ++ [], sl, h))) (bC (C d 222 [.ref 0, .int b4, .int b3, .int b2, .int b1, .int (nI 1)] sl (RH I w A N)) (fun vs sl h => R (d + 1) 225 (34, [some (.ref 0), some (.int a1), some (.int a2)], vs ++ [], sl, h))) :=
  (R_gob [15, 23, 34] 400 _ _ _).trans rfl
set_option maxRecDepth 100000 in
theorem m226_0 (d sl : Nat) (I : Nat → Int32) (w : Int64) (A : Nat → Nat → Int32) (N : Nat → Nat → Int64) (a1 : Int32) :
  R (d + 1) 226 (0, [some (.ref 0), some (.int a1)], [], sl, (RH I w A N)) =
    bC (C d 197 [.ref 0, .int a1] sl (RH (up1 I 0 (nI 0)) w A N)) (fun vs sl h => R (d + 1) 226 (15, [some (.ref 0), some (.int a1)], vs ++ [.int (nI 0), .int (nI 0), .int a1, .int (nI 3), .ref 0], sl, h)) :=
  (R_gob [15, 18] 400 _ _ _).trans rfl
set_option maxRecDepth 100000 in
theorem m226_15 (d sl : Nat) (I : Nat → Int32) (w : Int64) (A : Nat → Nat → Int32) (N : Nat → Nat → Int64) (a1 : Int32) (b0 : Int32) (b1 : Int32) (b2 : Int32) (b3 : Int32) (b4 : Int32) :
  R (d + 1) 226 (15, [some (.ref 0), some (.int a1)], [.int b0, .int b1, .int b2, .int b3, .int b4, .ref 0], sl, (RH I w A N)) =
    bC (C d 222 [.ref 0, .int b4, .int b3, .int b2, .int b1, .int b0] sl (RH I w A N)) (fun vs sl h => R (d + 1) 226 (18, [some (.ref 0), some (.int a1)], vs ++ [], sl, h)) :=
  (R_gob [15, 18] 400 _ _ _).trans rfl
set_option maxRecDepth 100000 in
theorem m226_18 (d sl : Nat) (I : Nat → Int32) (w : Int64) (A : Nat → Nat → Int32) (N : Nat → Nat → Int64) (a1 : Int32) (b0 : Int32) :
  R (d + 1) 226 (18, [some (.ref 0), some (.int a1)], [.int b0], sl, (RH I w A N)) =
    some (18, [some (.ref 0), some (.int a1)], [.int b0], sl, (RH I w A N)) :=
  (R_gob [15, 18] 400 _ _ _).trans rfl
set_option maxRecDepth 100000 in
theorem m227_0 (d sl : Nat) (I : Nat → Int32) (w : Int64) (A : Nat → Nat → Int32) (N : Nat → Nat → Int64) (a1 : Int32) (a2 : Int32) :
  R (d + 1) 227 (0, [some (.ref 0), some (.int a1), some (.int a2)], [], sl, (RH I w A N)) =
    bC (C d 197 [.ref 0, .int a1] sl (RH (up1 I 0 (nI 0)) w A N)) (fun vs sl h => R (d + 1) 227 (15, [some (.ref 0), some (.int a1), some (.int a2)], vs ++ [.int (nI 0), .int a2, .int a1, .int (nI 4), .ref 0], sl, h)) :=
  (R_gob [15, 23, 34] 400 _ _ _).trans rfl
set_option maxRecDepth 100000 in
theorem m227_15 (d sl : Nat) (I : Nat → Int32) (w : Int64) (A : Nat → Nat → Int32) (N : Nat → Nat → Int64) (a1 : Int32) (a2 : Int32) (b0 : Int32) (b1 : Int32) (b2 : Int32) (b3 : Int32) (b4 : Int32) :
  R (d + 1) 227 (15, [some (.ref 0), some (.int a1), some (.int a2)], [.int b0, .int b1, .int b2, .int b3, .int b4, .ref 0], sl, (RH I w A N)) =
    cond (decide (b0 = (nI 0))) (bC (C d 222 [.ref 0, .int b4, .int b3, .int b2, .int b1, .int (nI 0)] sl (RH I w A N)) (fun vs sl h => R (d + 1) 227 (34, [some (.ref 0), some (.int a1), some (.int a2)], vs ++ [], sl, h))) (bC (C d 197 [.ref 0, .int a2] sl (RH I w A N)) (fun vs sl h => R (d + 1) 227 (23, [some (.ref 0), some (.int a1), some (.int a2)], vs ++ [.int b1, .int b2, .int b3, .int b4, .ref 0], sl, h))) :=
  (R_gob [15, 23, 34] 400 _ _ _).trans rfl
set_option maxRecDepth 100000 in
theorem m227_34 (d sl : Nat) (I : Nat → Int32) (w : Int64) (A : Nat → Nat → Int32) (N : Nat → Nat → Int64) (a1 : Int32) (a2 : Int32) (b0 : Int32) :
  R (d + 1) 227 (34, [some (.ref 0), some (.int a1), some (.int a2)], [.int b0], sl, (RH I w A N)) =
    some (34, [some (.ref 0), some (.int a1), some (.int a2)], [.int b0], sl, (RH I w A N)) :=
  (R_gob [15, 23, 34] 400 _ _ _).trans rfl
set_option maxRecDepth 100000 in
theorem m227_23 (d sl : Nat) (I : Nat → Int32) (w : Int64) (A : Nat → Nat → Int32) (N : Nat → Nat → Int64) (a1 : Int32) (a2 : Int32) (b0 : Int32) (b1 : Int32) (b2 : Int32) (b3 : Int32) (b4 : Int32) :
  R (d + 1) 227 (23, [some (.ref 0), some (.int a1), some (.int a2)], [.int b0, .int b1, .int b2, .int b3, .int b4, .ref 0], sl, (RH I w A N)) =
    cond (decide (b0 = (nI 0))) (bC (C d 222 [.ref 0, .int b4, .int b3, .int b2, .int b1, .int (nI 0)] sl (RH I w A N)) (fun vs sl h => R (d + 1) 227 (34, [some (.ref 0), some (.int a1), some (.int a2)], vs ++ [], sl, h))) (bC (C d 222 [.ref 0, .int b4, .int b3, .int b2, .int b1, .int (nI 1)] sl (RH I w A N)) (fun vs sl h => R (d + 1) 227 (34, [some (.ref 0), some (.int a1), some (.int a2)], vs ++ [], sl, h))) :=
  (R_gob [15, 23, 34] 400 _ _ _).trans rfl
set_option maxRecDepth 100000 in
theorem m228_0 (d sl : Nat) (I : Nat → Int32) (w : Int64) (A : Nat → Nat → Int32) (N : Nat → Nat → Int64)  :
  R d 228 (0, [some (.ref 0), none], [], sl, (RH I w A N)) =
    cond (!decide ((I 24) = (nI 0))) (R d 228 (26, [some (.ref 0), some (.int (nI 0))], [], sl, (RH (up1 (up1 I 0 (nI 0)) 24 ((I 24) - (nI 1))) w A N))) (some (13, [some (.ref 0), none], [.int (-1 : Int32)], sl, (RH (up1 I 0 (nI 0)) w A N))) :=
  (R_gob [26] 400 _ _ _).trans rfl
set_option maxRecDepth 100000 in
theorem m228_26 (d sl : Nat) (I : Nat → Int32) (w : Int64) (A : Nat → Nat → Int32) (N : Nat → Nat → Int64) (a1 : Int32) :
  R d 228 (26, [some (.ref 0), some (.int a1)], [], sl, (RH I w A N)) =
    cond (decide ((nI 57) ≤ a1)) (some (65, [some (.ref 0), some (.int a1)], [.int (I 24)], sl, (RH I w A N))) (cond (x_in (((nI 57) * (I 24)) + a1) 456) (cond (x_in ((nI 70) + a1) 369) (R d 228 (26, [some (.ref 0), some (.int (a1 + (nI 1)))], [], sl, (RH I w (up1 A 2 (upd (A 2) ((nI 70) + a1).toNatClampNeg ((A 5) (((nI 57) * (I 24)) + a1).toNatClampNeg))) N))) none) none) :=
  (R_gob [26] 400 _ _ _).trans rfl
set_option maxRecDepth 100000 in
theorem m229_0 (d sl : Nat) (I : Nat → Int32) (w : Int64) (A : Nat → Nat → Int32) (N : Nat → Nat → Int64)  :
  R (d + 1) 229 (0, [some (.ref 0), none, none], [], sl, (RH I w A N)) =
    R (d + 1) 229 (2, [some (.ref 0), some (.int (nI 0)), none], [], sl, (RH I w A N)) :=
  (R_gob [2, 60, 108, 124, 155, 181] 400 _ _ _).trans rfl
set_option maxRecDepth 100000 in
theorem m229_2 (d sl : Nat) (I : Nat → Int32) (w : Int64) (A : Nat → Nat → Int32) (N : Nat → Nat → Int64) (a1 : Int32) :
  R (d + 1) 229 (2, [some (.ref 0), some (.int a1), none], [], sl, (RH I w A N)) =
    cond (decide (((A 2) 0) ≤ a1)) (cond (!decide (((upd (A 2) 70 (((A 2) 70) + (nI 1))) 3) = (nI 0))) (cond (!decide ((((upd (A 2) 70 (((A 2) 70) + (nI 1))) 70) - ((upd (A 2) 70 (((A 2) 70) + (nI 1))) 70) / ((upd (A 2) 70 (((A 2) 70) + (nI 1))) 3) * ((upd (A 2) 70 (((A 2) 70) + (nI 1))) 3)) = (nI 0))) (R (d + 1) 229 (108, [some (.ref 0), some (.int (nI 0)), some (.int (nI 0))], [], sl, (RH I w (up1 A 2 (upd (A 2) 70 (((A 2) 70) + (nI 1)))) N))) (R (d + 1) 229 (108, [some (.ref 0), some (.int ((upd (A 2) 70 (((A 2) 70) + (nI 1))) 2)), some (.int (nI 0))], [], sl, (RH I w (up1 A 2 (upd (A 2) 70 (((A 2) 70) + (nI 1)))) N)))) none) (cond (x_in ((nI 73) + a1) 369) (cond (decide ((nI 9999) ≤ ((A 2) ((nI 73) + a1).toNatClampNeg))) (R (d + 1) 229 (2, [some (.ref 0), some (.int (a1 + (nI 1))), none], [], sl, (RH I w A N))) (cond (x_in ((nI 73) + a1) 369) (cond (x_in ((nI 10) + a1) 369) (bC (C d 169 [.int (nI 9999), .int (((A 2) ((nI 73) + a1).toNatClampNeg) + ((A 2) ((nI 10) + a1).toNatClampNeg))] sl (RH I w A N)) (fun vs sl h => R (d + 1) 229 (60, [some (.ref 0), some (.int a1), none], vs ++ [.int ((nI 73) + a1), .ref 2], sl, h))) none) none)) none) :=
  (R_gob [2, 60, 108, 124, 155, 181] 400 _ _ _).trans rfl
set_option maxRecDepth 100000 in
theorem m229_108 (d sl : Nat) (I : Nat → Int32) (w : Int64) (A : Nat → Nat → Int32) (N : Nat → Nat → Int64) (a1 : Int32) (a2 : Int32) :
  R (d + 1) 229 (108, [some (.ref 0), some (.int a1), some (.int a2)], [], sl, (RH I w A N)) =
    cond (decide (((A 2) 72) ≤ a2)) (some (188, [some (.ref 0), some (.int a1), some (.int a2)], [], sl, (RH I w A N))) (bC (C d 198 [.ref 0, .int a2] sl (RH I w A N)) (fun vs sl h => R (d + 1) 229 (124, [some (.ref 0), some (.int a1), some (.int a2)], vs ++ [], sl, h))) :=
  (R_gob [2, 60, 108, 124, 155, 181] 400 _ _ _).trans rfl
