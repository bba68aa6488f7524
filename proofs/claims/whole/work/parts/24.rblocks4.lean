set_option maxRecDepth 100000 in
theorem m249_11 (d sl : Nat) (I : Nat → Int32) (w : Int64) (A : Nat → Nat → Int32) (N : Nat → Nat → Int64) (a1 : Int32) :
  R (d + 1) 249 (11, [some (.ref 0), some (.int a1)], [], sl, (RH I w A N)) =
    some (11, [some (.ref 0), some (.int a1)], [], sl, (RH I w A N)) :=
  (R_gob [6, 11] 400 _ _ _).trans rfl
set_option maxRecDepth 100000 in
theorem m250_0 (d sl : Nat) (I : Nat → Int32) (w : Int64) (A : Nat → Nat → Int32) (N : Nat → Nat → Int64) (a1 : Int32) :
  R (d + 1) 250 (0, [some (.ref 0), some (.int a1)], [], sl, (RH I w A N)) =
    bC (C d 197 [.ref 0, .int a1] sl (RH (up1 I 0 (nI 0)) w A N)) (fun vs sl h => R (d + 1) 250 (10, [some (.ref 0), some (.int a1)], vs ++ [], sl, h)) :=
  (R_gob [10, 38, 44, 47, 65, 70, 88, 91, 109, 122, 125, 138] 400 _ _ _).trans rfl
set_option maxRecDepth 100000 in
theorem m250_10 (d sl : Nat) (I : Nat → Int32) (w : Int64) (A : Nat → Nat → Int32) (N : Nat → Nat → Int64) (a1 : Int32) (b0 : Int32) :
  R (d + 1) 250 (10, [some (.ref 0), some (.int a1)], [.int b0], sl, (RH I w A N)) =
    cond (!decide (b0 = (nI 0))) (cond (x_in ((nI 79) + a1) 369) (cond (x_in ((A 2) ((nI 79) + a1).toNatClampNeg) 6) (bC (C d 246 [.ref 0, .long ((N 7) ((A 2) ((nI 79) + a1).toNatClampNeg).toNatClampNeg)] sl (RH (up1 I 33 (nI 0)) w A N)) (fun vs sl h => R (d + 1) 250 (38, [some (.ref 0), some (.int a1)], vs ++ [], sl, h))) none) none) (some (14, [some (.ref 0), some (.int a1)], [.int (-1 : Int32)], sl, (RH I w A N))) :=
  (R_gob [10, 38, 44, 47, 65, 70, 88, 91, 109, 122, 125, 138] 400 _ _ _).trans rfl
set_option maxRecDepth 100000 in
theorem m250_38 (d sl : Nat) (I : Nat → Int32) (w : Int64) (A : Nat → Nat → Int32) (N : Nat → Nat → Int64) (a1 : Int32) :
  R (d + 1) 250 (38, [some (.ref 0), some (.int a1)], [], sl, (RH I w A N)) =
    bC (C d 176 [.int (nI 16)] sl (RH I w A N)) (fun vs sl h => R (d + 1) 250 (44, [some (.ref 0), some (.int a1)], vs ++ [.ref 0], sl, h)) :=
  (R_gob [10, 38, 44, 47, 65, 70, 88, 91, 109, 122, 125, 138] 400 _ _ _).trans rfl
set_option maxRecDepth 100000 in
theorem m250_44 (d sl : Nat) (I : Nat → Int32) (w : Int64) (A : Nat → Nat → Int32) (N : Nat → Nat → Int64) (a1 : Int32) (b0 : Int64) :
  R (d + 1) 250 (44, [some (.ref 0), some (.int a1)], [.long b0, .ref 0], sl, (RH I w A N)) =
    bC (C d 248 [.ref 0, .long b0] sl (RH I w A N)) (fun vs sl h => R (d + 1) 250 (47, [some (.ref 0), some (.int a1)], vs ++ [], sl, h)) :=
  (R_gob [10, 38, 44, 47, 65, 70, 88, 91, 109, 122, 125, 138] 400 _ _ _).trans rfl
set_option maxRecDepth 100000 in
theorem m250_47 (d sl : Nat) (I : Nat → Int32) (w : Int64) (A : Nat → Nat → Int32) (N : Nat → Nat → Int64) (a1 : Int32) :
  R (d + 1) 250 (47, [some (.ref 0), some (.int a1)], [], sl, (RH I w A N)) =
    cond (x_in ((nI 91) + a1) 369) (cond (x_in ((A 2) ((nI 91) + a1).toNatClampNeg) 6) (bC (C d 248 [.ref 0, .long ((N 7) ((A 2) ((nI 91) + a1).toNatClampNeg).toNatClampNeg)] sl (RH I w A N)) (fun vs sl h => R (d + 1) 250 (65, [some (.ref 0), some (.int a1)], vs ++ [], sl, h))) none) none :=
  (R_gob [10, 38, 44, 47, 65, 70, 88, 91, 109, 122, 125, 138] 400 _ _ _).trans rfl
set_option maxRecDepth 100000 in
theorem m250_65 (d sl : Nat) (I : Nat → Int32) (w : Int64) (A : Nat → Nat → Int32) (N : Nat → Nat → Int64) (a1 : Int32) :
  R (d + 1) 250 (65, [some (.ref 0), some (.int a1)], [], sl, (RH I w A N)) =
    bC (C d 198 [.ref 0, .int a1] sl (RH I w A N)) (fun vs sl h => R (d + 1) 250 (70, [some (.ref 0), some (.int a1)], vs ++ [], sl, h)) :=
  (R_gob [10, 38, 44, 47, 65, 70, 88, 91, 109, 122, 125, 138] 400 _ _ _).trans rfl
set_option maxRecDepth 100000 in
theorem m250_70 (d sl : Nat) (I : Nat → Int32) (w : Int64) (A : Nat → Nat → Int32) (N : Nat → Nat → Int64) (a1 : Int32) (b0 : Int32) :
  R (d + 1) 250 (70, [some (.ref 0), some (.int a1)], [.int b0], sl, (RH I w A N)) =
    cond (!decide (b0 = (nI 0))) (cond (x_in ((nI 103) + a1) 369) (bC (C d 249 [.ref 0, .int ((A 2) ((nI 103) + a1).toNatClampNeg)] sl (RH I w A N)) (fun vs sl h => R (d + 1) 250 (109, [some (.ref 0), some (.int a1)], vs ++ [], sl, h))) none) (bC (C d 175 [.int (nI 112), .int (nI 97), .int (nI 105), .int (nI 100), .int (nI 0), .int (nI 0), .int (nI 0)] sl (RH I w A N)) (fun vs sl h => R (d + 1) 250 (88, [some (.ref 0), some (.int a1)], vs ++ [.ref 0], sl, h))) :=
  (R_gob [10, 38, 44, 47, 65, 70, 88, 91, 109, 122, 125, 138] 400 _ _ _).trans rfl
set_option maxRecDepth 100000 in
theorem m250_109 (d sl : Nat) (I : Nat → Int32) (w : Int64) (A : Nat → Nat → Int32) (N : Nat → Nat → Int64) (a1 : Int32) :
  R (d + 1) 250 (109, [some (.ref 0), some (.int a1)], [], sl, (RH I w A N)) =
    bC (C d 175 [.int (nI 111), .int (nI 102), .int (nI 0), .int (nI 0), .int (nI 0), .int (nI 0), .int (nI 0)] sl (RH I w A N)) (fun vs sl h => R (d + 1) 250 (122, [some (.ref 0), some (.int a1)], vs ++ [.ref 0], sl, h)) :=
  (R_gob [10, 38, 44, 47, 65, 70, 88, 91, 109, 122, 125, 138] 400 _ _ _).trans rfl
set_option maxRecDepth 100000 in
theorem m250_88 (d sl : Nat) (I : Nat → Int32) (w : Int64) (A : Nat → Nat → Int32) (N : Nat → Nat → Int64) (a1 : Int32) (b0 : Int64) :
  R (d + 1) 250 (88, [some (.ref 0), some (.int a1)], [.long b0, .ref 0], sl, (RH I w A N)) =
    bC (C d 248 [.ref 0, .long b0] sl (RH I w A N)) (fun vs sl h => R (d + 1) 250 (91, [some (.ref 0), some (.int a1)], vs ++ [], sl, h)) :=
  (R_gob [10, 38, 44, 47, 65, 70, 88, 91, 109, 122, 125, 138] 400 _ _ _).trans rfl
set_option maxRecDepth 100000 in
theorem m250_122 (d sl : Nat) (I : Nat → Int32) (w : Int64) (A : Nat → Nat → Int32) (N : Nat → Nat → Int64) (a1 : Int32) (b0 : Int64) :
  R (d + 1) 250 (122, [some (.ref 0), some (.int a1)], [.long b0, .ref 0], sl, (RH I w A N)) =
    bC (C d 248 [.ref 0, .long b0] sl (RH I w A N)) (fun vs sl h => R (d + 1) 250 (125, [some (.ref 0), some (.int a1)], vs ++ [], sl, h)) :=
  (R_gob [10, 38, 44, 47, 65, 70, 88, 91, 109, 122, 125, 138] 400 _ _ _).trans rfl
set_option maxRecDepth 100000 in
theorem m250_91 (d sl : Nat) (I : Nat → Int32) (w : Int64) (A : Nat → Nat → Int32) (N : Nat → Nat → Int64) (a1 : Int32) :
  R (d + 1) 250 (91, [some (.ref 0), some (.int a1)], [], sl, (RH I w A N)) =
    some (95, [some (.ref 0), some (.int a1)], [.int (I 33)], sl, (RH I w A N)) :=
  (R_gob [10, 38, 44, 47, 65, 70, 88, 91, 109, 122, 125, 138] 400 _ _ _).trans rfl
set_option maxRecDepth 100000 in
theorem m250_125 (d sl : Nat) (I : Nat → Int32) (w : Int64) (A : Nat → Nat → Int32) (N : Nat → Nat → Int64) (a1 : Int32) :
  R (d + 1) 250 (125, [some (.ref 0), some (.int a1)], [], sl, (RH I w A N)) =
    cond (x_in ((nI 115) + a1) 369) (bC (C d 249 [.ref 0, .int ((A 2) ((nI 115) + a1).toNatClampNeg)] sl (RH I w A N)) (fun vs sl h => R (d + 1) 250 (138, [some (.ref 0), some (.int a1)], vs ++ [], sl, h))) none :=
  (R_gob [10, 38, 44, 47, 65, 70, 88, 91, 109, 122, 125, 138] 400 _ _ _).trans rfl
set_option maxRecDepth 100000 in
theorem m250_138 (d sl : Nat) (I : Nat → Int32) (w : Int64) (A : Nat → Nat → Int32) (N : Nat → Nat → Int64) (a1 : Int32) :
  R (d + 1) 250 (138, [some (.ref 0), some (.int a1)], [], sl, (RH I w A N)) =
    some (142, [some (.ref 0), some (.int a1)], [.int (I 33)], sl, (RH I w A N)) :=
  (R_gob [10, 38, 44, 47, 65, 70, 88, 91, 109, 122, 125, 138] 400 _ _ _).trans rfl
set_option maxRecDepth 100000 in
theorem m251_0 (d sl : Nat) (I : Nat → Int32) (w : Int64) (A : Nat → Nat → Int32) (N : Nat → Nat → Int64) (a1 : Int32) :
  R (d + 1) 251 (0, [some (.ref 0), some (.int a1)], [], sl, (RH I w A N)) =
    bC (C d 166 [.int a1, .int (nI 0), .int ((I 33) - (nI 1))] sl (RH (up1 I 0 (nI 0)) w A N)) (fun vs sl h => R (d + 1) 251 (16, [some (.ref 0), some (.int a1)], vs ++ [], sl, h)) :=
  (R_gob [16] 400 _ _ _).trans rfl
set_option maxRecDepth 100000 in
theorem m251_16 (d sl : Nat) (I : Nat → Int32) (w : Int64) (A : Nat → Nat → Int32) (N : Nat → Nat → Int64) (a1 : Int32) (b0 : Int32) :
  R (d + 1) 251 (16, [some (.ref 0), some (.int a1)], [.int b0], sl, (RH I w A N)) =
    cond (decide (b0 = (nI 0))) (some (29, [some (.ref 0), some (.int a1)], [.int (-1 : Int32)], sl, (RH I w A N))) (cond (x_in a1 64) (some (29, [some (.ref 0), some (.int a1)], [.int ((A 15) a1.toNatClampNeg)], sl, (RH I w A N))) none) :=
  (R_gob [16] 400 _ _ _).trans rfl
set_option maxRecDepth 100000 in
theorem m252_0 (d sl : Nat) (I : Nat → Int32) (w : Int64) (A : Nat → Nat → Int32) (N : Nat → Nat → Int64) (a1 : Int32) :
  R d 252 (0, [some (.ref 0), some (.int a1)], [], sl, (RH I w A N)) =
    cond (!decide (a1 = (nI 0))) (some (25, [some (.ref 0), some (.int a1)], [.int (((((I 34) * (nI 1103515245)) + (nI 12345)).toUInt32 >>> ((nI 8).toUInt32 &&& Int32.toUInt32 31)).toInt32 - ((((I 34) * (nI 1103515245)) + (nI 12345)).toUInt32 >>> ((nI 8).toUInt32 &&& Int32.toUInt32 31)).toInt32 / a1 * a1)], sl, (RH (up1 I 34 (((I 34) * (nI 1103515245)) + (nI 12345))) w A N))) none :=
  (R_gob [] 400 _ _ _).trans rfl
set_option maxRecDepth 100000 in
theorem m253_0 (d sl : Nat) (I : Nat → Int32) (w : Int64) (A : Nat → Nat → Int32) (N : Nat → Nat → Int64) (a1 : Int32) (a2 : Int32) (a3 : Int32) (a4 : Int32) :
  R (d + 1) 253 (0, [some (.ref 0), some (.int a1), some (.int a2), some (.int a3), some (.int a4)], [], sl, (RH I w A N)) =
    bC (C d 219 [.ref 0, .int a1, .int a2, .int a3, .int a4] sl (RH I w A N)) (fun vs sl h => R (d + 1) 253 (9, [some (.ref 0), some (.int a1), some (.int a2), some (.int a3), some (.int a4)], vs ++ [], sl, h)) :=
  (R_gob [9, 21] 400 _ _ _).trans rfl
set_option maxRecDepth 100000 in
theorem m253_9 (d sl : Nat) (I : Nat → Int32) (w : Int64) (A : Nat → Nat → Int32) (N : Nat → Nat → Int64) (a1 : Int32) (a2 : Int32) (a3 : Int32) (a4 : Int32) (b0 : Int32) :
  R (d + 1) 253 (9, [some (.ref 0), some (.int a1), some (.int a2), some (.int a3), some (.int a4)], [.int b0], sl, (RH I w A N)) =
    cond (!decide (b0 = (nI 0))) (R (d + 1) 253 (21, [some (.ref 0), some (.int a1), some (.int a2), some (.int a3), some (.int a4)], [], sl, (RH I w A N))) (bC (C d 221 [.ref 0, .int a1, .int a2, .int a3, .int a4] sl (RH I w A N)) (fun vs sl h => R (d + 1) 253 (21, [some (.ref 0), some (.int a1), some (.int a2), some (.int a3), some (.int a4)], vs ++ [], sl, h))) :=
  (R_gob [9, 21] 400 _ _ _).trans rfl
set_option maxRecDepth 100000 in
theorem m253_21 (d sl : Nat) (I : Nat → Int32) (w : Int64) (A : Nat → Nat → Int32) (N : Nat → Nat → Int64) (a1 : Int32) (a2 : Int32) (a3 : Int32) (a4 : Int32) :
  R (d + 1) 253 (21, [some (.ref 0), some (.int a1), some (.int a2), some (.int a3), some (.int a4)], [], sl, (RH I w A N)) =
    some (21, [some (.ref 0), some (.int a1), some (.int a2), some (.int a3), some (.int a4)], [], sl, (RH I w A N)) :=
  (R_gob [9, 21] 400 _ _ _).trans rfl
set_option maxRecDepth 100000 in
theorem m254_0 (d sl : Nat) (I : Nat → Int32) (w : Int64) (A : Nat → Nat → Int32) (N : Nat → Nat → Int64) (a1 : Int32) :
  R (d + 1) 254 (0, [some (.ref 0), some (.int a1), none, none, none], [], sl, (RH I w A N)) =
    bC (C d 252 [.ref 0, .int (nI 6)] sl (RH I w A N)) (fun vs sl h => R (d + 1) 254 (6, [some (.ref 0), some (.int a1), none, none, none], vs ++ [], sl, h)) :=
  (R_gob [6, 21, 28, 46, 77, 91, 103, 109] 400 _ _ _).trans rfl
set_option maxRecDepth 100000 in
theorem m254_6 (d sl : Nat) (I : Nat → Int32) (w : Int64) (A : Nat → Nat → Int32) (N : Nat → Nat → Int64) (a1 : Int32) (b0 : Int32) :
  R (d + 1) 254 (6, [some (.ref 0), some (.int a1), none, none, none], [.int b0], sl, (RH I w A N)) =
    cond (!decide (b0 = (nI 0))) (R (d + 1) 254 (46, [some (.ref 0), some (.int a1), some (.int b0), none, none], [], sl, (RH I w A N))) (bC (C d 252 [.ref 0, .int ((A 2) 0)] sl (RH I w A N)) (fun vs sl h => R (d + 1) 254 (21, [some (.ref 0), some (.int a1), some (.int b0), none, none], vs ++ [], sl, h))) :=
  (R_gob [6, 21, 28, 46, 77, 91, 103, 109] 400 _ _ _).trans rfl
set_option maxRecDepth 100000 in
theorem m254_46 (d sl : Nat) (I : Nat → Int32) (w : Int64) (A : Nat → Nat → Int32) (N : Nat → Nat → Int64) (a1 : Int32) (a2 : Int32) :
  R (d + 1) 254 (46, [some (.ref 0), some (.int a1), some (.int a2), none, none], [], sl, (RH I w A N)) =
    cond (decide (a2 = (nI 0))) (some (65, [some (.ref 0), some (.int a1), some (.int a2), none, none], [], sl, (RH I w A N))) (cond (decide ((nI 3) < a2)) (some (65, [some (.ref 0), some (.int a1), some (.int a2), none, none], [], sl, (RH I w A N))) (cond (!decide (((A 2) 72) = (nI 0))) (bC (C d 252 [.ref 0, .int ((A 2) 72)] sl (RH I w A N)) (fun vs sl h => R (d + 1) 254 (77, [some (.ref 0), some (.int a1), some (.int a2), none, none], vs ++ [], sl, h))) (some (65, [some (.ref 0), some (.int a1), some (.int a2), none, none], [], sl, (RH I w A N))))) :=
  (R_gob [6, 21, 28, 46, 77, 91, 103, 109] 400 _ _ _).trans rfl
set_option maxRecDepth 100000 in
theorem m254_21 (d sl : Nat) (I : Nat → Int32) (w : Int64) (A : Nat → Nat → Int32) (N : Nat → Nat → Int64) (a1 : Int32) (a2 : Int32) (b0 : Int32) :
  R (d + 1) 254 (21, [some (.ref 0), some (.int a1), some (.int a2), none, none], [.int b0], sl, (RH I w A N)) =
    bC (C d 252 [.ref 0, .int (nI 20)] sl (RH I w A N)) (fun vs sl h => R (d + 1) 254 (28, [some (.ref 0), some (.int a1), some (.int a2), some (.int b0), none], vs ++ [], sl, h)) :=
  (R_gob [6, 21, 28, 46, 77, 91, 103, 109] 400 _ _ _).trans rfl
set_option maxRecDepth 100000 in
theorem m254_77 (d sl : Nat) (I : Nat → Int32) (w : Int64) (A : Nat → Nat → Int32) (N : Nat → Nat → Int64) (a1 : Int32) (a2 : Int32) (b0 : Int32) :
  R (d + 1) 254 (77, [some (.ref 0), some (.int a1), some (.int a2), none, none], [.int b0], sl, (RH I w A N)) =
    cond (!decide (a2 = (nI 3))) (bC (C d 252 [.ref 0, .int (nI 20)] sl (RH I w A N)) (fun vs sl h => R (d + 1) 254 (103, [some (.ref 0), some (.int a1), some (.int a2), some (.int b0), none], vs ++ [.int b0, .int (nI 0), .ref 0], sl, h))) (bC (C d 253 [.ref 0, .int (nI 2), .int b0, .int a1, .int (nI 0)] sl (RH I w A N)) (fun vs sl h => R (d + 1) 254 (91, [some (.ref 0), some (.int a1), some (.int a2), some (.int b0), none], vs ++ [], sl, h))) :=
  (R_gob [6, 21, 28, 46, 77, 91, 103, 109] 400 _ _ _).trans rfl
set_option maxRecDepth 100000 in
theorem m254_28 (d sl : Nat) (I : Nat → Int32) (w : Int64) (A : Nat → Nat → Int32) (N : Nat → Nat → Int64) (a1 : Int32) (a2 : Int32) (a3 : Int32) (b0 : Int32) :
  R (d + 1) 254 (28, [some (.ref 0), some (.int a1), some (.int a2), some (.int a3), none], [.int b0], sl, (RH I w A N)) =
    cond (decide (a3 = a1)) (R (d + 1) 254 (46, [some (.ref 0), some (.int a1), some (.int a2), some (.int a3), some (.int (b0 + (nI 1)))], [], sl, (RH I w A N))) (bC (C d 253 [.ref 0, .int (nI 1), .int a1, .int a3, .int (b0 + (nI 1))] sl (RH I w A N)) (fun vs sl h => R (d + 1) 254 (46, [some (.ref 0), some (.int a1), some (.int a2), some (.int a3), some (.int (b0 + (nI 1)))], vs ++ [], sl, h))) :=
  (R_gob [6, 21, 28, 46, 77, 91, 103, 109] 400 _ _ _).trans rfl
set_option maxRecDepth 100000 in
theorem m254_103 (d sl : Nat) (I : Nat → Int32) (w : Int64) (A : Nat → Nat → Int32) (N : Nat → Nat → Int64) (a1 : Int32) (a2 : Int32) (a3 : Int32) (b0 : Int32) (b1 : Int32) (b2 : Int32) :
  R (d + 1) 254 (103, [some (.ref 0), some (.int a1), some (.int a2), some (.int a3), none], [.int b0, .int b1, .int b2, .ref 0], sl, (RH I w A N)) =
    bC (C d 253 [.ref 0, .int b2, .int b1, .int (b0 + (nI 1)), .int (nI 0)] sl (RH I w A N)) (fun vs sl h => R (d + 1) 254 (109, [some (.ref 0), some (.int a1), some (.int a2), some (.int a3), none], vs ++ [], sl, h)) :=
  (R_gob [6, 21, 28, 46, 77, 91, 103, 109] 400 _ _ _).trans rfl
set_option maxRecDepth 100000 in
theorem m254_91 (d sl : Nat) (I : Nat → Int32) (w : Int64) (A : Nat → Nat → Int32) (N : Nat → Nat → Int64) (a1 : Int32) (a2 : Int32) (a3 : Int32) :
  R (d + 1) 254 (91, [some (.ref 0), some (.int a1), some (.int a2), some (.int a3), none], [], sl, (RH I w A N)) =
    R (d + 1) 254 (109, [some (.ref 0), some (.int a1), some (.int a2), some (.int a3), none], [], sl, (RH I w A N)) :=
  (R_gob [6, 21, 28, 46, 77, 91, 103, 109] 400 _ _ _).trans rfl
set_option maxRecDepth 100000 in
theorem m254_46_1 (d sl : Nat) (I : Nat → Int32) (w : Int64) (A : Nat → Nat → Int32) (N : Nat → Nat → Int64) (a1 : Int32) (a2 : Int32) (a3 : Int32) (a4 : Int32) :
  R (d + 1) 254 (46, [some (.ref 0), some (.int a1), some (.int a2), some (.int a3), some (.int a4)], [], sl, (RH I w A N)) =
    cond (decide (a2 = (nI 0))) (some (65, [some (.ref 0), some (.int a1), some (.int a2), some (.int a3), some (.int a4)], [], sl, (RH I w A N))) (cond (decide ((nI 3) < a2)) (some (65, [some (.ref 0), some (.int a1), some (.int a2), some (.int a3), some (.int a4)], [], sl, (RH I w A N))) (cond (!decide (((A 2) 72) = (nI 0))) (bC (C d 252 [.ref 0, .int ((A 2) 72)] sl (RH I w A N)) (fun vs sl h => R (d + 1) 254 (77, [some (.ref 0), some (.int a1), some (.int a2), some (.int a3), some (.int a4)], vs ++ [], sl, h))) (some (65, [some (.ref 0), some (.int a1), some (.int a2), some (.int a3), some (.int a4)], [], sl, (RH I w A N))))) :=
  (R_gob [6, 21, 28, 46, 77, 91, 103, 109] 400 _ _ _).trans rfl
set_option maxRecDepth 100000 in
theorem m254_109 (d sl : Nat) (I : Nat → Int32) (w : Int64) (A : Nat → Nat → Int32) (N : Nat → Nat → Int64) (a1 : Int32) (a2 : Int32) (a3 : Int32) :
  R (d + 1) 254 (109, [some (.ref 0), some (.int a1), some (.int a2), some (.int a3), none], [], sl, (RH I w A N)) =
    some (109, [some (.ref 0), some (.int a1), some (.int a2), some (.int a3), none], [], sl, (RH I w A N)) :=
  (R_gob [6, 21, 28, 46, 77, 91, 103, 109] 400 _ _ _).trans rfl
set_option maxRecDepth 100000 in
theorem m254_77_1 (d sl : Nat) (I : Nat → Int32) (w : Int64) (A : Nat → Nat → Int32) (N : Nat → Nat → Int64) (a1 : Int32) (a2 : Int32) (a3 : Int32) (a4 : Int32) (b0 : Int32) :
  R (d + 1) 254 (77, [some (.ref 0), some (.int a1), some (.int a2), some (.int a3), some (.int a4)], [.int b0], sl, (RH I w A N)) =
    cond (!decide (a2 = (nI 3))) (bC (C d 252 [.ref 0, .int (nI 20)] sl (RH I w A N)) (fun vs sl h => R (d + 1) 254 (103, [some (.ref 0), some (.int a1), some (.int a2), some (.int b0), some (.int a4)], vs ++ [.int b0, .int (nI 0), .ref 0], sl, h))) (bC (C d 253 [.ref 0, .int (nI 2), .int b0, .int a1, .int (nI 0)] sl (RH I w A N)) (fun vs sl h => R (d + 1) 254 (91, [some (.ref 0), some (.int a1), some (.int a2), some (.int b0), some (.int a4)], vs ++ [], sl, h))) :=
  (R_gob [6, 21, 28, 46, 77, 91, 103, 109] 400 _ _ _).trans rfl
set_option maxRecDepth 100000 in
theorem m254_103_1 (d sl : Nat) (I : Nat → Int32) (w : Int64) (A : Nat → Nat → Int32) (N : Nat → Nat → Int64) (a1 : Int32) (a2 : Int32) (a3 : Int32) (a4 : Int32) (b0 : Int32) (b1 : Int32) (b2 : Int32) :
  R (d + 1) 254 (103, [some (.ref 0), some (.int a1), some (.int a2), some (.int a3), some (.int a4)], [.int b0, .int b1, .int b2, .ref 0], sl, (RH I w A N)) =
    bC (C d 253 [.ref 0, .int b2, .int b1, .int (b0 + (nI 1)), .int (nI 0)] sl (RH I w A N)) (fun vs sl h => R (d + 1) 254 (109, [some (.ref 0), some (.int a1), some (.int a2), some (.int a3), some (.int a4)], vs ++ [], sl, h)) :=
  (R_gob [6, 21, 28, 46, 77, 91, 103, 109] 400 _ _ _).trans rfl
set_option maxRecDepth 100000 in
theorem m254_91_1 (d sl : Nat) (I : Nat → Int32) (w : Int64) (A : Nat → Nat → Int32) (N : Nat → Nat → Int64) (a1 : Int32) (a2 : Int32) (a3 : Int32) (a4 : Int32) :
  R (d + 1) 254 (91, [some (.ref 0), some (.int a1), some (.int a2), some (.int a3), some (.int a4)], [], sl, (RH I w A N)) =
    R (d + 1) 254 (109, [some (.ref 0), some (.int a1), some (.int a2), some (.int a3), some (.int a4)], [], sl, (RH I w A N)) :=
  (R_gob [6, 21, 28, 46, 77, 91, 103, 109] 400 _ _ _).trans rfl
set_option maxRecDepth 100000 in
theorem m254_109_1 (d sl : Nat) (I : Nat → Int32) (w : Int64) (A : Nat → Nat → Int32) (N : Nat → Nat → Int64) (a1 : Int32) (a2 : Int32) (a3 : Int32) (a4 : Int32) :
  R (d + 1) 254 (109, [some (.ref 0), some (.int a1), some (.int a2), some (.int a3), some (.int a4)], [], sl, (RH I w A N)) =
    some (109, [some (.ref 0), some (.int a1), some (.int a2), some (.int a3), some (.int a4)], [], sl, (RH I w A N)) :=
  (R_gob [6, 21, 28, 46, 77, 91, 103, 109] 400 _ _ _).trans rfl
set_option maxRecDepth 100000 in
theorem m255_0 (d sl : Nat) (I : Nat → Int32) (w : Int64) (A : Nat → Nat → Int32) (N : Nat → Nat → Int64) (a1 : Int32) (a2 : Int32) :
  R (d + 1) 255 (0, [some (.ref 0), some (.int a1), some (.int a2), none, none, none], [], sl, (RH I w A N)) =
    bC (C d 169 [.int a1, .int ((nI 400) - ((A 2) 70))] sl (RH (up1 I 34 a2) w A N)) (fun vs sl h => R (d + 1) 255 (20, [some (.ref 0), some (.int a1), some (.int a2), none, none, none], vs ++ [], sl, h)) :=
  (R_gob [20, 24, 33, 50, 60] 400 _ _ _).trans rfl
set_option maxRecDepth 100000 in
theorem m255_20 (d sl : Nat) (I : Nat → Int32) (w : Int64) (A : Nat → Nat → Int32) (N : Nat → Nat → Int64) (a1 : Int32) (a2 : Int32) (b0 : Int32) :
  R (d + 1) 255 (20, [some (.ref 0), some (.int a1), some (.int a2), none, none, none], [.int b0], sl, (RH I w A N)) =
    R (d + 1) 255 (24, [some (.ref 0), some (.int a1), some (.int a2), some (.int b0), some (.int (nI 0)), none], [], sl, (RH I w A N)) :=
  (R_gob [20, 24, 33, 50, 60] 400 _ _ _).trans rfl
set_option maxRecDepth 100000 in
theorem m255_24 (d sl : Nat) (I : Nat → Int32) (w : Int64) (A : Nat → Nat → Int32) (N : Nat → Nat → Int64) (a1 : Int32) (a2 : Int32) (a3 : Int32) (a4 : Int32) :
  R (d + 1) 255 (24, [some (.ref 0), some (.int a1), some (.int a2), some (.int a3), some (.int a4), none], [], sl, (RH I w A N)) =
    cond (decide (a3 ≤ a4)) (some (67, [some (.ref 0), some (.int a1), some (.int a2), some (.int a3), some (.int a4), none], [.int a3], sl, (RH I w A N))) (R (d + 1) 255 (33, [some (.ref 0), some (.int a1), some (.int a2), some (.int a3), some (.int a4), some (.int (nI 0))], [], sl, (RH I w A N))) :=
  (R_gob [20, 24, 33, 50, 60] 400 _ _ _).trans rfl
set_option maxRecDepth 100000 in
theorem m255_33 (d sl : Nat) (I : Nat → Int32) (w : Int64) (A : Nat → Nat → Int32) (N : Nat → Nat → Int64) (a1 : Int32) (a2 : Int32) (a3 : Int32) (a4 : Int32) (a5 : Int32) :
  R (d + 1) 255 (33, [some (.ref 0), some (.int a1), some (.int a2), some (.int a3), some (.int a4), some (.int a5)], [], sl, (RH I w A N)) =
    cond (decide (((A 2) 0) ≤ a5)) (bC (C d 229 [.ref 0] sl (RH I w A N)) (fun vs sl h => R (d + 1) 255 (60, [some (.ref 0), some (.int a1), some (.int a2), some (.int a3), some (.int a4), some (.int a5)], vs ++ [], sl, h))) (bC (C d 254 [.ref 0, .int a5] sl (RH I w A N)) (fun vs sl h => R (d + 1) 255 (50, [some (.ref 0), some (.int a1), some (.int a2), some (.int a3), some (.int a4), some (.int a5)], vs ++ [], sl, h))) :=
  (R_gob [20, 24, 33, 50, 60] 400 _ _ _).trans rfl
set_option maxRecDepth 100000 in
theorem m255_60 (d sl : Nat) (I : Nat → Int32) (w : Int64) (A : Nat → Nat → Int32) (N : Nat → Nat → Int64) (a1 : Int32) (a2 : Int32) (a3 : Int32) (a4 : Int32) (a5 : Int32) :
  R (d + 1) 255 (60, [some (.ref 0), some (.int a1), some (.int a2), some (.int a3), some (.int a4), some (.int a5)], [], sl, (RH I w A N)) =
    R (d + 1) 255 (24, [some (.ref 0), some (.int a1), some (.int a2), some (.int a3), some (.int (a4 + (nI 1))), some (.int a5)], [], sl, (RH I w A N)) :=
  (R_gob [20, 24, 33, 50, 60] 400 _ _ _).trans rfl
set_option maxRecDepth 100000 in
theorem m255_50 (d sl : Nat) (I : Nat → Int32) (w : Int64) (A : Nat → Nat → Int32) (N : Nat → Nat → Int64) (a1 : Int32) (a2 : Int32) (a3 : Int32) (a4 : Int32) (a5 : Int32) :
  R (d + 1) 255 (50, [some (.ref 0), some (.int a1), some (.int a2), some (.int a3), some (.int a4), some (.int a5)], [], sl, (RH I w A N)) =
    R (d + 1) 255 (33, [some (.ref 0), some (.int a1), some (.int a2), some (.int a3), some (.int a4), some (.int (a5 + (nI 1)))], [], sl, (RH I w A N)) :=
  (R_gob [20, 24, 33, 50, 60] 400 _ _ _).trans rfl
set_option maxRecDepth 100000 in
theorem m255_24_1 (d sl : Nat) (I : Nat → Int32) (w : Int64) (A : Nat → Nat → Int32) (N : Nat → Nat → Int64) (a1 : Int32) (a2 : Int32) (a3 : Int32) (a4 : Int32) (a5 : Int32) :
  R (d + 1) 255 (24, [some (.ref 0), some (.int a1), some (.int a2), some (.int a3), some (.int a4), some (.int a5)], [], sl, (RH I w A N)) =
    cond (decide (a3 ≤ a4)) (some (67, [some (.ref 0), some (.int a1), some (.int a2), some (.int a3), some (.int a4), some (.int a5)], [.int a3], sl, (RH I w A N))) (R (d + 1) 255 (33, [some (.ref 0), some (.int a1), some (.int a2), some (.int a3), some (.int a4), some (.int (nI 0))], [], sl, (RH I w A N))) :=
  (R_gob [20, 24, 33, 50, 60] 400 _ _ _).trans rfl
set_option maxRecDepth 100000 in
theorem m256_0 (d sl : Nat) (I : Nat → Int32) (w : Int64) (A : Nat → Nat → Int32) (N : Nat → Nat → Int64) (a1 : Int32) (a2 : Int32) :
  R (d + 1) 256 (0, [some (.ref 0), some (.int a1), some (.int a2)], [], sl, (RH I w A N)) =
    bC (C d 166 [.int a1, .int (nI 1), .int (nI 60)] sl (RH (up1 I 0 (nI 0)) w A N)) (fun vs sl h => R (d + 1) 256 (12, [some (.ref 0), some (.int a1), some (.int a2)], vs ++ [], sl, h)) :=
  (R_gob [12, 36, 42] 400 _ _ _).trans rfl
set_option maxRecDepth 100000 in
theorem m256_12 (d sl : Nat) (I : Nat → Int32) (w : Int64) (A : Nat → Nat → Int32) (N : Nat → Nat → Int64) (a1 : Int32) (a2 : Int32) (b0 : Int32) :
  R (d + 1) 256 (12, [some (.ref 0), some (.int a1), some (.int a2)], [.int b0], sl, (RH I w A N)) =
    cond (!decide (b0 = (nI 0))) (cond (!decide (((A 2) 70) = (nI 400))) (bC (C d 217 [.ref 0] sl (RH I w A N)) (fun vs sl h => R (d + 1) 256 (36, [some (.ref 0), some (.int a1), some (.int a2)], vs ++ [], sl, h))) (some (31, [some (.ref 0), some (.int a1), some (.int a2)], [.int (nI 0)], sl, (RH I w A N)))) (some (16, [some (.ref 0), some (.int a1), some (.int a2)], [.int (-1 : Int32)], sl, (RH I w A N))) :=
  (R_gob [12, 36, 42] 400 _ _ _).trans rfl
set_option maxRecDepth 100000 in
theorem m256_36 (d sl : Nat) (I : Nat → Int32) (w : Int64) (A : Nat → Nat → Int32) (N : Nat → Nat → Int64) (a1 : Int32) (a2 : Int32) :
  R (d + 1) 256 (36, [some (.ref 0), some (.int a1), some (.int a2)], [], sl, (RH I w A N)) =
    bC (C d 255 [.ref 0, .int a1, .int a2] sl (RH I w A N)) (fun vs sl h => R (d + 1) 256 (42, [some (.ref 0), some (.int a1), some (.int a2)], vs ++ [], sl, h)) :=
  (R_gob [12, 36, 42] 400 _ _ _).trans rfl
set_option maxRecDepth 100000 in
theorem m256_42 (d sl : Nat) (I : Nat → Int32) (w : Int64) (A : Nat → Nat → Int32) (N : Nat → Nat → Int64) (a1 : Int32) (a2 : Int32) (b0 : Int32) :
  R (d + 1) 256 (42, [some (.ref 0), some (.int a1), some (.int a2)], [.int b0], sl, (RH I w A N)) =
    some (42, [some (.ref 0), some (.int a1), some (.int a2)], [.int b0], sl, (RH I w A N)) :=
  (R_gob [12, 36, 42] 400 _ _ _).trans rfl
set_option maxRecDepth 100000 in
theorem m257_0 (d sl : Nat) (I : Nat → Int32) (w : Int64) (A : Nat → Nat → Int32) (N : Nat → Nat → Int64) (a1 : Int32) (a2 : Int32) (a3 : Int32) :
  R (d + 1) 257 (0, [some (.ref 0), some (.int a1), some (.int a2), some (.int a3), none, none], [], sl, (RH I w A N)) =
    bC (C d 196 [.ref 0, .int a1] sl (RH (up1 I 0 (nI 0)) w A N)) (fun vs sl h => R (d + 1) 257 (10, [some (.ref 0), some (.int a1), some (.int a2), some (.int a3), none, none], vs ++ [], sl, h)) :=
  (R_gob [10, 20, 29, 35, 51, 57, 67] 400 _ _ _).trans rfl
set_option maxRecDepth 100000 in
theorem m257_10 (d sl : Nat) (I : Nat → Int32) (w : Int64) (A : Nat → Nat → Int32) (N : Nat → Nat → Int64) (a1 : Int32) (a2 : Int32) (a3 : Int32) (b0 : Int32) :
  R (d + 1) 257 (10, [some (.ref 0), some (.int a1), some (.int a2), some (.int a3), none, none], [.int b0], sl, (RH I w A N)) =
    cond (decide (b0 = (nI 0))) (some (24, [some (.ref 0), some (.int a1), some (.int a2), some (.int a3), none, none], [.int (-1 : Int32)], sl, (RH I w A N))) (bC (C d 166 [.int a2, .int (nI 1), .int (nI 30)] sl (RH I w A N)) (fun vs sl h => R (d + 1) 257 (20, [some (.ref 0), some (.int a1), some (.int a2), some (.int a3), none, none], vs ++ [], sl, h))) :=
  (R_gob [10, 20, 29, 35, 51, 57, 67] 400 _ _ _).trans rfl
set_option maxRecDepth 100000 in
theorem m257_20 (d sl : Nat) (I : Nat → Int32) (w : Int64) (A : Nat → Nat → Int32) (N : Nat → Nat → Int64) (a1 : Int32) (a2 : Int32) (a3 : Int32) (b0 : Int32) :
  R (d + 1) 257 (20, [some (.ref 0), some (.int a1), some (.int a2), some (.int a3), none, none], [.int b0], sl, (RH I w A N)) =
    cond (!decide (b0 = (nI 0))) (bC (C d 235 [.ref 0] sl (RH I w A N)) (fun vs sl h => R (d + 1) 257 (29, [some (.ref 0), some (.int a1), some (.int a2), some (.int a3), none, none], vs ++ [], sl, h))) (some (24, [some (.ref 0), some (.int a1), some (.int a2), some (.int a3), none, none], [.int (-1 : Int32)], sl, (RH I w A N))) :=
  (R_gob [10, 20, 29, 35, 51, 57, 67] 400 _ _ _).trans rfl
set_option maxRecDepth 100000 in
theorem m257_29 (d sl : Nat) (I : Nat → Int32) (w : Int64) (A : Nat → Nat → Int32) (N : Nat → Nat → Int64) (a1 : Int32) (a2 : Int32) (a3 : Int32) :
  R (d + 1) 257 (29, [some (.ref 0), some (.int a1), some (.int a2), some (.int a3), none, none], [], sl, (RH I w A N)) =
    R (d + 1) 257 (35, [some (.ref 0), some (.int a1), some (.int a2), some (.int a3), some (.int (nI 0)), some (.int (nI 0))], [], sl, (RH I w A N)) :=
  (R_gob [10, 20, 29, 35, 51, 57, 67] 400 _ _ _).trans rfl
set_option maxRecDepth 100000 in
theorem m257_35 (d sl : Nat) (I : Nat → Int32) (w : Int64) (A : Nat → Nat → Int32) (N : Nat → Nat → Int64) (a1 : Int32) (a2 : Int32) (a3 : Int32) (a4 : Int32) (a5 : Int32) :
  R (d + 1) 257 (35, [some (.ref 0), some (.int a1), some (.int a2), some (.int a3), some (.int a4), some (.int a5)], [], sl, (RH I w A N)) =
    cond (decide (a2 ≤ a5)) (some (75, [some (.ref 0), some (.int a1), some (.int a2), some (.int a3), some (.int a4), some (.int a5)], [.int a4], sl, (RH I w A N))) (bC (C d 255 [.ref 0, .int (nI 20), .int (a3 + a5)] sl (RH I w A N)) (fun vs sl h => R (d + 1) 257 (51, [some (.ref 0), some (.int a1), some (.int a2), some (.int a3), some (.int a4), some (.int a5)], vs ++ [], sl, h))) :=
  (R_gob [10, 20, 29, 35, 51, 57, 67] 400 _ _ _).trans rfl
set_option maxRecDepth 100000 in
theorem m257_51 (d sl : Nat) (I : Nat → Int32) (w : Int64) (A : Nat → Nat → Int32) (N : Nat → Nat → Int64) (a1 : Int32) (a2 : Int32) (a3 : Int32) (a4 : Int32) (a5 : Int32) (b0 : Int32) :
  R (d + 1) 257 (51, [some (.ref 0), some (.int a1), some (.int a2), some (.int a3), some (.int a4), some (.int a5)], [.int b0], sl, (RH I w A N)) =
    bC (C d 204 [.ref 0, .int a1] sl (RH I w A N)) (fun vs sl h => R (d + 1) 257 (57, [some (.ref 0), some (.int a1), some (.int a2), some (.int a3), some (.int a4), some (.int a5)], vs ++ [], sl, h)) :=
  (R_gob [10, 20, 29, 35, 51, 57, 67] 400 _ _ _).trans rfl
set_option maxRecDepth 100000 in
theorem m257_57 (d sl : Nat) (I : Nat → Int32) (w : Int64) (A : Nat → Nat → Int32) (N : Nat → Nat → Int64) (a1 : Int32) (a2 : Int32) (a3 : Int32) (a4 : Int32) (a5 : Int32) (b0 : Int32) :
  R (d + 1) 257 (57, [some (.ref 0), some (.int a1), some (.int a2), some (.int a3), some (.int a4), some (.int a5)], [.int b0], sl, (RH I w A N)) =
    cond (decide (b0 = (nI 0))) (bC (C d 236 [.ref 0] sl (RH I w A N)) (fun vs sl h => R (d + 1) 257 (67, [some (.ref 0), some (.int a1), some (.int a2), some (.int a3), some (.int a4), some (.int a5)], vs ++ [], sl, h))) (bC (C d 236 [.ref 0] sl (RH I w A N)) (fun vs sl h => R (d + 1) 257 (67, [some (.ref 0), some (.int a1), some (.int a2), some (.int a3), some (.int (a4 + (nI 1))), some (.int a5)], vs ++ [], sl, h))) :=
  (R_gob [10, 20, 29, 35, 51, 57, 67] 400 _ _ _).trans rfl
set_option maxRecDepth 100000 in
theorem m257_67 (d sl : Nat) (I : Nat → Int32) (w : Int64) (A : Nat → Nat → Int32) (N : Nat → Nat → Int64) (a1 : Int32) (a2 : Int32) (a3 : Int32) (a4 : Int32) (a5 : Int32) :
  R (d + 1) 257 (67, [some (.ref 0), some (.int a1), some (.int a2), some (.int a3), some (.int a4), some (.int a5)], [], sl, (RH I w A N)) =
    R (d + 1) 257 (35, [some (.ref 0), some (.int a1), some (.int a2), some (.int a3), some (.int a4), some (.int (a5 + (nI 1)))], [], sl, (RH I w A N)) :=
  (R_gob [10, 20, 29, 35, 51, 57, 67] 400 _ _ _).trans rfl
set_option maxRecDepth 100000 in
theorem m258_0 (d sl : Nat) (I : Nat → Int32) (w : Int64) (A : Nat → Nat → Int32) (N : Nat → Nat → Int64) (a1 : Int32) (a2 : Int32) :
  R d 258 (0, [some (.ref 0), some (.int a1), some (.int a2)], [], sl, (RH I w A N)) =
    cond (decide (a2 = (nI 0))) (some (15, [some (.ref 0), some (.int a1), some (.int a2)], [.int a2], sl, (RH I w A N))) (cond (x_in a1 160) (some (15, [some (.ref 0), some (.int a1), some (.int a2)], [.int a2], sl, (RH I w (up1 A 16 (upd (A 16) a1.toNatClampNeg (I 13))) N))) none) :=
  (R_gob [] 400 _ _ _).trans rfl
set_option maxRecDepth 100000 in
theorem m259_0 (d sl : Nat) (I : Nat → Int32) (w : Int64) (A : Nat → Nat → Int32) (N : Nat → Nat → Int64)  :
  R (d + 1) 259 (0, [some (.ref 0)], [], sl, (RH I w A N)) =
    bC (C d 181 [.ref 0, .int (nI 0), .int (nI 11)] sl (RH I w A N)) (fun vs sl h => R (d + 1) 259 (7, [some (.ref 0)], vs ++ [], sl, h)) :=
  (R_gob [7] 400 _ _ _).trans rfl
set_option maxRecDepth 100000 in
theorem m259_7 (d sl : Nat) (I : Nat → Int32) (w : Int64) (A : Nat → Nat → Int32) (N : Nat → Nat → Int64) (b0 : Int32) :
  R (d + 1) 259 (7, [some (.ref 0)], [.int b0], sl, (RH I w A N)) =
    some (7, [some (.ref 0)], [.int b0], sl, (RH I w A N)) :=
  (R_gob [7] 400 _ _ _).trans rfl
set_option maxRecDepth 100000 in
theorem m260_0 (d sl : Nat) (I : Nat → Int32) (w : Int64) (A : Nat → Nat → Int32) (N : Nat → Nat → Int64)  :
  R (d + 1) 260 (0, [some (.ref 0)], [], sl, (RH I w A N)) =
    bC (C d 190 [.ref 0, .ref 7, .int ((A 2) 0), .int (-1 : Int32)] sl (RH I w A N)) (fun vs sl h => R (d + 1) 260 (15, [some (.ref 0)], vs ++ [], sl, h)) :=
  (R_gob [15] 400 _ _ _).trans rfl
set_option maxRecDepth 100000 in
theorem m260_15 (d sl : Nat) (I : Nat → Int32) (w : Int64) (A : Nat → Nat → Int32) (N : Nat → Nat → Int64) (b0 : Int32) :
  R (d + 1) 260 (15, [some (.ref 0)], [.int b0], sl, (RH I w A N)) =
    some (15, [some (.ref 0)], [.int b0], sl, (RH I w A N)) :=
  (R_gob [15] 400 _ _ _).trans rfl
set_option maxRecDepth 100000 in
theorem m261_0 (d sl : Nat) (I : Nat → Int32) (w : Int64) (A : Nat → Nat → Int32) (N : Nat → Nat → Int64) (a1 : Int32) :
  R (d + 1) 261 (0, [some (.ref 0), some (.int a1)], [], sl, (RH I w A N)) =
    bC (C d 177 [.ref 0, .int (nI 4)] sl (RH I w A N)) (fun vs sl h => R (d + 1) 261 (5, [some (.ref 0), some (.int a1)], vs ++ [], sl, h)) :=
  (R_gob [5, 13, 18, 30, 33, 62, 65] 400 _ _ _).trans rfl
set_option maxRecDepth 100000 in
theorem m261_5 (d sl : Nat) (I : Nat → Int32) (w : Int64) (A : Nat → Nat → Int32) (N : Nat → Nat → Int64) (a1 : Int32) (b0 : Int32) :
  R (d + 1) 261 (5, [some (.ref 0), some (.int a1)], [.int b0], sl, (RH I w A N)) =
    cond (!decide (b0 = (nI 0))) (bC (C d 174 [.ref 0] sl (RH I w A N)) (fun vs sl h => R (d + 1) 261 (18, [some (.ref 0), some (.int a1)], vs ++ [], sl, h))) (bC (C d 180 [.ref 0, .int (nI 1)] sl (RH I w A N)) (fun vs sl h => R (d + 1) 261 (13, [some (.ref 0), some (.int a1)], vs ++ [], sl, h))) :=
  (R_gob [5, 13, 18, 30, 33, 62, 65] 400 _ _ _).trans rfl
set_option maxRecDepth 100000 in
theorem m261_18 (d sl : Nat) (I : Nat → Int32) (w : Int64) (A : Nat → Nat → Int32) (N : Nat → Nat → Int64) (a1 : Int32) :
  R (d + 1) 261 (18, [some (.ref 0), some (.int a1)], [], sl, (RH I w A N)) =
    bC (C d 181 [.ref 0, .int (nI 1), .int (nI 200)] sl (RH I w A N)) (fun vs sl h => R (d + 1) 261 (30, [some (.ref 0), some (.int a1)], vs ++ [.int (a1 + (nI 3)), .ref 0], sl, h)) :=
  (R_gob [5, 13, 18, 30, 33, 62, 65] 400 _ _ _).trans rfl
set_option maxRecDepth 100000 in
theorem m261_13 (d sl : Nat) (I : Nat → Int32) (w : Int64) (A : Nat → Nat → Int32) (N : Nat → Nat → Int64) (a1 : Int32) (b0 : Int32) :
  R (d + 1) 261 (13, [some (.ref 0), some (.int a1)], [.int b0], sl, (RH I w A N)) =
    some (13, [some (.ref 0), some (.int a1)], [.int b0], sl, (RH I w A N)) :=
  (R_gob [5, 13, 18, 30, 33, 62, 65] 400 _ _ _).trans rfl
set_option maxRecDepth 100000 in
theorem m261_30 (d sl : Nat) (I : Nat → Int32) (w : Int64) (A : Nat → Nat → Int32) (N : Nat → Nat → Int64) (a1 : Int32) (b0 : Int32) (b1 : Int32) :
  R (d + 1) 261 (30, [some (.ref 0), some (.int a1)], [.int b0, .int b1, .ref 0], sl, (RH I w A N)) =
    bC (C d 258 [.ref 0, .int b1, .int b0] sl (RH I w A N)) (fun vs sl h => R (d + 1) 261 (33, [some (.ref 0), some (.int a1)], vs ++ [], sl, h)) :=
  (R_gob [5, 13, 18, 30, 33, 62, 65] 400 _ _ _).trans rfl
set_option maxRecDepth 100000 in
theorem m261_33 (d sl : Nat) (I : Nat → Int32) (w : Int64) (A : Nat → Nat → Int32) (N : Nat → Nat → Int64) (a1 : Int32) (b0 : Int32) :
  R (d + 1) 261 (33, [some (.ref 0), some (.int a1)], [.int b0], sl, (RH I w A N)) =
    cond (decide (b0 = (nI 0))) (some (73, [some (.ref 0), some (.int a1)], [.int (nI 0)], sl, (RH I w A N))) (cond (x_in (a1 + (nI 1)) 160) (bC (C d 190 [.ref 0, .ref 7, .int ((A 2) 0), .int ((A 16) (a1 + (nI 1)).toNatClampNeg)] sl (RH I w A N)) (fun vs sl h => R (d + 1) 261 (62, [some (.ref 0), some (.int a1)], vs ++ [.int (a1 + (nI 2)), .ref 0], sl, h))) none) :=
  (R_gob [5, 13, 18, 30, 33, 62, 65] 400 _ _ _).trans rfl
set_option maxRecDepth 100000 in
theorem m261_62 (d sl : Nat) (I : Nat → Int32) (w : Int64) (A : Nat → Nat → Int32) (N : Nat → Nat → Int64) (a1 : Int32) (b0 : Int32) (b1 : Int32) :
  R (d + 1) 261 (62, [some (.ref 0), some (.int a1)], [.int b0, .int b1, .ref 0], sl, (RH I w A N)) =
    bC (C d 258 [.ref 0, .int b1, .int b0] sl (RH I w A N)) (fun vs sl h => R (d + 1) 261 (65, [some (.ref 0), some (.int a1)], vs ++ [], sl, h)) :=
  (R_gob [5, 13, 18, 30, 33, 62, 65] 400 _ _ _).trans rfl
set_option maxRecDepth 100000 in
theorem m261_65 (d sl : Nat) (I : Nat → Int32) (w : Int64) (A : Nat → Nat → Int32) (N : Nat → Nat → Int64) (a1 : Int32) (b0 : Int32) :
  R (d + 1) 261 (65, [some (.ref 0), some (.int a1)], [.int b0], sl, (RH I w A N)) =
    cond (decide (b0 = (nI 0))) (some (73, [some (.ref 0), some (.int a1)], [.int (nI 0)], sl, (RH I w A N))) (some (73, [some (.ref 0), some (.int a1)], [.int (nI 1)], sl, (RH I w A N))) :=
  (R_gob [5, 13, 18, 30, 33, 62, 65] 400 _ _ _).trans rfl
set_option maxRecDepth 100000 in
theorem m262_0 (d sl : Nat) (I : Nat → Int32) (w : Int64) (A : Nat → Nat → Int32) (N : Nat → Nat → Int64)  :
  R (d + 1) 262 (0, [some (.ref 0), none], [], sl, (RH I w A N)) =
    bC (C d 177 [.ref 0, .int (nI 8)] sl (RH I w A N)) (fun vs sl h => R (d + 1) 262 (6, [some (.ref 0), none], vs ++ [], sl, h)) :=
  (R_gob [6, 16, 23, 37] 400 _ _ _).trans rfl
set_option maxRecDepth 100000 in
theorem m262_6 (d sl : Nat) (I : Nat → Int32) (w : Int64) (A : Nat → Nat → Int32) (N : Nat → Nat → Int64) (b0 : Int32) :
  R (d + 1) 262 (6, [some (.ref 0), none], [.int b0], sl, (RH I w A N)) =
    cond (decide (b0 = (nI 0))) (bC (C d 177 [.ref 0, .int (nI 3)] sl (RH I w A N)) (fun vs sl h => R (d + 1) 262 (16, [some (.ref 0), none], vs ++ [], sl, h))) (some (10, [some (.ref 0), none], [.int (nI 5)], sl, (RH I w A N))) :=
  (R_gob [6, 16, 23, 37] 400 _ _ _).trans rfl
set_option maxRecDepth 100000 in
theorem m262_16 (d sl : Nat) (I : Nat → Int32) (w : Int64) (A : Nat → Nat → Int32) (N : Nat → Nat → Int64) (b0 : Int32) :
  R (d + 1) 262 (16, [some (.ref 0), none], [.int b0], sl, (RH I w A N)) =
    cond (decide (b0 = (nI 0))) (R (d + 1) 262 (23, [some (.ref 0), some (.int (nI 2))], [], sl, (RH I w A N))) (some (20, [some (.ref 0), none], [.int (nI 0)], sl, (RH I w A N))) :=
  (R_gob [6, 16, 23, 37] 400 _ _ _).trans rfl
set_option maxRecDepth 100000 in
theorem m262_23 (d sl : Nat) (I : Nat → Int32) (w : Int64) (A : Nat → Nat → Int32) (N : Nat → Nat → Int64) (a1 : Int32) :
  R (d + 1) 262 (23, [some (.ref 0), some (.int a1)], [], sl, (RH I w A N)) =
    cond (decide ((nI 4) < a1)) (some (49, [some (.ref 0), some (.int a1)], [.int (nI 1)], sl, (RH I w A N))) (bC (C d 177 [.ref 0, .int (((nI 5) + a1) - (nI 2))] sl (RH I w A N)) (fun vs sl h => R (d + 1) 262 (37, [some (.ref 0), some (.int a1)], vs ++ [], sl, h))) :=
  (R_gob [6, 16, 23, 37] 400 _ _ _).trans rfl
set_option maxRecDepth 100000 in
theorem m262_37 (d sl : Nat) (I : Nat → Int32) (w : Int64) (A : Nat → Nat → Int32) (N : Nat → Nat → Int64) (a1 : Int32) (b0 : Int32) :
  R (d + 1) 262 (37, [some (.ref 0), some (.int a1)], [.int b0], sl, (RH I w A N)) =
    cond (decide (b0 = (nI 0))) (R (d + 1) 262 (23, [some (.ref 0), some (.int (a1 + (nI 1)))], [], sl, (RH I w A N))) (some (41, [some (.ref 0), some (.int a1)], [.int a1], sl, (RH I w A N))) :=
  (R_gob [6, 16, 23, 37] 400 _ _ _).trans rfl
set_option maxRecDepth 100000 in
theorem m263_0 (d sl : Nat) (I : Nat → Int32) (w : Int64) (A : Nat → Nat → Int32) (N : Nat → Nat → Int64)  :
  R (d + 1) 263 (0, [some (.ref 0), none, none], [], sl, (RH I w A N)) =
    bC (C d 262 [.ref 0] sl (RH I w A N)) (fun vs sl h => R (d + 1) 263 (4, [some (.ref 0), none, none], vs ++ [], sl, h)) :=
  (R_gob [4, 14, 22, 40, 49, 64, 108, 135, 136, 180, 183, 198, 201, 208, 222, 229, 246, 249, 260, 263, 270, 287, 290, 297, 314, 317, 328, 331, 338, 358, 361, 368] 400 _ _ _).trans rfl
set_option maxRecDepth 100000 in
theorem m263_4 (d sl : Nat) (I : Nat → Int32) (w : Int64) (A : Nat → Nat → Int32) (N : Nat → Nat → Int64) (b0 : Int32) :
  R (d + 1) 263 (4, [some (.ref 0), none, none], [.int b0], sl, (RH I w A N)) =
    cond (!decide (b0 = (nI 1))) (cond (!decide ((I 37) = (nI 40))) (cond (x_in ((nI 4) * (I 37)) 160) (cond (!decide (b0 = (nI 1))) (cond (x_in (((nI 4) * (I 37)) + (nI 1)) 160) (cond (x_in (((nI 4) * (I 37)) + (nI 2)) 160) (cond (x_in (((nI 4) * (I 37)) + (nI 3)) 160) (bC (C d 174 [.ref 0] sl (RH I w (up1 A 16 (upd (upd (upd (upd (A 16) ((nI 4) * (I 37)).toNatClampNeg b0) (((nI 4) * (I 37)) + (nI 1)).toNatClampNeg (nI 0)) (((nI 4) * (I 37)) + (nI 2)).toNatClampNeg (nI 0)) (((nI 4) * (I 37)) + (nI 3)).toNatClampNeg (nI 0))) N)) (fun vs sl h => R (d + 1) 263 (135, [some (.ref 0), some (.int b0), some (.int ((nI 4) * (I 37)))], vs ++ [], sl, h))) none) none) none) (bC (C d 186 [.ref 7, .int ((A 2) 0), .long w] sl (RH I w (up1 A 16 (upd (A 16) ((nI 4) * (I 37)).toNatClampNeg b0)) N)) (fun vs sl h => R (d + 1) 263 (108, [some (.ref 0), some (.int b0), some (.int ((nI 4) * (I 37)))], vs ++ [.int (((nI 4) * (I 37)) + (nI 1)), .ref 16], sl, h)))) none) (bC (C d 180 [.ref 0, .int (nI 4)] sl (RH I w A N)) (fun vs sl h => R (d + 1) 263 (64, [some (.ref 0), some (.int b0), none], vs ++ [], sl, h)))) (bC (C d 179 [.ref 0] sl (RH I w A N)) (fun vs sl h => R (d + 1) 263 (14, [some (.ref 0), some (.int b0), none], vs ++ [], sl, h))) :=
  (R_gob [4, 14, 22, 40, 49, 64, 108, 135, 136, 180, 183, 198, 201, 208, 222, 229, 246, 249, 260, 263, 270, 287, 290, 297, 314, 317, 328, 331, 338, 358, 361, 368] 400 _ _ _).trans rfl
set_option maxRecDepth 100000 in
theorem m263_135 (d sl : Nat) (I : Nat → Int32) (w : Int64) (A : Nat → Nat → Int32) (N : Nat → Nat → Int64) (a1 : Int32) (a2 : Int32) :
  R (d + 1) 263 (135, [some (.ref 0), some (.int a1), some (.int a2)], [], sl, (RH I w A N)) =
    R (d + 1) 263 (136, [some (.ref 0), some (.int a1), some (.int a2)], [.int a1], sl, (RH I w A N)) :=
  (R_gob [4, 14, 22, 40, 49, 64, 108, 135, 136, 180, 183, 198, 201, 208, 222, 229, 246, 249, 260, 263, 270, 287, 290, 297, 314, 317, 328, 331, 338, 358, 361, 368] 400 _ _ _).trans rfl
set_option maxRecDepth 100000 in
theorem m263_108 (d sl : Nat) (I : Nat → Int32) (w : Int64) (A : Nat → Nat → Int32) (N : Nat → Nat → Int64) (a1 : Int32) (a2 : Int32) (b0 : Int32) (b1 : Int32) :
  R (d + 1) 263 (108, [some (.ref 0), some (.int a1), some (.int a2)], [.int b0, .int b1, .ref 16], sl, (RH I w A N)) =
    cond (x_in b1 160) (cond (x_in (a2 + (nI 2)) 160) (cond (x_in (a2 + (nI 3)) 160) (bC (C d 174 [.ref 0] sl (RH I w (up1 A 16 (upd (upd (upd (A 16) b1.toNatClampNeg b0) (a2 + (nI 2)).toNatClampNeg (nI 0)) (a2 + (nI 3)).toNatClampNeg (nI 0))) N)) (fun vs sl h => R (d + 1) 263 (135, [some (.ref 0), some (.int a1), some (.int a2)], vs ++ [], sl, h))) none) none) none :=
  (R_gob [4, 14, 22, 40, 49, 64, 108, 135, 136, 180, 183, 198, 201, 208, 222, 229, 246, 249, 260, 263, 270, 287, 290, 297, 314, 317, 328, 331, 338, 358, 361, 368] 400 _ _ _).trans rfl
set_option maxRecDepth 100000 in
theorem m263_64 (d sl : Nat) (I : Nat → Int32) (w : Int64) (A : Nat → Nat → Int32) (N : Nat → Nat → Int64) (a1 : Int32) (b0 : Int32) :
  R (d + 1) 263 (64, [some (.ref 0), some (.int a1), none], [.int b0], sl, (RH I w A N)) =
    some (64, [some (.ref 0), some (.int a1), none], [.int b0], sl, (RH I w A N)) :=
  (R_gob [4, 14, 22, 40, 49, 64, 108, 135, 136, 180, 183, 198, 201, 208, 222, 229, 246, 249, 260, 263, 270, 287, 290, 297, 314, 317, 328, 331, 338, 358, 361, 368] 400 _ _ _).trans rfl
set_option maxRecDepth 100000 in
theorem m263_14 (d sl : Nat) (I : Nat → Int32) (w : Int64) (A : Nat → Nat → Int32) (N : Nat → Nat → Int64) (a1 : Int32) (b0 : Int32) :
  R (d + 1) 263 (14, [some (.ref 0), some (.int a1), none], [.int b0], sl, (RH I w A N)) =
    cond (!decide (b0 = (nI 0))) (bC (C d 186 [.ref 7, .int ((A 2) 0), .long w] sl (RH I w A N)) (fun vs sl h => R (d + 1) 263 (40, [some (.ref 0), some (.int a1), none], vs ++ [], sl, h))) (bC (C d 180 [.ref 0, .int (nI 1)] sl (RH I w A N)) (fun vs sl h => R (d + 1) 263 (22, [some (.ref 0), some (.int a1), none], vs ++ [], sl, h))) :=
  (R_gob [4, 14, 22, 40, 49, 64, 108, 135, 136, 180, 183, 198, 201, 208, 222, 229, 246, 249, 260, 263, 270, 287, 290, 297, 314, 317, 328, 331, 338, 358, 361, 368] 400 _ _ _).trans rfl
set_option maxRecDepth 100000 in
theorem m263_136_out (d sl : Nat) (I : Nat → Int32) (w : Int64) (A : Nat → Nat → Int32) (N : Nat → Nat → Int64) (a1 : Int32) (a2 : Int32) (x : Int32) (hx : (decide (x.toInt < (0)) || decide ((4) < x.toInt)) = true) :
  R (d + 1) 263 (136, [some (.ref 0), some (.int a1), some (.int a2)], .int x :: [], sl, (RH I w A N)) = R (d + 1) 263 (347, [some (.ref 0), some (.int a1), some (.int a2)], [], sl, (RH I w A N)) :=
  (R_tsw (show xk 263 136 = (.tableswitch 211 0 4 #[36, 81, 102, 143, 170], 172, [], 0) by decide +kernel)).trans (congrArg (fun q => R (d + 1) 263 (q, [some (.ref 0), some (.int a1), some (.int a2)], [], sl, (RH I w A N))) ((x_tsw_out hx).trans (by decide +kernel)))
set_option maxRecDepth 100000 in
theorem m263_136_c0 (d sl : Nat) (I : Nat → Int32) (w : Int64) (A : Nat → Nat → Int32) (N : Nat → Nat → Int64) (a1 : Int32) (a2 : Int32)  :
  R (d + 1) 263 (136, [some (.ref 0), some (.int a1), some (.int a2)], .int (nI 0) :: [], sl, (RH I w A N)) = R (d + 1) 263 (172, [some (.ref 0), some (.int a1), some (.int a2)], [], sl, (RH I w A N)) :=
  (R_tsw (show xk 263 136 = (.tableswitch 211 0 4 #[36, 81, 102, 143, 170], 172, [], 0) by decide +kernel)).trans (congrArg (fun q => R (d + 1) 263 (q, [some (.ref 0), some (.int a1), some (.int a2)], [], sl, (RH I w A N))) (by decide +kernel))
set_option maxRecDepth 100000 in
theorem m263_136_c1 (d sl : Nat) (I : Nat → Int32) (w : Int64) (A : Nat → Nat → Int32) (N : Nat → Nat → Int64) (a1 : Int32) (a2 : Int32)  :
  R (d + 1) 263 (136, [some (.ref 0), some (.int a1), some (.int a2)], .int (nI 1) :: [], sl, (RH I w A N)) = R (d + 1) 263 (217, [some (.ref 0), some (.int a1), some (.int a2)], [], sl, (RH I w A N)) :=
  (R_tsw (show xk 263 136 = (.tableswitch 211 0 4 #[36, 81, 102, 143, 170], 172, [], 0) by decide +kernel)).trans (congrArg (fun q => R (d + 1) 263 (q, [some (.ref 0), some (.int a1), some (.int a2)], [], sl, (RH I w A N))) (by decide +kernel))
set_option maxRecDepth 100000 in
theorem m263_136_c2 (d sl : Nat) (I : Nat → Int32) (w : Int64) (A : Nat → Nat → Int32) (N : Nat → Nat → Int64) (a1 : Int32) (a2 : Int32)  :
  R (d + 1) 263 (136, [some (.ref 0), some (.int a1), some (.int a2)], .int (nI 2) :: [], sl, (RH I w A N)) = R (d + 1) 263 (238, [some (.ref 0), some (.int a1), some (.int a2)], [], sl, (RH I w A N)) :=
  (R_tsw (show xk 263 136 = (.tableswitch 211 0 4 #[36, 81, 102, 143, 170], 172, [], 0) by decide +kernel)).trans (congrArg (fun q => R (d + 1) 263 (q, [some (.ref 0), some (.int a1), some (.int a2)], [], sl, (RH I w A N))) (by decide +kernel))
set_option maxRecDepth 100000 in
theorem m263_136_c3 (d sl : Nat) (I : Nat → Int32) (w : Int64) (A : Nat → Nat → Int32) (N : Nat → Nat → Int64) (a1 : Int32) (a2 : Int32)  :
  R (d + 1) 263 (136, [some (.ref 0), some (.int a1), some (.int a2)], .int (nI 3) :: [], sl, (RH I w A N)) = R (d + 1) 263 (279, [some (.ref 0), some (.int a1), some (.int a2)], [], sl, (RH I w A N)) :=
  (R_tsw (show xk 263 136 = (.tableswitch 211 0 4 #[36, 81, 102, 143, 170], 172, [], 0) by decide +kernel)).trans (congrArg (fun q => R (d + 1) 263 (q, [some (.ref 0), some (.int a1), some (.int a2)], [], sl, (RH I w A N))) (by decide +kernel))
set_option maxRecDepth 100000 in
theorem m263_136_c4 (d sl : Nat) (I : Nat → Int32) (w : Int64) (A : Nat → Nat → Int32) (N : Nat → Nat → Int64) (a1 : Int32) (a2 : Int32)  :
  R (d + 1) 263 (136, [some (.ref 0), some (.int a1), some (.int a2)], .int (nI 4) :: [], sl, (RH I w A N)) = R (d + 1) 263 (306, [some (.ref 0), some (.int a1), some (.int a2)], [], sl, (RH I w A N)) :=
  (R_tsw (show xk 263 136 = (.tableswitch 211 0 4 #[36, 81, 102, 143, 170], 172, [], 0) by decide +kernel)).trans (congrArg (fun q => R (d + 1) 263 (q, [some (.ref 0), some (.int a1), some (.int a2)], [], sl, (RH I w A N))) (by decide +kernel))
set_option maxRecDepth 100000 in
theorem m263_40 (d sl : Nat) (I : Nat → Int32) (w : Int64) (A : Nat → Nat → Int32) (N : Nat → Nat → Int64) (a1 : Int32) (b0 : Int32) :
  R (d + 1) 263 (40, [some (.ref 0), some (.int a1), none], [.int b0], sl, (RH I w A N)) =
    cond (!decide (b0 = (-1 : Int32))) (cond (!decide ((I 37) = (nI 40))) (cond (x_in ((nI 4) * (I 37)) 160) (cond (!decide (a1 = (nI 1))) (cond (x_in (((nI 4) * (I 37)) + (nI 1)) 160) (cond (x_in (((nI 4) * (I 37)) + (nI 2)) 160) (cond (x_in (((nI 4) * (I 37)) + (nI 3)) 160) (bC (C d 174 [.ref 0] sl (RH I w (up1 A 16 (upd (upd (upd (upd (A 16) ((nI 4) * (I 37)).toNatClampNeg a1) (((nI 4) * (I 37)) + (nI 1)).toNatClampNeg (nI 0)) (((nI 4) * (I 37)) + (nI 2)).toNatClampNeg (nI 0)) (((nI 4) * (I 37)) + (nI 3)).toNatClampNeg (nI 0))) N)) (fun vs sl h => R (d + 1) 263 (135, [some (.ref 0), some (.int a1), some (.int ((nI 4) * (I 37)))], vs ++ [], sl, h))) none) none) none) (bC (C d 186 [.ref 7, .int ((A 2) 0), .long w] sl (RH I w (up1 A 16 (upd (A 16) ((nI 4) * (I 37)).toNatClampNeg a1)) N)) (fun vs sl h => R (d + 1) 263 (108, [some (.ref 0), some (.int a1), some (.int ((nI 4) * (I 37)))], vs ++ [.int (((nI 4) * (I 37)) + (nI 1)), .ref 16], sl, h)))) none) (bC (C d 180 [.ref 0, .int (nI 4)] sl (RH I w A N)) (fun vs sl h => R (d + 1) 263 (64, [some (.ref 0), some (.int a1), none], vs ++ [], sl, h)))) (bC (C d 180 [.ref 0, .int (nI 3)] sl (RH I w A N)) (fun vs sl h => R (d + 1) 263 (49, [some (.ref 0), some (.int a1), none], vs ++ [], sl, h))) :=
  (R_gob [4, 14, 22, 40, 49, 64, 108, 135, 136, 172, 180, 183, 198, 201, 208, 217, 222, 229, 238, 246, 249, 260, 263, 270, 279, 287, 290, 297, 306, 314, 317, 328, 331, 338, 347, 358, 361, 368] 400 _ _ _).trans rfl
set_option maxRecDepth 100000 in
theorem m263_22 (d sl : Nat) (I : Nat → Int32) (w : Int64) (A : Nat → Nat → Int32) (N : Nat → Nat → Int64) (a1 : Int32) (b0 : Int32) :
  R (d + 1) 263 (22, [some (.ref 0), some (.int a1), none], [.int b0], sl, (RH I w A N)) =
    some (22, [some (.ref 0), some (.int a1), none], [.int b0], sl, (RH I w A N)) :=
  (R_gob [4, 14, 22, 40, 49, 64, 108, 135, 136, 172, 180, 183, 198, 201, 208, 217, 222, 229, 238, 246, 249, 260, 263, 270, 279, 287, 290, 297, 306, 314, 317, 328, 331, 338, 347, 358, 361, 368] 400 _ _ _).trans rfl
set_option maxRecDepth 100000 in
theorem m263_347 (d sl : Nat) (I : Nat → Int32) (w : Int64) (A : Nat → Nat → Int32) (N : Nat → Nat → Int64) (a1 : Int32) (a2 : Int32) :
  R (d + 1) 263 (347, [some (.ref 0), some (.int a1), some (.int a2)], [], sl, (RH I w A N)) =
    bC (C d 181 [.ref 0, .int (nI 1), .int (nI 60)] sl (RH I w A N)) (fun vs sl h => R (d + 1) 263 (358, [some (.ref 0), some (.int a1), some (.int a2)], vs ++ [.int (a2 + (nI 1)), .ref 0], sl, h)) :=
  (R_gob [4, 14, 22, 40, 49, 64, 108, 135, 136, 172, 180, 183, 198, 201, 208, 217, 222, 229, 238, 246, 249, 260, 263, 270, 279, 287, 290, 297, 306, 314, 317, 328, 331, 338, 347, 358, 361, 368] 400 _ _ _).trans rfl
set_option maxRecDepth 100000 in
theorem m263_172 (d sl : Nat) (I : Nat → Int32) (w : Int64) (A : Nat → Nat → Int32) (N : Nat → Nat → Int64) (a1 : Int32) (a2 : Int32) :
  R (d + 1) 263 (172, [some (.ref 0), some (.int a1), some (.int a2)], [], sl, (RH I w A N)) =
    bC (C d 259 [.ref 0] sl (RH I w A N)) (fun vs sl h => R (d + 1) 263 (180, [some (.ref 0), some (.int a1), some (.int a2)], vs ++ [.int (a2 + (nI 1)), .ref 0], sl, h)) :=
  (R_gob [4, 14, 22, 40, 49, 64, 108, 135, 136, 172, 180, 183, 198, 201, 208, 217, 222, 229, 238, 246, 249, 260, 263, 270, 279, 287, 290, 297, 306, 314, 317, 328, 331, 338, 347, 358, 361, 368] 400 _ _ _).trans rfl
set_option maxRecDepth 100000 in
theorem m263_217 (d sl : Nat) (I : Nat → Int32) (w : Int64) (A : Nat → Nat → Int32) (N : Nat → Nat → Int64) (a1 : Int32) (a2 : Int32) :
  R (d + 1) 263 (217, [some (.ref 0), some (.int a1), some (.int a2)], [], sl, (RH I w A N)) =
    bC (C d 261 [.ref 0, .int a2] sl (RH I w A N)) (fun vs sl h => R (d + 1) 263 (222, [some (.ref 0), some (.int a1), some (.int a2)], vs ++ [], sl, h)) :=
  (R_gob [4, 14, 22, 40, 49, 64, 108, 135, 136, 172, 180, 183, 198, 201, 208, 217, 222, 229, 238, 246, 249, 260, 263, 270, 279, 287, 290, 297, 306, 314, 317, 328, 331, 338, 347, 358, 361, 368] 400 _ _ _).trans rfl
set_option maxRecDepth 100000 in
theorem m263_238 (d sl : Nat) (I : Nat → Int32) (w : Int64) (A : Nat → Nat → Int32) (N : Nat → Nat → Int64) (a1 : Int32) (a2 : Int32) :
  R (d + 1) 263 (238, [some (.ref 0), some (.int a1), some (.int a2)], [], sl, (RH I w A N)) =
    bC (C d 259 [.ref 0] sl (RH I w A N)) (fun vs sl h => R (d + 1) 263 (246, [some (.ref 0), some (.int a1), some (.int a2)], vs ++ [.int (a2 + (nI 1)), .ref 0], sl, h)) :=
  (R_gob [4, 14, 22, 40, 49, 64, 108, 135, 136, 172, 180, 183, 198, 201, 208, 217, 222, 229, 238, 246, 249, 260, 263, 270, 279, 287, 290, 297, 306, 314, 317, 328, 331, 338, 347, 358, 361, 368] 400 _ _ _).trans rfl
set_option maxRecDepth 100000 in
theorem m263_279 (d sl : Nat) (I : Nat → Int32) (w : Int64) (A : Nat → Nat → Int32) (N : Nat → Nat → Int64) (a1 : Int32) (a2 : Int32) :
  R (d + 1) 263 (279, [some (.ref 0), some (.int a1), some (.int a2)], [], sl, (RH I w A N)) =
    bC (C d 259 [.ref 0] sl (RH I w A N)) (fun vs sl h => R (d + 1) 263 (287, [some (.ref 0), some (.int a1), some (.int a2)], vs ++ [.int (a2 + (nI 1)), .ref 0], sl, h)) :=
  (R_gob [4, 14, 22, 40, 49, 64, 108, 135, 136, 172, 180, 183, 198, 201, 208, 217, 222, 229, 238, 246, 249, 260, 263, 270, 279, 287, 290, 297, 306, 314, 317, 328, 331, 338, 347, 358, 361, 368] 400 _ _ _).trans rfl
set_option maxRecDepth 100000 in
theorem m263_306 (d sl : Nat) (I : Nat → Int32) (w : Int64) (A : Nat → Nat → Int32) (N : Nat → Nat → Int64) (a1 : Int32) (a2 : Int32) :
  R (d + 1) 263 (306, [some (.ref 0), some (.int a1), some (.int a2)], [], sl, (RH I w A N)) =
    bC (C d 259 [.ref 0] sl (RH I w A N)) (fun vs sl h => R (d + 1) 263 (314, [some (.ref 0), some (.int a1), some (.int a2)], vs ++ [.int (a2 + (nI 1)), .ref 0], sl, h)) :=
  (R_gob [4, 14, 22, 40, 49, 64, 108, 135, 136, 172, 180, 183, 198, 201, 208, 217, 222, 229, 238, 246, 249, 260, 263, 270, 279, 287, 290, 297, 306, 314, 317, 328, 331, 338, 347, 358, 361, 368] 400 _ _ _).trans rfl
set_option maxRecDepth 100000 in
theorem m263_49 (d sl : Nat) (I : Nat → Int32) (w : Int64) (A : Nat → Nat → Int32) (N : Nat → Nat → Int64) (a1 : Int32) (b0 : Int32) :
  R (d + 1) 263 (49, [some (.ref 0), some (.int a1), none], [.int b0], sl, (RH I w A N)) =
    some (49, [some (.ref 0), some (.int a1), none], [.int b0], sl, (RH I w A N)) :=
  (R_gob [4, 14, 22, 40, 49, 64, 108, 135, 136, 172, 180, 183, 198, 201, 208, 217, 222, 229, 238, 246, 249, 260, 263, 270, 279, 287, 290, 297, 306, 314, 317, 328, 331, 338, 347, 358, 361, 368] 400 _ _ _).trans rfl
set_option maxRecDepth 100000 in
theorem m263_358 (d sl : Nat) (I : Nat → Int32) (w : Int64) (A : Nat → Nat → Int32) (N : Nat → Nat → Int64) (a1 : Int32) (a2 : Int32) (b0 : Int32) (b1 : Int32) :
  R (d + 1) 263 (358, [some (.ref 0), some (.int a1), some (.int a2)], [.int b0, .int b1, .ref 0], sl, (RH I w A N)) =
    bC (C d 258 [.ref 0, .int b1, .int b0] sl (RH I w A N)) (fun vs sl h => R (d + 1) 263 (361, [some (.ref 0), some (.int a1), some (.int a2)], vs ++ [], sl, h)) :=
  (R_gob [4, 14, 22, 40, 49, 64, 108, 135, 136, 172, 180, 183, 198, 201, 208, 217, 222, 229, 238, 246, 249, 260, 263, 270, 279, 287, 290, 297, 306, 314, 317, 328, 331, 338, 347, 358, 361, 368] 400 _ _ _).trans rfl
set_option maxRecDepth 100000 in
theorem m263_180 (d sl : Nat) (I : Nat → Int32) (w : Int64) (A : Nat → Nat → Int32) (N : Nat → Nat → Int64) (a1 : Int32) (a2 : Int32) (b0 : Int32) (b1 : Int32) :
  R (d + 1) 263 (180, [some (.ref 0), some (.int a1), some (.int a2)], [.int b0, .int b1, .ref 0], sl, (RH I w A N)) =
    bC (C d 258 [.ref 0, .int b1, .int b0] sl (RH I w A N)) (fun vs sl h => R (d + 1) 263 (183, [some (.ref 0), some (.int a1), some (.int a2)], vs ++ [], sl, h)) :=
  (R_gob [4, 14, 22, 40, 49, 64, 108, 135, 136, 172, 180, 183, 198, 201, 208, 217, 222, 229, 238, 246, 249, 260, 263, 270, 279, 287, 290, 297, 306, 314, 317, 328, 331, 338, 347, 358, 361, 368] 400 _ _ _).trans rfl
set_option maxRecDepth 100000 in
theorem m263_222 (d sl : Nat) (I : Nat → Int32) (w : Int64) (A : Nat → Nat → Int32) (N : Nat → Nat → Int64) (a1 : Int32) (a2 : Int32) (b0 : Int32) :
  R (d + 1) 263 (222, [some (.ref 0), some (.int a1), some (.int a2)], [.int b0], sl, (RH I w A N)) =
    cond (decide (b0 = (nI 0))) (some (237, [some (.ref 0), some (.int a1), some (.int a2)], [.int (nI 0)], sl, (RH I w A N))) (bC (C d 182 [.ref 0] sl (RH I w A N)) (fun vs sl h => R (d + 1) 263 (229, [some (.ref 0), some (.int a1), some (.int a2)], vs ++ [], sl, h))) :=
  (R_gob [4, 14, 22, 40, 49, 64, 108, 135, 136, 172, 180, 183, 198, 201, 208, 217, 222, 229, 238, 246, 249, 260, 263, 270, 279, 287, 290, 297, 306, 314, 317, 328, 331, 338, 347, 358, 361, 368] 400 _ _ _).trans rfl
set_option maxRecDepth 100000 in
theorem m263_246 (d sl : Nat) (I : Nat → Int32) (w : Int64) (A : Nat → Nat → Int32) (N : Nat → Nat → Int64) (a1 : Int32) (a2 : Int32) (b0 : Int32) (b1 : Int32) :
  R (d + 1) 263 (246, [some (.ref 0), some (.int a1), some (.int a2)], [.int b0, .int b1, .ref 0], sl, (RH I w A N)) =
    bC (C d 258 [.ref 0, .int b1, .int b0] sl (RH I w A N)) (fun vs sl h => R (d + 1) 263 (249, [some (.ref 0), some (.int a1), some (.int a2)], vs ++ [], sl, h)) :=
  (R_gob [4, 14, 22, 40, 49, 64, 108, 135, 136, 172, 180, 183, 198, 201, 208, 217, 222, 229, 238, 246, 249, 260, 263, 270, 279, 287, 290, 297, 306, 314, 317, 328, 331, 338, 347, 358, 361, 368] 400 _ _ _).trans rfl
set_option maxRecDepth 100000 in
theorem m263_287 (d sl : Nat) (I : Nat → Int32) (w : Int64) (A : Nat → Nat → Int32) (N : Nat → Nat → Int64) (a1 : Int32) (a2 : Int32) (b0 : Int32) (b1 : Int32) :
  R (d + 1) 263 (287, [some (.ref 0), some (.int a1), some (.int a2)], [.int b0, .int b1, .ref 0], sl, (RH I w A N)) =
    bC (C d 258 [.ref 0, .int b1, .int b0] sl (RH I w A N)) (fun vs sl h => R (d + 1) 263 (290, [some (.ref 0), some (.int a1), some (.int a2)], vs ++ [], sl, h)) :=
  (R_gob [4, 14, 22, 40, 49, 64, 108, 135, 136, 172, 180, 183, 198, 201, 208, 217, 222, 229, 238, 246, 249, 260, 263, 270, 279, 287, 290, 297, 306, 314, 317, 328, 331, 338, 347, 358, 361, 368] 400 _ _ _).trans rfl
set_option maxRecDepth 100000 in
theorem m263_314 (d sl : Nat) (I : Nat → Int32) (w : Int64) (A : Nat → Nat → Int32) (N : Nat → Nat → Int64) (a1 : Int32) (a2 : Int32) (b0 : Int32) (b1 : Int32) :
  R (d + 1) 263 (314, [some (.ref 0), some (.int a1), some (.int a2)], [.int b0, .int b1, .ref 0], sl, (RH I w A N)) =
    bC (C d 258 [.ref 0, .int b1, .int b0] sl (RH I w A N)) (fun vs sl h => R (d + 1) 263 (317, [some (.ref 0), some (.int a1), some (.int a2)], vs ++ [], sl, h)) :=
  (R_gob [4, 14, 22, 40, 49, 64, 108, 135, 136, 172, 180, 183, 198, 201, 208, 217, 222, 229, 238, 246, 249, 260, 263, 270, 279, 287, 290, 297, 306, 314, 317, 328, 331, 338, 347, 358, 361, 368] 400 _ _ _).trans rfl
set_option maxRecDepth 100000 in
theorem m263_361 (d sl : Nat) (I : Nat → Int32) (w : Int64) (A : Nat → Nat → Int32) (N : Nat → Nat → Int64) (a1 : Int32) (a2 : Int32) (b0 : Int32) :
  R (d + 1) 263 (361, [some (.ref 0), some (.int a1), some (.int a2)], [.int b0], sl, (RH I w A N)) =
    cond (decide (b0 = (nI 0))) (some (376, [some (.ref 0), some (.int a1), some (.int a2)], [.int (nI 0)], sl, (RH I w A N))) (bC (C d 182 [.ref 0] sl (RH I w A N)) (fun vs sl h => R (d + 1) 263 (368, [some (.ref 0), some (.int a1), some (.int a2)], vs ++ [], sl, h))) :=
  (R_gob [4, 14, 22, 40, 49, 64, 108, 135, 136, 172, 180, 183, 198, 201, 208, 217, 222, 229, 238, 246, 249, 260, 263, 270, 279, 287, 290, 297, 306, 314, 317, 328, 331, 338, 347, 358, 361, 368] 400 _ _ _).trans rfl
set_option maxRecDepth 100000 in
theorem m263_183 (d sl : Nat) (I : Nat → Int32) (w : Int64) (A : Nat → Nat → Int32) (N : Nat → Nat → Int64) (a1 : Int32) (a2 : Int32) (b0 : Int32) :
  R (d + 1) 263 (183, [some (.ref 0), some (.int a1), some (.int a2)], [.int b0], sl, (RH I w A N)) =
    cond (decide (b0 = (nI 0))) (some (216, [some (.ref 0), some (.int a1), some (.int a2)], [.int (nI 0)], sl, (RH I w A N))) (bC (C d 181 [.ref 0, .int (nI 1), .int (nI 999)] sl (RH I w A N)) (fun vs sl h => R (d + 1) 263 (198, [some (.ref 0), some (.int a1), some (.int a2)], vs ++ [.int (a2 + (nI 2)), .ref 0], sl, h))) :=
  (R_gob [4, 14, 22, 40, 49, 64, 108, 135, 136, 172, 180, 183, 198, 201, 208, 217, 222, 229, 238, 246, 249, 260, 263, 270, 279, 287, 290, 297, 306, 314, 317, 328, 331, 338, 347, 358, 361, 368] 400 _ _ _).trans rfl
set_option maxRecDepth 100000 in
theorem m263_229 (d sl : Nat) (I : Nat → Int32) (w : Int64) (A : Nat → Nat → Int32) (N : Nat → Nat → Int64) (a1 : Int32) (a2 : Int32) (b0 : Int32) :
  R (d + 1) 263 (229, [some (.ref 0), some (.int a1), some (.int a2)], [.int b0], sl, (RH I w A N)) =
    cond (decide (b0 = (nI 0))) (some (237, [some (.ref 0), some (.int a1), some (.int a2)], [.int (nI 0)], sl, (RH I w A N))) (some (237, [some (.ref 0), some (.int a1), some (.int a2)], [.int (nI 1)], sl, (RH I w A N))) :=
  (R_gob [4, 14, 22, 40, 49, 64, 108, 135, 136, 172, 180, 183, 198, 201, 208, 217, 222, 229, 238, 246, 249, 260, 263, 270, 279, 287, 290, 297, 306, 314, 317, 328, 331, 338, 347, 358, 361, 368] 400 _ _ _).trans rfl
set_option maxRecDepth 100000 in
theorem m263_249 (d sl : Nat) (I : Nat → Int32) (w : Int64) (A : Nat → Nat → Int32) (N : Nat → Nat → Int64) (a1 : Int32) (a2 : Int32) (b0 : Int32) :
  R (d + 1) 263 (249, [some (.ref 0), some (.int a1), some (.int a2)], [.int b0], sl, (RH I w A N)) =
    cond (decide (b0 = (nI 0))) (some (278, [some (.ref 0), some (.int a1), some (.int a2)], [.int (nI 0)], sl, (RH I w A N))) (bC (C d 260 [.ref 0] sl (RH I w A N)) (fun vs sl h => R (d + 1) 263 (260, [some (.ref 0), some (.int a1), some (.int a2)], vs ++ [.int (a2 + (nI 2)), .ref 0], sl, h))) :=
  (R_gob [4, 14, 22, 40, 49, 64, 108, 135, 136, 172, 180, 183, 198, 201, 208, 217, 222, 229, 238, 246, 249, 260, 263, 270, 279, 287, 290, 297, 306, 314, 317, 328, 331, 338, 347, 358, 361, 368] 400 _ _ _).trans rfl
set_option maxRecDepth 100000 in
theorem m263_290 (d sl : Nat) (I : Nat → Int32) (w : Int64) (A : Nat → Nat → Int32) (N : Nat → Nat → Int64) (a1 : Int32) (a2 : Int32) (b0 : Int32) :
  R (d + 1) 263 (290, [some (.ref 0), some (.int a1), some (.int a2)], [.int b0], sl, (RH I w A N)) =
    cond (decide (b0 = (nI 0))) (some (305, [some (.ref 0), some (.int a1), some (.int a2)], [.int (nI 0)], sl, (RH I w A N))) (bC (C d 182 [.ref 0] sl (RH I w A N)) (fun vs sl h => R (d + 1) 263 (297, [some (.ref 0), some (.int a1), some (.int a2)], vs ++ [], sl, h))) :=
  (R_gob [4, 14, 22, 40, 49, 64, 108, 135, 136, 172, 180, 183, 198, 201, 208, 217, 222, 229, 238, 246, 249, 260, 263, 270, 279, 287, 290, 297, 306, 314, 317, 328, 331, 338, 347, 358, 361, 368] 400 _ _ _).trans rfl
set_option maxRecDepth 100000 in
theorem m263_317 (d sl : Nat) (I : Nat → Int32) (w : Int64) (A : Nat → Nat → Int32) (N : Nat → Nat → Int64) (a1 : Int32) (a2 : Int32) (b0 : Int32) :
  R (d + 1) 263 (317, [some (.ref 0), some (.int a1), some (.int a2)], [.int b0], sl, (RH I w A N)) =
    cond (decide (b0 = (nI 0))) (some (346, [some (.ref 0), some (.int a1), some (.int a2)], [.int (nI 0)], sl, (RH I w A N))) (bC (C d 259 [.ref 0] sl (RH I w A N)) (fun vs sl h => R (d + 1) 263 (328, [some (.ref 0), some (.int a1), some (.int a2)], vs ++ [.int (a2 + (nI 2)), .ref 0], sl, h))) :=
  (R_gob [4, 14, 22, 40, 49, 64, 108, 135, 136, 172, 180, 183, 198, 201, 208, 217, 222, 229, 238, 246, 249, 260, 263, 270, 279, 287, 290, 297, 306, 314, 317, 328, 331, 338, 347, 358, 361, 368] 400 _ _ _).trans rfl
set_option maxRecDepth 100000 in
theorem m263_368 (d sl : Nat) (I : Nat → Int32) (w : Int64) (A : Nat → Nat → Int32) (N : Nat → Nat → Int64) (a1 : Int32) (a2 : Int32) (b0 : Int32) :
  R (d + 1) 263 (368, [some (.ref 0), some (.int a1), some (.int a2)], [.int b0], sl, (RH I w A N)) =
    cond (decide (b0 = (nI 0))) (some (376, [some (.ref 0), some (.int a1), some (.int a2)], [.int (nI 0)], sl, (RH I w A N))) (some (376, [some (.ref 0), some (.int a1), some (.int a2)], [.int (nI 1)], sl, (RH I w A N))) :=
  (R_gob [4, 14, 22, 40, 49, 64, 108, 135, 136, 172, 180, 183, 198, 201, 208, 217, 222, 229, 238, 246, 249, 260, 263, 270, 279, 287, 290, 297, 306, 314, 317, 328, 331, 338, 347, 358, 361, 368] 400 _ _ _).trans rfl
set_option maxRecDepth 100000 in
theorem m263_198 (d sl : Nat) (I : Nat → Int32) (w : Int64) (A : Nat → Nat → Int32) (N : Nat → Nat → Int64) (a1 : Int32) (a2 : Int32) (b0 : Int32) (b1 : Int32) :
  R (d + 1) 263 (198, [some (.ref 0), some (.int a1), some (.int a2)], [.int b0, .int b1, .ref 0], sl, (RH I w A N)) =
    bC (C d 258 [.ref 0, .int b1, .int b0] sl (RH I w A N)) (fun vs sl h => R (d + 1) 263 (201, [some (.ref 0), some (.int a1), some (.int a2)], vs ++ [], sl, h)) :=
  (R_gob [4, 14, 22, 40, 49, 64, 108, 135, 136, 172, 180, 183, 198, 201, 208, 217, 222, 229, 238, 246, 249, 260, 263, 270, 279, 287, 290, 297, 306, 314, 317, 328, 331, 338, 347, 358, 361, 368] 400 _ _ _).trans rfl
set_option maxRecDepth 100000 in
theorem m263_260 (d sl : Nat) (I : Nat → Int32) (w : Int64) (A : Nat → Nat → Int32) (N : Nat → Nat → Int64) (a1 : Int32) (a2 : Int32) (b0 : Int32) (b1 : Int32) :
  R (d + 1) 263 (260, [some (.ref 0), some (.int a1), some (.int a2)], [.int b0, .int b1, .ref 0], sl, (RH I w A N)) =
    bC (C d 258 [.ref 0, .int b1, .int b0] sl (RH I w A N)) (fun vs sl h => R (d + 1) 263 (263, [some (.ref 0), some (.int a1), some (.int a2)], vs ++ [], sl, h)) :=
  (R_gob [4, 14, 22, 40, 49, 64, 108, 135, 136, 172, 180, 183, 198, 201, 208, 217, 222, 229, 238, 246, 249, 260, 263, 270, 279, 287, 290, 297, 306, 314, 317, 328, 331, 338, 347, 358, 361, 368] 400 _ _ _).trans rfl
set_option maxRecDepth 100000 in
theorem m263_297 (d sl : Nat) (I : Nat → Int32) (w : Int64) (A : Nat → Nat → Int32) (N : Nat → Nat → Int64) (a1 : Int32) (a2 : Int32) (b0 : Int32) :
  R (d + 1) 263 (297, [some (.ref 0), some (.int a1), some (.int a2)], [.int b0], sl, (RH I w A N)) =
    cond (decide (b0 = (nI 0))) (some (305, [some (.ref 0), some (.int a1), some (.int a2)], [.int (nI 0)], sl, (RH I w A N))) (some (305, [some (.ref 0), some (.int a1), some (.int a2)], [.int (nI 1)], sl, (RH I w A N))) :=
  (R_gob [4, 14, 22, 40, 49, 64, 108, 135, 136, 172, 180, 183, 198, 201, 208, 217, 222, 229, 238, 246, 249, 260, 263, 270, 279, 287, 290, 297, 306, 314, 317, 328, 331, 338, 347, 358, 361, 368] 400 _ _ _).trans rfl
set_option maxRecDepth 100000 in
theorem m263_328 (d sl : Nat) (I : Nat → Int32) (w : Int64) (A : Nat → Nat → Int32) (N : Nat → Nat → Int64) (a1 : Int32) (a2 : Int32) (b0 : Int32) (b1 : Int32) :
  R (d + 1) 263 (328, [some (.ref 0), some (.int a1), some (.int a2)], [.int b0, .int b1, .ref 0], sl, (RH I w A N)) =
    bC (C d 258 [.ref 0, .int b1, .int b0] sl (RH I w A N)) (fun vs sl h => R (d + 1) 263 (331, [some (.ref 0), some (.int a1), some (.int a2)], vs ++ [], sl, h)) :=
  (R_gob [4, 14, 22, 40, 49, 64, 108, 135, 136, 172, 180, 183, 198, 201, 208, 217, 222, 229, 238, 246, 249, 260, 263, 270, 279, 287, 290, 297, 306, 314, 317, 328, 331, 338, 347, 358, 361, 368] 400 _ _ _).trans rfl
set_option maxRecDepth 100000 in
theorem m263_201 (d sl : Nat) (I : Nat → Int32) (w : Int64) (A : Nat → Nat → Int32) (N : Nat → Nat → Int64) (a1 : Int32) (a2 : Int32) (b0 : Int32) :
  R (d + 1) 263 (201, [some (.ref 0), some (.int a1), some (.int a2)], [.int b0], sl, (RH I w A N)) =
    cond (decide (b0 = (nI 0))) (some (216, [some (.ref 0), some (.int a1), some (.int a2)], [.int (nI 0)], sl, (RH I w A N))) (bC (C d 182 [.ref 0] sl (RH I w A N)) (fun vs sl h => R (d + 1) 263 (208, [some (.ref 0), some (.int a1), some (.int a2)], vs ++ [], sl, h))) :=
  (R_gob [4, 14, 22, 40, 49, 64, 108, 135, 136, 172, 180, 183, 198, 201, 208, 217, 222, 229, 238, 246, 249, 260, 263, 270, 279, 287, 290, 297, 306, 314, 317, 328, 331, 338, 347, 358, 361, 368] 400 _ _ _).trans rfl
set_option maxRecDepth 100000 in
theorem m263_263 (d sl : Nat) (I : Nat → Int32) (w : Int64) (A : Nat → Nat → Int32) (N : Nat → Nat → Int64) (a1 : Int32) (a2 : Int32) (b0 : Int32) :
  R (d + 1) 263 (263, [some (.ref 0), some (.int a1), some (.int a2)], [.int b0], sl, (RH I w A N)) =
    cond (decide (b0 = (nI 0))) (some (278, [some (.ref 0), some (.int a1), some (.int a2)], [.int (nI 0)], sl, (RH I w A N))) (bC (C d 182 [.ref 0] sl (RH I w A N)) (fun vs sl h => R (d + 1) 263 (270, [some (.ref 0), some (.int a1), some (.int a2)], vs ++ [], sl, h))) :=
  (R_gob [4, 14, 22, 40, 49, 64, 108, 135, 136, 172, 180, 183, 198, 201, 208, 217, 222, 229, 238, 246, 249, 260, 263, 270, 279, 287, 290, 297, 306, 314, 317, 328, 331, 338, 347, 358, 361, 368] 400 _ _ _).trans rfl
set_option maxRecDepth 100000 in
theorem m263_331 (d sl : Nat) (I : Nat → Int32) (w : Int64) (A : Nat → Nat → Int32) (N : Nat → Nat → Int64) (a1 : Int32) (a2 : Int32) (b0 : Int32) :
  R (d + 1) 263 (331, [some (.ref 0), some (.int a1), some (.int a2)], [.int b0], sl, (RH I w A N)) =
    cond (decide (b0 = (nI 0))) (some (346, [some (.ref 0), some (.int a1), some (.int a2)], [.int (nI 0)], sl, (RH I w A N))) (bC (C d 182 [.ref 0] sl (RH I w A N)) (fun vs sl h => R (d + 1) 263 (338, [some (.ref 0), some (.int a1), some (.int a2)], vs ++ [], sl, h))) :=
  (R_gob [4, 14, 22, 40, 49, 64, 108, 135, 136, 172, 180, 183, 198, 201, 208, 217, 222, 229, 238, 246, 249, 260, 263, 270, 279, 287, 290, 297, 306, 314, 317, 328, 331, 338, 347, 358, 361, 368] 400 _ _ _).trans rfl
set_option maxRecDepth 100000 in
theorem m263_208 (d sl : Nat) (I : Nat → Int32) (w : Int64) (A : Nat → Nat → Int32) (N : Nat → Nat → Int64) (a1 : Int32) (a2 : Int32) (b0 : Int32) :
  R (d + 1) 263 (208, [some (.ref 0), some (.int a1), some (.int a2)], [.int b0], sl, (RH I w A N)) =
    cond (decide (b0 = (nI 0))) (some (216, [some (.ref 0), some (.int a1), some (.int a2)], [.int (nI 0)], sl, (RH I w A N))) (some (216, [some (.ref 0), some (.int a1), some (.int a2)], [.int (nI 1)], sl, (RH I w A N))) :=
  (R_gob [4, 14, 22, 40, 49, 64, 108, 135, 136, 172, 180, 183, 198, 201, 208, 217, 222, 229, 238, 246, 249, 260, 263, 270, 279, 287, 290, 297, 306, 314, 317, 328, 331, 338, 347, 358, 361, 368] 400 _ _ _).trans rfl
set_option maxRecDepth 100000 in
theorem m263_270 (d sl : Nat) (I : Nat → Int32) (w : Int64) (A : Nat → Nat → Int32) (N : Nat → Nat → Int64) (a1 : Int32) (a2 : Int32) (b0 : Int32) :
  R (d + 1) 263 (270, [some (.ref 0), some (.int a1), some (.int a2)], [.int b0], sl, (RH I w A N)) =
    cond (decide (b0 = (nI 0))) (some (278, [some (.ref 0), some (.int a1), some (.int a2)], [.int (nI 0)], sl, (RH I w A N))) (some (278, [some (.ref 0), some (.int a1), some (.int a2)], [.int (nI 1)], sl, (RH I w A N))) :=
  (R_gob [4, 14, 22, 40, 49, 64, 108, 135, 136, 172, 180, 183, 198, 201, 208, 217, 222, 229, 238, 246, 249, 260, 263, 270, 279, 287, 290, 297, 306, 314, 317, 328, 331, 338, 347, 358, 361, 368] 400 _ _ _).trans rfl
set_option maxRecDepth 100000 in
theorem m263_338 (d sl : Nat) (I : Nat → Int32) (w : Int64) (A : Nat → Nat → Int32) (N : Nat → Nat → Int64) (a1 : Int32) (a2 : Int32) (b0 : Int32) :
  R (d + 1) 263 (338, [some (.ref 0), some (.int a1), some (.int a2)], [.int b0], sl, (RH I w A N)) =
    cond (decide (b0 = (nI 0))) (some (346, [some (.ref 0), some (.int a1), some (.int a2)], [.int (nI 0)], sl, (RH I w A N))) (some (346, [some (.ref 0), some (.int a1), some (.int a2)], [.int (nI 1)], sl, (RH I w A N))) :=
  (R_gob [4, 14, 22, 40, 49, 64, 108, 135, 136, 172, 180, 183, 198, 201, 208, 217, 222, 229, 238, 246, 249, 260, 263, 270, 279, 287, 290, 297, 306, 314, 317, 328, 331, 338, 347, 358, 361, 368] 400 _ _ _).trans rfl
set_option maxRecDepth 100000 in
theorem m264_0 (d sl : Nat) (I : Nat → Int32) (w : Int64) (A : Nat → Nat → Int32) (N : Nat → Nat → Int64) (a1 : Int32) :
  R (d + 1) 264 (0, [some (.ref 0), some (.int a1), none, none, none, none], [], sl, (RH I w A N)) =
    cond (x_in a1 160) (cond (x_in (a1 + (nI 1)) 160) (cond (x_in (a1 + (nI 2)) 160) (cond (!decide (((A 16) a1.toNatClampNeg) = (nI 5))) (cond (decide (((A 16) a1.toNatClampNeg) = (nI 1))) (cond (!decide (((A 16) a1.toNatClampNeg) = (nI 4))) (cond (x_in (a1 + (nI 3)) 160) (bC (C d 219 [.ref 0, .int ((A 16) a1.toNatClampNeg), .int ((A 16) (a1 + (nI 1)).toNatClampNeg), .int ((A 16) (a1 + (nI 2)).toNatClampNeg), .int ((A 16) (a1 + (nI 3)).toNatClampNeg)] sl (RH I w A N)) (fun vs sl h => R (d + 1) 264 (108, [some (.ref 0), some (.int a1), some (.int ((A 16) a1.toNatClampNeg)), some (.int ((A 16) (a1 + (nI 1)).toNatClampNeg)), some (.int ((A 16) (a1 + (nI 2)).toNatClampNeg)), none], vs ++ [], sl, h))) none) (bC (C d 197 [.ref 0, .int ((A 16) (a1 + (nI 2)).toNatClampNeg)] sl (RH I w A N)) (fun vs sl h => R (d + 1) 264 (81, [some (.ref 0), some (.int a1), some (.int ((A 16) a1.toNatClampNeg)), some (.int ((A 16) (a1 + (nI 1)).toNatClampNeg)), some (.int ((A 16) (a1 + (nI 2)).toNatClampNeg)), none], vs ++ [], sl, h)))) (bC (C d 197 [.ref 0, .int ((A 16) (a1 + (nI 1)).toNatClampNeg)] sl (RH I w A N)) (fun vs sl h => R (d + 1) 264 (67, [some (.ref 0), some (.int a1), some (.int ((A 16) a1.toNatClampNeg)), some (.int ((A 16) (a1 + (nI 1)).toNatClampNeg)), some (.int ((A 16) (a1 + (nI 2)).toNatClampNeg)), none], vs ++ [], sl, h)))) (cond (decide ((((A 2) 70) + ((A 16) (a1 + (nI 1)).toNatClampNeg)) ≤ (nI 400))) (bC (C d 230 [.ref 0, .int ((A 16) (a1 + (nI 1)).toNatClampNeg)] sl (RH I w A N)) (fun vs sl h => R (d + 1) 264 (54, [some (.ref 0), some (.int a1), some (.int ((A 16) a1.toNatClampNeg)), some (.int ((A 16) (a1 + (nI 1)).toNatClampNeg)), some (.int ((A 16) (a1 + (nI 2)).toNatClampNeg)), none], vs ++ [], sl, h))) (some (48, [some (.ref 0), some (.int a1), some (.int ((A 16) a1.toNatClampNeg)), some (.int ((A 16) (a1 + (nI 1)).toNatClampNeg)), some (.int ((A 16) (a1 + (nI 2)).toNatClampNeg)), none], [.int (nI 51)], sl, (RH I w A N))))) none) none) none :=
  (R_gob [54, 67, 81, 108, 139] 400 _ _ _).trans rfl
set_option maxRecDepth 100000 in
theorem m264_108 (d sl : Nat) (I : Nat → Int32) (w : Int64) (A : Nat → Nat → Int32) (N : Nat → Nat → Int64) (a1 : Int32) (a2 : Int32) (a3 : Int32) (a4 : Int32) (b0 : Int32) :
  R (d + 1) 264 (108, [some (.ref 0), some (.int a1), some (.int a2), some (.int a3), some (.int a4), none], [.int b0], sl, (RH I w A N)) =
    cond (decide (b0 = (nI 0))) (cond (x_in (a1 + (nI 3)) 160) (bC (C d 221 [.ref 0, .int a2, .int a3, .int a4, .int ((A 16) (a1 + (nI 3)).toNatClampNeg)] sl (RH I w A N)) (fun vs sl h => R (d + 1) 264 (139, [some (.ref 0), some (.int a1), some (.int a2), some (.int a3), some (.int a4), some (.int b0)], vs ++ [], sl, h))) none) (some (122, [some (.ref 0), some (.int a1), some (.int a2), some (.int a3), some (.int a4), some (.int b0)], [.int (((nI 10) * a2) + b0)], sl, (RH I w A N))) :=
  (R_gob [54, 67, 81, 108, 139] 400 _ _ _).trans rfl
set_option maxRecDepth 100000 in
theorem m264_81 (d sl : Nat) (I : Nat → Int32) (w : Int64) (A : Nat → Nat → Int32) (N : Nat → Nat → Int64) (a1 : Int32) (a2 : Int32) (a3 : Int32) (a4 : Int32) (b0 : Int32) :
  R (d + 1) 264 (81, [some (.ref 0), some (.int a1), some (.int a2), some (.int a3), some (.int a4), none], [.int b0], sl, (RH I w A N)) =
    cond (!decide (b0 = (nI 0))) (cond (x_in (a1 + (nI 3)) 160) (bC (C d 219 [.ref 0, .int a2, .int a3, .int a4, .int ((A 16) (a1 + (nI 3)).toNatClampNeg)] sl (RH I w A N)) (fun vs sl h => R (d + 1) 264 (108, [some (.ref 0), some (.int a1), some (.int a2), some (.int a3), some (.int a4), none], vs ++ [], sl, h))) none) (some (91, [some (.ref 0), some (.int a1), some (.int a2), some (.int a3), some (.int a4), none], [.int (((nI 10) * a2) + (nI 9))], sl, (RH I w A N))) :=
  (R_gob [54, 67, 81, 108, 139] 400 _ _ _).trans rfl
set_option maxRecDepth 100000 in
theorem m264_67 (d sl : Nat) (I : Nat → Int32) (w : Int64) (A : Nat → Nat → Int32) (N : Nat → Nat → Int64) (a1 : Int32) (a2 : Int32) (a3 : Int32) (a4 : Int32) (b0 : Int32) :
  R (d + 1) 264 (67, [some (.ref 0), some (.int a1), some (.int a2), some (.int a3), some (.int a4), none], [.int b0], sl, (RH I w A N)) =
    cond (decide (b0 = (nI 0))) (some (91, [some (.ref 0), some (.int a1), some (.int a2), some (.int a3), some (.int a4), none], [.int (((nI 10) * a2) + (nI 9))], sl, (RH I w A N))) (cond (!decide (a2 = (nI 4))) (cond (x_in (a1 + (nI 3)) 160) (bC (C d 219 [.ref 0, .int a2, .int a3, .int a4, .int ((A 16) (a1 + (nI 3)).toNatClampNeg)] sl (RH I w A N)) (fun vs sl h => R (d + 1) 264 (108, [some (.ref 0), some (.int a1), some (.int a2), some (.int a3), some (.int a4), none], vs ++ [], sl, h))) none) (bC (C d 197 [.ref 0, .int a4] sl (RH I w A N)) (fun vs sl h => R (d + 1) 264 (81, [some (.ref 0), some (.int a1), some (.int a2), some (.int a3), some (.int a4), none], vs ++ [], sl, h)))) :=
  (R_gob [54, 67, 81, 108, 139] 400 _ _ _).trans rfl
set_option maxRecDepth 100000 in
theorem m264_54 (d sl : Nat) (I : Nat → Int32) (w : Int64) (A : Nat → Nat → Int32) (N : Nat → Nat → Int64) (a1 : Int32) (a2 : Int32) (a3 : Int32) (a4 : Int32) (b0 : Int32) :
  R (d + 1) 264 (54, [some (.ref 0), some (.int a1), some (.int a2), some (.int a3), some (.int a4), none], [.int b0], sl, (RH I w A N)) =
    some (56, [some (.ref 0), some (.int a1), some (.int a2), some (.int a3), some (.int a4), none], [.int (nI 0)], sl, (RH I w A N)) :=
  (R_gob [54, 67, 81, 108, 139] 400 _ _ _).trans rfl
set_option maxRecDepth 100000 in
theorem m264_139 (d sl : Nat) (I : Nat → Int32) (w : Int64) (A : Nat → Nat → Int32) (N : Nat → Nat → Int64) (a1 : Int32) (a2 : Int32) (a3 : Int32) (a4 : Int32) (a5 : Int32) :
  R (d + 1) 264 (139, [some (.ref 0), some (.int a1), some (.int a2), some (.int a3), some (.int a4), some (.int a5)], [], sl, (RH I w A N)) =
    some (140, [some (.ref 0), some (.int a1), some (.int a2), some (.int a3), some (.int a4), some (.int a5)], [.int (nI 0)], sl, (RH I w A N)) :=
  (R_gob [54, 67, 81, 108, 139] 400 _ _ _).trans rfl
set_option maxRecDepth 100000 in
theorem m265_0 (d sl : Nat) (I : Nat → Int32) (w : Int64) (A : Nat → Nat → Int32) (N : Nat → Nat → Int64) (a1 : Int32) :
  R (d + 1) 265 (0, [some (.ref 0), some (.int a1), none, none], [], sl, (RH I w A N)) =
    bC (C d 166 [.int a1, .int (nI 0), .int (nI 1)] sl (RH (up1 I 0 (nI 0)) w A N)) (fun vs sl h => R (d + 1) 265 (11, [some (.ref 0), some (.int a1), none, none], vs ++ [], sl, h)) :=
  (R_gob [11, 25, 30, 41, 69, 73, 92, 143, 167] 400 _ _ _).trans rfl
set_option maxRecDepth 100000 in
theorem m265_11 (d sl : Nat) (I : Nat → Int32) (w : Int64) (A : Nat → Nat → Int32) (N : Nat → Nat → Int64) (a1 : Int32) (b0 : Int32) :
  R (d + 1) 265 (11, [some (.ref 0), some (.int a1), none, none], [.int b0], sl, (RH I w A N)) =
    cond (!decide (b0 = (nI 0))) (bC (C d 183 [.ref 0, .int (nI 400)] sl (RH I w A N)) (fun vs sl h => R (d + 1) 265 (25, [some (.ref 0), some (.int a1), none, none], vs ++ [], sl, h))) (some (17, [some (.ref 0), some (.int a1), none, none], [.int (-1000 : Int32)], sl, (RH I w A N))) :=
  (R_gob [11, 25, 30, 41, 69, 73, 92, 143, 167] 400 _ _ _).trans rfl
set_option maxRecDepth 100000 in
theorem m265_25 (d sl : Nat) (I : Nat → Int32) (w : Int64) (A : Nat → Nat → Int32) (N : Nat → Nat → Int64) (a1 : Int32) :
  R (d + 1) 265 (25, [some (.ref 0), some (.int a1), none, none], [], sl, (RH I w A N)) =
    R (d + 1) 265 (30, [some (.ref 0), some (.int a1), none, none], [], sl, (RH (up1 I 37 (nI 0)) w A N)) :=
  (R_gob [11, 25, 30, 41, 69, 73, 92, 143, 167] 400 _ _ _).trans rfl
set_option maxRecDepth 100000 in
theorem m265_30 (d sl : Nat) (I : Nat → Int32) (w : Int64) (A : Nat → Nat → Int32) (N : Nat → Nat → Int64) (a1 : Int32) :
  R (d + 1) 265 (30, [some (.ref 0), some (.int a1), none, none], [], sl, (RH I w A N)) =
    cond (decide ((I 7) = (nI 0))) (bC (C d 235 [.ref 0] sl (RH I w A N)) (fun vs sl h => R (d + 1) 265 (69, [some (.ref 0), some (.int a1), none, none], vs ++ [], sl, h))) (bC (C d 263 [.ref 0] sl (RH I w A N)) (fun vs sl h => R (d + 1) 265 (41, [some (.ref 0), some (.int a1), none, none], vs ++ [], sl, h))) :=
  (R_gob [11, 25, 30, 41, 69, 73, 92, 143, 167] 400 _ _ _).trans rfl
set_option maxRecDepth 100000 in
theorem m265_69 (d sl : Nat) (I : Nat → Int32) (w : Int64) (A : Nat → Nat → Int32) (N : Nat → Nat → Int64) (a1 : Int32) :
  R (d + 1) 265 (69, [some (.ref 0), some (.int a1), none, none], [], sl, (RH I w A N)) =
    R (d + 1) 265 (73, [some (.ref 0), some (.int a1), some (.int (nI 0)), some (.int (nI 0))], [], sl, (RH I w A N)) :=
  (R_gob [11, 25, 30, 41, 69, 73, 92, 143, 167] 400 _ _ _).trans rfl
