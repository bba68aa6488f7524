set_option maxRecDepth 100000 in
theorem m186_0 (d sl : Nat) (I : Nat → Int32) (w : Int64) (A : Nat → Nat → Int32) (N : Nat → Nat → Int64) (a1 : Int32) (a2 : Int64) :
  R d 186 (0, [some (.ref 7), some (.int a1), some (.long a2), none, none], [], sl, (RH I w A N)) =
    R d 186 (3, [some (.ref 7), some (.int a1), some (.long a2), none, some (.int (nI 0))], [], sl, (RH I w A N)) :=
  (R_gob [3] 400 _ _ _).trans rfl
set_option maxRecDepth 100000 in
theorem m186_3 (d sl : Nat) (I : Nat → Int32) (w : Int64) (A : Nat → Nat → Int32) (N : Nat → Nat → Int64) (a1 : Int32) (a2 : Int64) (a4 : Int32) :
  R d 186 (3, [some (.ref 7), some (.int a1), some (.long a2), none, some (.int a4)], [], sl, (RH I w A N)) =
    cond (decide (a1 ≤ a4)) (some (28, [some (.ref 7), some (.int a1), some (.long a2), none, some (.int a4)], [.int (-1 : Int32)], sl, (RH I w A N))) (cond (x_in a4 6) (cond (!decide ((lg_cmp ((N 7) a4.toNatClampNeg) a2) = (nI 0))) (R d 186 (3, [some (.ref 7), some (.int a1), some (.long a2), none, some (.int (a4 + (nI 1)))], [], sl, (RH I w A N))) (some (20, [some (.ref 7), some (.int a1), some (.long a2), none, some (.int a4)], [.int a4], sl, (RH I w A N)))) none) :=
  (R_gob [3] 400 _ _ _).trans rfl
set_option maxRecDepth 100000 in
theorem m187_0 (d sl : Nat) (I : Nat → Int32) (w : Int64) (A : Nat → Nat → Int32) (N : Nat → Nat → Int64) (a1 : Int32) (a2 : Int32) :
  R (d + 1) 187 (0, [some (.ref 0), some (.int a1), some (.int a2)], [], sl, (RH I w A N)) =
    cond (x_in a1 70) (cond (!decide (((A 3) a1.toNatClampNeg) = a2)) (bC (C d 174 [.ref 0] sl (RH I w A N)) (fun vs sl h => R (d + 1) 187 (20, [some (.ref 0), some (.int a1), some (.int a2)], vs ++ [], sl, h))) (bC (C d 180 [.ref 0, .int (nI 4)] sl (RH I w A N)) (fun vs sl h => R (d + 1) 187 (15, [some (.ref 0), some (.int a1), some (.int a2)], vs ++ [], sl, h)))) none :=
  (R_gob [15, 20] 400 _ _ _).trans rfl
set_option maxRecDepth 100000 in
theorem m187_20 (d sl : Nat) (I : Nat → Int32) (w : Int64) (A : Nat → Nat → Int32) (N : Nat → Nat → Int64) (a1 : Int32) (a2 : Int32) :
  R (d + 1) 187 (20, [some (.ref 0), some (.int a1), some (.int a2)], [], sl, (RH I w A N)) =
    some (21, [some (.ref 0), some (.int a1), some (.int a2)], [.int (nI 1)], sl, (RH I w A N)) :=
  (R_gob [15, 20] 400 _ _ _).trans rfl
set_option maxRecDepth 100000 in
theorem m187_15 (d sl : Nat) (I : Nat → Int32) (w : Int64) (A : Nat → Nat → Int32) (N : Nat → Nat → Int64) (a1 : Int32) (a2 : Int32) (b0 : Int32) :
  R (d + 1) 187 (15, [some (.ref 0), some (.int a1), some (.int a2)], [.int b0], sl, (RH I w A N)) =
    some (15, [some (.ref 0), some (.int a1), some (.int a2)], [.int b0], sl, (RH I w A N)) :=
  (R_gob [15, 20] 400 _ _ _).trans rfl
set_option maxRecDepth 100000 in
theorem m188_0 (d sl : Nat) (I : Nat → Int32) (w : Int64) (A : Nat → Nat → Int32) (N : Nat → Nat → Int64) (a1 : Int32) (a2 : Int32) :
  R d 188 (0, [some (.ref 0), some (.int a1), some (.int a2)], [], sl, (RH I w A N)) =
    cond (decide (a2 = (nI 0))) (some (15, [some (.ref 0), some (.int a1), some (.int a2)], [.int a2], sl, (RH I w A N))) (cond (x_in a1 70) (some (15, [some (.ref 0), some (.int a1), some (.int a2)], [.int a2], sl, (RH I w (up1 A 3 (upd (A 3) a1.toNatClampNeg (I 13))) N))) none) :=
  (R_gob [] 400 _ _ _).trans rfl
set_option maxRecDepth 100000 in
theorem m189_0 (d sl : Nat) (I : Nat → Int32) (w : Int64) (A : Nat → Nat → Int32) (N : Nat → Nat → Int64)  :
  R (d + 1) 189 (0, [some (.ref 0), none], [], sl, (RH I w A N)) =
    bC (C d 187 [.ref 0, .int (nI 0), .int (nI 6)] sl (RH I w A N)) (fun vs sl h => R (d + 1) 189 (7, [some (.ref 0), none], vs ++ [], sl, h)) :=
  (R_gob [7, 23, 31, 44, 53, 68, 80, 83, 98, 101, 116, 119] 400 _ _ _).trans rfl
set_option maxRecDepth 100000 in
theorem m189_7 (d sl : Nat) (I : Nat → Int32) (w : Int64) (A : Nat → Nat → Int32) (N : Nat → Nat → Int64) (b0 : Int32) :
  R (d + 1) 189 (7, [some (.ref 0), none], [.int b0], sl, (RH I w A N)) =
    cond (!decide (b0 = (nI 0))) (bC (C d 179 [.ref 0] sl (RH I w A N)) (fun vs sl h => R (d + 1) 189 (23, [some (.ref 0), some (.int ((A 3) 0))], vs ++ [], sl, h))) (some (11, [some (.ref 0), none], [.int (nI 0)], sl, (RH I w A N))) :=
  (R_gob [7, 23, 31, 44, 53, 68, 80, 83, 98, 101, 116, 119] 400 _ _ _).trans rfl
set_option maxRecDepth 100000 in
theorem m189_23 (d sl : Nat) (I : Nat → Int32) (w : Int64) (A : Nat → Nat → Int32) (N : Nat → Nat → Int64) (a1 : Int32) (b0 : Int32) :
  R (d + 1) 189 (23, [some (.ref 0), some (.int a1)], [.int b0], sl, (RH I w A N)) =
    cond (!decide (b0 = (nI 0))) (bC (C d 186 [.ref 8, .int a1, .long w] sl (RH I w A N)) (fun vs sl h => R (d + 1) 189 (44, [some (.ref 0), some (.int a1)], vs ++ [], sl, h))) (bC (C d 180 [.ref 0, .int (nI 1)] sl (RH I w A N)) (fun vs sl h => R (d + 1) 189 (31, [some (.ref 0), some (.int a1)], vs ++ [], sl, h))) :=
  (R_gob [7, 23, 31, 44, 53, 68, 80, 83, 98, 101, 116, 119] 400 _ _ _).trans rfl
set_option maxRecDepth 100000 in
theorem m189_44 (d sl : Nat) (I : Nat → Int32) (w : Int64) (A : Nat → Nat → Int32) (N : Nat → Nat → Int64) (a1 : Int32) (b0 : Int32) :
  R (d + 1) 189 (44, [some (.ref 0), some (.int a1)], [.int b0], sl, (RH I w A N)) =
    cond (decide (b0 = (-1 : Int32))) (cond (x_in a1 6) (bC (C d 174 [.ref 0] sl (RH I w A (up1 N 8 (vp_updL (N 8) a1.toNatClampNeg w)))) (fun vs sl h => R (d + 1) 189 (68, [some (.ref 0), some (.int a1)], vs ++ [], sl, h))) none) (bC (C d 180 [.ref 0, .int (nI 3)] sl (RH I w A N)) (fun vs sl h => R (d + 1) 189 (53, [some (.ref 0), some (.int a1)], vs ++ [], sl, h))) :=
  (R_gob [7, 23, 31, 44, 53, 68, 80, 83, 98, 101, 116, 119] 400 _ _ _).trans rfl
set_option maxRecDepth 100000 in
theorem m189_31 (d sl : Nat) (I : Nat → Int32) (w : Int64) (A : Nat → Nat → Int32) (N : Nat → Nat → Int64) (a1 : Int32) (b0 : Int32) :
  R (d + 1) 189 (31, [some (.ref 0), some (.int a1)], [.int b0], sl, (RH I w A N)) =
    some (31, [some (.ref 0), some (.int a1)], [.int b0], sl, (RH I w A N)) :=
  (R_gob [7, 23, 31, 44, 53, 68, 80, 83, 98, 101, 116, 119] 400 _ _ _).trans rfl
set_option maxRecDepth 100000 in
theorem m189_68 (d sl : Nat) (I : Nat → Int32) (w : Int64) (A : Nat → Nat → Int32) (N : Nat → Nat → Int64) (a1 : Int32) :
  R (d + 1) 189 (68, [some (.ref 0), some (.int a1)], [], sl, (RH I w A N)) =
    bC (C d 181 [.ref 0, .int (nI 0), .int (nI 999)] sl (RH I w A N)) (fun vs sl h => R (d + 1) 189 (80, [some (.ref 0), some (.int a1)], vs ++ [.int ((nI 4) + a1), .ref 0], sl, h)) :=
  (R_gob [7, 23, 31, 44, 53, 68, 80, 83, 98, 101, 116, 119] 400 _ _ _).trans rfl
set_option maxRecDepth 100000 in
theorem m189_53 (d sl : Nat) (I : Nat → Int32) (w : Int64) (A : Nat → Nat → Int32) (N : Nat → Nat → Int64) (a1 : Int32) (b0 : Int32) :
  R (d + 1) 189 (53, [some (.ref 0), some (.int a1)], [.int b0], sl, (RH I w A N)) =
    some (53, [some (.ref 0), some (.int a1)], [.int b0], sl, (RH I w A N)) :=
  (R_gob [7, 23, 31, 44, 53, 68, 80, 83, 98, 101, 116, 119] 400 _ _ _).trans rfl
set_option maxRecDepth 100000 in
theorem m189_80 (d sl : Nat) (I : Nat → Int32) (w : Int64) (A : Nat → Nat → Int32) (N : Nat → Nat → Int64) (a1 : Int32) (b0 : Int32) (b1 : Int32) :
  R (d + 1) 189 (80, [some (.ref 0), some (.int a1)], [.int b0, .int b1, .ref 0], sl, (RH I w A N)) =
    bC (C d 188 [.ref 0, .int b1, .int b0] sl (RH I w A N)) (fun vs sl h => R (d + 1) 189 (83, [some (.ref 0), some (.int a1)], vs ++ [], sl, h)) :=
  (R_gob [7, 23, 31, 44, 53, 68, 80, 83, 98, 101, 116, 119] 400 _ _ _).trans rfl
set_option maxRecDepth 100000 in
theorem m189_83 (d sl : Nat) (I : Nat → Int32) (w : Int64) (A : Nat → Nat → Int32) (N : Nat → Nat → Int64) (a1 : Int32) (b0 : Int32) :
  R (d + 1) 189 (83, [some (.ref 0), some (.int a1)], [.int b0], sl, (RH I w A N)) =
    cond (decide (b0 = (nI 0))) (some (123, [some (.ref 0), some (.int a1)], [.int (nI 0)], sl, (RH I w A N))) (bC (C d 181 [.ref 0, .int (nI 0), .int (nI 30)] sl (RH I w A N)) (fun vs sl h => R (d + 1) 189 (98, [some (.ref 0), some (.int a1)], vs ++ [.int ((nI 10) + a1), .ref 0], sl, h))) :=
  (R_gob [7, 23, 31, 44, 53, 68, 80, 83, 98, 101, 116, 119] 400 _ _ _).trans rfl
set_option maxRecDepth 100000 in
theorem m189_98 (d sl : Nat) (I : Nat → Int32) (w : Int64) (A : Nat → Nat → Int32) (N : Nat → Nat → Int64) (a1 : Int32) (b0 : Int32) (b1 : Int32) :
  R (d + 1) 189 (98, [some (.ref 0), some (.int a1)], [.int b0, .int b1, .ref 0], sl, (RH I w A N)) =
    bC (C d 188 [.ref 0, .int b1, .int b0] sl (RH I w A N)) (fun vs sl h => R (d + 1) 189 (101, [some (.ref 0), some (.int a1)], vs ++ [], sl, h)) :=
  (R_gob [7, 23, 31, 44, 53, 68, 80, 83, 98, 101, 116, 119] 400 _ _ _).trans rfl
set_option maxRecDepth 100000 in
theorem m189_101 (d sl : Nat) (I : Nat → Int32) (w : Int64) (A : Nat → Nat → Int32) (N : Nat → Nat → Int64) (a1 : Int32) (b0 : Int32) :
  R (d + 1) 189 (101, [some (.ref 0), some (.int a1)], [.int b0], sl, (RH I w A N)) =
    cond (decide (b0 = (nI 0))) (some (123, [some (.ref 0), some (.int a1)], [.int (nI 0)], sl, (RH I w A N))) (bC (C d 181 [.ref 0, .int (nI 1), .int (nI 6)] sl (RH I w A N)) (fun vs sl h => R (d + 1) 189 (116, [some (.ref 0), some (.int a1)], vs ++ [.int ((nI 16) + a1), .ref 0], sl, h))) :=
  (R_gob [7, 23, 31, 44, 53, 68, 80, 83, 98, 101, 116, 119] 400 _ _ _).trans rfl
set_option maxRecDepth 100000 in
theorem m189_116 (d sl : Nat) (I : Nat → Int32) (w : Int64) (A : Nat → Nat → Int32) (N : Nat → Nat → Int64) (a1 : Int32) (b0 : Int32) (b1 : Int32) :
  R (d + 1) 189 (116, [some (.ref 0), some (.int a1)], [.int b0, .int b1, .ref 0], sl, (RH I w A N)) =
    bC (C d 188 [.ref 0, .int b1, .int b0] sl (RH I w A N)) (fun vs sl h => R (d + 1) 189 (119, [some (.ref 0), some (.int a1)], vs ++ [], sl, h)) :=
  (R_gob [7, 23, 31, 44, 53, 68, 80, 83, 98, 101, 116, 119] 400 _ _ _).trans rfl
set_option maxRecDepth 100000 in
theorem m189_119 (d sl : Nat) (I : Nat → Int32) (w : Int64) (A : Nat → Nat → Int32) (N : Nat → Nat → Int64) (a1 : Int32) (b0 : Int32) :
  R (d + 1) 189 (119, [some (.ref 0), some (.int a1)], [.int b0], sl, (RH I w A N)) =
    cond (!decide (b0 = (nI 0))) (some (135, [some (.ref 0), some (.int a1)], [.int (nI 1)], sl, (RH I w (up1 A 3 (upd (A 3) 0 (((A 3) 0) + (nI 1)))) N))) (some (123, [some (.ref 0), some (.int a1)], [.int (nI 0)], sl, (RH I w A N))) :=
  (R_gob [7, 23, 31, 44, 53, 68, 80, 83, 98, 101, 116, 119] 400 _ _ _).trans rfl
set_option maxRecDepth 100000 in
theorem m190_0 (d sl : Nat) (I : Nat → Int32) (w : Int64) (A : Nat → Nat → Int32) (N : Nat → Nat → Int64) (a2 : Int32) (a3 : Int32) :
  R (d + 1) 190 (0, [some (.ref 0), some (.ref 7), some (.int a2), some (.int a3)], [], sl, (RH I w A N)) =
    bC (C d 179 [.ref 0] sl (RH I w A N)) (fun vs sl h => R (d + 1) 190 (4, [some (.ref 0), some (.ref 7), some (.int a2), some (.int a3)], vs ++ [], sl, h)) :=
  (R_gob [4, 12, 23, 47, 52] 400 _ _ _).trans rfl
set_option maxRecDepth 100000 in
theorem m190_4 (d sl : Nat) (I : Nat → Int32) (w : Int64) (A : Nat → Nat → Int32) (N : Nat → Nat → Int64) (a2 : Int32) (a3 : Int32) (b0 : Int32) :
  R (d + 1) 190 (4, [some (.ref 0), some (.ref 7), some (.int a2), some (.int a3)], [.int b0], sl, (RH I w A N)) =
    cond (!decide (b0 = (nI 0))) (bC (C d 186 [.ref 7, .int a2, .long w] sl (RH I w A N)) (fun vs sl h => R (d + 1) 190 (23, [some (.ref 0), some (.ref 7), some (.int a2), some (.int a3)], vs ++ [.ref 0], sl, h))) (bC (C d 180 [.ref 0, .int (nI 1)] sl (RH I w A N)) (fun vs sl h => R (d + 1) 190 (12, [some (.ref 0), some (.ref 7), some (.int a2), some (.int a3)], vs ++ [], sl, h))) :=
  (R_gob [4, 12, 23, 47, 52] 400 _ _ _).trans rfl
set_option maxRecDepth 100000 in
theorem m190_23 (d sl : Nat) (I : Nat → Int32) (w : Int64) (A : Nat → Nat → Int32) (N : Nat → Nat → Int64) (a2 : Int32) (a3 : Int32) (b0 : Int32) :
  R (d + 1) 190 (23, [some (.ref 0), some (.ref 7), some (.int a2), some (.int a3)], [.int b0, .ref 0], sl, (RH I w A N)) =
    cond (decide (b0 = (-1 : Int32))) (bC (C d 180 [.ref 0, .int (nI 3)] sl (RH (up1 I 13 b0) w A N)) (fun vs sl h => R (d + 1) 190 (47, [some (.ref 0), some (.ref 7), some (.int a2), some (.int a3)], vs ++ [], sl, h))) (cond (!decide (b0 = a3)) (bC (C d 174 [.ref 0] sl (RH (up1 I 13 b0) w A N)) (fun vs sl h => R (d + 1) 190 (52, [some (.ref 0), some (.ref 7), some (.int a2), some (.int a3)], vs ++ [], sl, h))) (bC (C d 180 [.ref 0, .int (nI 3)] sl (RH (up1 I 13 b0) w A N)) (fun vs sl h => R (d + 1) 190 (47, [some (.ref 0), some (.ref 7), some (.int a2), some (.int a3)], vs ++ [], sl, h)))) :=
  (R_gob [4, 12, 23, 47, 52] 400 _ _ _).trans rfl
set_option maxRecDepth 100000 in
theorem m190_12 (d sl : Nat) (I : Nat → Int32) (w : Int64) (A : Nat → Nat → Int32) (N : Nat → Nat → Int64) (a2 : Int32) (a3 : Int32) (b0 : Int32) :
  R (d + 1) 190 (12, [some (.ref 0), some (.ref 7), some (.int a2), some (.int a3)], [.int b0], sl, (RH I w A N)) =
    some (12, [some (.ref 0), some (.ref 7), some (.int a2), some (.int a3)], [.int b0], sl, (RH I w A N)) :=
  (R_gob [4, 12, 23, 47, 52] 400 _ _ _).trans rfl
set_option maxRecDepth 100000 in
theorem m190_47 (d sl : Nat) (I : Nat → Int32) (w : Int64) (A : Nat → Nat → Int32) (N : Nat → Nat → Int64) (a2 : Int32) (a3 : Int32) (b0 : Int32) :
  R (d + 1) 190 (47, [some (.ref 0), some (.ref 7), some (.int a2), some (.int a3)], [.int b0], sl, (RH I w A N)) =
    some (47, [some (.ref 0), some (.ref 7), some (.int a2), some (.int a3)], [.int b0], sl, (RH I w A N)) :=
  (R_gob [4, 12, 23, 47, 52] 400 _ _ _).trans rfl
set_option maxRecDepth 100000 in
theorem m190_52 (d sl : Nat) (I : Nat → Int32) (w : Int64) (A : Nat → Nat → Int32) (N : Nat → Nat → Int64) (a2 : Int32) (a3 : Int32) :
  R (d + 1) 190 (52, [some (.ref 0), some (.ref 7), some (.int a2), some (.int a3)], [], sl, (RH I w A N)) =
    some (53, [some (.ref 0), some (.ref 7), some (.int a2), some (.int a3)], [.int (nI 1)], sl, (RH I w A N)) :=
  (R_gob [4, 12, 23, 47, 52] 400 _ _ _).trans rfl
set_option maxRecDepth 100000 in
theorem m191_0 (d sl : Nat) (I : Nat → Int32) (w : Int64) (A : Nat → Nat → Int32) (N : Nat → Nat → Int64)  :
  R (d + 1) 191 (0, [some (.ref 0), none], [], sl, (RH I w A N)) =
    bC (C d 187 [.ref 0, .int (nI 1), .int (nI 12)] sl (RH I w A N)) (fun vs sl h => R (d + 1) 191 (7, [some (.ref 0), none], vs ++ [], sl, h)) :=
  (R_gob [7, 39, 42, 73, 76, 94, 97, 112, 115] 400 _ _ _).trans rfl
set_option maxRecDepth 100000 in
theorem m191_7 (d sl : Nat) (I : Nat → Int32) (w : Int64) (A : Nat → Nat → Int32) (N : Nat → Nat → Int64) (b0 : Int32) :
  R (d + 1) 191 (7, [some (.ref 0), none], [.int b0], sl, (RH I w A N)) =
    cond (!decide (b0 = (nI 0))) (bC (C d 190 [.ref 0, .ref 8, .int ((A 3) 0), .int (-1 : Int32)] sl (RH I w A N)) (fun vs sl h => R (d + 1) 191 (39, [some (.ref 0), some (.int ((A 3) 1))], vs ++ [.int ((nI 22) + ((A 3) 1)), .ref 0], sl, h))) (some (11, [some (.ref 0), none], [.int (nI 0)], sl, (RH I w A N))) :=
  (R_gob [7, 39, 42, 73, 76, 94, 97, 112, 115] 400 _ _ _).trans rfl
set_option maxRecDepth 100000 in
theorem m191_39 (d sl : Nat) (I : Nat → Int32) (w : Int64) (A : Nat → Nat → Int32) (N : Nat → Nat → Int64) (a1 : Int32) (b0 : Int32) (b1 : Int32) :
  R (d + 1) 191 (39, [some (.ref 0), some (.int a1)], [.int b0, .int b1, .ref 0], sl, (RH I w A N)) =
    bC (C d 188 [.ref 0, .int b1, .int b0] sl (RH I w A N)) (fun vs sl h => R (d + 1) 191 (42, [some (.ref 0), some (.int a1)], vs ++ [], sl, h)) :=
  (R_gob [7, 39, 42, 73, 76, 94, 97, 112, 115] 400 _ _ _).trans rfl
set_option maxRecDepth 100000 in
theorem m191_42 (d sl : Nat) (I : Nat → Int32) (w : Int64) (A : Nat → Nat → Int32) (N : Nat → Nat → Int64) (a1 : Int32) (b0 : Int32) :
  R (d + 1) 191 (42, [some (.ref 0), some (.int a1)], [.int b0], sl, (RH I w A N)) =
    cond (decide (b0 = (nI 0))) (some (80, [some (.ref 0), some (.int a1)], [.int (nI 0)], sl, (RH I w A N))) (cond (x_in ((nI 22) + a1) 70) (bC (C d 190 [.ref 0, .ref 8, .int ((A 3) 0), .int ((A 3) ((nI 22) + a1).toNatClampNeg)] sl (RH I w A N)) (fun vs sl h => R (d + 1) 191 (73, [some (.ref 0), some (.int a1)], vs ++ [.int ((nI 34) + a1), .ref 0], sl, h))) none) :=
  (R_gob [7, 39, 42, 73, 76, 94, 97, 112, 115] 400 _ _ _).trans rfl
set_option maxRecDepth 100000 in
theorem m191_73 (d sl : Nat) (I : Nat → Int32) (w : Int64) (A : Nat → Nat → Int32) (N : Nat → Nat → Int64) (a1 : Int32) (b0 : Int32) (b1 : Int32) :
  R (d + 1) 191 (73, [some (.ref 0), some (.int a1)], [.int b0, .int b1, .ref 0], sl, (RH I w A N)) =
    bC (C d 188 [.ref 0, .int b1, .int b0] sl (RH I w A N)) (fun vs sl h => R (d + 1) 191 (76, [some (.ref 0), some (.int a1)], vs ++ [], sl, h)) :=
  (R_gob [7, 39, 42, 73, 76, 94, 97, 112, 115] 400 _ _ _).trans rfl
set_option maxRecDepth 100000 in
theorem m191_76 (d sl : Nat) (I : Nat → Int32) (w : Int64) (A : Nat → Nat → Int32) (N : Nat → Nat → Int64) (a1 : Int32) (b0 : Int32) :
  R (d + 1) 191 (76, [some (.ref 0), some (.int a1)], [.int b0], sl, (RH I w A N)) =
    cond (!decide (b0 = (nI 0))) (bC (C d 181 [.ref 0, .int (nI 1), .int (nI 200)] sl (RH I w A N)) (fun vs sl h => R (d + 1) 191 (94, [some (.ref 0), some (.int a1)], vs ++ [.int ((nI 46) + a1), .ref 0], sl, h))) (some (80, [some (.ref 0), some (.int a1)], [.int (nI 0)], sl, (RH I w A N))) :=
  (R_gob [7, 39, 42, 73, 76, 94, 97, 112, 115] 400 _ _ _).trans rfl
set_option maxRecDepth 100000 in
theorem m191_94 (d sl : Nat) (I : Nat → Int32) (w : Int64) (A : Nat → Nat → Int32) (N : Nat → Nat → Int64) (a1 : Int32) (b0 : Int32) (b1 : Int32) :
  R (d + 1) 191 (94, [some (.ref 0), some (.int a1)], [.int b0, .int b1, .ref 0], sl, (RH I w A N)) =
    bC (C d 188 [.ref 0, .int b1, .int b0] sl (RH I w A N)) (fun vs sl h => R (d + 1) 191 (97, [some (.ref 0), some (.int a1)], vs ++ [], sl, h)) :=
  (R_gob [7, 39, 42, 73, 76, 94, 97, 112, 115] 400 _ _ _).trans rfl
set_option maxRecDepth 100000 in
theorem m191_97 (d sl : Nat) (I : Nat → Int32) (w : Int64) (A : Nat → Nat → Int32) (N : Nat → Nat → Int64) (a1 : Int32) (b0 : Int32) :
  R (d + 1) 191 (97, [some (.ref 0), some (.int a1)], [.int b0], sl, (RH I w A N)) =
    cond (decide (b0 = (nI 0))) (some (119, [some (.ref 0), some (.int a1)], [.int (nI 0)], sl, (RH I w A N))) (bC (C d 181 [.ref 0, .int (nI 0), .int (nI 99)] sl (RH I w A N)) (fun vs sl h => R (d + 1) 191 (112, [some (.ref 0), some (.int a1)], vs ++ [.int ((nI 58) + a1), .ref 0], sl, h))) :=
  (R_gob [7, 39, 42, 73, 76, 94, 97, 112, 115] 400 _ _ _).trans rfl
set_option maxRecDepth 100000 in
theorem m191_112 (d sl : Nat) (I : Nat → Int32) (w : Int64) (A : Nat → Nat → Int32) (N : Nat → Nat → Int64) (a1 : Int32) (b0 : Int32) (b1 : Int32) :
  R (d + 1) 191 (112, [some (.ref 0), some (.int a1)], [.int b0, .int b1, .ref 0], sl, (RH I w A N)) =
    bC (C d 188 [.ref 0, .int b1, .int b0] sl (RH I w A N)) (fun vs sl h => R (d + 1) 191 (115, [some (.ref 0), some (.int a1)], vs ++ [], sl, h)) :=
  (R_gob [7, 39, 42, 73, 76, 94, 97, 112, 115] 400 _ _ _).trans rfl
set_option maxRecDepth 100000 in
theorem m191_115 (d sl : Nat) (I : Nat → Int32) (w : Int64) (A : Nat → Nat → Int32) (N : Nat → Nat → Int64) (a1 : Int32) (b0 : Int32) :
  R (d + 1) 191 (115, [some (.ref 0), some (.int a1)], [.int b0], sl, (RH I w A N)) =
    cond (!decide (b0 = (nI 0))) (some (131, [some (.ref 0), some (.int a1)], [.int (nI 1)], sl, (RH I w (up1 A 3 (upd (A 3) 1 (((A 3) 1) + (nI 1)))) N))) (some (119, [some (.ref 0), some (.int a1)], [.int (nI 0)], sl, (RH I w A N))) :=
  (R_gob [7, 39, 42, 73, 76, 94, 97, 112, 115] 400 _ _ _).trans rfl
set_option maxRecDepth 100000 in
theorem m192_0 (d sl : Nat) (I : Nat → Int32) (w : Int64) (A : Nat → Nat → Int32) (N : Nat → Nat → Int64)  :
  R (d + 1) 192 (0, [some (.ref 0)], [], sl, (RH I w A N)) =
    cond (decide ((I 23) = (nI 0))) (bC (C d 174 [.ref 0] sl (RH (up1 I 23 (nI 1)) w A N)) (fun vs sl h => R (d + 1) 192 (22, [some (.ref 0)], vs ++ [], sl, h))) (bC (C d 180 [.ref 0, .int (nI 3)] sl (RH I w A N)) (fun vs sl h => R (d + 1) 192 (12, [some (.ref 0)], vs ++ [], sl, h))) :=
  (R_gob [12, 22, 31, 34, 46, 49] 400 _ _ _).trans rfl
set_option maxRecDepth 100000 in
theorem m192_22 (d sl : Nat) (I : Nat → Int32) (w : Int64) (A : Nat → Nat → Int32) (N : Nat → Nat → Int64)  :
  R (d + 1) 192 (22, [some (.ref 0)], [], sl, (RH I w A N)) =
    bC (C d 181 [.ref 0, .int (nI 0), .int (nI 9)] sl (RH I w A N)) (fun vs sl h => R (d + 1) 192 (31, [some (.ref 0)], vs ++ [.int (nI 2), .ref 0], sl, h)) :=
  (R_gob [12, 22, 31, 34, 46, 49] 400 _ _ _).trans rfl
set_option maxRecDepth 100000 in
theorem m192_12 (d sl : Nat) (I : Nat → Int32) (w : Int64) (A : Nat → Nat → Int32) (N : Nat → Nat → Int64) (b0 : Int32) :
  R (d + 1) 192 (12, [some (.ref 0)], [.int b0], sl, (RH I w A N)) =
    some (12, [some (.ref 0)], [.int b0], sl, (RH I w A N)) :=
  (R_gob [12, 22, 31, 34, 46, 49] 400 _ _ _).trans rfl
set_option maxRecDepth 100000 in
theorem m192_31 (d sl : Nat) (I : Nat → Int32) (w : Int64) (A : Nat → Nat → Int32) (N : Nat → Nat → Int64) (b0 : Int32) (b1 : Int32) :
  R (d + 1) 192 (31, [some (.ref 0)], [.int b0, .int b1, .ref 0], sl, (RH I w A N)) =
    bC (C d 188 [.ref 0, .int b1, .int b0] sl (RH I w A N)) (fun vs sl h => R (d + 1) 192 (34, [some (.ref 0)], vs ++ [], sl, h)) :=
  (R_gob [12, 22, 31, 34, 46, 49] 400 _ _ _).trans rfl
set_option maxRecDepth 100000 in
theorem m192_34 (d sl : Nat) (I : Nat → Int32) (w : Int64) (A : Nat → Nat → Int32) (N : Nat → Nat → Int64) (b0 : Int32) :
  R (d + 1) 192 (34, [some (.ref 0)], [.int b0], sl, (RH I w A N)) =
    cond (decide (b0 = (nI 0))) (some (57, [some (.ref 0)], [.int (nI 0)], sl, (RH I w A N))) (bC (C d 181 [.ref 0, .int (nI 1), .int (nI 30)] sl (RH I w A N)) (fun vs sl h => R (d + 1) 192 (46, [some (.ref 0)], vs ++ [.int (nI 3), .ref 0], sl, h))) :=
  (R_gob [12, 22, 31, 34, 46, 49] 400 _ _ _).trans rfl
set_option maxRecDepth 100000 in
theorem m192_46 (d sl : Nat) (I : Nat → Int32) (w : Int64) (A : Nat → Nat → Int32) (N : Nat → Nat → Int64) (b0 : Int32) (b1 : Int32) :
  R (d + 1) 192 (46, [some (.ref 0)], [.int b0, .int b1, .ref 0], sl, (RH I w A N)) =
    bC (C d 188 [.ref 0, .int b1, .int b0] sl (RH I w A N)) (fun vs sl h => R (d + 1) 192 (49, [some (.ref 0)], vs ++ [], sl, h)) :=
  (R_gob [12, 22, 31, 34, 46, 49] 400 _ _ _).trans rfl
set_option maxRecDepth 100000 in
theorem m192_49 (d sl : Nat) (I : Nat → Int32) (w : Int64) (A : Nat → Nat → Int32) (N : Nat → Nat → Int64) (b0 : Int32) :
  R (d + 1) 192 (49, [some (.ref 0)], [.int b0], sl, (RH I w A N)) =
    cond (decide (b0 = (nI 0))) (some (57, [some (.ref 0)], [.int (nI 0)], sl, (RH I w A N))) (some (57, [some (.ref 0)], [.int (nI 1)], sl, (RH I w A N))) :=
  (R_gob [12, 22, 31, 34, 46, 49] 400 _ _ _).trans rfl
set_option maxRecDepth 100000 in
theorem m193_0 (d sl : Nat) (I : Nat → Int32) (w : Int64) (A : Nat → Nat → Int32) (N : Nat → Nat → Int64)  :
  R (d + 1) 193 (0, [some (.ref 0)], [], sl, (RH I w A N)) =
    bC (C d 177 [.ref 0, .int (nI 0)] sl (RH I w A N)) (fun vs sl h => R (d + 1) 193 (5, [some (.ref 0)], vs ++ [], sl, h)) :=
  (R_gob [5, 12, 18, 25, 31, 38, 46] 400 _ _ _).trans rfl
set_option maxRecDepth 100000 in
theorem m193_5 (d sl : Nat) (I : Nat → Int32) (w : Int64) (A : Nat → Nat → Int32) (N : Nat → Nat → Int64) (b0 : Int32) :
  R (d + 1) 193 (5, [some (.ref 0)], [.int b0], sl, (RH I w A N)) =
    cond (decide (b0 = (nI 0))) (bC (C d 177 [.ref 0, .int (nI 1)] sl (RH I w A N)) (fun vs sl h => R (d + 1) 193 (18, [some (.ref 0)], vs ++ [], sl, h))) (bC (C d 189 [.ref 0] sl (RH I w A N)) (fun vs sl h => R (d + 1) 193 (12, [some (.ref 0)], vs ++ [], sl, h))) :=
  (R_gob [5, 12, 18, 25, 31, 38, 46] 400 _ _ _).trans rfl
set_option maxRecDepth 100000 in
theorem m193_18 (d sl : Nat) (I : Nat → Int32) (w : Int64) (A : Nat → Nat → Int32) (N : Nat → Nat → Int64) (b0 : Int32) :
  R (d + 1) 193 (18, [some (.ref 0)], [.int b0], sl, (RH I w A N)) =
    cond (decide (b0 = (nI 0))) (bC (C d 177 [.ref 0, .int (nI 2)] sl (RH I w A N)) (fun vs sl h => R (d + 1) 193 (31, [some (.ref 0)], vs ++ [], sl, h))) (bC (C d 191 [.ref 0] sl (RH I w A N)) (fun vs sl h => R (d + 1) 193 (25, [some (.ref 0)], vs ++ [], sl, h))) :=
  (R_gob [5, 12, 18, 25, 31, 38, 46] 400 _ _ _).trans rfl
set_option maxRecDepth 100000 in
theorem m193_12 (d sl : Nat) (I : Nat → Int32) (w : Int64) (A : Nat → Nat → Int32) (N : Nat → Nat → Int64) (b0 : Int32) :
  R (d + 1) 193 (12, [some (.ref 0)], [.int b0], sl, (RH I w A N)) =
    some (12, [some (.ref 0)], [.int b0], sl, (RH I w A N)) :=
  (R_gob [5, 12, 18, 25, 31, 38, 46] 400 _ _ _).trans rfl
set_option maxRecDepth 100000 in
theorem m193_31 (d sl : Nat) (I : Nat → Int32) (w : Int64) (A : Nat → Nat → Int32) (N : Nat → Nat → Int64) (b0 : Int32) :
  R (d + 1) 193 (31, [some (.ref 0)], [.int b0], sl, (RH I w A N)) =
    cond (decide (b0 = (nI 0))) (bC (C d 180 [.ref 0, .int (nI 1)] sl (RH I w A N)) (fun vs sl h => R (d + 1) 193 (46, [some (.ref 0)], vs ++ [], sl, h))) (bC (C d 192 [.ref 0] sl (RH I w A N)) (fun vs sl h => R (d + 1) 193 (38, [some (.ref 0)], vs ++ [], sl, h))) :=
  (R_gob [5, 12, 18, 25, 31, 38, 46] 400 _ _ _).trans rfl
set_option maxRecDepth 100000 in
theorem m193_25 (d sl : Nat) (I : Nat → Int32) (w : Int64) (A : Nat → Nat → Int32) (N : Nat → Nat → Int64) (b0 : Int32) :
  R (d + 1) 193 (25, [some (.ref 0)], [.int b0], sl, (RH I w A N)) =
    some (25, [some (.ref 0)], [.int b0], sl, (RH I w A N)) :=
  (R_gob [5, 12, 18, 25, 31, 38, 46] 400 _ _ _).trans rfl
set_option maxRecDepth 100000 in
theorem m193_46 (d sl : Nat) (I : Nat → Int32) (w : Int64) (A : Nat → Nat → Int32) (N : Nat → Nat → Int64) (b0 : Int32) :
  R (d + 1) 193 (46, [some (.ref 0)], [.int b0], sl, (RH I w A N)) =
    some (46, [some (.ref 0)], [.int b0], sl, (RH I w A N)) :=
  (R_gob [5, 12, 18, 25, 31, 38, 46] 400 _ _ _).trans rfl
set_option maxRecDepth 100000 in
theorem m193_38 (d sl : Nat) (I : Nat → Int32) (w : Int64) (A : Nat → Nat → Int32) (N : Nat → Nat → Int64) (b0 : Int32) :
  R (d + 1) 193 (38, [some (.ref 0)], [.int b0], sl, (RH I w A N)) =
    R (d + 1) 193 (46, [some (.ref 0)], [.int b0], sl, (RH I w A N)) :=
  (R_gob [5, 12, 18, 25, 31, 38, 46] 400 _ _ _).trans rfl
set_option maxRecDepth 100000 in
theorem m194_0 (d sl : Nat) (I : Nat → Int32) (w : Int64) (A : Nat → Nat → Int32) (N : Nat → Nat → Int64)  :
  R (d + 1) 194 (0, [some (.ref 0), none, none], [], sl, (RH I w A N)) =
    bC (C d 183 [.ref 0, .int (nI 900)] sl (RH I w A N)) (fun vs sl h => R (d + 1) 194 (7, [some (.ref 0), none, none], vs ++ [], sl, h)) :=
  (R_gob [7, 9, 49, 60, 67, 85, 111, 139] 400 _ _ _).trans rfl
set_option maxRecDepth 100000 in
theorem m194_7 (d sl : Nat) (I : Nat → Int32) (w : Int64) (A : Nat → Nat → Int32) (N : Nat → Nat → Int64)  :
  R (d + 1) 194 (7, [some (.ref 0), none, none], [], sl, (RH I w A N)) =
    R (d + 1) 194 (9, [some (.ref 0), some (.int (nI 0)), none], [], sl, (RH I w A N)) :=
  (R_gob [7, 9, 49, 60, 67, 85, 111, 139] 400 _ _ _).trans rfl
set_option maxRecDepth 100000 in
theorem m194_9 (d sl : Nat) (I : Nat → Int32) (w : Int64) (A : Nat → Nat → Int32) (N : Nat → Nat → Int64) (a1 : Int32) :
  R (d + 1) 194 (9, [some (.ref 0), some (.int a1), none], [], sl, (RH I w A N)) =
    cond (decide ((nI 70) ≤ a1)) (R (d + 1) 194 (49, [some (.ref 0), some (.int (nI 0)), none], [], sl, (RH (up1 I 23 (nI 0)) w (up1 A 3 (upd (upd (A 3) 2 (nI 1)) 3 (nI 5))) N))) (cond (x_in a1 70) (R (d + 1) 194 (9, [some (.ref 0), some (.int (a1 + (nI 1))), none], [], sl, (RH I w (up1 A 3 (upd (A 3) a1.toNatClampNeg (nI 0))) N))) none) :=
  (R_gob [7, 9, 49, 60, 67, 85, 111, 139] 400 _ _ _).trans rfl
set_option maxRecDepth 100000 in
theorem m194_49 (d sl : Nat) (I : Nat → Int32) (w : Int64) (A : Nat → Nat → Int32) (N : Nat → Nat → Int64) (a1 : Int32) :
  R (d + 1) 194 (49, [some (.ref 0), some (.int a1), none], [], sl, (RH I w A N)) =
    cond (decide ((I 7) = (nI 0))) (R (d + 1) 194 (85, [some (.ref 0), some (.int a1), some (.int (nI 0))], [], sl, (RH I w A N))) (bC (C d 193 [.ref 0] sl (RH I w A N)) (fun vs sl h => R (d + 1) 194 (60, [some (.ref 0), some (.int a1), none], vs ++ [], sl, h))) :=
  (R_gob [7, 9, 49, 60, 67, 85, 111, 139] 400 _ _ _).trans rfl
set_option maxRecDepth 100000 in
theorem m194_85 (d sl : Nat) (I : Nat → Int32) (w : Int64) (A : Nat → Nat → Int32) (N : Nat → Nat → Int64) (a1 : Int32) (a2 : Int32) :
  R (d + 1) 194 (85, [some (.ref 0), some (.int a1), some (.int a2)], [], sl, (RH I w A N)) =
    cond (decide ((nI 70) ≤ a2)) (R (d + 1) 194 (111, [some (.ref 0), some (.int a1), some (.int (nI 0))], [], sl, (RH I w A N))) (cond (x_in a2 70) (cond (x_in a2 369) (R (d + 1) 194 (85, [some (.ref 0), some (.int a1), some (.int (a2 + (nI 1)))], [], sl, (RH I w (up1 A 2 (upd (A 2) a2.toNatClampNeg ((A 3) a2.toNatClampNeg))) N))) none) none) :=
  (R_gob [7, 9, 49, 60, 67, 85, 111, 139] 400 _ _ _).trans rfl
set_option maxRecDepth 100000 in
theorem m194_60 (d sl : Nat) (I : Nat → Int32) (w : Int64) (A : Nat → Nat → Int32) (N : Nat → Nat → Int64) (a1 : Int32) (b0 : Int32) :
  R (d + 1) 194 (60, [some (.ref 0), some (.int a1), none], [.int b0], sl, (RH I w A N)) =
    cond (decide (b0 = (nI 0))) (some (76, [some (.ref 0), some (.int a1), none], [.int ((-1 : Int32) - (I 11))], sl, (RH I w A N))) (bC (C d 182 [.ref 0] sl (RH I w A N)) (fun vs sl h => R (d + 1) 194 (67, [some (.ref 0), some (.int a1), none], vs ++ [], sl, h))) :=
  (R_gob [7, 9, 49, 60, 67, 85, 111, 139] 400 _ _ _).trans rfl
set_option maxRecDepth 100000 in
theorem m194_111 (d sl : Nat) (I : Nat → Int32) (w : Int64) (A : Nat → Nat → Int32) (N : Nat → Nat → Int64) (a1 : Int32) (a2 : Int32) :
  R (d + 1) 194 (111, [some (.ref 0), some (.int a1), some (.int a2)], [], sl, (RH I w A N)) =
    cond (decide ((nI 6) ≤ a2)) (bC (C d 185 [.ref 0] sl (RH I w A N)) (fun vs sl h => R (d + 1) 194 (139, [some (.ref 0), some (.int a1), some (.int a2)], vs ++ [], sl, h))) (cond (x_in a2 6) (cond (x_in a2 6) (R (d + 1) 194 (111, [some (.ref 0), some (.int a1), some (.int (a2 + (nI 1)))], [], sl, (RH I w A (up1 N 7 (vp_updL (N 7) a2.toNatClampNeg ((N 8) a2.toNatClampNeg)))))) none) none) :=
  (R_gob [7, 9, 49, 60, 67, 85, 111, 139] 400 _ _ _).trans rfl
set_option maxRecDepth 100000 in
theorem m194_67 (d sl : Nat) (I : Nat → Int32) (w : Int64) (A : Nat → Nat → Int32) (N : Nat → Nat → Int64) (a1 : Int32) (b0 : Int32) :
  R (d + 1) 194 (67, [some (.ref 0), some (.int a1), none], [.int b0], sl, (RH I w A N)) =
    cond (!decide (b0 = (nI 0))) (R (d + 1) 194 (49, [some (.ref 0), some (.int (a1 + (nI 1))), none], [], sl, (RH I w A N))) (some (76, [some (.ref 0), some (.int a1), none], [.int ((-1 : Int32) - (I 11))], sl, (RH I w A N))) :=
  (R_gob [7, 9, 49, 60, 67, 85, 111, 139] 400 _ _ _).trans rfl
set_option maxRecDepth 100000 in
theorem m194_139 (d sl : Nat) (I : Nat → Int32) (w : Int64) (A : Nat → Nat → Int32) (N : Nat → Nat → Int64) (a1 : Int32) (a2 : Int32) :
  R (d + 1) 194 (139, [some (.ref 0), some (.int a1), some (.int a2)], [], sl, (RH I w A N)) =
    some (145, [some (.ref 0), some (.int a1), some (.int a2)], [.int a1], sl, (RH (up1 I 24 (nI 0)) w A N)) :=
  (R_gob [7, 9, 49, 60, 67, 85, 111, 139] 400 _ _ _).trans rfl
set_option maxRecDepth 100000 in
theorem m195_0 (d sl : Nat) (I : Nat → Int32) (w : Int64) (A : Nat → Nat → Int32) (N : Nat → Nat → Int64)  :
  R d 195 (0, [some (.ref 0)], [], sl, (RH I w A N)) =
    some (9, [some (.ref 0)], [.int (I 10)], sl, (RH (up1 I 0 (nI 0)) w A N)) :=
  (R_gob [] 400 _ _ _).trans rfl
set_option maxRecDepth 100000 in
theorem m196_0 (d sl : Nat) (I : Nat → Int32) (w : Int64) (A : Nat → Nat → Int32) (N : Nat → Nat → Int64) (a1 : Int32) :
  R (d + 1) 196 (0, [some (.ref 0), some (.int a1)], [], sl, (RH I w A N)) =
    bC (C d 166 [.int a1, .int (nI 0), .int (((A 2) 0) - (nI 1))] sl (RH I w A N)) (fun vs sl h => R (d + 1) 196 (13, [some (.ref 0), some (.int a1)], vs ++ [], sl, h)) :=
  (R_gob [13] 400 _ _ _).trans rfl
set_option maxRecDepth 100000 in
theorem m196_13 (d sl : Nat) (I : Nat → Int32) (w : Int64) (A : Nat → Nat → Int32) (N : Nat → Nat → Int64) (a1 : Int32) (b0 : Int32) :
  R (d + 1) 196 (13, [some (.ref 0), some (.int a1)], [.int b0], sl, (RH I w A N)) =
    some (13, [some (.ref 0), some (.int a1)], [.int b0], sl, (RH I w A N)) :=
  (R_gob [13] 400 _ _ _).trans rfl
set_option maxRecDepth 100000 in
theorem m197_0 (d sl : Nat) (I : Nat → Int32) (w : Int64) (A : Nat → Nat → Int32) (N : Nat → Nat → Int64) (a1 : Int32) :
  R (d + 1) 197 (0, [some (.ref 0), some (.int a1)], [], sl, (RH I w A N)) =
    bC (C d 166 [.int a1, .int (nI 0), .int (((A 2) 72) - (nI 1))] sl (RH I w A N)) (fun vs sl h => R (d + 1) 197 (14, [some (.ref 0), some (.int a1)], vs ++ [], sl, h)) :=
  (R_gob [14] 400 _ _ _).trans rfl
set_option maxRecDepth 100000 in
theorem m197_14 (d sl : Nat) (I : Nat → Int32) (w : Int64) (A : Nat → Nat → Int32) (N : Nat → Nat → Int64) (a1 : Int32) (b0 : Int32) :
  R (d + 1) 197 (14, [some (.ref 0), some (.int a1)], [.int b0], sl, (RH I w A N)) =
    some (14, [some (.ref 0), some (.int a1)], [.int b0], sl, (RH I w A N)) :=
  (R_gob [14] 400 _ _ _).trans rfl
set_option maxRecDepth 100000 in
theorem m198_0 (d sl : Nat) (I : Nat → Int32) (w : Int64) (A : Nat → Nat → Int32) (N : Nat → Nat → Int64) (a1 : Int32) :
  R d 198 (0, [some (.ref 0), some (.int a1)], [], sl, (RH I w A N)) =
    cond (x_in ((nI 103) + a1) 369) (cond (decide (((A 2) ((nI 103) + a1).toNatClampNeg) ≤ (nI 0))) (some (17, [some (.ref 0), some (.int a1)], [.int (nI 0)], sl, (RH I w A N))) (some (17, [some (.ref 0), some (.int a1)], [.int (nI 1)], sl, (RH I w A N)))) none :=
  (R_gob [] 400 _ _ _).trans rfl
set_option maxRecDepth 100000 in
theorem m199_0 (d sl : Nat) (I : Nat → Int32) (w : Int64) (A : Nat → Nat → Int32) (N : Nat → Nat → Int64) (a1 : Int32) (a2 : Int32) :
  R d 199 (0, [some (.ref 0), some (.int a1), some (.int a2)], [], sl, (RH I w A N)) =
    cond (x_in ((nI 115) + a1) 369) (cond (x_in ((nI 115) + a2) 369) (cond (decide (((A 2) ((nI 115) + a2).toNatClampNeg) < ((A 2) ((nI 115) + a1).toNatClampNeg))) (some (52, [some (.ref 0), some (.int a1), some (.int a2)], [.int (nI 1)], sl, (RH I w A N))) (cond (x_in ((nI 115) + a1) 369) (cond (x_in ((nI 115) + a2) 369) (cond (!decide (((A 2) ((nI 115) + a1).toNatClampNeg) = ((A 2) ((nI 115) + a2).toNatClampNeg))) (some (52, [some (.ref 0), some (.int a1), some (.int a2)], [.int (nI 0)], sl, (RH I w A N))) (cond (decide (a2 ≤ a1)) (some (52, [some (.ref 0), some (.int a1), some (.int a2)], [.int (nI 0)], sl, (RH I w A N))) (some (52, [some (.ref 0), some (.int a1), some (.int a2)], [.int (nI 1)], sl, (RH I w A N))))) none) none)) none) none :=
  (R_gob [] 400 _ _ _).trans rfl
set_option maxRecDepth 100000 in
theorem m200_0 (d sl : Nat) (I : Nat → Int32) (w : Int64) (A : Nat → Nat → Int32) (N : Nat → Nat → Int64) (a1 : Int32) (a2 : Int32) :
  R d 200 (0, [some (.ref 0), some (.int a1), some (.int a2), none, none], [], sl, (RH I w A N)) =
    R d 200 (5, [some (.ref 0), some (.int a1), some (.int a2), some (.int (nI 0)), some (.int (nI 0))], [], sl, (RH I w A N)) :=
  (R_gob [5] 400 _ _ _).trans rfl
set_option maxRecDepth 100000 in
theorem m200_5 (d sl : Nat) (I : Nat → Int32) (w : Int64) (A : Nat → Nat → Int32) (N : Nat → Nat → Int64) (a1 : Int32) (a2 : Int32) (a3 : Int32) (a4 : Int32) :
  R d 200 (5, [some (.ref 0), some (.int a1), some (.int a2), some (.int a3), some (.int a4)], [], sl, (RH I w A N)) =
    cond (decide (((A 2) 72) ≤ a4)) (some (50, [some (.ref 0), some (.int a1), some (.int a2), some (.int a3), some (.int a4)], [.int a3], sl, (RH I w A N))) (cond (x_in (a1 + a4) 369) (cond (!decide (((A 2) (a1 + a4).toNatClampNeg) = a2)) (R d 200 (5, [some (.ref 0), some (.int a1), some (.int a2), some (.int a3), some (.int (a4 + (nI 1)))], [], sl, (RH I w A N))) (cond (x_in ((nI 103) + a4) 369) (R d 200 (5, [some (.ref 0), some (.int a1), some (.int a2), some (.int (a3 + ((A 2) ((nI 103) + a4).toNatClampNeg))), some (.int (a4 + (nI 1)))], [], sl, (RH I w A N))) none)) none) :=
  (R_gob [5] 400 _ _ _).trans rfl
set_option maxRecDepth 100000 in
theorem m201_0 (d sl : Nat) (I : Nat → Int32) (w : Int64) (A : Nat → Nat → Int32) (N : Nat → Nat → Int64) (a1 : Int32) :
  R (d + 1) 201 (0, [some (.ref 0), some (.int a1), none, none], [], sl, (RH I w A N)) =
    R (d + 1) 201 (4, [some (.ref 0), some (.int a1), some (.int (nI 0)), some (.int (nI 0))], [], sl, (RH I w A N)) :=
  (R_gob [4, 20] 400 _ _ _).trans rfl
set_option maxRecDepth 100000 in
theorem m201_4 (d sl : Nat) (I : Nat → Int32) (w : Int64) (A : Nat → Nat → Int32) (N : Nat → Nat → Int64) (a1 : Int32) (a2 : Int32) (a3 : Int32) :
  R (d + 1) 201 (4, [some (.ref 0), some (.int a1), some (.int a2), some (.int a3)], [], sl, (RH I w A N)) =
    cond (decide (((A 2) 72) ≤ a3)) (some (49, [some (.ref 0), some (.int a1), some (.int a2), some (.int a3)], [.int a2], sl, (RH I w A N))) (bC (C d 198 [.ref 0, .int a3] sl (RH I w A N)) (fun vs sl h => R (d + 1) 201 (20, [some (.ref 0), some (.int a1), some (.int a2), some (.int a3)], vs ++ [], sl, h))) :=
  (R_gob [4, 20] 400 _ _ _).trans rfl
set_option maxRecDepth 100000 in
theorem m201_20 (d sl : Nat) (I : Nat → Int32) (w : Int64) (A : Nat → Nat → Int32) (N : Nat → Nat → Int64) (a1 : Int32) (a2 : Int32) (a3 : Int32) (b0 : Int32) :
  R (d + 1) 201 (20, [some (.ref 0), some (.int a1), some (.int a2), some (.int a3)], [.int b0], sl, (RH I w A N)) =
    cond (decide (b0 = (nI 0))) (R (d + 1) 201 (4, [some (.ref 0), some (.int a1), some (.int a2), some (.int (a3 + (nI 1)))], [], sl, (RH I w A N))) (cond (x_in ((nI 79) + a3) 369) (cond (!decide (((A 2) ((nI 79) + a3).toNatClampNeg) = a1)) (R (d + 1) 201 (4, [some (.ref 0), some (.int a1), some (.int a2), some (.int (a3 + (nI 1)))], [], sl, (RH I w A N))) (R (d + 1) 201 (4, [some (.ref 0), some (.int a1), some (.int (a2 ||| ((nI 1) <<< (a3 &&& nI 31)))), some (.int (a3 + (nI 1)))], [], sl, (RH I w A N)))) none) :=
  (R_gob [4, 20] 400 _ _ _).trans rfl
set_option maxRecDepth 100000 in
theorem m202_0 (d sl : Nat) (I : Nat → Int32) (w : Int64) (A : Nat → Nat → Int32) (N : Nat → Nat → Int64) (a1 : Int32) :
  R (d + 1) 202 (0, [some (.ref 0), some (.int a1), none, none], [], sl, (RH I w A N)) =
    R (d + 1) 202 (4, [some (.ref 0), some (.int a1), some (.int (nI 0)), some (.int (nI 0))], [], sl, (RH I w A N)) :=
  (R_gob [4, 20, 50] 400 _ _ _).trans rfl
set_option maxRecDepth 100000 in
theorem m202_4 (d sl : Nat) (I : Nat → Int32) (w : Int64) (A : Nat → Nat → Int32) (N : Nat → Nat → Int64) (a1 : Int32) (a2 : Int32) (a3 : Int32) :
  R (d + 1) 202 (4, [some (.ref 0), some (.int a1), some (.int a2), some (.int a3)], [], sl, (RH I w A N)) =
    cond (decide (((A 2) 72) ≤ a3)) (some (66, [some (.ref 0), some (.int a1), some (.int a2), some (.int a3)], [.int a2], sl, (RH I w A N))) (bC (C d 198 [.ref 0, .int a3] sl (RH I w A N)) (fun vs sl h => R (d + 1) 202 (20, [some (.ref 0), some (.int a1), some (.int a2), some (.int a3)], vs ++ [], sl, h))) :=
  (R_gob [4, 20, 50] 400 _ _ _).trans rfl
set_option maxRecDepth 100000 in
theorem m202_20 (d sl : Nat) (I : Nat → Int32) (w : Int64) (A : Nat → Nat → Int32) (N : Nat → Nat → Int64) (a1 : Int32) (a2 : Int32) (a3 : Int32) (b0 : Int32) :
  R (d + 1) 202 (20, [some (.ref 0), some (.int a1), some (.int a2), some (.int a3)], [.int b0], sl, (RH I w A N)) =
    cond (decide (b0 = (nI 0))) (R (d + 1) 202 (4, [some (.ref 0), some (.int a1), some (.int a2), some (.int (a3 + (nI 1)))], [], sl, (RH I w A N))) (cond (x_in ((nI 79) + a3) 369) (cond (x_in ((nI 79) + a1) 369) (cond (!decide (((A 2) ((nI 79) + a3).toNatClampNeg) = ((A 2) ((nI 79) + a1).toNatClampNeg))) (R (d + 1) 202 (4, [some (.ref 0), some (.int a1), some (.int a2), some (.int (a3 + (nI 1)))], [], sl, (RH I w A N))) (bC (C d 199 [.ref 0, .int a3, .int a1] sl (RH I w A N)) (fun vs sl h => R (d + 1) 202 (50, [some (.ref 0), some (.int a1), some (.int a2), some (.int a3)], vs ++ [], sl, h)))) none) none) :=
  (R_gob [4, 20, 50] 400 _ _ _).trans rfl
set_option maxRecDepth 100000 in
theorem m202_50 (d sl : Nat) (I : Nat → Int32) (w : Int64) (A : Nat → Nat → Int32) (N : Nat → Nat → Int64) (a1 : Int32) (a2 : Int32) (a3 : Int32) (b0 : Int32) :
  R (d + 1) 202 (50, [some (.ref 0), some (.int a1), some (.int a2), some (.int a3)], [.int b0], sl, (RH I w A N)) =
    cond (decide (b0 = (nI 0))) (R (d + 1) 202 (4, [some (.ref 0), some (.int a1), some (.int a2), some (.int (a3 + (nI 1)))], [], sl, (RH I w A N))) (R (d + 1) 202 (4, [some (.ref 0), some (.int a1), some (.int (a2 ||| ((nI 1) <<< (a3 &&& nI 31)))), some (.int (a3 + (nI 1)))], [], sl, (RH I w A N))) :=
  (R_gob [4, 20, 50] 400 _ _ _).trans rfl
set_option maxRecDepth 100000 in
theorem m203_0 (d sl : Nat) (I : Nat → Int32) (w : Int64) (A : Nat → Nat → Int32) (N : Nat → Nat → Int64) (a1 : Int32) :
  R (d + 1) 203 (0, [some (.ref 0), some (.int a1), none, none], [], sl, (RH I w A N)) =
    R (d + 1) 203 (4, [some (.ref 0), some (.int a1), some (.int (nI 0)), some (.int (nI 0))], [], sl, (RH I w A N)) :=
  (R_gob [4, 15] 400 _ _ _).trans rfl
set_option maxRecDepth 100000 in
theorem m203_4 (d sl : Nat) (I : Nat → Int32) (w : Int64) (A : Nat → Nat → Int32) (N : Nat → Nat → Int64) (a1 : Int32) (a2 : Int32) (a3 : Int32) :
  R (d + 1) 203 (4, [some (.ref 0), some (.int a1), some (.int a2), some (.int a3)], [], sl, (RH I w A N)) =
    cond (decide ((nI 12) ≤ a3)) (some (37, [some (.ref 0), some (.int a1), some (.int a2), some (.int a3)], [.int a2], sl, (RH I w A N))) (bC (C d 167 [.int a1, .int a3] sl (RH I w A N)) (fun vs sl h => R (d + 1) 203 (15, [some (.ref 0), some (.int a1), some (.int a2), some (.int a3)], vs ++ [], sl, h))) :=
  (R_gob [4, 15] 400 _ _ _).trans rfl
set_option maxRecDepth 100000 in
theorem m203_15 (d sl : Nat) (I : Nat → Int32) (w : Int64) (A : Nat → Nat → Int32) (N : Nat → Nat → Int64) (a1 : Int32) (a2 : Int32) (a3 : Int32) (b0 : Int32) :
  R (d + 1) 203 (15, [some (.ref 0), some (.int a1), some (.int a2), some (.int a3)], [.int b0], sl, (RH I w A N)) =
    cond (decide (b0 = (nI 0))) (R (d + 1) 203 (4, [some (.ref 0), some (.int a1), some (.int a2), some (.int (a3 + (nI 1)))], [], sl, (RH I w A N))) (cond (x_in ((nI 103) + a3) 369) (R (d + 1) 203 (4, [some (.ref 0), some (.int a1), some (.int (a2 + ((A 2) ((nI 103) + a3).toNatClampNeg))), some (.int (a3 + (nI 1)))], [], sl, (RH I w A N))) none) :=
  (R_gob [4, 15] 400 _ _ _).trans rfl
set_option maxRecDepth 100000 in
theorem m204_0 (d sl : Nat) (I : Nat → Int32) (w : Int64) (A : Nat → Nat → Int32) (N : Nat → Nat → Int64) (a1 : Int32) :
  R (d + 1) 204 (0, [some (.ref 0), some (.int a1)], [], sl, (RH I w A N)) =
    bC (C d 200 [.ref 0, .int (nI 79), .int a1] sl (RH I w A N)) (fun vs sl h => R (d + 1) 204 (7, [some (.ref 0), some (.int a1)], vs ++ [], sl, h)) :=
  (R_gob [7] 400 _ _ _).trans rfl
set_option maxRecDepth 100000 in
theorem m204_7 (d sl : Nat) (I : Nat → Int32) (w : Int64) (A : Nat → Nat → Int32) (N : Nat → Nat → Int64) (a1 : Int32) (b0 : Int32) :
  R (d + 1) 204 (7, [some (.ref 0), some (.int a1)], [.int b0], sl, (RH I w A N)) =
    cond (x_in ((nI 73) + a1) 369) (cond (decide (b0 ≤ ((A 2) ((nI 73) + a1).toNatClampNeg))) (some (24, [some (.ref 0), some (.int a1)], [.int (nI 0)], sl, (RH I w A N))) (some (24, [some (.ref 0), some (.int a1)], [.int (nI 1)], sl, (RH I w A N)))) none :=
  (R_gob [7] 400 _ _ _).trans rfl
set_option maxRecDepth 100000 in
theorem m205_0 (d sl : Nat) (I : Nat → Int32) (w : Int64) (A : Nat → Nat → Int32) (N : Nat → Nat → Int64) (a1 : Int32) (a2 : Int32) :
  R (d + 1) 205 (0, [some (.ref 0), some (.int a1), some (.int a2), none], [], sl, (RH I w A N)) =
    bC (C d 196 [.ref 0, .int a1] sl (RH (up1 I 0 (nI 0)) w A N)) (fun vs sl h => R (d + 1) 205 (10, [some (.ref 0), some (.int a1), some (.int a2), none], vs ++ [], sl, h)) :=
  (R_gob [10, 17, 19, 97, 105, 111, 117, 120, 145] 400 _ _ _).trans rfl
set_option maxRecDepth 100000 in
theorem m205_10 (d sl : Nat) (I : Nat → Int32) (w : Int64) (A : Nat → Nat → Int32) (N : Nat → Nat → Int64) (a1 : Int32) (a2 : Int32) (b0 : Int32) :
  R (d + 1) 205 (10, [some (.ref 0), some (.int a1), some (.int a2), none], [.int b0], sl, (RH I w A N)) =
    cond (!decide (b0 = (nI 0))) (R (d + 1) 205 (19, [some (.ref 0), some (.int a1), some (.int a2), none], [.int a2], sl, (RH I w A N))) (bC (C d 161 [.ref 0] sl (RH I w A N)) (fun vs sl h => R (d + 1) 205 (17, [some (.ref 0), some (.int a1), some (.int a2), none], vs ++ [], sl, h))) :=
  (R_gob [10, 17, 19, 97, 105, 111, 117, 120, 145] 400 _ _ _).trans rfl
set_option maxRecDepth 100000 in
theorem m205_19_out (d sl : Nat) (I : Nat → Int32) (w : Int64) (A : Nat → Nat → Int32) (N : Nat → Nat → Int64) (a1 : Int32) (a2 : Int32) (x : Int32) (hx : (decide (x.toInt < (0)) || decide ((6) < x.toInt)) = true) :
  R (d + 1) 205 (19, [some (.ref 0), some (.int a1), some (.int a2), none], .int x :: [], sl, (RH I w A N)) = R (d + 1) 205 (141, [some (.ref 0), some (.int a1), some (.int a2), none], [], sl, (RH I w A N)) :=
  (R_tsw (show xk 205 19 = (.tableswitch 122 0 6 #[41, 51, 61, 71, 79, 87, 93], 60, [], 0) by decide +kernel)).trans (congrArg (fun q => R (d + 1) 205 (q, [some (.ref 0), some (.int a1), some (.int a2), none], [], sl, (RH I w A N))) ((x_tsw_out hx).trans (by decide +kernel)))
set_option maxRecDepth 100000 in
theorem m205_19_c0 (d sl : Nat) (I : Nat → Int32) (w : Int64) (A : Nat → Nat → Int32) (N : Nat → Nat → Int64) (a1 : Int32) (a2 : Int32)  :
  R (d + 1) 205 (19, [some (.ref 0), some (.int a1), some (.int a2), none], .int (nI 0) :: [], sl, (RH I w A N)) = R (d + 1) 205 (60, [some (.ref 0), some (.int a1), some (.int a2), none], [], sl, (RH I w A N)) :=
  (R_tsw (show xk 205 19 = (.tableswitch 122 0 6 #[41, 51, 61, 71, 79, 87, 93], 60, [], 0) by decide +kernel)).trans (congrArg (fun q => R (d + 1) 205 (q, [some (.ref 0), some (.int a1), some (.int a2), none], [], sl, (RH I w A N))) (by decide +kernel))
set_option maxRecDepth 100000 in
theorem m205_19_c1 (d sl : Nat) (I : Nat → Int32) (w : Int64) (A : Nat → Nat → Int32) (N : Nat → Nat → Int64) (a1 : Int32) (a2 : Int32)  :
  R (d + 1) 205 (19, [some (.ref 0), some (.int a1), some (.int a2), none], .int (nI 1) :: [], sl, (RH I w A N)) = R (d + 1) 205 (70, [some (.ref 0), some (.int a1), some (.int a2), none], [], sl, (RH I w A N)) :=
  (R_tsw (show xk 205 19 = (.tableswitch 122 0 6 #[41, 51, 61, 71, 79, 87, 93], 60, [], 0) by decide +kernel)).trans (congrArg (fun q => R (d + 1) 205 (q, [some (.ref 0), some (.int a1), some (.int a2), none], [], sl, (RH I w A N))) (by decide +kernel))
set_option maxRecDepth 100000 in
theorem m205_19_c2 (d sl : Nat) (I : Nat → Int32) (w : Int64) (A : Nat → Nat → Int32) (N : Nat → Nat → Int64) (a1 : Int32) (a2 : Int32)  :
  R (d + 1) 205 (19, [some (.ref 0), some (.int a1), some (.int a2), none], .int (nI 2) :: [], sl, (RH I w A N)) = R (d + 1) 205 (80, [some (.ref 0), some (.int a1), some (.int a2), none], [], sl, (RH I w A N)) :=
  (R_tsw (show xk 205 19 = (.tableswitch 122 0 6 #[41, 51, 61, 71, 79, 87, 93], 60, [], 0) by decide +kernel)).trans (congrArg (fun q => R (d + 1) 205 (q, [some (.ref 0), some (.int a1), some (.int a2), none], [], sl, (RH I w A N))) (by decide +kernel))
set_option maxRecDepth 100000 in
theorem m205_19_c3 (d sl : Nat) (I : Nat → Int32) (w : Int64) (A : Nat → Nat → Int32) (N : Nat → Nat → Int64) (a1 : Int32) (a2 : Int32)  :
  R (d + 1) 205 (19, [some (.ref 0), some (.int a1), some (.int a2), none], .int (nI 3) :: [], sl, (RH I w A N)) = R (d + 1) 205 (90, [some (.ref 0), some (.int a1), some (.int a2), none], [], sl, (RH I w A N)) :=
  (R_tsw (show xk 205 19 = (.tableswitch 122 0 6 #[41, 51, 61, 71, 79, 87, 93], 60, [], 0) by decide +kernel)).trans (congrArg (fun q => R (d + 1) 205 (q, [some (.ref 0), some (.int a1), some (.int a2), none], [], sl, (RH I w A N))) (by decide +kernel))
set_option maxRecDepth 100000 in
theorem m205_19_c4 (d sl : Nat) (I : Nat → Int32) (w : Int64) (A : Nat → Nat → Int32) (N : Nat → Nat → Int64) (a1 : Int32) (a2 : Int32)  :
  R (d + 1) 205 (19, [some (.ref 0), some (.int a1), some (.int a2), none], .int (nI 4) :: [], sl, (RH I w A N)) = R (d + 1) 205 (98, [some (.ref 0), some (.int a1), some (.int a2), none], [], sl, (RH I w A N)) :=
  (R_tsw (show xk 205 19 = (.tableswitch 122 0 6 #[41, 51, 61, 71, 79, 87, 93], 60, [], 0) by decide +kernel)).trans (congrArg (fun q => R (d + 1) 205 (q, [some (.ref 0), some (.int a1), some (.int a2), none], [], sl, (RH I w A N))) (by decide +kernel))
set_option maxRecDepth 100000 in
theorem m205_19_c5 (d sl : Nat) (I : Nat → Int32) (w : Int64) (A : Nat → Nat → Int32) (N : Nat → Nat → Int64) (a1 : Int32) (a2 : Int32)  :
  R (d + 1) 205 (19, [some (.ref 0), some (.int a1), some (.int a2), none], .int (nI 5) :: [], sl, (RH I w A N)) = R (d + 1) 205 (106, [some (.ref 0), some (.int a1), some (.int a2), none], [], sl, (RH I w A N)) :=
  (R_tsw (show xk 205 19 = (.tableswitch 122 0 6 #[41, 51, 61, 71, 79, 87, 93], 60, [], 0) by decide +kernel)).trans (congrArg (fun q => R (d + 1) 205 (q, [some (.ref 0), some (.int a1), some (.int a2), none], [], sl, (RH I w A N))) (by decide +kernel))
set_option maxRecDepth 100000 in
theorem m205_19_c6 (d sl : Nat) (I : Nat → Int32) (w : Int64) (A : Nat → Nat → Int32) (N : Nat → Nat → Int64) (a1 : Int32) (a2 : Int32)  :
  R (d + 1) 205 (19, [some (.ref 0), some (.int a1), some (.int a2), none], .int (nI 6) :: [], sl, (RH I w A N)) = R (d + 1) 205 (112, [some (.ref 0), some (.int a1), some (.int a2), none], [], sl, (RH I w A N)) :=
  (R_tsw (show xk 205 19 = (.tableswitch 122 0 6 #[41, 51, 61, 71, 79, 87, 93], 60, [], 0) by decide +kernel)).trans (congrArg (fun q => R (d + 1) 205 (q, [some (.ref 0), some (.int a1), some (.int a2), none], [], sl, (RH I w A N))) (by decide +kernel))
set_option maxRecDepth 100000 in
theorem m205_17 (d sl : Nat) (I : Nat → Int32) (w : Int64) (A : Nat → Nat → Int32) (N : Nat → Nat → Int64) (a1 : Int32) (a2 : Int32) (b0 : Int32) :
  R (d + 1) 205 (17, [some (.ref 0), some (.int a1), some (.int a2), none], [.int b0], sl, (RH I w A N)) =
    some (17, [some (.ref 0), some (.int a1), some (.int a2), none], [.int b0], sl, (RH I w A N)) :=
  (R_gob [10, 17, 19, 60, 70, 80, 90, 97, 98, 105, 106, 111, 112, 117, 120, 141, 145] 400 _ _ _).trans rfl
set_option maxRecDepth 100000 in
theorem m205_141 (d sl : Nat) (I : Nat → Int32) (w : Int64) (A : Nat → Nat → Int32) (N : Nat → Nat → Int64) (a1 : Int32) (a2 : Int32) :
  R (d + 1) 205 (141, [some (.ref 0), some (.int a1), some (.int a2), none], [], sl, (RH I w A N)) =
    bC (C d 161 [.ref 0] sl (RH I w A N)) (fun vs sl h => R (d + 1) 205 (145, [some (.ref 0), some (.int a1), some (.int a2), none], vs ++ [], sl, h)) :=
  (R_gob [10, 17, 19, 60, 70, 80, 90, 97, 98, 105, 106, 111, 112, 117, 120, 141, 145] 400 _ _ _).trans rfl
set_option maxRecDepth 100000 in
theorem m205_60 (d sl : Nat) (I : Nat → Int32) (w : Int64) (A : Nat → Nat → Int32) (N : Nat → Nat → Int64) (a1 : Int32) (a2 : Int32) :
  R (d + 1) 205 (60, [some (.ref 0), some (.int a1), some (.int a2), none], [], sl, (RH I w A N)) =
    cond (x_in ((nI 73) + a1) 369) (some (69, [some (.ref 0), some (.int a1), some (.int a2), none], [.int ((A 2) ((nI 73) + a1).toNatClampNeg)], sl, (RH I w A N))) none :=
  (R_gob [10, 17, 19, 60, 70, 80, 90, 97, 98, 105, 106, 111, 112, 117, 120, 141, 145] 400 _ _ _).trans rfl
set_option maxRecDepth 100000 in
theorem m205_70 (d sl : Nat) (I : Nat → Int32) (w : Int64) (A : Nat → Nat → Int32) (N : Nat → Nat → Int64) (a1 : Int32) (a2 : Int32) :
  R (d + 1) 205 (70, [some (.ref 0), some (.int a1), some (.int a2), none], [], sl, (RH I w A N)) =
    cond (x_in ((nI 10) + a1) 369) (some (79, [some (.ref 0), some (.int a1), some (.int a2), none], [.int ((A 2) ((nI 10) + a1).toNatClampNeg)], sl, (RH I w A N))) none :=
  (R_gob [10, 17, 19, 60, 70, 80, 90, 97, 98, 105, 106, 111, 112, 117, 120, 141, 145] 400 _ _ _).trans rfl
set_option maxRecDepth 100000 in
theorem m205_80 (d sl : Nat) (I : Nat → Int32) (w : Int64) (A : Nat → Nat → Int32) (N : Nat → Nat → Int64) (a1 : Int32) (a2 : Int32) :
  R (d + 1) 205 (80, [some (.ref 0), some (.int a1), some (.int a2), none], [], sl, (RH I w A N)) =
    cond (x_in ((nI 16) + a1) 369) (some (89, [some (.ref 0), some (.int a1), some (.int a2), none], [.int ((A 2) ((nI 16) + a1).toNatClampNeg)], sl, (RH I w A N))) none :=
  (R_gob [10, 17, 19, 60, 70, 80, 90, 97, 98, 105, 106, 111, 112, 117, 120, 141, 145] 400 _ _ _).trans rfl
set_option maxRecDepth 100000 in
theorem m205_90 (d sl : Nat) (I : Nat → Int32) (w : Int64) (A : Nat → Nat → Int32) (N : Nat → Nat → Int64) (a1 : Int32) (a2 : Int32) :
  R (d + 1) 205 (90, [some (.ref 0), some (.int a1), some (.int a2), none], [], sl, (RH I w A N)) =
    bC (C d 200 [.ref 0, .int (nI 79), .int a1] sl (RH I w A N)) (fun vs sl h => R (d + 1) 205 (97, [some (.ref 0), some (.int a1), some (.int a2), none], vs ++ [], sl, h)) :=
  (R_gob [10, 17, 19, 60, 70, 80, 90, 97, 98, 105, 106, 111, 112, 117, 120, 141, 145] 400 _ _ _).trans rfl
set_option maxRecDepth 100000 in
theorem m205_98 (d sl : Nat) (I : Nat → Int32) (w : Int64) (A : Nat → Nat → Int32) (N : Nat → Nat → Int64) (a1 : Int32) (a2 : Int32) :
  R (d + 1) 205 (98, [some (.ref 0), some (.int a1), some (.int a2), none], [], sl, (RH I w A N)) =
    bC (C d 200 [.ref 0, .int (nI 91), .int a1] sl (RH I w A N)) (fun vs sl h => R (d + 1) 205 (105, [some (.ref 0), some (.int a1), some (.int a2), none], vs ++ [], sl, h)) :=
  (R_gob [10, 17, 19, 60, 70, 80, 90, 97, 98, 105, 106, 111, 112, 117, 120, 141, 145] 400 _ _ _).trans rfl
set_option maxRecDepth 100000 in
theorem m205_106 (d sl : Nat) (I : Nat → Int32) (w : Int64) (A : Nat → Nat → Int32) (N : Nat → Nat → Int64) (a1 : Int32) (a2 : Int32) :
  R (d + 1) 205 (106, [some (.ref 0), some (.int a1), some (.int a2), none], [], sl, (RH I w A N)) =
    bC (C d 201 [.ref 0, .int a1] sl (RH I w A N)) (fun vs sl h => R (d + 1) 205 (111, [some (.ref 0), some (.int a1), some (.int a2), none], vs ++ [], sl, h)) :=
  (R_gob [10, 17, 19, 60, 70, 80, 90, 97, 98, 105, 106, 111, 112, 117, 120, 141, 145] 400 _ _ _).trans rfl
set_option maxRecDepth 100000 in
theorem m205_112 (d sl : Nat) (I : Nat → Int32) (w : Int64) (A : Nat → Nat → Int32) (N : Nat → Nat → Int64) (a1 : Int32) (a2 : Int32) :
  R (d + 1) 205 (112, [some (.ref 0), some (.int a1), some (.int a2), none], [], sl, (RH I w A N)) =
    bC (C d 201 [.ref 0, .int a1] sl (RH I w A N)) (fun vs sl h => R (d + 1) 205 (117, [some (.ref 0), some (.int a1), some (.int a2), none], vs ++ [], sl, h)) :=
  (R_gob [10, 17, 19, 60, 70, 80, 90, 97, 98, 105, 106, 111, 112, 117, 120, 141, 145] 400 _ _ _).trans rfl
set_option maxRecDepth 100000 in
theorem m205_145 (d sl : Nat) (I : Nat → Int32) (w : Int64) (A : Nat → Nat → Int32) (N : Nat → Nat → Int64) (a1 : Int32) (a2 : Int32) (b0 : Int32) :
  R (d + 1) 205 (145, [some (.ref 0), some (.int a1), some (.int a2), none], [.int b0], sl, (RH I w A N)) =
    some (145, [some (.ref 0), some (.int a1), some (.int a2), none], [.int b0], sl, (RH I w A N)) :=
  (R_gob [10, 17, 19, 60, 70, 80, 90, 97, 98, 105, 106, 111, 112, 117, 120, 141, 145] 400 _ _ _).trans rfl
set_option maxRecDepth 100000 in
theorem m205_97 (d sl : Nat) (I : Nat → Int32) (w : Int64) (A : Nat → Nat → Int32) (N : Nat → Nat → Int64) (a1 : Int32) (a2 : Int32) (b0 : Int32) :
  R (d + 1) 205 (97, [some (.ref 0), some (.int a1), some (.int a2), none], [.int b0], sl, (RH I w A N)) =
    some (97, [some (.ref 0), some (.int a1), some (.int a2), none], [.int b0], sl, (RH I w A N)) :=
  (R_gob [10, 17, 19, 60, 70, 80, 90, 97, 98, 105, 106, 111, 112, 117, 120, 141, 145] 400 _ _ _).trans rfl
set_option maxRecDepth 100000 in
theorem m205_105 (d sl : Nat) (I : Nat → Int32) (w : Int64) (A : Nat → Nat → Int32) (N : Nat → Nat → Int64) (a1 : Int32) (a2 : Int32) (b0 : Int32) :
  R (d + 1) 205 (105, [some (.ref 0), some (.int a1), some (.int a2), none], [.int b0], sl, (RH I w A N)) =
    some (105, [some (.ref 0), some (.int a1), some (.int a2), none], [.int b0], sl, (RH I w A N)) :=
  (R_gob [10, 17, 19, 60, 70, 80, 90, 97, 98, 105, 106, 111, 112, 117, 120, 141, 145] 400 _ _ _).trans rfl
set_option maxRecDepth 100000 in
theorem m205_111 (d sl : Nat) (I : Nat → Int32) (w : Int64) (A : Nat → Nat → Int32) (N : Nat → Nat → Int64) (a1 : Int32) (a2 : Int32) (b0 : Int32) :
  R (d + 1) 205 (111, [some (.ref 0), some (.int a1), some (.int a2), none], [.int b0], sl, (RH I w A N)) =
    some (111, [some (.ref 0), some (.int a1), some (.int a2), none], [.int b0], sl, (RH I w A N)) :=
  (R_gob [10, 17, 19, 60, 70, 80, 90, 97, 98, 105, 106, 111, 112, 117, 120, 141, 145] 400 _ _ _).trans rfl
set_option maxRecDepth 100000 in
theorem m205_117 (d sl : Nat) (I : Nat → Int32) (w : Int64) (A : Nat → Nat → Int32) (N : Nat → Nat → Int64) (a1 : Int32) (a2 : Int32) (b0 : Int32) :
  R (d + 1) 205 (117, [some (.ref 0), some (.int a1), some (.int a2), none], [.int b0], sl, (RH I w A N)) =
    bC (C d 168 [.int b0] sl (RH I w A N)) (fun vs sl h => R (d + 1) 205 (120, [some (.ref 0), some (.int a1), some (.int a2), none], vs ++ [], sl, h)) :=
  (R_gob [10, 17, 19, 60, 70, 80, 90, 97, 98, 105, 106, 111, 112, 117, 120, 141, 145] 400 _ _ _).trans rfl
set_option maxRecDepth 100000 in
theorem m205_120 (d sl : Nat) (I : Nat → Int32) (w : Int64) (A : Nat → Nat → Int32) (N : Nat → Nat → Int64) (a1 : Int32) (a2 : Int32) (b0 : Int32) :
  R (d + 1) 205 (120, [some (.ref 0), some (.int a1), some (.int a2), none], [.int b0], sl, (RH I w A N)) =
    cond (x_in ((nI 16) + a1) 369) (cond (decide ((b0 - ((A 2) ((nI 16) + a1).toNatClampNeg)) ≤ (nI 0))) (some (140, [some (.ref 0), some (.int a1), some (.int a2), some (.int (b0 - ((A 2) ((nI 16) + a1).toNatClampNeg)))], [.int (nI 0)], sl, (RH I w A N))) (some (140, [some (.ref 0), some (.int a1), some (.int a2), some (.int (b0 - ((A 2) ((nI 16) + a1).toNatClampNeg)))], [.int (b0 - ((A 2) ((nI 16) + a1).toNatClampNeg))], sl, (RH I w A N)))) none :=
  (R_gob [10, 17, 19, 60, 70, 80, 90, 97, 98, 105, 106, 111, 112, 117, 120, 141, 145] 400 _ _ _).trans rfl
set_option maxRecDepth 100000 in
theorem m206_0 (d sl : Nat) (I : Nat → Int32) (w : Int64) (A : Nat → Nat → Int32) (N : Nat → Nat → Int64) (a1 : Int32) :
  R (d + 1) 206 (0, [some (.ref 0), some (.int a1)], [], sl, (RH I w A N)) =
    bC (C d 196 [.ref 0, .int a1] sl (RH (up1 I 0 (nI 0)) w A N)) (fun vs sl h => R (d + 1) 206 (10, [some (.ref 0), some (.int a1)], vs ++ [], sl, h)) :=
  (R_gob [10, 29, 37, 45] 400 _ _ _).trans rfl
set_option maxRecDepth 100000 in
theorem m206_10 (d sl : Nat) (I : Nat → Int32) (w : Int64) (A : Nat → Nat → Int32) (N : Nat → Nat → Int64) (a1 : Int32) (b0 : Int32) :
  R (d + 1) 206 (10, [some (.ref 0), some (.int a1)], [.int b0], sl, (RH I w A N)) =
    cond (decide (b0 = (nI 0))) (bC (C d 161 [.ref 0] sl (RH I w A N)) (fun vs sl h => R (d + 1) 206 (45, [some (.ref 0), some (.int a1)], vs ++ [], sl, h))) (cond (x_in ((nI 73) + a1) 369) (bC (C d 200 [.ref 0, .int (nI 91), .int a1] sl (RH I w A N)) (fun vs sl h => R (d + 1) 206 (29, [some (.ref 0), some (.int a1)], vs ++ [.int ((A 2) ((nI 73) + a1).toNatClampNeg)], sl, h))) none) :=
  (R_gob [10, 29, 37, 45] 400 _ _ _).trans rfl
set_option maxRecDepth 100000 in
theorem m206_45 (d sl : Nat) (I : Nat → Int32) (w : Int64) (A : Nat → Nat → Int32) (N : Nat → Nat → Int64) (a1 : Int32) (b0 : Int32) :
  R (d + 1) 206 (45, [some (.ref 0), some (.int a1)], [.int b0], sl, (RH I w A N)) =
    some (45, [some (.ref 0), some (.int a1)], [.int b0], sl, (RH I w A N)) :=
  (R_gob [10, 29, 37, 45] 400 _ _ _).trans rfl
set_option maxRecDepth 100000 in
theorem m206_29 (d sl : Nat) (I : Nat → Int32) (w : Int64) (A : Nat → Nat → Int32) (N : Nat → Nat → Int64) (a1 : Int32) (b0 : Int32) (b1 : Int32) :
  R (d + 1) 206 (29, [some (.ref 0), some (.int a1)], [.int b0, .int b1], sl, (RH I w A N)) =
    bC (C d 200 [.ref 0, .int (nI 79), .int a1] sl (RH I w A N)) (fun vs sl h => R (d + 1) 206 (37, [some (.ref 0), some (.int a1)], vs ++ [.int (b1 + b0)], sl, h)) :=
  (R_gob [10, 29, 37, 45] 400 _ _ _).trans rfl
set_option maxRecDepth 100000 in
theorem m206_37 (d sl : Nat) (I : Nat → Int32) (w : Int64) (A : Nat → Nat → Int32) (N : Nat → Nat → Int64) (a1 : Int32) (b0 : Int32) (b1 : Int32) :
  R (d + 1) 206 (37, [some (.ref 0), some (.int a1)], [.int b0, .int b1], sl, (RH I w A N)) =
    R (d + 1) 206 (45, [some (.ref 0), some (.int a1)], [.int (b1 - b0)], sl, (RH I w A N)) :=
  (R_gob [10, 29, 37, 45] 400 _ _ _).trans rfl
set_option maxRecDepth 100000 in
theorem m207_0 (d sl : Nat) (I : Nat → Int32) (w : Int64) (A : Nat → Nat → Int32) (N : Nat → Nat → Int64) (a1 : Int32) :
  R (d + 1) 207 (0, [some (.ref 0), some (.int a1)], [], sl, (RH I w A N)) =
    bC (C d 198 [.ref 0, .int a1] sl (RH I w A N)) (fun vs sl h => R (d + 1) 207 (5, [some (.ref 0), some (.int a1)], vs ++ [], sl, h)) :=
  (R_gob [5, 13, 16] 400 _ _ _).trans rfl
set_option maxRecDepth 100000 in
theorem m207_5 (d sl : Nat) (I : Nat → Int32) (w : Int64) (A : Nat → Nat → Int32) (N : Nat → Nat → Int64) (a1 : Int32) (b0 : Int32) :
  R (d + 1) 207 (5, [some (.ref 0), some (.int a1)], [.int b0], sl, (RH I w A N)) =
    cond (decide (b0 = (nI 0))) (some (20, [some (.ref 0), some (.int a1)], [.int (-1 : Int32)], sl, (RH I w A N))) (bC (C d 202 [.ref 0, .int a1] sl (RH I w A N)) (fun vs sl h => R (d + 1) 207 (13, [some (.ref 0), some (.int a1)], vs ++ [], sl, h))) :=
  (R_gob [5, 13, 16] 400 _ _ _).trans rfl
set_option maxRecDepth 100000 in
theorem m207_13 (d sl : Nat) (I : Nat → Int32) (w : Int64) (A : Nat → Nat → Int32) (N : Nat → Nat → Int64) (a1 : Int32) (b0 : Int32) :
  R (d + 1) 207 (13, [some (.ref 0), some (.int a1)], [.int b0], sl, (RH I w A N)) =
    bC (C d 168 [.int b0] sl (RH I w A N)) (fun vs sl h => R (d + 1) 207 (16, [some (.ref 0), some (.int a1)], vs ++ [], sl, h)) :=
  (R_gob [5, 13, 16] 400 _ _ _).trans rfl
set_option maxRecDepth 100000 in
theorem m207_16 (d sl : Nat) (I : Nat → Int32) (w : Int64) (A : Nat → Nat → Int32) (N : Nat → Nat → Int64) (a1 : Int32) (b0 : Int32) :
  R (d + 1) 207 (16, [some (.ref 0), some (.int a1)], [.int b0], sl, (RH I w A N)) =
    some (20, [some (.ref 0), some (.int a1)], [.int b0], sl, (RH I w A N)) :=
  (R_gob [5, 13, 16] 400 _ _ _).trans rfl
set_option maxRecDepth 100000 in
theorem m208_0 (d sl : Nat) (I : Nat → Int32) (w : Int64) (A : Nat → Nat → Int32) (N : Nat → Nat → Int64) (a1 : Int32) (a2 : Int32) :
  R (d + 1) 208 (0, [some (.ref 0), some (.int a1), some (.int a2)], [], sl, (RH I w A N)) =
    bC (C d 197 [.ref 0, .int a1] sl (RH (up1 I 0 (nI 0)) w A N)) (fun vs sl h => R (d + 1) 208 (10, [some (.ref 0), some (.int a1), some (.int a2)], vs ++ [], sl, h)) :=
  (R_gob [10, 16, 97] 400 _ _ _).trans rfl
set_option maxRecDepth 100000 in
theorem m208_10 (d sl : Nat) (I : Nat → Int32) (w : Int64) (A : Nat → Nat → Int32) (N : Nat → Nat → Int64) (a1 : Int32) (a2 : Int32) (b0 : Int32) :
  R (d + 1) 208 (10, [some (.ref 0), some (.int a1), some (.int a2)], [.int b0], sl, (RH I w A N)) =
    cond (!decide (b0 = (nI 0))) (R (d + 1) 208 (16, [some (.ref 0), some (.int a1), some (.int a2)], [.int a2], sl, (RH I w A N))) (some (14, [some (.ref 0), some (.int a1), some (.int a2)], [.int (-1 : Int32)], sl, (RH I w A N))) :=
  (R_gob [10, 16, 97] 400 _ _ _).trans rfl
set_option maxRecDepth 100000 in
theorem m208_16_out (d sl : Nat) (I : Nat → Int32) (w : Int64) (A : Nat → Nat → Int32) (N : Nat → Nat → Int64) (a1 : Int32) (a2 : Int32) (x : Int32) (hx : (decide (x.toInt < (0)) || decide ((4) < x.toInt)) = true) :
  R (d + 1) 208 (16, [some (.ref 0), some (.int a1), some (.int a2)], .int x :: [], sl, (RH I w A N)) = R (d + 1) 208 (98, [some (.ref 0), some (.int a1), some (.int a2)], [], sl, (RH I w A N)) :=
  (R_tsw (show xk 208 16 = (.tableswitch 82 0 4 #[36, 46, 56, 66, 76], 52, [], 0) by decide +kernel)).trans (congrArg (fun q => R (d + 1) 208 (q, [some (.ref 0), some (.int a1), some (.int a2)], [], sl, (RH I w A N))) ((x_tsw_out hx).trans (by decide +kernel)))
set_option maxRecDepth 100000 in
theorem m208_16_c0 (d sl : Nat) (I : Nat → Int32) (w : Int64) (A : Nat → Nat → Int32) (N : Nat → Nat → Int64) (a1 : Int32) (a2 : Int32)  :
  R (d + 1) 208 (16, [some (.ref 0), some (.int a1), some (.int a2)], .int (nI 0) :: [], sl, (RH I w A N)) = R (d + 1) 208 (52, [some (.ref 0), some (.int a1), some (.int a2)], [], sl, (RH I w A N)) :=
  (R_tsw (show xk 208 16 = (.tableswitch 82 0 4 #[36, 46, 56, 66, 76], 52, [], 0) by decide +kernel)).trans (congrArg (fun q => R (d + 1) 208 (q, [some (.ref 0), some (.int a1), some (.int a2)], [], sl, (RH I w A N))) (by decide +kernel))
set_option maxRecDepth 100000 in
theorem m208_16_c1 (d sl : Nat) (I : Nat → Int32) (w : Int64) (A : Nat → Nat → Int32) (N : Nat → Nat → Int64) (a1 : Int32) (a2 : Int32)  :
  R (d + 1) 208 (16, [some (.ref 0), some (.int a1), some (.int a2)], .int (nI 1) :: [], sl, (RH I w A N)) = R (d + 1) 208 (62, [some (.ref 0), some (.int a1), some (.int a2)], [], sl, (RH I w A N)) :=
  (R_tsw (show xk 208 16 = (.tableswitch 82 0 4 #[36, 46, 56, 66, 76], 52, [], 0) by decide +kernel)).trans (congrArg (fun q => R (d + 1) 208 (q, [some (.ref 0), some (.int a1), some (.int a2)], [], sl, (RH I w A N))) (by decide +kernel))
set_option maxRecDepth 100000 in
theorem m208_16_c2 (d sl : Nat) (I : Nat → Int32) (w : Int64) (A : Nat → Nat → Int32) (N : Nat → Nat → Int64) (a1 : Int32) (a2 : Int32)  :
  R (d + 1) 208 (16, [some (.ref 0), some (.int a1), some (.int a2)], .int (nI 2) :: [], sl, (RH I w A N)) = R (d + 1) 208 (72, [some (.ref 0), some (.int a1), some (.int a2)], [], sl, (RH I w A N)) :=
  (R_tsw (show xk 208 16 = (.tableswitch 82 0 4 #[36, 46, 56, 66, 76], 52, [], 0) by decide +kernel)).trans (congrArg (fun q => R (d + 1) 208 (q, [some (.ref 0), some (.int a1), some (.int a2)], [], sl, (RH I w A N))) (by decide +kernel))
set_option maxRecDepth 100000 in
theorem m208_16_c3 (d sl : Nat) (I : Nat → Int32) (w : Int64) (A : Nat → Nat → Int32) (N : Nat → Nat → Int64) (a1 : Int32) (a2 : Int32)  :
  R (d + 1) 208 (16, [some (.ref 0), some (.int a1), some (.int a2)], .int (nI 3) :: [], sl, (RH I w A N)) = R (d + 1) 208 (82, [some (.ref 0), some (.int a1), some (.int a2)], [], sl, (RH I w A N)) :=
  (R_tsw (show xk 208 16 = (.tableswitch 82 0 4 #[36, 46, 56, 66, 76], 52, [], 0) by decide +kernel)).trans (congrArg (fun q => R (d + 1) 208 (q, [some (.ref 0), some (.int a1), some (.int a2)], [], sl, (RH I w A N))) (by decide +kernel))
set_option maxRecDepth 100000 in
theorem m208_16_c4 (d sl : Nat) (I : Nat → Int32) (w : Int64) (A : Nat → Nat → Int32) (N : Nat → Nat → Int64) (a1 : Int32) (a2 : Int32)  :
  R (d + 1) 208 (16, [some (.ref 0), some (.int a1), some (.int a2)], .int (nI 4) :: [], sl, (RH I w A N)) = R (d + 1) 208 (92, [some (.ref 0), some (.int a1), some (.int a2)], [], sl, (RH I w A N)) :=
  (R_tsw (show xk 208 16 = (.tableswitch 82 0 4 #[36, 46, 56, 66, 76], 52, [], 0) by decide +kernel)).trans (congrArg (fun q => R (d + 1) 208 (q, [some (.ref 0), some (.int a1), some (.int a2)], [], sl, (RH I w A N))) (by decide +kernel))
set_option maxRecDepth 100000 in
theorem m208_98 (d sl : Nat) (I : Nat → Int32) (w : Int64) (A : Nat → Nat → Int32) (N : Nat → Nat → Int64) (a1 : Int32) (a2 : Int32) :
  R (d + 1) 208 (98, [some (.ref 0), some (.int a1), some (.int a2)], [], sl, (RH I w A N)) =
    some (99, [some (.ref 0), some (.int a1), some (.int a2)], [.int (-1 : Int32)], sl, (RH I w A N)) :=
  (R_gob [10, 16, 52, 62, 72, 82, 92, 97, 98] 400 _ _ _).trans rfl
set_option maxRecDepth 100000 in
theorem m208_52 (d sl : Nat) (I : Nat → Int32) (w : Int64) (A : Nat → Nat → Int32) (N : Nat → Nat → Int64) (a1 : Int32) (a2 : Int32) :
  R (d + 1) 208 (52, [some (.ref 0), some (.int a1), some (.int a2)], [], sl, (RH I w A N)) =
    cond (x_in ((nI 79) + a1) 369) (some (61, [some (.ref 0), some (.int a1), some (.int a2)], [.int ((A 2) ((nI 79) + a1).toNatClampNeg)], sl, (RH I w A N))) none :=
  (R_gob [10, 16, 52, 62, 72, 82, 92, 97, 98] 400 _ _ _).trans rfl
set_option maxRecDepth 100000 in
theorem m208_62 (d sl : Nat) (I : Nat → Int32) (w : Int64) (A : Nat → Nat → Int32) (N : Nat → Nat → Int64) (a1 : Int32) (a2 : Int32) :
  R (d + 1) 208 (62, [some (.ref 0), some (.int a1), some (.int a2)], [], sl, (RH I w A N)) =
    cond (x_in ((nI 91) + a1) 369) (some (71, [some (.ref 0), some (.int a1), some (.int a2)], [.int ((A 2) ((nI 91) + a1).toNatClampNeg)], sl, (RH I w A N))) none :=
  (R_gob [10, 16, 52, 62, 72, 82, 92, 97, 98] 400 _ _ _).trans rfl
set_option maxRecDepth 100000 in
theorem m208_72 (d sl : Nat) (I : Nat → Int32) (w : Int64) (A : Nat → Nat → Int32) (N : Nat → Nat → Int64) (a1 : Int32) (a2 : Int32) :
  R (d + 1) 208 (72, [some (.ref 0), some (.int a1), some (.int a2)], [], sl, (RH I w A N)) =
    cond (x_in ((nI 103) + a1) 369) (some (81, [some (.ref 0), some (.int a1), some (.int a2)], [.int ((A 2) ((nI 103) + a1).toNatClampNeg)], sl, (RH I w A N))) none :=
  (R_gob [10, 16, 52, 62, 72, 82, 92, 97, 98] 400 _ _ _).trans rfl
