set_option maxRecDepth 100000 in
theorem m265_41 (d sl : Nat) (I : Nat → Int32) (w : Int64) (A : Nat → Nat → Int32) (N : Nat → Nat → Int64) (a1 : Int32) (b0 : Int32) :
  R (d + 1) 265 (41, [some (.ref 0), some (.int a1), none, none], [.int b0], sl, (RH I w A N)) =
    cond (!decide (b0 = (nI 0))) (R (d + 1) 265 (30, [some (.ref 0), some (.int a1), none, none], [], sl, (RH (up1 I 37 ((I 37) + (nI 1))) w A N))) (some (51, [some (.ref 0), some (.int a1), none, none], [.int ((-2 : Int32) - (I 11))], sl, (RH I w A N))) :=
  (R_gob [11, 25, 30, 41, 69, 73, 92, 143, 167] 400 _ _ _).trans rfl
set_option maxRecDepth 100000 in
theorem m265_73 (d sl : Nat) (I : Nat → Int32) (w : Int64) (A : Nat → Nat → Int32) (N : Nat → Nat → Int64) (a1 : Int32) (a2 : Int32) (a3 : Int32) :
  R (d + 1) 265 (73, [some (.ref 0), some (.int a1), some (.int a2), some (.int a3)], [], sl, (RH I w A N)) =
    cond (decide ((I 37) ≤ a2)) (bC (C d 215 [.ref 0, .int (nI 103), .int (nI 12)] sl (RH I w (up1 A 17 (upd (upd (upd (A 17) 0 a3) 1 a2) 2 ((A 2) 70))) N)) (fun vs sl h => R (d + 1) 265 (143, [some (.ref 0), some (.int a1), some (.int a2), some (.int a3)], vs ++ [.int (nI 3), .ref 17], sl, h))) (cond (!decide (a3 = (nI 0))) (bC (C d 215 [.ref 0, .int (nI 103), .int (nI 12)] sl (RH I w (up1 A 17 (upd (upd (upd (A 17) 0 a3) 1 a2) 2 ((A 2) 70))) N)) (fun vs sl h => R (d + 1) 265 (143, [some (.ref 0), some (.int a1), some (.int a2), some (.int a3)], vs ++ [.int (nI 3), .ref 17], sl, h))) (bC (C d 264 [.ref 0, .int ((nI 4) * a2)] sl (RH I w A N)) (fun vs sl h => R (d + 1) 265 (92, [some (.ref 0), some (.int a1), some (.int a2), some (.int a3)], vs ++ [], sl, h)))) :=
  (R_gob [11, 25, 30, 41, 69, 73, 92, 143, 167] 400 _ _ _).trans rfl
set_option maxRecDepth 100000 in
theorem m265_143 (d sl : Nat) (I : Nat → Int32) (w : Int64) (A : Nat → Nat → Int32) (N : Nat → Nat → Int64) (a1 : Int32) (a2 : Int32) (a3 : Int32) (b0 : Int32) (b1 : Int32) :
  R (d + 1) 265 (143, [some (.ref 0), some (.int a1), some (.int a2), some (.int a3)], [.int b0, .int b1, .ref 17], sl, (RH I w A N)) =
    cond (x_in b1 4) (cond (!decide (a1 = (nI 1))) (bC (C d 266 [.ref 0, .int (nI 0)] sl (RH (up1 I 38 (nI 1)) w (up1 A 17 (upd (A 17) b1.toNatClampNeg b0)) N)) (fun vs sl h => R (d + 1) 265 (167, [some (.ref 0), some (.int a1), some (.int a2), some (.int a3)], vs ++ [], sl, h))) (cond (decide (a2 ≤ (nI 0))) (bC (C d 266 [.ref 0, .int (nI 0)] sl (RH (up1 I 38 (nI 1)) w (up1 A 17 (upd (A 17) b1.toNatClampNeg b0)) N)) (fun vs sl h => R (d + 1) 265 (167, [some (.ref 0), some (.int a1), some (.int a2), some (.int a3)], vs ++ [], sl, h))) (bC (C d 266 [.ref 0, .int (nI 1)] sl (RH (up1 I 38 (nI 1)) w (up1 A 17 (upd (A 17) b1.toNatClampNeg b0)) N)) (fun vs sl h => R (d + 1) 265 (167, [some (.ref 0), some (.int a1), some (.int a2), some (.int a3)], vs ++ [], sl, h))))) none :=
  (R_gob [11, 25, 30, 41, 69, 73, 92, 143, 167] 400 _ _ _).trans rfl
set_option maxRecDepth 100000 in
theorem m265_92 (d sl : Nat) (I : Nat → Int32) (w : Int64) (A : Nat → Nat → Int32) (N : Nat → Nat → Int64) (a1 : Int32) (a2 : Int32) (a3 : Int32) (b0 : Int32) :
  R (d + 1) 265 (92, [some (.ref 0), some (.int a1), some (.int a2), some (.int a3)], [.int b0], sl, (RH I w A N)) =
    cond (!decide (b0 = (nI 0))) (R (d + 1) 265 (73, [some (.ref 0), some (.int a1), some (.int a2), some (.int b0)], [], sl, (RH I w A N))) (R (d + 1) 265 (73, [some (.ref 0), some (.int a1), some (.int (a2 + (nI 1))), some (.int b0)], [], sl, (RH I w A N))) :=
  (R_gob [11, 25, 30, 41, 69, 73, 92, 143, 167] 400 _ _ _).trans rfl
set_option maxRecDepth 100000 in
theorem m265_167 (d sl : Nat) (I : Nat → Int32) (w : Int64) (A : Nat → Nat → Int32) (N : Nat → Nat → Int64) (a1 : Int32) (a2 : Int32) (a3 : Int32) :
  R (d + 1) 265 (167, [some (.ref 0), some (.int a1), some (.int a2), some (.int a3)], [], sl, (RH I w A N)) =
    cond (!decide (a3 = (nI 0))) (some (176, [some (.ref 0), some (.int a1), some (.int a2), some (.int a3)], [.int a2], sl, (RH I w A N))) (some (176, [some (.ref 0), some (.int a1), some (.int a2), some (.int a3)], [.int (-1 : Int32)], sl, (RH I w A N))) :=
  (R_gob [11, 25, 30, 41, 69, 73, 92, 143, 167] 400 _ _ _).trans rfl
set_option maxRecDepth 100000 in
theorem m266_0 (d sl : Nat) (I : Nat → Int32) (w : Int64) (A : Nat → Nat → Int32) (N : Nat → Nat → Int64) (a1 : Int32) :
  R (d + 1) 266 (0, [some (.ref 0), some (.int a1), none, none], [], sl, (RH I w A N)) =
    R (d + 1) 266 (2, [some (.ref 0), some (.int a1), some (.int (nI 0)), none], [], sl, (RH I w A N)) :=
  (R_gob [2, 55, 59] 400 _ _ _).trans rfl
set_option maxRecDepth 100000 in
theorem m266_2 (d sl : Nat) (I : Nat → Int32) (w : Int64) (A : Nat → Nat → Int32) (N : Nat → Nat → Int64) (a1 : Int32) (a2 : Int32) :
  R (d + 1) 266 (2, [some (.ref 0), some (.int a1), some (.int a2), none], [], sl, (RH I w A N)) =
    cond (decide ((nI 57) ≤ a2)) (cond (!decide (a1 = (nI 0))) (bC (C d 217 [.ref 0] sl (RH I w A N)) (fun vs sl h => R (d + 1) 266 (55, [some (.ref 0), some (.int a1), some (.int a2), none], vs ++ [], sl, h))) (some (50, [some (.ref 0), some (.int a1), some (.int a2), none], [], sl, (RH I w A N)))) (cond (x_in ((nI 70) + a2) 369) (cond (x_in a2 57) (cond (x_in ((nI 70) + a2) 369) (cond (x_in a2 57) (R (d + 1) 266 (2, [some (.ref 0), some (.int a1), some (.int (a2 + (nI 1))), some (.int ((A 2) ((nI 70) + a2).toNatClampNeg))], [], sl, (RH I w (up1 (up1 A 2 (upd (A 2) ((nI 70) + a2).toNatClampNeg ((A 6) a2.toNatClampNeg))) 6 (upd (A 6) a2.toNatClampNeg ((A 2) ((nI 70) + a2).toNatClampNeg))) N))) none) none) none) none) :=
  (R_gob [2, 55, 59] 400 _ _ _).trans rfl
set_option maxRecDepth 100000 in
theorem m266_55 (d sl : Nat) (I : Nat → Int32) (w : Int64) (A : Nat → Nat → Int32) (N : Nat → Nat → Int64) (a1 : Int32) (a2 : Int32) :
  R (d + 1) 266 (55, [some (.ref 0), some (.int a1), some (.int a2), none], [], sl, (RH I w A N)) =
    bC (C d 236 [.ref 0] sl (RH I w A N)) (fun vs sl h => R (d + 1) 266 (59, [some (.ref 0), some (.int a1), some (.int a2), none], vs ++ [], sl, h)) :=
  (R_gob [2, 55, 59] 400 _ _ _).trans rfl
set_option maxRecDepth 100000 in
theorem m266_2_1 (d sl : Nat) (I : Nat → Int32) (w : Int64) (A : Nat → Nat → Int32) (N : Nat → Nat → Int64) (a1 : Int32) (a2 : Int32) (a3 : Int32) :
  R (d + 1) 266 (2, [some (.ref 0), some (.int a1), some (.int a2), some (.int a3)], [], sl, (RH I w A N)) =
    cond (decide ((nI 57) ≤ a2)) (cond (!decide (a1 = (nI 0))) (bC (C d 217 [.ref 0] sl (RH I w A N)) (fun vs sl h => R (d + 1) 266 (55, [some (.ref 0), some (.int a1), some (.int a2), some (.int a3)], vs ++ [], sl, h))) (some (50, [some (.ref 0), some (.int a1), some (.int a2), some (.int a3)], [], sl, (RH I w A N)))) (cond (x_in ((nI 70) + a2) 369) (cond (x_in a2 57) (cond (x_in ((nI 70) + a2) 369) (cond (x_in a2 57) (R (d + 1) 266 (2, [some (.ref 0), some (.int a1), some (.int (a2 + (nI 1))), some (.int ((A 2) ((nI 70) + a2).toNatClampNeg))], [], sl, (RH I w (up1 (up1 A 2 (upd (A 2) ((nI 70) + a2).toNatClampNeg ((A 6) a2.toNatClampNeg))) 6 (upd (A 6) a2.toNatClampNeg ((A 2) ((nI 70) + a2).toNatClampNeg))) N))) none) none) none) none) :=
  (R_gob [2, 55, 59] 400 _ _ _).trans rfl
set_option maxRecDepth 100000 in
theorem m266_59 (d sl : Nat) (I : Nat → Int32) (w : Int64) (A : Nat → Nat → Int32) (N : Nat → Nat → Int64) (a1 : Int32) (a2 : Int32) :
  R (d + 1) 266 (59, [some (.ref 0), some (.int a1), some (.int a2), none], [], sl, (RH I w A N)) =
    some (59, [some (.ref 0), some (.int a1), some (.int a2), none], [], sl, (RH I w A N)) :=
  (R_gob [2, 55, 59] 400 _ _ _).trans rfl
set_option maxRecDepth 100000 in
theorem m266_55_1 (d sl : Nat) (I : Nat → Int32) (w : Int64) (A : Nat → Nat → Int32) (N : Nat → Nat → Int64) (a1 : Int32) (a2 : Int32) (a3 : Int32) :
  R (d + 1) 266 (55, [some (.ref 0), some (.int a1), some (.int a2), some (.int a3)], [], sl, (RH I w A N)) =
    bC (C d 236 [.ref 0] sl (RH I w A N)) (fun vs sl h => R (d + 1) 266 (59, [some (.ref 0), some (.int a1), some (.int a2), some (.int a3)], vs ++ [], sl, h)) :=
  (R_gob [2, 55, 59] 400 _ _ _).trans rfl
set_option maxRecDepth 100000 in
theorem m266_59_1 (d sl : Nat) (I : Nat → Int32) (w : Int64) (A : Nat → Nat → Int32) (N : Nat → Nat → Int64) (a1 : Int32) (a2 : Int32) (a3 : Int32) :
  R (d + 1) 266 (59, [some (.ref 0), some (.int a1), some (.int a2), some (.int a3)], [], sl, (RH I w A N)) =
    some (59, [some (.ref 0), some (.int a1), some (.int a2), some (.int a3)], [], sl, (RH I w A N)) :=
  (R_gob [2, 55, 59] 400 _ _ _).trans rfl
set_option maxRecDepth 100000 in
theorem m267_0 (d sl : Nat) (I : Nat → Int32) (w : Int64) (A : Nat → Nat → Int32) (N : Nat → Nat → Int64) (a1 : Int32) :
  R (d + 1) 267 (0, [some (.ref 0), some (.int a1)], [], sl, (RH I w A N)) =
    cond (decide ((I 38) = (nI 0))) (some (31, [some (.ref 0), some (.int a1)], [.int (-1 : Int32)], sl, (RH (up1 I 0 (nI 0)) w A N))) (bC (C d 166 [.int a1, .int (nI 0), .int (nI 3)] sl (RH (up1 I 0 (nI 0)) w A N)) (fun vs sl h => R (d + 1) 267 (18, [some (.ref 0), some (.int a1)], vs ++ [], sl, h))) :=
  (R_gob [18] 400 _ _ _).trans rfl
set_option maxRecDepth 100000 in
theorem m267_18 (d sl : Nat) (I : Nat → Int32) (w : Int64) (A : Nat → Nat → Int32) (N : Nat → Nat → Int64) (a1 : Int32) (b0 : Int32) :
  R (d + 1) 267 (18, [some (.ref 0), some (.int a1)], [.int b0], sl, (RH I w A N)) =
    cond (decide (b0 = (nI 0))) (some (31, [some (.ref 0), some (.int a1)], [.int (-1 : Int32)], sl, (RH I w A N))) (cond (x_in a1 4) (some (31, [some (.ref 0), some (.int a1)], [.int ((A 17) a1.toNatClampNeg)], sl, (RH I w A N))) none) :=
  (R_gob [18] 400 _ _ _).trans rfl
set_option maxRecDepth 100000 in
theorem m268_0 (d sl : Nat) (I : Nat → Int32) (w : Int64) (A : Nat → Nat → Int32) (N : Nat → Nat → Int64) (a1 : Int32) (a2 : Int32) (a3 : Int32) (a4 : Int32) :
  R d 268 (0, [some (.ref 0), some (.int a1), some (.int a2), some (.int a3), some (.int a4), none], [], sl, (RH I w A N)) =
    cond (x_in ((nI 4) * (I 40)) 240) (cond (x_in (((nI 4) * (I 40)) + (nI 1)) 240) (cond (x_in (((nI 4) * (I 40)) + (nI 2)) 240) (cond (x_in (((nI 4) * (I 40)) + (nI 3)) 240) (some (63, [some (.ref 0), some (.int a1), some (.int a2), some (.int a3), some (.int a4), some (.int ((nI 4) * (I 40)))], [.int (((I 40) + (nI 1)) - (nI 1))], sl, (RH (up1 I 40 ((I 40) + (nI 1))) w (up1 A 18 (upd (upd (upd (upd (A 18) ((nI 4) * (I 40)).toNatClampNeg a1) (((nI 4) * (I 40)) + (nI 1)).toNatClampNeg a2) (((nI 4) * (I 40)) + (nI 2)).toNatClampNeg a3) (((nI 4) * (I 40)) + (nI 3)).toNatClampNeg a4)) N))) none) none) none) none :=
  (R_gob [] 400 _ _ _).trans rfl
set_option maxRecDepth 100000 in
theorem m269_0 (d sl : Nat) (I : Nat → Int32) (w : Int64) (A : Nat → Nat → Int32) (N : Nat → Nat → Int64)  :
  R (d + 1) 269 (0, [some (.ref 0), none], [], sl, (RH I w A N)) =
    bC (C d 270 [.ref 0] sl (RH I w A N)) (fun vs sl h => R (d + 1) 269 (4, [some (.ref 0), none], vs ++ [], sl, h)) :=
  (R_gob [4, 14, 20, 27, 31, 47] 400 _ _ _).trans rfl
set_option maxRecDepth 100000 in
theorem m269_4 (d sl : Nat) (I : Nat → Int32) (w : Int64) (A : Nat → Nat → Int32) (N : Nat → Nat → Int64) (b0 : Int32) :
  R (d + 1) 269 (4, [some (.ref 0), none], [.int b0], sl, (RH I w A N)) =
    cond (!decide (b0 = (nI 0))) (R (d + 1) 269 (14, [some (.ref 0), some (.int (I 43))], [], sl, (RH I w A N))) (some (8, [some (.ref 0), none], [.int (nI 0)], sl, (RH I w A N))) :=
  (R_gob [4, 14, 20, 27, 31, 47] 400 _ _ _).trans rfl
set_option maxRecDepth 100000 in
theorem m269_14 (d sl : Nat) (I : Nat → Int32) (w : Int64) (A : Nat → Nat → Int32) (N : Nat → Nat → Int64) (a1 : Int32) :
  R (d + 1) 269 (14, [some (.ref 0), some (.int a1)], [], sl, (RH I w A N)) =
    bC (C d 177 [.ref 0, .int (nI 9)] sl (RH I w A N)) (fun vs sl h => R (d + 1) 269 (20, [some (.ref 0), some (.int a1)], vs ++ [], sl, h)) :=
  (R_gob [4, 14, 20, 27, 31, 47] 400 _ _ _).trans rfl
set_option maxRecDepth 100000 in
theorem m269_20 (d sl : Nat) (I : Nat → Int32) (w : Int64) (A : Nat → Nat → Int32) (N : Nat → Nat → Int64) (a1 : Int32) (b0 : Int32) :
  R (d + 1) 269 (20, [some (.ref 0), some (.int a1)], [.int b0], sl, (RH I w A N)) =
    cond (decide (b0 = (nI 0))) (some (57, [some (.ref 0), some (.int a1)], [.int (nI 1)], sl, (RH (up1 I 43 a1) w A N))) (bC (C d 174 [.ref 0] sl (RH I w A N)) (fun vs sl h => R (d + 1) 269 (27, [some (.ref 0), some (.int a1)], vs ++ [], sl, h))) :=
  (R_gob [4, 14, 20, 27, 31, 47] 400 _ _ _).trans rfl
set_option maxRecDepth 100000 in
theorem m269_27 (d sl : Nat) (I : Nat → Int32) (w : Int64) (A : Nat → Nat → Int32) (N : Nat → Nat → Int64) (a1 : Int32) :
  R (d + 1) 269 (27, [some (.ref 0), some (.int a1)], [], sl, (RH I w A N)) =
    bC (C d 270 [.ref 0] sl (RH I w A N)) (fun vs sl h => R (d + 1) 269 (31, [some (.ref 0), some (.int a1)], vs ++ [], sl, h)) :=
  (R_gob [4, 14, 20, 27, 31, 47] 400 _ _ _).trans rfl
set_option maxRecDepth 100000 in
theorem m269_31 (d sl : Nat) (I : Nat → Int32) (w : Int64) (A : Nat → Nat → Int32) (N : Nat → Nat → Int64) (a1 : Int32) (b0 : Int32) :
  R (d + 1) 269 (31, [some (.ref 0), some (.int a1)], [.int b0], sl, (RH I w A N)) =
    cond (!decide (b0 = (nI 0))) (bC (C d 268 [.ref 0, .int (nI 3), .int a1, .int (I 43), .int (nI 0)] sl (RH I w A N)) (fun vs sl h => R (d + 1) 269 (47, [some (.ref 0), some (.int a1)], vs ++ [], sl, h))) (some (35, [some (.ref 0), some (.int a1)], [.int (nI 0)], sl, (RH I w A N))) :=
  (R_gob [4, 14, 20, 27, 31, 47] 400 _ _ _).trans rfl
set_option maxRecDepth 100000 in
theorem m269_47 (d sl : Nat) (I : Nat → Int32) (w : Int64) (A : Nat → Nat → Int32) (N : Nat → Nat → Int64) (a1 : Int32) (b0 : Int32) :
  R (d + 1) 269 (47, [some (.ref 0), some (.int a1)], [.int b0], sl, (RH I w A N)) =
    R (d + 1) 269 (14, [some (.ref 0), some (.int b0)], [], sl, (RH I w A N)) :=
  (R_gob [4, 14, 20, 27, 31, 47] 400 _ _ _).trans rfl
set_option maxRecDepth 100000 in
theorem m270_0 (d sl : Nat) (I : Nat → Int32) (w : Int64) (A : Nat → Nat → Int32) (N : Nat → Nat → Int64)  :
  R (d + 1) 270 (0, [some (.ref 0), none], [], sl, (RH I w A N)) =
    bC (C d 271 [.ref 0] sl (RH I w A N)) (fun vs sl h => R (d + 1) 270 (4, [some (.ref 0), none], vs ++ [], sl, h)) :=
  (R_gob [4, 14, 20, 27, 31, 47] 400 _ _ _).trans rfl
set_option maxRecDepth 100000 in
theorem m270_4 (d sl : Nat) (I : Nat → Int32) (w : Int64) (A : Nat → Nat → Int32) (N : Nat → Nat → Int64) (b0 : Int32) :
  R (d + 1) 270 (4, [some (.ref 0), none], [.int b0], sl, (RH I w A N)) =
    cond (!decide (b0 = (nI 0))) (R (d + 1) 270 (14, [some (.ref 0), some (.int (I 43))], [], sl, (RH I w A N))) (some (8, [some (.ref 0), none], [.int (nI 0)], sl, (RH I w A N))) :=
  (R_gob [4, 14, 20, 27, 31, 47] 400 _ _ _).trans rfl
set_option maxRecDepth 100000 in
theorem m270_14 (d sl : Nat) (I : Nat → Int32) (w : Int64) (A : Nat → Nat → Int32) (N : Nat → Nat → Int64) (a1 : Int32) :
  R (d + 1) 270 (14, [some (.ref 0), some (.int a1)], [], sl, (RH I w A N)) =
    bC (C d 177 [.ref 0, .int (nI 10)] sl (RH I w A N)) (fun vs sl h => R (d + 1) 270 (20, [some (.ref 0), some (.int a1)], vs ++ [], sl, h)) :=
  (R_gob [4, 14, 20, 27, 31, 47] 400 _ _ _).trans rfl
set_option maxRecDepth 100000 in
theorem m270_20 (d sl : Nat) (I : Nat → Int32) (w : Int64) (A : Nat → Nat → Int32) (N : Nat → Nat → Int64) (a1 : Int32) (b0 : Int32) :
  R (d + 1) 270 (20, [some (.ref 0), some (.int a1)], [.int b0], sl, (RH I w A N)) =
    cond (decide (b0 = (nI 0))) (some (57, [some (.ref 0), some (.int a1)], [.int (nI 1)], sl, (RH (up1 I 43 a1) w A N))) (bC (C d 174 [.ref 0] sl (RH I w A N)) (fun vs sl h => R (d + 1) 270 (27, [some (.ref 0), some (.int a1)], vs ++ [], sl, h))) :=
  (R_gob [4, 14, 20, 27, 31, 47] 400 _ _ _).trans rfl
set_option maxRecDepth 100000 in
theorem m270_27 (d sl : Nat) (I : Nat → Int32) (w : Int64) (A : Nat → Nat → Int32) (N : Nat → Nat → Int64) (a1 : Int32) :
  R (d + 1) 270 (27, [some (.ref 0), some (.int a1)], [], sl, (RH I w A N)) =
    bC (C d 271 [.ref 0] sl (RH I w A N)) (fun vs sl h => R (d + 1) 270 (31, [some (.ref 0), some (.int a1)], vs ++ [], sl, h)) :=
  (R_gob [4, 14, 20, 27, 31, 47] 400 _ _ _).trans rfl
set_option maxRecDepth 100000 in
theorem m270_31 (d sl : Nat) (I : Nat → Int32) (w : Int64) (A : Nat → Nat → Int32) (N : Nat → Nat → Int64) (a1 : Int32) (b0 : Int32) :
  R (d + 1) 270 (31, [some (.ref 0), some (.int a1)], [.int b0], sl, (RH I w A N)) =
    cond (!decide (b0 = (nI 0))) (bC (C d 268 [.ref 0, .int (nI 2), .int a1, .int (I 43), .int (nI 0)] sl (RH I w A N)) (fun vs sl h => R (d + 1) 270 (47, [some (.ref 0), some (.int a1)], vs ++ [], sl, h))) (some (35, [some (.ref 0), some (.int a1)], [.int (nI 0)], sl, (RH I w A N))) :=
  (R_gob [4, 14, 20, 27, 31, 47] 400 _ _ _).trans rfl
set_option maxRecDepth 100000 in
theorem m270_47 (d sl : Nat) (I : Nat → Int32) (w : Int64) (A : Nat → Nat → Int32) (N : Nat → Nat → Int64) (a1 : Int32) (b0 : Int32) :
  R (d + 1) 270 (47, [some (.ref 0), some (.int a1)], [.int b0], sl, (RH I w A N)) =
    R (d + 1) 270 (14, [some (.ref 0), some (.int b0)], [], sl, (RH I w A N)) :=
  (R_gob [4, 14, 20, 27, 31, 47] 400 _ _ _).trans rfl
set_option maxRecDepth 100000 in
theorem m271_0 (d sl : Nat) (I : Nat → Int32) (w : Int64) (A : Nat → Nat → Int32) (N : Nat → Nat → Int64)  :
  R (d + 1) 271 (0, [some (.ref 0), none, none, none], [], sl, (RH I w A N)) =
    bC (C d 178 [.ref 0, .int (nI 40)] sl (RH I w A N)) (fun vs sl h => R (d + 1) 271 (6, [some (.ref 0), none, none, none], vs ++ [], sl, h)) :=
  (R_gob [6, 10, 21, 45, 69, 94, 104, 118, 140, 157, 165] 400 _ _ _).trans rfl
set_option maxRecDepth 100000 in
theorem m271_6 (d sl : Nat) (I : Nat → Int32) (w : Int64) (A : Nat → Nat → Int32) (N : Nat → Nat → Int64) (b0 : Int32) :
  R (d + 1) 271 (6, [some (.ref 0), none, none, none], [.int b0], sl, (RH I w A N)) =
    R (d + 1) 271 (10, [some (.ref 0), some (.int b0), some (.int (nI 11)), none], [], sl, (RH I w A N)) :=
  (R_gob [6, 10, 21, 45, 69, 94, 104, 118, 140, 157, 165] 400 _ _ _).trans rfl
set_option maxRecDepth 100000 in
theorem m271_10 (d sl : Nat) (I : Nat → Int32) (w : Int64) (A : Nat → Nat → Int32) (N : Nat → Nat → Int64) (a1 : Int32) (a2 : Int32) :
  R (d + 1) 271 (10, [some (.ref 0), some (.int a1), some (.int a2), none], [], sl, (RH I w A N)) =
    cond (decide ((nI 20) < a2)) (cond (!decide (a1 = (nI 0))) (cond (decide ((I 41) = (nI 20))) (bC (C d 180 [.ref 0, .int (nI 4)] sl (RH I w A N)) (fun vs sl h => R (d + 1) 271 (69, [some (.ref 0), some (.int a1), some (.int a2), none], vs ++ [], sl, h))) (cond (!decide ((I 42) = (nI 8))) (bC (C d 174 [.ref 0] sl (RH (up1 (up1 I 41 ((I 41) + (nI 1))) 42 ((I 42) + (nI 1))) w A N)) (fun vs sl h => R (d + 1) 271 (94, [some (.ref 0), some (.int a1), some (.int a2), none], vs ++ [], sl, h))) (bC (C d 180 [.ref 0, .int (nI 4)] sl (RH I w A N)) (fun vs sl h => R (d + 1) 271 (69, [some (.ref 0), some (.int a1), some (.int a2), none], vs ++ [], sl, h))))) (cond (decide (a2 ≤ (nI 20))) (cond (decide ((I 41) = (nI 20))) (bC (C d 180 [.ref 0, .int (nI 4)] sl (RH I w A N)) (fun vs sl h => R (d + 1) 271 (69, [some (.ref 0), some (.int a1), some (.int a2), none], vs ++ [], sl, h))) (cond (!decide ((I 42) = (nI 8))) (bC (C d 174 [.ref 0] sl (RH (up1 (up1 I 41 ((I 41) + (nI 1))) 42 ((I 42) + (nI 1))) w A N)) (fun vs sl h => R (d + 1) 271 (94, [some (.ref 0), some (.int a1), some (.int a2), none], vs ++ [], sl, h))) (bC (C d 180 [.ref 0, .int (nI 4)] sl (RH I w A N)) (fun vs sl h => R (d + 1) 271 (69, [some (.ref 0), some (.int a1), some (.int a2), none], vs ++ [], sl, h))))) (bC (C d 180 [.ref 0, .int (nI 1)] sl (RH I w A N)) (fun vs sl h => R (d + 1) 271 (45, [some (.ref 0), some (.int a1), some (.int a2), none], vs ++ [], sl, h))))) (bC (C d 177 [.ref 0, .int a2] sl (RH I w A N)) (fun vs sl h => R (d + 1) 271 (21, [some (.ref 0), some (.int a1), some (.int a2), none], vs ++ [], sl, h))) :=
  (R_gob [6, 10, 21, 45, 69, 94, 104, 118, 140, 157, 165] 400 _ _ _).trans rfl
set_option maxRecDepth 100000 in
theorem m271_69 (d sl : Nat) (I : Nat → Int32) (w : Int64) (A : Nat → Nat → Int32) (N : Nat → Nat → Int64) (a1 : Int32) (a2 : Int32) (b0 : Int32) :
  R (d + 1) 271 (69, [some (.ref 0), some (.int a1), some (.int a2), none], [.int b0], sl, (RH I w A N)) =
    some (69, [some (.ref 0), some (.int a1), some (.int a2), none], [.int b0], sl, (RH I w A N)) :=
  (R_gob [6, 10, 21, 45, 69, 94, 104, 118, 140, 157, 165] 400 _ _ _).trans rfl
set_option maxRecDepth 100000 in
theorem m271_94 (d sl : Nat) (I : Nat → Int32) (w : Int64) (A : Nat → Nat → Int32) (N : Nat → Nat → Int64) (a1 : Int32) (a2 : Int32) :
  R (d + 1) 271 (94, [some (.ref 0), some (.int a1), some (.int a2), none], [], sl, (RH I w A N)) =
    cond (decide (a1 = (nI 0))) (cond (!decide (a2 = (nI 11))) (cond (decide ((nI 16) ≤ a2)) (cond (decide ((nI 17) ≤ a2)) (bC (C d 275 [.ref 0, .int a2] sl (RH I w A N)) (fun vs sl h => R (d + 1) 271 (165, [some (.ref 0), some (.int a1), some (.int a2), some (.int (nI 1))], vs ++ [], sl, h))) (bC (C d 274 [.ref 0, .int a2] sl (RH I w A N)) (fun vs sl h => R (d + 1) 271 (157, [some (.ref 0), some (.int a1), some (.int a2), some (.int (nI 1))], vs ++ [], sl, h)))) (bC (C d 268 [.ref 0, .int ((nI 50) + a2), .int (nI 0), .int (nI 0), .int (nI 0)] sl (RH I w A N)) (fun vs sl h => R (d + 1) 271 (140, [some (.ref 0), some (.int a1), some (.int a2), some (.int (nI 1))], vs ++ [.ref 0], sl, h)))) (bC (C d 272 [.ref 0] sl (RH I w A N)) (fun vs sl h => R (d + 1) 271 (118, [some (.ref 0), some (.int a1), some (.int a2), some (.int (nI 1))], vs ++ [], sl, h)))) (bC (C d 273 [.ref 0] sl (RH I w A N)) (fun vs sl h => R (d + 1) 271 (104, [some (.ref 0), some (.int a1), some (.int a2), some (.int (nI 1))], vs ++ [], sl, h))) :=
  (R_gob [6, 10, 21, 45, 69, 94, 104, 118, 140, 157, 165] 400 _ _ _).trans rfl
set_option maxRecDepth 100000 in
theorem m271_45 (d sl : Nat) (I : Nat → Int32) (w : Int64) (A : Nat → Nat → Int32) (N : Nat → Nat → Int64) (a1 : Int32) (a2 : Int32) (b0 : Int32) :
  R (d + 1) 271 (45, [some (.ref 0), some (.int a1), some (.int a2), none], [.int b0], sl, (RH I w A N)) =
    some (45, [some (.ref 0), some (.int a1), some (.int a2), none], [.int b0], sl, (RH I w A N)) :=
  (R_gob [6, 10, 21, 45, 69, 94, 104, 118, 140, 157, 165] 400 _ _ _).trans rfl
set_option maxRecDepth 100000 in
theorem m271_21 (d sl : Nat) (I : Nat → Int32) (w : Int64) (A : Nat → Nat → Int32) (N : Nat → Nat → Int64) (a1 : Int32) (a2 : Int32) (b0 : Int32) :
  R (d + 1) 271 (21, [some (.ref 0), some (.int a1), some (.int a2), none], [.int b0], sl, (RH I w A N)) =
    cond (!decide (b0 = (nI 0))) (cond (!decide (a1 = (nI 0))) (cond (decide ((I 41) = (nI 20))) (bC (C d 180 [.ref 0, .int (nI 4)] sl (RH I w A N)) (fun vs sl h => R (d + 1) 271 (69, [some (.ref 0), some (.int a1), some (.int a2), none], vs ++ [], sl, h))) (cond (!decide ((I 42) = (nI 8))) (bC (C d 174 [.ref 0] sl (RH (up1 (up1 I 41 ((I 41) + (nI 1))) 42 ((I 42) + (nI 1))) w A N)) (fun vs sl h => R (d + 1) 271 (94, [some (.ref 0), some (.int a1), some (.int a2), none], vs ++ [], sl, h))) (bC (C d 180 [.ref 0, .int (nI 4)] sl (RH I w A N)) (fun vs sl h => R (d + 1) 271 (69, [some (.ref 0), some (.int a1), some (.int a2), none], vs ++ [], sl, h))))) (cond (decide (a2 ≤ (nI 20))) (cond (decide ((I 41) = (nI 20))) (bC (C d 180 [.ref 0, .int (nI 4)] sl (RH I w A N)) (fun vs sl h => R (d + 1) 271 (69, [some (.ref 0), some (.int a1), some (.int a2), none], vs ++ [], sl, h))) (cond (!decide ((I 42) = (nI 8))) (bC (C d 174 [.ref 0] sl (RH (up1 (up1 I 41 ((I 41) + (nI 1))) 42 ((I 42) + (nI 1))) w A N)) (fun vs sl h => R (d + 1) 271 (94, [some (.ref 0), some (.int a1), some (.int a2), none], vs ++ [], sl, h))) (bC (C d 180 [.ref 0, .int (nI 4)] sl (RH I w A N)) (fun vs sl h => R (d + 1) 271 (69, [some (.ref 0), some (.int a1), some (.int a2), none], vs ++ [], sl, h))))) (bC (C d 180 [.ref 0, .int (nI 1)] sl (RH I w A N)) (fun vs sl h => R (d + 1) 271 (45, [some (.ref 0), some (.int a1), some (.int a2), none], vs ++ [], sl, h))))) (R (d + 1) 271 (10, [some (.ref 0), some (.int a1), some (.int (a2 + (nI 1))), none], [], sl, (RH I w A N))) :=
  (R_gob [6, 10, 21, 45, 69, 94, 104, 118, 140, 157, 165] 400 _ _ _).trans rfl
set_option maxRecDepth 100000 in
theorem m271_165 (d sl : Nat) (I : Nat → Int32) (w : Int64) (A : Nat → Nat → Int32) (N : Nat → Nat → Int64) (a1 : Int32) (a2 : Int32) (a3 : Int32) (b0 : Int32) :
  R (d + 1) 271 (165, [some (.ref 0), some (.int a1), some (.int a2), some (.int a3)], [.int b0], sl, (RH I w A N)) =
    some (177, [some (.ref 0), some (.int a1), some (.int a2), some (.int b0)], [.int b0], sl, (RH (up1 I 42 ((I 42) - (nI 1))) w A N)) :=
  (R_gob [6, 10, 21, 45, 69, 94, 104, 118, 140, 157, 165] 400 _ _ _).trans rfl
set_option maxRecDepth 100000 in
theorem m271_157 (d sl : Nat) (I : Nat → Int32) (w : Int64) (A : Nat → Nat → Int32) (N : Nat → Nat → Int64) (a1 : Int32) (a2 : Int32) (a3 : Int32) (b0 : Int32) :
  R (d + 1) 271 (157, [some (.ref 0), some (.int a1), some (.int a2), some (.int a3)], [.int b0], sl, (RH I w A N)) =
    R (d + 1) 271 (165, [some (.ref 0), some (.int a1), some (.int a2), some (.int a3)], [.int b0], sl, (RH I w A N)) :=
  (R_gob [6, 10, 21, 45, 69, 94, 104, 118, 140, 157, 165] 400 _ _ _).trans rfl
set_option maxRecDepth 100000 in
theorem m271_140 (d sl : Nat) (I : Nat → Int32) (w : Int64) (A : Nat → Nat → Int32) (N : Nat → Nat → Int64) (a1 : Int32) (a2 : Int32) (a3 : Int32) (b0 : Int32) :
  R (d + 1) 271 (140, [some (.ref 0), some (.int a1), some (.int a2), some (.int a3)], [.int b0, .ref 0], sl, (RH I w A N)) =
    some (177, [some (.ref 0), some (.int a1), some (.int a2), some (.int a3)], [.int a3], sl, (RH (up1 (up1 I 42 ((I 42) - (nI 1))) 43 b0) w A N)) :=
  (R_gob [6, 10, 21, 45, 69, 94, 104, 118, 140, 157, 165] 400 _ _ _).trans rfl
set_option maxRecDepth 100000 in
theorem m271_118 (d sl : Nat) (I : Nat → Int32) (w : Int64) (A : Nat → Nat → Int32) (N : Nat → Nat → Int64) (a1 : Int32) (a2 : Int32) (a3 : Int32) (b0 : Int32) :
  R (d + 1) 271 (118, [some (.ref 0), some (.int a1), some (.int a2), some (.int a3)], [.int b0], sl, (RH I w A N)) =
    some (177, [some (.ref 0), some (.int a1), some (.int a2), some (.int b0)], [.int b0], sl, (RH (up1 I 42 ((I 42) - (nI 1))) w A N)) :=
  (R_gob [6, 10, 21, 45, 69, 94, 104, 118, 140, 157, 165] 400 _ _ _).trans rfl
set_option maxRecDepth 100000 in
theorem m271_104 (d sl : Nat) (I : Nat → Int32) (w : Int64) (A : Nat → Nat → Int32) (N : Nat → Nat → Int64) (a1 : Int32) (a2 : Int32) (a3 : Int32) (b0 : Int32) :
  R (d + 1) 271 (104, [some (.ref 0), some (.int a1), some (.int a2), some (.int a3)], [.int b0], sl, (RH I w A N)) =
    some (177, [some (.ref 0), some (.int a1), some (.int a2), some (.int b0)], [.int b0], sl, (RH (up1 I 42 ((I 42) - (nI 1))) w A N)) :=
  (R_gob [6, 10, 21, 45, 69, 94, 104, 118, 140, 157, 165] 400 _ _ _).trans rfl
set_option maxRecDepth 100000 in
theorem m272_0 (d sl : Nat) (I : Nat → Int32) (w : Int64) (A : Nat → Nat → Int32) (N : Nat → Nat → Int64)  :
  R (d + 1) 272 (0, [some (.ref 0)], [], sl, (RH I w A N)) =
    bC (C d 271 [.ref 0] sl (RH I w A N)) (fun vs sl h => R (d + 1) 272 (4, [some (.ref 0)], vs ++ [], sl, h)) :=
  (R_gob [4, 21] 400 _ _ _).trans rfl
set_option maxRecDepth 100000 in
theorem m272_4 (d sl : Nat) (I : Nat → Int32) (w : Int64) (A : Nat → Nat → Int32) (N : Nat → Nat → Int64) (b0 : Int32) :
  R (d + 1) 272 (4, [some (.ref 0)], [.int b0], sl, (RH I w A N)) =
    cond (!decide (b0 = (nI 0))) (bC (C d 268 [.ref 0, .int (nI 1), .int (I 43), .int (nI 0), .int (nI 0)] sl (RH I w A N)) (fun vs sl h => R (d + 1) 272 (21, [some (.ref 0)], vs ++ [.ref 0], sl, h))) (some (8, [some (.ref 0)], [.int (nI 0)], sl, (RH I w A N))) :=
  (R_gob [4, 21] 400 _ _ _).trans rfl
set_option maxRecDepth 100000 in
theorem m272_21 (d sl : Nat) (I : Nat → Int32) (w : Int64) (A : Nat → Nat → Int32) (N : Nat → Nat → Int64) (b0 : Int32) :
  R (d + 1) 272 (21, [some (.ref 0)], [.int b0, .ref 0], sl, (RH I w A N)) =
    some (25, [some (.ref 0)], [.int (nI 1)], sl, (RH (up1 I 43 b0) w A N)) :=
  (R_gob [4, 21] 400 _ _ _).trans rfl
set_option maxRecDepth 100000 in
theorem m273_0 (d sl : Nat) (I : Nat → Int32) (w : Int64) (A : Nat → Nat → Int32) (N : Nat → Nat → Int64)  :
  R (d + 1) 273 (0, [some (.ref 0)], [], sl, (RH I w A N)) =
    bC (C d 269 [.ref 0] sl (RH I w A N)) (fun vs sl h => R (d + 1) 273 (4, [some (.ref 0)], vs ++ [], sl, h)) :=
  (R_gob [4, 15, 23, 28] 400 _ _ _).trans rfl
set_option maxRecDepth 100000 in
theorem m273_4 (d sl : Nat) (I : Nat → Int32) (w : Int64) (A : Nat → Nat → Int32) (N : Nat → Nat → Int64) (b0 : Int32) :
  R (d + 1) 273 (4, [some (.ref 0)], [.int b0], sl, (RH I w A N)) =
    cond (!decide (b0 = (nI 0))) (bC (C d 178 [.ref 0, .int (nI 41)] sl (RH I w A N)) (fun vs sl h => R (d + 1) 273 (15, [some (.ref 0)], vs ++ [], sl, h))) (some (8, [some (.ref 0)], [.int (nI 0)], sl, (RH I w A N))) :=
  (R_gob [4, 15, 23, 28] 400 _ _ _).trans rfl
set_option maxRecDepth 100000 in
theorem m273_15 (d sl : Nat) (I : Nat → Int32) (w : Int64) (A : Nat → Nat → Int32) (N : Nat → Nat → Int64) (b0 : Int32) :
  R (d + 1) 273 (15, [some (.ref 0)], [.int b0], sl, (RH I w A N)) =
    cond (!decide (b0 = (nI 0))) (bC (C d 174 [.ref 0] sl (RH I w A N)) (fun vs sl h => R (d + 1) 273 (28, [some (.ref 0)], vs ++ [], sl, h))) (bC (C d 180 [.ref 0, .int (nI 1)] sl (RH I w A N)) (fun vs sl h => R (d + 1) 273 (23, [some (.ref 0)], vs ++ [], sl, h))) :=
  (R_gob [4, 15, 23, 28] 400 _ _ _).trans rfl
set_option maxRecDepth 100000 in
theorem m273_28 (d sl : Nat) (I : Nat → Int32) (w : Int64) (A : Nat → Nat → Int32) (N : Nat → Nat → Int64)  :
  R (d + 1) 273 (28, [some (.ref 0)], [], sl, (RH I w A N)) =
    some (29, [some (.ref 0)], [.int (nI 1)], sl, (RH I w A N)) :=
  (R_gob [4, 15, 23, 28] 400 _ _ _).trans rfl
set_option maxRecDepth 100000 in
theorem m273_23 (d sl : Nat) (I : Nat → Int32) (w : Int64) (A : Nat → Nat → Int32) (N : Nat → Nat → Int64) (b0 : Int32) :
  R (d + 1) 273 (23, [some (.ref 0)], [.int b0], sl, (RH I w A N)) =
    some (23, [some (.ref 0)], [.int b0], sl, (RH I w A N)) :=
  (R_gob [4, 15, 23, 28] 400 _ _ _).trans rfl
set_option maxRecDepth 100000 in
theorem m274_0 (d sl : Nat) (I : Nat → Int32) (w : Int64) (A : Nat → Nat → Int32) (N : Nat → Nat → Int64) (a1 : Int32) :
  R (d + 1) 274 (0, [some (.ref 0), some (.int a1)], [], sl, (RH I w A N)) =
    bC (C d 260 [.ref 0] sl (RH I w A N)) (fun vs sl h => R (d + 1) 274 (4, [some (.ref 0), some (.int a1)], vs ++ [], sl, h)) :=
  (R_gob [4, 24] 400 _ _ _).trans rfl
set_option maxRecDepth 100000 in
theorem m274_4 (d sl : Nat) (I : Nat → Int32) (w : Int64) (A : Nat → Nat → Int32) (N : Nat → Nat → Int64) (a1 : Int32) (b0 : Int32) :
  R (d + 1) 274 (4, [some (.ref 0), some (.int a1)], [.int b0], sl, (RH I w A N)) =
    cond (!decide (b0 = (nI 0))) (bC (C d 268 [.ref 0, .int ((nI 50) + a1), .int (I 13), .int (nI 0), .int (nI 0)] sl (RH I w A N)) (fun vs sl h => R (d + 1) 274 (24, [some (.ref 0), some (.int a1)], vs ++ [.ref 0], sl, h))) (some (8, [some (.ref 0), some (.int a1)], [.int (nI 0)], sl, (RH I w A N))) :=
  (R_gob [4, 24] 400 _ _ _).trans rfl
set_option maxRecDepth 100000 in
theorem m274_24 (d sl : Nat) (I : Nat → Int32) (w : Int64) (A : Nat → Nat → Int32) (N : Nat → Nat → Int64) (a1 : Int32) (b0 : Int32) :
  R (d + 1) 274 (24, [some (.ref 0), some (.int a1)], [.int b0, .ref 0], sl, (RH I w A N)) =
    some (28, [some (.ref 0), some (.int a1)], [.int (nI 1)], sl, (RH (up1 I 43 b0) w A N)) :=
  (R_gob [4, 24] 400 _ _ _).trans rfl
set_option maxRecDepth 100000 in
theorem m275_0 (d sl : Nat) (I : Nat → Int32) (w : Int64) (A : Nat → Nat → Int32) (N : Nat → Nat → Int64) (a1 : Int32) :
  R (d + 1) 275 (0, [some (.ref 0), some (.int a1), none], [], sl, (RH I w A N)) =
    bC (C d 178 [.ref 0, .int (nI 60)] sl (RH I w A N)) (fun vs sl h => R (d + 1) 275 (6, [some (.ref 0), some (.int a1), none], vs ++ [], sl, h)) :=
  (R_gob [6, 15, 24, 32, 42, 50, 70] 400 _ _ _).trans rfl
set_option maxRecDepth 100000 in
theorem m275_6 (d sl : Nat) (I : Nat → Int32) (w : Int64) (A : Nat → Nat → Int32) (N : Nat → Nat → Int64) (a1 : Int32) (b0 : Int32) :
  R (d + 1) 275 (6, [some (.ref 0), some (.int a1), none], [.int b0], sl, (RH I w A N)) =
    cond (!decide (b0 = (nI 0))) (bC (C d 174 [.ref 0] sl (RH I w A N)) (fun vs sl h => R (d + 1) 275 (42, [some (.ref 0), some (.int a1), some (.int (I 9))], vs ++ [], sl, h))) (bC (C d 178 [.ref 0, .int (nI 61)] sl (RH I w A N)) (fun vs sl h => R (d + 1) 275 (15, [some (.ref 0), some (.int a1), none], vs ++ [], sl, h))) :=
  (R_gob [6, 15, 24, 32, 42, 50, 70] 400 _ _ _).trans rfl
set_option maxRecDepth 100000 in
theorem m275_42 (d sl : Nat) (I : Nat → Int32) (w : Int64) (A : Nat → Nat → Int32) (N : Nat → Nat → Int64) (a1 : Int32) (a2 : Int32) :
  R (d + 1) 275 (42, [some (.ref 0), some (.int a1), some (.int a2)], [], sl, (RH I w A N)) =
    bC (C d 181 [.ref 0, .int (nI 0), .int (nI 999)] sl (RH I w A N)) (fun vs sl h => R (d + 1) 275 (50, [some (.ref 0), some (.int a1), some (.int a2)], vs ++ [], sl, h)) :=
  (R_gob [6, 15, 24, 32, 42, 50, 70] 400 _ _ _).trans rfl
set_option maxRecDepth 100000 in
theorem m275_15 (d sl : Nat) (I : Nat → Int32) (w : Int64) (A : Nat → Nat → Int32) (N : Nat → Nat → Int64) (a1 : Int32) (b0 : Int32) :
  R (d + 1) 275 (15, [some (.ref 0), some (.int a1), none], [.int b0], sl, (RH I w A N)) =
    cond (!decide (b0 = (nI 0))) (bC (C d 174 [.ref 0] sl (RH I w A N)) (fun vs sl h => R (d + 1) 275 (42, [some (.ref 0), some (.int a1), some (.int (I 9))], vs ++ [], sl, h))) (bC (C d 178 [.ref 0, .int (nI 62)] sl (RH I w A N)) (fun vs sl h => R (d + 1) 275 (24, [some (.ref 0), some (.int a1), none], vs ++ [], sl, h))) :=
  (R_gob [6, 15, 24, 32, 42, 50, 70] 400 _ _ _).trans rfl
set_option maxRecDepth 100000 in
theorem m275_50 (d sl : Nat) (I : Nat → Int32) (w : Int64) (A : Nat → Nat → Int32) (N : Nat → Nat → Int64) (a1 : Int32) (a2 : Int32) (b0 : Int32) :
  R (d + 1) 275 (50, [some (.ref 0), some (.int a1), some (.int a2)], [.int b0], sl, (RH I w A N)) =
    cond (!decide (b0 = (nI 0))) (bC (C d 268 [.ref 0, .int ((nI 50) + a1), .int (nI 0), .int (I 13), .int a2] sl (RH I w A N)) (fun vs sl h => R (d + 1) 275 (70, [some (.ref 0), some (.int a1), some (.int a2)], vs ++ [.ref 0], sl, h))) (some (54, [some (.ref 0), some (.int a1), some (.int a2)], [.int (nI 0)], sl, (RH I w A N))) :=
  (R_gob [6, 15, 24, 32, 42, 50, 70] 400 _ _ _).trans rfl
set_option maxRecDepth 100000 in
theorem m275_24 (d sl : Nat) (I : Nat → Int32) (w : Int64) (A : Nat → Nat → Int32) (N : Nat → Nat → Int64) (a1 : Int32) (b0 : Int32) :
  R (d + 1) 275 (24, [some (.ref 0), some (.int a1), none], [.int b0], sl, (RH I w A N)) =
    cond (!decide (b0 = (nI 0))) (bC (C d 174 [.ref 0] sl (RH I w A N)) (fun vs sl h => R (d + 1) 275 (42, [some (.ref 0), some (.int a1), some (.int (I 9))], vs ++ [], sl, h))) (bC (C d 180 [.ref 0, .int (nI 1)] sl (RH I w A N)) (fun vs sl h => R (d + 1) 275 (32, [some (.ref 0), some (.int a1), none], vs ++ [], sl, h))) :=
  (R_gob [6, 15, 24, 32, 42, 50, 70] 400 _ _ _).trans rfl
set_option maxRecDepth 100000 in
theorem m275_70 (d sl : Nat) (I : Nat → Int32) (w : Int64) (A : Nat → Nat → Int32) (N : Nat → Nat → Int64) (a1 : Int32) (a2 : Int32) (b0 : Int32) :
  R (d + 1) 275 (70, [some (.ref 0), some (.int a1), some (.int a2)], [.int b0, .ref 0], sl, (RH I w A N)) =
    some (74, [some (.ref 0), some (.int a1), some (.int a2)], [.int (nI 1)], sl, (RH (up1 I 43 b0) w A N)) :=
  (R_gob [6, 15, 24, 32, 42, 50, 70] 400 _ _ _).trans rfl
set_option maxRecDepth 100000 in
theorem m275_32 (d sl : Nat) (I : Nat → Int32) (w : Int64) (A : Nat → Nat → Int32) (N : Nat → Nat → Int64) (a1 : Int32) (b0 : Int32) :
  R (d + 1) 275 (32, [some (.ref 0), some (.int a1), none], [.int b0], sl, (RH I w A N)) =
    some (32, [some (.ref 0), some (.int a1), none], [.int b0], sl, (RH I w A N)) :=
  (R_gob [6, 15, 24, 32, 42, 50, 70] 400 _ _ _).trans rfl
set_option maxRecDepth 100000 in
theorem m276_0 (d sl : Nat) (I : Nat → Int32) (w : Int64) (A : Nat → Nat → Int32) (N : Nat → Nat → Int64)  :
  R (d + 1) 276 (0, [some (.ref 0), none], [], sl, (RH I w A N)) =
    bC (C d 183 [.ref 0, .int (nI 200)] sl (RH I w A N)) (fun vs sl h => R (d + 1) 276 (7, [some (.ref 0), none], vs ++ [], sl, h)) :=
  (R_gob [7, 26, 48, 78] 400 _ _ _).trans rfl
set_option maxRecDepth 100000 in
theorem m276_7 (d sl : Nat) (I : Nat → Int32) (w : Int64) (A : Nat → Nat → Int32) (N : Nat → Nat → Int64)  :
  R (d + 1) 276 (7, [some (.ref 0), none], [], sl, (RH I w A N)) =
    bC (C d 269 [.ref 0] sl (RH (up1 (up1 (up1 I 40 (nI 0)) 41 (nI 0)) 42 (nI 0)) w A N)) (fun vs sl h => R (d + 1) 276 (26, [some (.ref 0), none], vs ++ [], sl, h)) :=
  (R_gob [7, 26, 48, 78] 400 _ _ _).trans rfl
set_option maxRecDepth 100000 in
theorem m276_26 (d sl : Nat) (I : Nat → Int32) (w : Int64) (A : Nat → Nat → Int32) (N : Nat → Nat → Int64) (b0 : Int32) :
  R (d + 1) 276 (26, [some (.ref 0), none], [.int b0], sl, (RH I w A N)) =
    cond (!decide (b0 = (nI 0))) (cond (decide ((I 7) = (nI 0))) (R (d + 1) 276 (78, [some (.ref 0), some (.int (nI 0))], [], sl, (RH I w (up1 A 2 (upd (upd (A 2) 127 (nI 1)) 128 (I 43))) N))) (bC (C d 180 [.ref 0, .int (nI 1)] sl (RH I w A N)) (fun vs sl h => R (d + 1) 276 (48, [some (.ref 0), none], vs ++ [], sl, h)))) (some (35, [some (.ref 0), none], [.int ((-1 : Int32) - (I 11))], sl, (RH I w A N))) :=
  (R_gob [7, 26, 48, 78] 400 _ _ _).trans rfl
set_option maxRecDepth 100000 in
theorem m276_78 (d sl : Nat) (I : Nat → Int32) (w : Int64) (A : Nat → Nat → Int32) (N : Nat → Nat → Int64) (a1 : Int32) :
  R (d + 1) 276 (78, [some (.ref 0), some (.int a1)], [], sl, (RH I w A N)) =
    cond (decide ((nI 240) ≤ a1)) (some (111, [some (.ref 0), some (.int a1)], [.int (I 41)], sl, (RH I w A N))) (cond (x_in a1 240) (cond (x_in ((nI 129) + a1) 369) (R (d + 1) 276 (78, [some (.ref 0), some (.int (a1 + (nI 1)))], [], sl, (RH I w (up1 A 2 (upd (A 2) ((nI 129) + a1).toNatClampNeg ((A 18) a1.toNatClampNeg))) N))) none) none) :=
  (R_gob [7, 26, 48, 78] 400 _ _ _).trans rfl
set_option maxRecDepth 100000 in
theorem m276_48 (d sl : Nat) (I : Nat → Int32) (w : Int64) (A : Nat → Nat → Int32) (N : Nat → Nat → Int64) (b0 : Int32) :
  R (d + 1) 276 (48, [some (.ref 0), none], [.int b0], sl, (RH I w A N)) =
    some (55, [some (.ref 0), none], [.int ((-1 : Int32) - (I 11))], sl, (RH I w A N)) :=
  (R_gob [7, 26, 48, 78] 400 _ _ _).trans rfl
set_option maxRecDepth 100000 in
theorem m277_0 (d sl : Nat) (I : Nat → Int32) (w : Int64) (A : Nat → Nat → Int32) (N : Nat → Nat → Int64) (a1 : Int32) (a2 : Int32) :
  R (d + 1) 277 (0, [some (.ref 0), some (.int a1), some (.int a2), none, none, none, none, none], [], sl, (RH I w A N)) =
    cond (x_in (((nI 129) + ((nI 4) * a1)) + (nI 1)) 369) (cond (x_in (((nI 129) + ((nI 4) * a1)) + (nI 2)) 369) (cond (x_in ((nI 129) + ((nI 4) * a1)) 369) (R (d + 1) 277 (34, [some (.ref 0), some (.int a1), some (.int a2), some (.int ((nI 129) + ((nI 4) * a1))), some (.int ((A 2) (((nI 129) + ((nI 4) * a1)) + (nI 1)).toNatClampNeg)), some (.int ((A 2) (((nI 129) + ((nI 4) * a1)) + (nI 2)).toNatClampNeg)), none, none], [.int ((A 2) ((nI 129) + ((nI 4) * a1)).toNatClampNeg)], sl, (RH I w A N))) none) none) none :=
  (R_gob [34, 115, 131, 141, 157, 167, 181, 195, 201, 204, 227, 235, 278, 281] 400 _ _ _).trans rfl
set_option maxRecDepth 100000 in
theorem m277_34_out (d sl : Nat) (I : Nat → Int32) (w : Int64) (A : Nat → Nat → Int32) (N : Nat → Nat → Int64) (a1 : Int32) (a2 : Int32) (a3 : Int32) (a4 : Int32) (a5 : Int32) (x : Int32) (hx : Op.lookupswitch.offset [(1, 74), (2, 90), (3, 116), (62, 142), (63, 156), (64, 162), (65, 188), (66, 194)] (202) x.toInt = (202)) :
  R (d + 1) 277 (34, [some (.ref 0), some (.int a1), some (.int a2), some (.int a3), some (.int a4), some (.int a5), none, none], .int x :: [], sl, (RH I w A N)) = R (d + 1) 277 (236, [some (.ref 0), some (.int a1), some (.int a2), some (.int a3), some (.int a4), some (.int a5), none, none], [], sl, (RH I w A N)) :=
  (R_lsw (ps := [(1, 74), (2, 90), (3, 116), (62, 142), (63, 156), (64, 162), (65, 188), (66, 194)]) (show xk 277 34 = (.lookupswitch 202 #[(1, 74), (2, 90), (3, 116), (62, 142), (63, 156), (64, 162), (65, 188), (66, 194)], 108, [], 0) by decide +kernel)).trans (congrArg (fun q => R (d + 1) 277 (q, [some (.ref 0), some (.int a1), some (.int a2), some (.int a3), some (.int a4), some (.int a5), none, none], [], sl, (RH I w A N))) ((congrArg (fun z => (((34 : Nat) : Int) + z).toNat) hx).trans (by decide +kernel)))
set_option maxRecDepth 100000 in
theorem m277_34_c1 (d sl : Nat) (I : Nat → Int32) (w : Int64) (A : Nat → Nat → Int32) (N : Nat → Nat → Int64) (a1 : Int32) (a2 : Int32) (a3 : Int32) (a4 : Int32) (a5 : Int32)  :
  R (d + 1) 277 (34, [some (.ref 0), some (.int a1), some (.int a2), some (.int a3), some (.int a4), some (.int a5), none, none], .int (nI 1) :: [], sl, (RH I w A N)) = R (d + 1) 277 (108, [some (.ref 0), some (.int a1), some (.int a2), some (.int a3), some (.int a4), some (.int a5), none, none], [], sl, (RH I w A N)) :=
  (R_lsw (ps := [(1, 74), (2, 90), (3, 116), (62, 142), (63, 156), (64, 162), (65, 188), (66, 194)]) (show xk 277 34 = (.lookupswitch 202 #[(1, 74), (2, 90), (3, 116), (62, 142), (63, 156), (64, 162), (65, 188), (66, 194)], 108, [], 0) by decide +kernel)).trans (congrArg (fun q => R (d + 1) 277 (q, [some (.ref 0), some (.int a1), some (.int a2), some (.int a3), some (.int a4), some (.int a5), none, none], [], sl, (RH I w A N))) (by decide +kernel))
set_option maxRecDepth 100000 in
theorem m277_34_c2 (d sl : Nat) (I : Nat → Int32) (w : Int64) (A : Nat → Nat → Int32) (N : Nat → Nat → Int64) (a1 : Int32) (a2 : Int32) (a3 : Int32) (a4 : Int32) (a5 : Int32)  :
  R (d + 1) 277 (34, [some (.ref 0), some (.int a1), some (.int a2), some (.int a3), some (.int a4), some (.int a5), none, none], .int (nI 2) :: [], sl, (RH I w A N)) = R (d + 1) 277 (124, [some (.ref 0), some (.int a1), some (.int a2), some (.int a3), some (.int a4), some (.int a5), none, none], [], sl, (RH I w A N)) :=
  (R_lsw (ps := [(1, 74), (2, 90), (3, 116), (62, 142), (63, 156), (64, 162), (65, 188), (66, 194)]) (show xk 277 34 = (.lookupswitch 202 #[(1, 74), (2, 90), (3, 116), (62, 142), (63, 156), (64, 162), (65, 188), (66, 194)], 108, [], 0) by decide +kernel)).trans (congrArg (fun q => R (d + 1) 277 (q, [some (.ref 0), some (.int a1), some (.int a2), some (.int a3), some (.int a4), some (.int a5), none, none], [], sl, (RH I w A N))) (by decide +kernel))
set_option maxRecDepth 100000 in
theorem m277_34_c3 (d sl : Nat) (I : Nat → Int32) (w : Int64) (A : Nat → Nat → Int32) (N : Nat → Nat → Int64) (a1 : Int32) (a2 : Int32) (a3 : Int32) (a4 : Int32) (a5 : Int32)  :
  R (d + 1) 277 (34, [some (.ref 0), some (.int a1), some (.int a2), some (.int a3), some (.int a4), some (.int a5), none, none], .int (nI 3) :: [], sl, (RH I w A N)) = R (d + 1) 277 (150, [some (.ref 0), some (.int a1), some (.int a2), some (.int a3), some (.int a4), some (.int a5), none, none], [], sl, (RH I w A N)) :=
  (R_lsw (ps := [(1, 74), (2, 90), (3, 116), (62, 142), (63, 156), (64, 162), (65, 188), (66, 194)]) (show xk 277 34 = (.lookupswitch 202 #[(1, 74), (2, 90), (3, 116), (62, 142), (63, 156), (64, 162), (65, 188), (66, 194)], 108, [], 0) by decide +kernel)).trans (congrArg (fun q => R (d + 1) 277 (q, [some (.ref 0), some (.int a1), some (.int a2), some (.int a3), some (.int a4), some (.int a5), none, none], [], sl, (RH I w A N))) (by decide +kernel))
set_option maxRecDepth 100000 in
theorem m277_34_c62 (d sl : Nat) (I : Nat → Int32) (w : Int64) (A : Nat → Nat → Int32) (N : Nat → Nat → Int64) (a1 : Int32) (a2 : Int32) (a3 : Int32) (a4 : Int32) (a5 : Int32)  :
  R (d + 1) 277 (34, [some (.ref 0), some (.int a1), some (.int a2), some (.int a3), some (.int a4), some (.int a5), none, none], .int (nI 62) :: [], sl, (RH I w A N)) = R (d + 1) 277 (176, [some (.ref 0), some (.int a1), some (.int a2), some (.int a3), some (.int a4), some (.int a5), none, none], [], sl, (RH I w A N)) :=
  (R_lsw (ps := [(1, 74), (2, 90), (3, 116), (62, 142), (63, 156), (64, 162), (65, 188), (66, 194)]) (show xk 277 34 = (.lookupswitch 202 #[(1, 74), (2, 90), (3, 116), (62, 142), (63, 156), (64, 162), (65, 188), (66, 194)], 108, [], 0) by decide +kernel)).trans (congrArg (fun q => R (d + 1) 277 (q, [some (.ref 0), some (.int a1), some (.int a2), some (.int a3), some (.int a4), some (.int a5), none, none], [], sl, (RH I w A N))) (by decide +kernel))
set_option maxRecDepth 100000 in
theorem m277_34_c63 (d sl : Nat) (I : Nat → Int32) (w : Int64) (A : Nat → Nat → Int32) (N : Nat → Nat → Int64) (a1 : Int32) (a2 : Int32) (a3 : Int32) (a4 : Int32) (a5 : Int32)  :
  R (d + 1) 277 (34, [some (.ref 0), some (.int a1), some (.int a2), some (.int a3), some (.int a4), some (.int a5), none, none], .int (nI 63) :: [], sl, (RH I w A N)) = R (d + 1) 277 (190, [some (.ref 0), some (.int a1), some (.int a2), some (.int a3), some (.int a4), some (.int a5), none, none], [], sl, (RH I w A N)) :=
  (R_lsw (ps := [(1, 74), (2, 90), (3, 116), (62, 142), (63, 156), (64, 162), (65, 188), (66, 194)]) (show xk 277 34 = (.lookupswitch 202 #[(1, 74), (2, 90), (3, 116), (62, 142), (63, 156), (64, 162), (65, 188), (66, 194)], 108, [], 0) by decide +kernel)).trans (congrArg (fun q => R (d + 1) 277 (q, [some (.ref 0), some (.int a1), some (.int a2), some (.int a3), some (.int a4), some (.int a5), none, none], [], sl, (RH I w A N))) (by decide +kernel))
set_option maxRecDepth 100000 in
theorem m277_34_c64 (d sl : Nat) (I : Nat → Int32) (w : Int64) (A : Nat → Nat → Int32) (N : Nat → Nat → Int64) (a1 : Int32) (a2 : Int32) (a3 : Int32) (a4 : Int32) (a5 : Int32)  :
  R (d + 1) 277 (34, [some (.ref 0), some (.int a1), some (.int a2), some (.int a3), some (.int a4), some (.int a5), none, none], .int (nI 64) :: [], sl, (RH I w A N)) = R (d + 1) 277 (196, [some (.ref 0), some (.int a1), some (.int a2), some (.int a3), some (.int a4), some (.int a5), none, none], [], sl, (RH I w A N)) :=
  (R_lsw (ps := [(1, 74), (2, 90), (3, 116), (62, 142), (63, 156), (64, 162), (65, 188), (66, 194)]) (show xk 277 34 = (.lookupswitch 202 #[(1, 74), (2, 90), (3, 116), (62, 142), (63, 156), (64, 162), (65, 188), (66, 194)], 108, [], 0) by decide +kernel)).trans (congrArg (fun q => R (d + 1) 277 (q, [some (.ref 0), some (.int a1), some (.int a2), some (.int a3), some (.int a4), some (.int a5), none, none], [], sl, (RH I w A N))) (by decide +kernel))
set_option maxRecDepth 100000 in
theorem m277_34_c65 (d sl : Nat) (I : Nat → Int32) (w : Int64) (A : Nat → Nat → Int32) (N : Nat → Nat → Int64) (a1 : Int32) (a2 : Int32) (a3 : Int32) (a4 : Int32) (a5 : Int32)  :
  R (d + 1) 277 (34, [some (.ref 0), some (.int a1), some (.int a2), some (.int a3), some (.int a4), some (.int a5), none, none], .int (nI 65) :: [], sl, (RH I w A N)) = R (d + 1) 277 (222, [some (.ref 0), some (.int a1), some (.int a2), some (.int a3), some (.int a4), some (.int a5), none, none], [], sl, (RH I w A N)) :=
  (R_lsw (ps := [(1, 74), (2, 90), (3, 116), (62, 142), (63, 156), (64, 162), (65, 188), (66, 194)]) (show xk 277 34 = (.lookupswitch 202 #[(1, 74), (2, 90), (3, 116), (62, 142), (63, 156), (64, 162), (65, 188), (66, 194)], 108, [], 0) by decide +kernel)).trans (congrArg (fun q => R (d + 1) 277 (q, [some (.ref 0), some (.int a1), some (.int a2), some (.int a3), some (.int a4), some (.int a5), none, none], [], sl, (RH I w A N))) (by decide +kernel))
set_option maxRecDepth 100000 in
theorem m277_34_c66 (d sl : Nat) (I : Nat → Int32) (w : Int64) (A : Nat → Nat → Int32) (N : Nat → Nat → Int64) (a1 : Int32) (a2 : Int32) (a3 : Int32) (a4 : Int32) (a5 : Int32)  :
  R (d + 1) 277 (34, [some (.ref 0), some (.int a1), some (.int a2), some (.int a3), some (.int a4), some (.int a5), none, none], .int (nI 66) :: [], sl, (RH I w A N)) = R (d + 1) 277 (228, [some (.ref 0), some (.int a1), some (.int a2), some (.int a3), some (.int a4), some (.int a5), none, none], [], sl, (RH I w A N)) :=
  (R_lsw (ps := [(1, 74), (2, 90), (3, 116), (62, 142), (63, 156), (64, 162), (65, 188), (66, 194)]) (show xk 277 34 = (.lookupswitch 202 #[(1, 74), (2, 90), (3, 116), (62, 142), (63, 156), (64, 162), (65, 188), (66, 194)], 108, [], 0) by decide +kernel)).trans (congrArg (fun q => R (d + 1) 277 (q, [some (.ref 0), some (.int a1), some (.int a2), some (.int a3), some (.int a4), some (.int a5), none, none], [], sl, (RH I w A N))) (by decide +kernel))
set_option maxRecDepth 100000 in
theorem m277_236 (d sl : Nat) (I : Nat → Int32) (w : Int64) (A : Nat → Nat → Int32) (N : Nat → Nat → Int64) (a1 : Int32) (a2 : Int32) (a3 : Int32) (a4 : Int32) (a5 : Int32) :
  R (d + 1) 277 (236, [some (.ref 0), some (.int a1), some (.int a2), some (.int a3), some (.int a4), some (.int a5), none, none], [], sl, (RH I w A N)) =
    cond (x_in a3 369) (cond (!decide ((((A 2) a3.toNatClampNeg) - (nI 50)) = (nI 17))) (cond (!decide ((((A 2) a3.toNatClampNeg) - (nI 50)) = (nI 18))) (cond (!decide ((((A 2) a3.toNatClampNeg) - (nI 50)) = (nI 19))) (cond (x_in (a3 + (nI 3)) 369) (cond (!decide (((A 2) (a3 + (nI 3)).toNatClampNeg) = (nI 60))) (cond (x_in (a3 + (nI 3)) 369) (cond (!decide (((A 2) (a3 + (nI 3)).toNatClampNeg) = (nI 61))) (cond (decide (a2 ≤ a5)) (some (374, [some (.ref 0), some (.int a1), some (.int a2), some (.int a3), some (.int a4), some (.int a5), some (.int (((A 2) a3.toNatClampNeg) - (nI 50))), some (.int a2)], [.int (nI 0)], sl, (RH I w A N))) (some (374, [some (.ref 0), some (.int a1), some (.int a2), some (.int a3), some (.int a4), some (.int a5), some (.int (((A 2) a3.toNatClampNeg) - (nI 50))), some (.int a2)], [.int (nI 1)], sl, (RH I w A N)))) (cond (!decide (a2 = a5)) (some (374, [some (.ref 0), some (.int a1), some (.int a2), some (.int a3), some (.int a4), some (.int a5), some (.int (((A 2) a3.toNatClampNeg) - (nI 50))), some (.int a2)], [.int (nI 0)], sl, (RH I w A N))) (some (374, [some (.ref 0), some (.int a1), some (.int a2), some (.int a3), some (.int a4), some (.int a5), some (.int (((A 2) a3.toNatClampNeg) - (nI 50))), some (.int a2)], [.int (nI 1)], sl, (RH I w A N))))) none) (cond (decide (a5 ≤ a2)) (some (374, [some (.ref 0), some (.int a1), some (.int a2), some (.int a3), some (.int a4), some (.int a5), some (.int (((A 2) a3.toNatClampNeg) - (nI 50))), some (.int a2)], [.int (nI 0)], sl, (RH I w A N))) (some (374, [some (.ref 0), some (.int a1), some (.int a2), some (.int a3), some (.int a4), some (.int a5), some (.int (((A 2) a3.toNatClampNeg) - (nI 50))), some (.int a2)], [.int (nI 1)], sl, (RH I w A N))))) none) (cond (x_in ((nI 16) + a2) 369) (cond (x_in (a3 + (nI 3)) 369) (cond (!decide (((A 2) (a3 + (nI 3)).toNatClampNeg) = (nI 60))) (cond (x_in (a3 + (nI 3)) 369) (cond (!decide (((A 2) (a3 + (nI 3)).toNatClampNeg) = (nI 61))) (cond (decide (((A 2) ((nI 16) + a2).toNatClampNeg) ≤ a5)) (some (374, [some (.ref 0), some (.int a1), some (.int a2), some (.int a3), some (.int a4), some (.int a5), some (.int (((A 2) a3.toNatClampNeg) - (nI 50))), some (.int ((A 2) ((nI 16) + a2).toNatClampNeg))], [.int (nI 0)], sl, (RH I w A N))) (some (374, [some (.ref 0), some (.int a1), some (.int a2), some (.int a3), some (.int a4), some (.int a5), some (.int (((A 2) a3.toNatClampNeg) - (nI 50))), some (.int ((A 2) ((nI 16) + a2).toNatClampNeg))], [.int (nI 1)], sl, (RH I w A N)))) (cond (!decide (((A 2) ((nI 16) + a2).toNatClampNeg) = a5)) (some (374, [some (.ref 0), some (.int a1), some (.int a2), some (.int a3), some (.int a4), some (.int a5), some (.int (((A 2) a3.toNatClampNeg) - (nI 50))), some (.int ((A 2) ((nI 16) + a2).toNatClampNeg))], [.int (nI 0)], sl, (RH I w A N))) (some (374, [some (.ref 0), some (.int a1), some (.int a2), some (.int a3), some (.int a4), some (.int a5), some (.int (((A 2) a3.toNatClampNeg) - (nI 50))), some (.int ((A 2) ((nI 16) + a2).toNatClampNeg))], [.int (nI 1)], sl, (RH I w A N))))) none) (cond (decide (a5 ≤ ((A 2) ((nI 16) + a2).toNatClampNeg))) (some (374, [some (.ref 0), some (.int a1), some (.int a2), some (.int a3), some (.int a4), some (.int a5), some (.int (((A 2) a3.toNatClampNeg) - (nI 50))), some (.int ((A 2) ((nI 16) + a2).toNatClampNeg))], [.int (nI 0)], sl, (RH I w A N))) (some (374, [some (.ref 0), some (.int a1), some (.int a2), some (.int a3), some (.int a4), some (.int a5), some (.int (((A 2) a3.toNatClampNeg) - (nI 50))), some (.int ((A 2) ((nI 16) + a2).toNatClampNeg))], [.int (nI 1)], sl, (RH I w A N))))) none) none)) (bC (C d 201 [.ref 0, .int a2] sl (RH I w A N)) (fun vs sl h => R (d + 1) 277 (278, [some (.ref 0), some (.int a1), some (.int a2), some (.int a3), some (.int a4), some (.int a5), some (.int (((A 2) a3.toNatClampNeg) - (nI 50))), none], vs ++ [], sl, h)))) (cond (x_in ((nI 73) + a2) 369) (cond (x_in (a3 + (nI 3)) 369) (cond (!decide (((A 2) (a3 + (nI 3)).toNatClampNeg) = (nI 60))) (cond (x_in (a3 + (nI 3)) 369) (cond (!decide (((A 2) (a3 + (nI 3)).toNatClampNeg) = (nI 61))) (cond (decide (((A 2) ((nI 73) + a2).toNatClampNeg) ≤ a5)) (some (374, [some (.ref 0), some (.int a1), some (.int a2), some (.int a3), some (.int a4), some (.int a5), some (.int (((A 2) a3.toNatClampNeg) - (nI 50))), some (.int ((A 2) ((nI 73) + a2).toNatClampNeg))], [.int (nI 0)], sl, (RH I w A N))) (some (374, [some (.ref 0), some (.int a1), some (.int a2), some (.int a3), some (.int a4), some (.int a5), some (.int (((A 2) a3.toNatClampNeg) - (nI 50))), some (.int ((A 2) ((nI 73) + a2).toNatClampNeg))], [.int (nI 1)], sl, (RH I w A N)))) (cond (!decide (((A 2) ((nI 73) + a2).toNatClampNeg) = a5)) (some (374, [some (.ref 0), some (.int a1), some (.int a2), some (.int a3), some (.int a4), some (.int a5), some (.int (((A 2) a3.toNatClampNeg) - (nI 50))), some (.int ((A 2) ((nI 73) + a2).toNatClampNeg))], [.int (nI 0)], sl, (RH I w A N))) (some (374, [some (.ref 0), some (.int a1), some (.int a2), some (.int a3), some (.int a4), some (.int a5), some (.int (((A 2) a3.toNatClampNeg) - (nI 50))), some (.int ((A 2) ((nI 73) + a2).toNatClampNeg))], [.int (nI 1)], sl, (RH I w A N))))) none) (cond (decide (a5 ≤ ((A 2) ((nI 73) + a2).toNatClampNeg))) (some (374, [some (.ref 0), some (.int a1), some (.int a2), some (.int a3), some (.int a4), some (.int a5), some (.int (((A 2) a3.toNatClampNeg) - (nI 50))), some (.int ((A 2) ((nI 73) + a2).toNatClampNeg))], [.int (nI 0)], sl, (RH I w A N))) (some (374, [some (.ref 0), some (.int a1), some (.int a2), some (.int a3), some (.int a4), some (.int a5), some (.int (((A 2) a3.toNatClampNeg) - (nI 50))), some (.int ((A 2) ((nI 73) + a2).toNatClampNeg))], [.int (nI 1)], sl, (RH I w A N))))) none) none)) none :=
  (R_gob [34, 108, 115, 124, 131, 141, 150, 157, 167, 176, 181, 190, 195, 196, 201, 204, 222, 227, 228, 235, 236, 278, 281] 400 _ _ _).trans rfl
set_option maxRecDepth 100000 in
theorem m277_108 (d sl : Nat) (I : Nat → Int32) (w : Int64) (A : Nat → Nat → Int32) (N : Nat → Nat → Int64) (a1 : Int32) (a2 : Int32) (a3 : Int32) (a4 : Int32) (a5 : Int32) :
  R (d + 1) 277 (108, [some (.ref 0), some (.int a1), some (.int a2), some (.int a3), some (.int a4), some (.int a5), none, none], [], sl, (RH I w A N)) =
    bC (C d 277 [.ref 0, .int a4, .int a2] sl (RH I w A N)) (fun vs sl h => R (d + 1) 277 (115, [some (.ref 0), some (.int a1), some (.int a2), some (.int a3), some (.int a4), some (.int a5), none, none], vs ++ [], sl, h)) :=
  (R_gob [34, 108, 115, 124, 131, 141, 150, 157, 167, 176, 181, 190, 195, 196, 201, 204, 222, 227, 228, 235, 236, 278, 281] 400 _ _ _).trans rfl
set_option maxRecDepth 100000 in
theorem m277_124 (d sl : Nat) (I : Nat → Int32) (w : Int64) (A : Nat → Nat → Int32) (N : Nat → Nat → Int64) (a1 : Int32) (a2 : Int32) (a3 : Int32) (a4 : Int32) (a5 : Int32) :
  R (d + 1) 277 (124, [some (.ref 0), some (.int a1), some (.int a2), some (.int a3), some (.int a4), some (.int a5), none, none], [], sl, (RH I w A N)) =
    bC (C d 277 [.ref 0, .int a4, .int a2] sl (RH I w A N)) (fun vs sl h => R (d + 1) 277 (131, [some (.ref 0), some (.int a1), some (.int a2), some (.int a3), some (.int a4), some (.int a5), none, none], vs ++ [], sl, h)) :=
  (R_gob [34, 108, 115, 124, 131, 141, 150, 157, 167, 176, 181, 190, 195, 196, 201, 204, 222, 227, 228, 235, 236, 278, 281] 400 _ _ _).trans rfl
set_option maxRecDepth 100000 in
theorem m277_150 (d sl : Nat) (I : Nat → Int32) (w : Int64) (A : Nat → Nat → Int32) (N : Nat → Nat → Int64) (a1 : Int32) (a2 : Int32) (a3 : Int32) (a4 : Int32) (a5 : Int32) :
  R (d + 1) 277 (150, [some (.ref 0), some (.int a1), some (.int a2), some (.int a3), some (.int a4), some (.int a5), none, none], [], sl, (RH I w A N)) =
    bC (C d 277 [.ref 0, .int a4, .int a2] sl (RH I w A N)) (fun vs sl h => R (d + 1) 277 (157, [some (.ref 0), some (.int a1), some (.int a2), some (.int a3), some (.int a4), some (.int a5), none, none], vs ++ [], sl, h)) :=
  (R_gob [34, 108, 115, 124, 131, 141, 150, 157, 167, 176, 181, 190, 195, 196, 201, 204, 222, 227, 228, 235, 236, 278, 281] 400 _ _ _).trans rfl
set_option maxRecDepth 100000 in
theorem m277_176 (d sl : Nat) (I : Nat → Int32) (w : Int64) (A : Nat → Nat → Int32) (N : Nat → Nat → Int64) (a1 : Int32) (a2 : Int32) (a3 : Int32) (a4 : Int32) (a5 : Int32) :
  R (d + 1) 277 (176, [some (.ref 0), some (.int a1), some (.int a2), some (.int a3), some (.int a4), some (.int a5), none, none], [], sl, (RH I w A N)) =
    bC (C d 201 [.ref 0, .int a2] sl (RH I w A N)) (fun vs sl h => R (d + 1) 277 (181, [some (.ref 0), some (.int a1), some (.int a2), some (.int a3), some (.int a4), some (.int a5), none, none], vs ++ [], sl, h)) :=
  (R_gob [34, 108, 115, 124, 131, 141, 150, 157, 167, 176, 181, 190, 195, 196, 201, 204, 222, 227, 228, 235, 236, 278, 281] 400 _ _ _).trans rfl
set_option maxRecDepth 100000 in
theorem m277_190 (d sl : Nat) (I : Nat → Int32) (w : Int64) (A : Nat → Nat → Int32) (N : Nat → Nat → Int64) (a1 : Int32) (a2 : Int32) (a3 : Int32) (a4 : Int32) (a5 : Int32) :
  R (d + 1) 277 (190, [some (.ref 0), some (.int a1), some (.int a2), some (.int a3), some (.int a4), some (.int a5), none, none], [], sl, (RH I w A N)) =
    bC (C d 204 [.ref 0, .int a2] sl (RH I w A N)) (fun vs sl h => R (d + 1) 277 (195, [some (.ref 0), some (.int a1), some (.int a2), some (.int a3), some (.int a4), some (.int a5), none, none], vs ++ [], sl, h)) :=
  (R_gob [34, 108, 115, 124, 131, 141, 150, 157, 167, 176, 181, 190, 195, 196, 201, 204, 222, 227, 228, 235, 236, 278, 281] 400 _ _ _).trans rfl
set_option maxRecDepth 100000 in
theorem m277_196 (d sl : Nat) (I : Nat → Int32) (w : Int64) (A : Nat → Nat → Int32) (N : Nat → Nat → Int64) (a1 : Int32) (a2 : Int32) (a3 : Int32) (a4 : Int32) (a5 : Int32) :
  R (d + 1) 277 (196, [some (.ref 0), some (.int a1), some (.int a2), some (.int a3), some (.int a4), some (.int a5), none, none], [], sl, (RH I w A N)) =
    bC (C d 201 [.ref 0, .int a2] sl (RH I w A N)) (fun vs sl h => R (d + 1) 277 (201, [some (.ref 0), some (.int a1), some (.int a2), some (.int a3), some (.int a4), some (.int a5), none, none], vs ++ [], sl, h)) :=
  (R_gob [34, 108, 115, 124, 131, 141, 150, 157, 167, 176, 181, 190, 195, 196, 201, 204, 222, 227, 228, 235, 236, 278, 281] 400 _ _ _).trans rfl
set_option maxRecDepth 100000 in
theorem m277_222 (d sl : Nat) (I : Nat → Int32) (w : Int64) (A : Nat → Nat → Int32) (N : Nat → Nat → Int64) (a1 : Int32) (a2 : Int32) (a3 : Int32) (a4 : Int32) (a5 : Int32) :
  R (d + 1) 277 (222, [some (.ref 0), some (.int a1), some (.int a2), some (.int a3), some (.int a4), some (.int a5), none, none], [], sl, (RH I w A N)) =
    bC (C d 212 [.ref 0, .int a2] sl (RH I w A N)) (fun vs sl h => R (d + 1) 277 (227, [some (.ref 0), some (.int a1), some (.int a2), some (.int a3), some (.int a4), some (.int a5), none, none], vs ++ [], sl, h)) :=
  (R_gob [34, 108, 115, 124, 131, 141, 150, 157, 167, 176, 181, 190, 195, 196, 201, 204, 222, 227, 228, 235, 236, 278, 281] 400 _ _ _).trans rfl
set_option maxRecDepth 100000 in
theorem m277_228 (d sl : Nat) (I : Nat → Int32) (w : Int64) (A : Nat → Nat → Int32) (N : Nat → Nat → Int64) (a1 : Int32) (a2 : Int32) (a3 : Int32) (a4 : Int32) (a5 : Int32) :
  R (d + 1) 277 (228, [some (.ref 0), some (.int a1), some (.int a2), some (.int a3), some (.int a4), some (.int a5), none, none], [], sl, (RH I w A N)) =
    bC (C d 210 [.ref 0, .int a2, .int a4] sl (RH I w A N)) (fun vs sl h => R (d + 1) 277 (235, [some (.ref 0), some (.int a1), some (.int a2), some (.int a3), some (.int a4), some (.int a5), none, none], vs ++ [], sl, h)) :=
  (R_gob [34, 108, 115, 124, 131, 141, 150, 157, 167, 176, 181, 190, 195, 196, 201, 204, 222, 227, 228, 235, 236, 278, 281] 400 _ _ _).trans rfl
set_option maxRecDepth 100000 in
theorem m277_278 (d sl : Nat) (I : Nat → Int32) (w : Int64) (A : Nat → Nat → Int32) (N : Nat → Nat → Int64) (a1 : Int32) (a2 : Int32) (a3 : Int32) (a4 : Int32) (a5 : Int32) (a6 : Int32) (b0 : Int32) :
  R (d + 1) 277 (278, [some (.ref 0), some (.int a1), some (.int a2), some (.int a3), some (.int a4), some (.int a5), some (.int a6), none], [.int b0], sl, (RH I w A N)) =
    bC (C d 168 [.int b0] sl (RH I w A N)) (fun vs sl h => R (d + 1) 277 (281, [some (.ref 0), some (.int a1), some (.int a2), some (.int a3), some (.int a4), some (.int a5), some (.int a6), none], vs ++ [], sl, h)) :=
  (R_gob [34, 108, 115, 124, 131, 141, 150, 157, 167, 176, 181, 190, 195, 196, 201, 204, 222, 227, 228, 235, 236, 278, 281] 400 _ _ _).trans rfl
set_option maxRecDepth 100000 in
theorem m277_115 (d sl : Nat) (I : Nat → Int32) (w : Int64) (A : Nat → Nat → Int32) (N : Nat → Nat → Int64) (a1 : Int32) (a2 : Int32) (a3 : Int32) (a4 : Int32) (a5 : Int32) (b0 : Int32) :
  R (d + 1) 277 (115, [some (.ref 0), some (.int a1), some (.int a2), some (.int a3), some (.int a4), some (.int a5), none, none], [.int b0], sl, (RH I w A N)) =
    cond (!decide (b0 = (nI 0))) (some (123, [some (.ref 0), some (.int a1), some (.int a2), some (.int a3), some (.int a4), some (.int a5), none, none], [.int (nI 0)], sl, (RH I w A N))) (some (123, [some (.ref 0), some (.int a1), some (.int a2), some (.int a3), some (.int a4), some (.int a5), none, none], [.int (nI 1)], sl, (RH I w A N))) :=
  (R_gob [34, 108, 115, 124, 131, 141, 150, 157, 167, 176, 181, 190, 195, 196, 201, 204, 222, 227, 228, 235, 236, 278, 281] 400 _ _ _).trans rfl
set_option maxRecDepth 100000 in
theorem m277_131 (d sl : Nat) (I : Nat → Int32) (w : Int64) (A : Nat → Nat → Int32) (N : Nat → Nat → Int64) (a1 : Int32) (a2 : Int32) (a3 : Int32) (a4 : Int32) (a5 : Int32) (b0 : Int32) :
  R (d + 1) 277 (131, [some (.ref 0), some (.int a1), some (.int a2), some (.int a3), some (.int a4), some (.int a5), none, none], [.int b0], sl, (RH I w A N)) =
    cond (decide (b0 = (nI 0))) (some (149, [some (.ref 0), some (.int a1), some (.int a2), some (.int a3), some (.int a4), some (.int a5), none, none], [.int (nI 0)], sl, (RH I w A N))) (bC (C d 277 [.ref 0, .int a5, .int a2] sl (RH I w A N)) (fun vs sl h => R (d + 1) 277 (141, [some (.ref 0), some (.int a1), some (.int a2), some (.int a3), some (.int a4), some (.int a5), none, none], vs ++ [], sl, h))) :=
  (R_gob [34, 108, 115, 124, 131, 141, 150, 157, 167, 176, 181, 190, 195, 196, 201, 204, 222, 227, 228, 235, 236, 278, 281] 400 _ _ _).trans rfl
set_option maxRecDepth 100000 in
theorem m277_157 (d sl : Nat) (I : Nat → Int32) (w : Int64) (A : Nat → Nat → Int32) (N : Nat → Nat → Int64) (a1 : Int32) (a2 : Int32) (a3 : Int32) (a4 : Int32) (a5 : Int32) (b0 : Int32) :
  R (d + 1) 277 (157, [some (.ref 0), some (.int a1), some (.int a2), some (.int a3), some (.int a4), some (.int a5), none, none], [.int b0], sl, (RH I w A N)) =
    cond (!decide (b0 = (nI 0))) (some (175, [some (.ref 0), some (.int a1), some (.int a2), some (.int a3), some (.int a4), some (.int a5), none, none], [.int (nI 1)], sl, (RH I w A N))) (bC (C d 277 [.ref 0, .int a5, .int a2] sl (RH I w A N)) (fun vs sl h => R (d + 1) 277 (167, [some (.ref 0), some (.int a1), some (.int a2), some (.int a3), some (.int a4), some (.int a5), none, none], vs ++ [], sl, h))) :=
  (R_gob [34, 108, 115, 124, 131, 141, 150, 157, 167, 176, 181, 190, 195, 196, 201, 204, 222, 227, 228, 235, 236, 278, 281] 400 _ _ _).trans rfl
set_option maxRecDepth 100000 in
theorem m277_181 (d sl : Nat) (I : Nat → Int32) (w : Int64) (A : Nat → Nat → Int32) (N : Nat → Nat → Int64) (a1 : Int32) (a2 : Int32) (a3 : Int32) (a4 : Int32) (a5 : Int32) (b0 : Int32) :
  R (d + 1) 277 (181, [some (.ref 0), some (.int a1), some (.int a2), some (.int a3), some (.int a4), some (.int a5), none, none], [.int b0], sl, (RH I w A N)) =
    cond (!decide (b0 = (nI 0))) (some (189, [some (.ref 0), some (.int a1), some (.int a2), some (.int a3), some (.int a4), some (.int a5), none, none], [.int (nI 0)], sl, (RH I w A N))) (some (189, [some (.ref 0), some (.int a1), some (.int a2), some (.int a3), some (.int a4), some (.int a5), none, none], [.int (nI 1)], sl, (RH I w A N))) :=
  (R_gob [34, 108, 115, 124, 131, 141, 150, 157, 167, 176, 181, 190, 195, 196, 201, 204, 222, 227, 228, 235, 236, 278, 281] 400 _ _ _).trans rfl
set_option maxRecDepth 100000 in
theorem m277_195 (d sl : Nat) (I : Nat → Int32) (w : Int64) (A : Nat → Nat → Int32) (N : Nat → Nat → Int64) (a1 : Int32) (a2 : Int32) (a3 : Int32) (a4 : Int32) (a5 : Int32) (b0 : Int32) :
  R (d + 1) 277 (195, [some (.ref 0), some (.int a1), some (.int a2), some (.int a3), some (.int a4), some (.int a5), none, none], [.int b0], sl, (RH I w A N)) =
    some (195, [some (.ref 0), some (.int a1), some (.int a2), some (.int a3), some (.int a4), some (.int a5), none, none], [.int b0], sl, (RH I w A N)) :=
  (R_gob [34, 108, 115, 124, 131, 141, 150, 157, 167, 176, 181, 190, 195, 196, 201, 204, 222, 227, 228, 235, 236, 278, 281] 400 _ _ _).trans rfl
set_option maxRecDepth 100000 in
theorem m277_201 (d sl : Nat) (I : Nat → Int32) (w : Int64) (A : Nat → Nat → Int32) (N : Nat → Nat → Int64) (a1 : Int32) (a2 : Int32) (a3 : Int32) (a4 : Int32) (a5 : Int32) (b0 : Int32) :
  R (d + 1) 277 (201, [some (.ref 0), some (.int a1), some (.int a2), some (.int a3), some (.int a4), some (.int a5), none, none], [.int b0], sl, (RH I w A N)) =
    bC (C d 168 [.int b0] sl (RH I w A N)) (fun vs sl h => R (d + 1) 277 (204, [some (.ref 0), some (.int a1), some (.int a2), some (.int a3), some (.int a4), some (.int a5), none, none], vs ++ [], sl, h)) :=
  (R_gob [34, 108, 115, 124, 131, 141, 150, 157, 167, 176, 181, 190, 195, 196, 201, 204, 222, 227, 228, 235, 236, 278, 281] 400 _ _ _).trans rfl
set_option maxRecDepth 100000 in
theorem m277_227 (d sl : Nat) (I : Nat → Int32) (w : Int64) (A : Nat → Nat → Int32) (N : Nat → Nat → Int64) (a1 : Int32) (a2 : Int32) (a3 : Int32) (a4 : Int32) (a5 : Int32) (b0 : Int32) :
  R (d + 1) 277 (227, [some (.ref 0), some (.int a1), some (.int a2), some (.int a3), some (.int a4), some (.int a5), none, none], [.int b0], sl, (RH I w A N)) =
    some (227, [some (.ref 0), some (.int a1), some (.int a2), some (.int a3), some (.int a4), some (.int a5), none, none], [.int b0], sl, (RH I w A N)) :=
  (R_gob [34, 108, 115, 124, 131, 141, 150, 157, 167, 176, 181, 190, 195, 196, 201, 204, 222, 227, 228, 235, 236, 278, 281] 400 _ _ _).trans rfl
set_option maxRecDepth 100000 in
theorem m277_235 (d sl : Nat) (I : Nat → Int32) (w : Int64) (A : Nat → Nat → Int32) (N : Nat → Nat → Int64) (a1 : Int32) (a2 : Int32) (a3 : Int32) (a4 : Int32) (a5 : Int32) (b0 : Int32) :
  R (d + 1) 277 (235, [some (.ref 0), some (.int a1), some (.int a2), some (.int a3), some (.int a4), some (.int a5), none, none], [.int b0], sl, (RH I w A N)) =
    some (235, [some (.ref 0), some (.int a1), some (.int a2), some (.int a3), some (.int a4), some (.int a5), none, none], [.int b0], sl, (RH I w A N)) :=
  (R_gob [34, 108, 115, 124, 131, 141, 150, 157, 167, 176, 181, 190, 195, 196, 201, 204, 222, 227, 228, 235, 236, 278, 281] 400 _ _ _).trans rfl
set_option maxRecDepth 100000 in
theorem m277_281 (d sl : Nat) (I : Nat → Int32) (w : Int64) (A : Nat → Nat → Int32) (N : Nat → Nat → Int64) (a1 : Int32) (a2 : Int32) (a3 : Int32) (a4 : Int32) (a5 : Int32) (a6 : Int32) (b0 : Int32) :
  R (d + 1) 277 (281, [some (.ref 0), some (.int a1), some (.int a2), some (.int a3), some (.int a4), some (.int a5), some (.int a6), none], [.int b0], sl, (RH I w A N)) =
    cond (x_in (a3 + (nI 3)) 369) (cond (!decide (((A 2) (a3 + (nI 3)).toNatClampNeg) = (nI 60))) (cond (x_in (a3 + (nI 3)) 369) (cond (!decide (((A 2) (a3 + (nI 3)).toNatClampNeg) = (nI 61))) (cond (decide (b0 ≤ a5)) (some (374, [some (.ref 0), some (.int a1), some (.int a2), some (.int a3), some (.int a4), some (.int a5), some (.int a6), some (.int b0)], [.int (nI 0)], sl, (RH I w A N))) (some (374, [some (.ref 0), some (.int a1), some (.int a2), some (.int a3), some (.int a4), some (.int a5), some (.int a6), some (.int b0)], [.int (nI 1)], sl, (RH I w A N)))) (cond (!decide (b0 = a5)) (some (374, [some (.ref 0), some (.int a1), some (.int a2), some (.int a3), some (.int a4), some (.int a5), some (.int a6), some (.int b0)], [.int (nI 0)], sl, (RH I w A N))) (some (374, [some (.ref 0), some (.int a1), some (.int a2), some (.int a3), some (.int a4), some (.int a5), some (.int a6), some (.int b0)], [.int (nI 1)], sl, (RH I w A N))))) none) (cond (decide (a5 ≤ b0)) (some (374, [some (.ref 0), some (.int a1), some (.int a2), some (.int a3), some (.int a4), some (.int a5), some (.int a6), some (.int b0)], [.int (nI 0)], sl, (RH I w A N))) (some (374, [some (.ref 0), some (.int a1), some (.int a2), some (.int a3), some (.int a4), some (.int a5), some (.int a6), some (.int b0)], [.int (nI 1)], sl, (RH I w A N))))) none :=
  (R_gob [34, 108, 115, 124, 131, 141, 150, 157, 167, 176, 181, 190, 195, 196, 201, 204, 222, 227, 228, 235, 236, 278, 281] 400 _ _ _).trans rfl
set_option maxRecDepth 100000 in
theorem m277_141 (d sl : Nat) (I : Nat → Int32) (w : Int64) (A : Nat → Nat → Int32) (N : Nat → Nat → Int64) (a1 : Int32) (a2 : Int32) (a3 : Int32) (a4 : Int32) (a5 : Int32) (b0 : Int32) :
  R (d + 1) 277 (141, [some (.ref 0), some (.int a1), some (.int a2), some (.int a3), some (.int a4), some (.int a5), none, none], [.int b0], sl, (RH I w A N)) =
    cond (decide (b0 = (nI 0))) (some (149, [some (.ref 0), some (.int a1), some (.int a2), some (.int a3), some (.int a4), some (.int a5), none, none], [.int (nI 0)], sl, (RH I w A N))) (some (149, [some (.ref 0), some (.int a1), some (.int a2), some (.int a3), some (.int a4), some (.int a5), none, none], [.int (nI 1)], sl, (RH I w A N))) :=
  (R_gob [34, 108, 115, 124, 131, 141, 150, 157, 167, 176, 181, 190, 195, 196, 201, 204, 222, 227, 228, 235, 236, 278, 281] 400 _ _ _).trans rfl
set_option maxRecDepth 100000 in
theorem m277_167 (d sl : Nat) (I : Nat → Int32) (w : Int64) (A : Nat → Nat → Int32) (N : Nat → Nat → Int64) (a1 : Int32) (a2 : Int32) (a3 : Int32) (a4 : Int32) (a5 : Int32) (b0 : Int32) :
  R (d + 1) 277 (167, [some (.ref 0), some (.int a1), some (.int a2), some (.int a3), some (.int a4), some (.int a5), none, none], [.int b0], sl, (RH I w A N)) =
    cond (decide (b0 = (nI 0))) (some (175, [some (.ref 0), some (.int a1), some (.int a2), some (.int a3), some (.int a4), some (.int a5), none, none], [.int (nI 0)], sl, (RH I w A N))) (some (175, [some (.ref 0), some (.int a1), some (.int a2), some (.int a3), some (.int a4), some (.int a5), none, none], [.int (nI 1)], sl, (RH I w A N))) :=
  (R_gob [34, 108, 115, 124, 131, 141, 150, 157, 167, 176, 181, 190, 195, 196, 201, 204, 222, 227, 228, 235, 236, 278, 281] 400 _ _ _).trans rfl
set_option maxRecDepth 100000 in
theorem m277_204 (d sl : Nat) (I : Nat → Int32) (w : Int64) (A : Nat → Nat → Int32) (N : Nat → Nat → Int64) (a1 : Int32) (a2 : Int32) (a3 : Int32) (a4 : Int32) (a5 : Int32) (b0 : Int32) :
  R (d + 1) 277 (204, [some (.ref 0), some (.int a1), some (.int a2), some (.int a3), some (.int a4), some (.int a5), none, none], [.int b0], sl, (RH I w A N)) =
    cond (x_in ((nI 16) + a2) 369) (cond (decide (b0 < ((A 2) ((nI 16) + a2).toNatClampNeg))) (some (221, [some (.ref 0), some (.int a1), some (.int a2), some (.int a3), some (.int a4), some (.int a5), none, none], [.int (nI 0)], sl, (RH I w A N))) (some (221, [some (.ref 0), some (.int a1), some (.int a2), some (.int a3), some (.int a4), some (.int a5), none, none], [.int (nI 1)], sl, (RH I w A N)))) none :=
  (R_gob [34, 108, 115, 124, 131, 141, 150, 157, 167, 176, 181, 190, 195, 196, 201, 204, 222, 227, 228, 235, 236, 278, 281] 400 _ _ _).trans rfl
set_option maxRecDepth 100000 in
theorem m278_0 (d sl : Nat) (I : Nat → Int32) (w : Int64) (A : Nat → Nat → Int32) (N : Nat → Nat → Int64) (a1 : Int32) :
  R (d + 1) 278 (0, [some (.ref 0), some (.int a1), none, none], [], sl, (RH I w A N)) =
    cond (!decide (((A 2) 127) = (nI 0))) (R (d + 1) 278 (21, [some (.ref 0), some (.int a1), some (.int (nI 0)), some (.int (nI 0))], [], sl, (RH (up1 I 0 (nI 0)) w A N))) (some (16, [some (.ref 0), some (.int a1), none, none], [.int (-1 : Int32)], sl, (RH (up1 I 0 (nI 0)) w A N))) :=
  (R_gob [21, 44] 400 _ _ _).trans rfl
set_option maxRecDepth 100000 in
theorem m278_21 (d sl : Nat) (I : Nat → Int32) (w : Int64) (A : Nat → Nat → Int32) (N : Nat → Nat → Int64) (a1 : Int32) (a2 : Int32) (a3 : Int32) :
  R (d + 1) 278 (21, [some (.ref 0), some (.int a1), some (.int a2), some (.int a3)], [], sl, (RH I w A N)) =
    cond (decide (((A 2) 0) ≤ a3)) (cond (!decide (a1 = (-1 : Int32))) (some (76, [some (.ref 0), some (.int a1), some (.int a2), some (.int a3)], [.int (-1 : Int32)], sl, (RH I w A N))) (some (76, [some (.ref 0), some (.int a1), some (.int a2), some (.int a3)], [.int a2], sl, (RH I w A N)))) (bC (C d 277 [.ref 0, .int ((A 2) 128), .int a3] sl (RH I w A N)) (fun vs sl h => R (d + 1) 278 (44, [some (.ref 0), some (.int a1), some (.int a2), some (.int a3)], vs ++ [], sl, h))) :=
  (R_gob [21, 44] 400 _ _ _).trans rfl
set_option maxRecDepth 100000 in
theorem m278_44 (d sl : Nat) (I : Nat → Int32) (w : Int64) (A : Nat → Nat → Int32) (N : Nat → Nat → Int64) (a1 : Int32) (a2 : Int32) (a3 : Int32) (b0 : Int32) :
  R (d + 1) 278 (44, [some (.ref 0), some (.int a1), some (.int a2), some (.int a3)], [.int b0], sl, (RH I w A N)) =
    cond (!decide (b0 = (nI 0))) (cond (!decide (a2 = a1)) (R (d + 1) 278 (21, [some (.ref 0), some (.int a1), some (.int (a2 + (nI 1))), some (.int (a3 + (nI 1)))], [], sl, (RH I w A N))) (some (56, [some (.ref 0), some (.int a1), some (.int a2), some (.int a3)], [.int a3], sl, (RH I w A N)))) (R (d + 1) 278 (21, [some (.ref 0), some (.int a1), some (.int a2), some (.int (a3 + (nI 1)))], [], sl, (RH I w A N))) :=
  (R_gob [21, 44] 400 _ _ _).trans rfl
set_option maxRecDepth 100000 in
theorem m279_0 (d sl : Nat) (I : Nat → Int32) (w : Int64) (A : Nat → Nat → Int32) (N : Nat → Nat → Int64) (a1 : Int32) :
  R (d + 1) 279 (0, [some (.ref 0), some (.int a1), none], [], sl, (RH I w A N)) =
    bC (C d 166 [.int a1, .int (nI 0), .int (nI 1)] sl (RH (up1 I 0 (nI 0)) w A N)) (fun vs sl h => R (d + 1) 279 (11, [some (.ref 0), some (.int a1), none], vs ++ [], sl, h)) :=
  (R_gob [11, 18, 51] 400 _ _ _).trans rfl
set_option maxRecDepth 100000 in
theorem m279_11 (d sl : Nat) (I : Nat → Int32) (w : Int64) (A : Nat → Nat → Int32) (N : Nat → Nat → Int64) (a1 : Int32) (b0 : Int32) :
  R (d + 1) 279 (11, [some (.ref 0), some (.int a1), none], [.int b0], sl, (RH I w A N)) =
    cond (!decide (b0 = (nI 0))) (R (d + 1) 279 (18, [some (.ref 0), some (.int a1), some (.int (nI 0))], [], sl, (RH I w A N))) (some (15, [some (.ref 0), some (.int a1), none], [.int (nI 0)], sl, (RH I w A N))) :=
  (R_gob [11, 18, 51] 400 _ _ _).trans rfl
set_option maxRecDepth 100000 in
theorem m279_18 (d sl : Nat) (I : Nat → Int32) (w : Int64) (A : Nat → Nat → Int32) (N : Nat → Nat → Int64) (a1 : Int32) (a2 : Int32) :
  R (d + 1) 279 (18, [some (.ref 0), some (.int a1), some (.int a2)], [], sl, (RH I w A N)) =
    cond (decide ((nI 369) ≤ a2)) (R (d + 1) 279 (51, [some (.ref 0), some (.int a1), some (.int (nI 0))], [], sl, (RH I w A N))) (cond (x_in a2 369) (cond (x_in (((nI 369) * a1) + a2) 738) (R (d + 1) 279 (18, [some (.ref 0), some (.int a1), some (.int (a2 + (nI 1)))], [], sl, (RH I w (up1 A 4 (upd (A 4) (((nI 369) * a1) + a2).toNatClampNeg ((A 2) a2.toNatClampNeg))) N))) none) none) :=
  (R_gob [11, 18, 51] 400 _ _ _).trans rfl
set_option maxRecDepth 100000 in
theorem m279_51 (d sl : Nat) (I : Nat → Int32) (w : Int64) (A : Nat → Nat → Int32) (N : Nat → Nat → Int64) (a1 : Int32) (a2 : Int32) :
  R (d + 1) 279 (51, [some (.ref 0), some (.int a1), some (.int a2)], [], sl, (RH I w A N)) =
    cond (decide ((nI 6) ≤ a2)) (cond (x_in a1 2) (some (88, [some (.ref 0), some (.int a1), some (.int a2)], [.int (nI 1)], sl, (RH I w (up1 A 10 (upd (A 10) a1.toNatClampNeg (vp_nar .boolean (nI 1)))) N))) none) (cond (x_in a2 6) (cond (x_in (((nI 6) * a1) + a2) 12) (R (d + 1) 279 (51, [some (.ref 0), some (.int a1), some (.int (a2 + (nI 1)))], [], sl, (RH I w A (up1 N 9 (vp_updL (N 9) (((nI 6) * a1) + a2).toNatClampNeg ((N 7) a2.toNatClampNeg)))))) none) none) :=
  (R_gob [11, 18, 51] 400 _ _ _).trans rfl
set_option maxRecDepth 100000 in
theorem m280_0 (d sl : Nat) (I : Nat → Int32) (w : Int64) (A : Nat → Nat → Int32) (N : Nat → Nat → Int64) (a1 : Int32) :
  R (d + 1) 280 (0, [some (.ref 0), some (.int a1), none], [], sl, (RH I w A N)) =
    bC (C d 166 [.int a1, .int (nI 0), .int (nI 1)] sl (RH (up1 I 0 (nI 0)) w A N)) (fun vs sl h => R (d + 1) 280 (11, [some (.ref 0), some (.int a1), none], vs ++ [], sl, h)) :=
  (R_gob [11, 27, 60] 400 _ _ _).trans rfl
set_option maxRecDepth 100000 in
theorem m280_11 (d sl : Nat) (I : Nat → Int32) (w : Int64) (A : Nat → Nat → Int32) (N : Nat → Nat → Int64) (a1 : Int32) (b0 : Int32) :
  R (d + 1) 280 (11, [some (.ref 0), some (.int a1), none], [.int b0], sl, (RH I w A N)) =
    cond (decide (b0 = (nI 0))) (some (24, [some (.ref 0), some (.int a1), none], [.int (nI 0)], sl, (RH I w A N))) (cond (x_in a1 2) (cond (!decide (((A 10) a1.toNatClampNeg) = (nI 0))) (R (d + 1) 280 (27, [some (.ref 0), some (.int a1), some (.int (nI 0))], [], sl, (RH I w A N))) (some (24, [some (.ref 0), some (.int a1), none], [.int (nI 0)], sl, (RH I w A N)))) none) :=
  (R_gob [11, 27, 60] 400 _ _ _).trans rfl
set_option maxRecDepth 100000 in
theorem m280_27 (d sl : Nat) (I : Nat → Int32) (w : Int64) (A : Nat → Nat → Int32) (N : Nat → Nat → Int64) (a1 : Int32) (a2 : Int32) :
  R (d + 1) 280 (27, [some (.ref 0), some (.int a1), some (.int a2)], [], sl, (RH I w A N)) =
    cond (decide ((nI 369) ≤ a2)) (R (d + 1) 280 (60, [some (.ref 0), some (.int a1), some (.int (nI 0))], [], sl, (RH I w A N))) (cond (x_in (((nI 369) * a1) + a2) 738) (cond (x_in a2 369) (R (d + 1) 280 (27, [some (.ref 0), some (.int a1), some (.int (a2 + (nI 1)))], [], sl, (RH I w (up1 A 2 (upd (A 2) a2.toNatClampNeg ((A 4) (((nI 369) * a1) + a2).toNatClampNeg))) N))) none) none) :=
  (R_gob [11, 27, 60] 400 _ _ _).trans rfl
set_option maxRecDepth 100000 in
theorem m280_60 (d sl : Nat) (I : Nat → Int32) (w : Int64) (A : Nat → Nat → Int32) (N : Nat → Nat → Int64) (a1 : Int32) (a2 : Int32) :
  R (d + 1) 280 (60, [some (.ref 0), some (.int a1), some (.int a2)], [], sl, (RH I w A N)) =
    cond (decide ((nI 6) ≤ a2)) (some (95, [some (.ref 0), some (.int a1), some (.int a2)], [.int (nI 1)], sl, (RH (up1 I 24 (nI 0)) w A N))) (cond (x_in (((nI 6) * a1) + a2) 12) (cond (x_in a2 6) (R (d + 1) 280 (60, [some (.ref 0), some (.int a1), some (.int (a2 + (nI 1)))], [], sl, (RH I w A (up1 N 7 (vp_updL (N 7) a2.toNatClampNeg ((N 9) (((nI 6) * a1) + a2).toNatClampNeg)))))) none) none) :=
  (R_gob [11, 27, 60] 400 _ _ _).trans rfl
set_option maxRecDepth 100000 in
theorem m281_0 (d sl : Nat) (I : Nat → Int32) (w : Int64) (A : Nat → Nat → Int32) (N : Nat → Nat → Int64) (a1 : Int32) :
  R d 281 (0, [some (.ref 0), some (.int a1)], [], sl, (RH I w A N)) =
    R d 281 (6, [some (.ref 0), some (.int a1)], [.int a1], sl, (RH (up1 I 0 (nI 0)) w A N)) :=
  (R_gob [6] 400 _ _ _).trans rfl
set_option maxRecDepth 100000 in
theorem m281_6_out (d sl : Nat) (I : Nat → Int32) (w : Int64) (A : Nat → Nat → Int32) (N : Nat → Nat → Int64) (a1 : Int32) (x : Int32) (hx : (decide (x.toInt < (0)) || decide ((4) < x.toInt)) = true) :
  R d 281 (6, [some (.ref 0), some (.int a1)], .int x :: [], sl, (RH I w A N)) = R d 281 (74, [some (.ref 0), some (.int a1)], [], sl, (RH I w A N)) :=
  (R_tsw (show xk 281 6 = (.tableswitch 68 0 4 #[34, 41, 49, 56, 63], 40, [], 0) by decide +kernel)).trans (congrArg (fun q => R d 281 (q, [some (.ref 0), some (.int a1)], [], sl, (RH I w A N))) ((x_tsw_out hx).trans (by decide +kernel)))
set_option maxRecDepth 100000 in
theorem m281_6_c0 (d sl : Nat) (I : Nat → Int32) (w : Int64) (A : Nat → Nat → Int32) (N : Nat → Nat → Int64) (a1 : Int32)  :
  R d 281 (6, [some (.ref 0), some (.int a1)], .int (nI 0) :: [], sl, (RH I w A N)) = R d 281 (40, [some (.ref 0), some (.int a1)], [], sl, (RH I w A N)) :=
  (R_tsw (show xk 281 6 = (.tableswitch 68 0 4 #[34, 41, 49, 56, 63], 40, [], 0) by decide +kernel)).trans (congrArg (fun q => R d 281 (q, [some (.ref 0), some (.int a1)], [], sl, (RH I w A N))) (by decide +kernel))
set_option maxRecDepth 100000 in
theorem m281_6_c1 (d sl : Nat) (I : Nat → Int32) (w : Int64) (A : Nat → Nat → Int32) (N : Nat → Nat → Int64) (a1 : Int32)  :
  R d 281 (6, [some (.ref 0), some (.int a1)], .int (nI 1) :: [], sl, (RH I w A N)) = R d 281 (47, [some (.ref 0), some (.int a1)], [], sl, (RH I w A N)) :=
  (R_tsw (show xk 281 6 = (.tableswitch 68 0 4 #[34, 41, 49, 56, 63], 40, [], 0) by decide +kernel)).trans (congrArg (fun q => R d 281 (q, [some (.ref 0), some (.int a1)], [], sl, (RH I w A N))) (by decide +kernel))
set_option maxRecDepth 100000 in
theorem m281_6_c2 (d sl : Nat) (I : Nat → Int32) (w : Int64) (A : Nat → Nat → Int32) (N : Nat → Nat → Int64) (a1 : Int32)  :
  R d 281 (6, [some (.ref 0), some (.int a1)], .int (nI 2) :: [], sl, (RH I w A N)) = R d 281 (55, [some (.ref 0), some (.int a1)], [], sl, (RH I w A N)) :=
  (R_tsw (show xk 281 6 = (.tableswitch 68 0 4 #[34, 41, 49, 56, 63], 40, [], 0) by decide +kernel)).trans (congrArg (fun q => R d 281 (q, [some (.ref 0), some (.int a1)], [], sl, (RH I w A N))) (by decide +kernel))
set_option maxRecDepth 100000 in
theorem m281_6_c3 (d sl : Nat) (I : Nat → Int32) (w : Int64) (A : Nat → Nat → Int32) (N : Nat → Nat → Int64) (a1 : Int32)  :
  R d 281 (6, [some (.ref 0), some (.int a1)], .int (nI 3) :: [], sl, (RH I w A N)) = R d 281 (62, [some (.ref 0), some (.int a1)], [], sl, (RH I w A N)) :=
  (R_tsw (show xk 281 6 = (.tableswitch 68 0 4 #[34, 41, 49, 56, 63], 40, [], 0) by decide +kernel)).trans (congrArg (fun q => R d 281 (q, [some (.ref 0), some (.int a1)], [], sl, (RH I w A N))) (by decide +kernel))
set_option maxRecDepth 100000 in
theorem m281_6_c4 (d sl : Nat) (I : Nat → Int32) (w : Int64) (A : Nat → Nat → Int32) (N : Nat → Nat → Int64) (a1 : Int32)  :
  R d 281 (6, [some (.ref 0), some (.int a1)], .int (nI 4) :: [], sl, (RH I w A N)) = R d 281 (69, [some (.ref 0), some (.int a1)], [], sl, (RH I w A N)) :=
  (R_tsw (show xk 281 6 = (.tableswitch 68 0 4 #[34, 41, 49, 56, 63], 40, [], 0) by decide +kernel)).trans (congrArg (fun q => R d 281 (q, [some (.ref 0), some (.int a1)], [], sl, (RH I w A N))) (by decide +kernel))
set_option maxRecDepth 100000 in
theorem m281_74 (d sl : Nat) (I : Nat → Int32) (w : Int64) (A : Nat → Nat → Int32) (N : Nat → Nat → Int64) (a1 : Int32) :
  R d 281 (74, [some (.ref 0), some (.int a1)], [], sl, (RH I w A N)) =
    some (75, [some (.ref 0), some (.int a1)], [.int (-1 : Int32)], sl, (RH I w A N)) :=
  (R_gob [6, 40, 47, 55, 62, 69, 74] 400 _ _ _).trans rfl
set_option maxRecDepth 100000 in
theorem m281_40 (d sl : Nat) (I : Nat → Int32) (w : Int64) (A : Nat → Nat → Int32) (N : Nat → Nat → Int64) (a1 : Int32) :
  R d 281 (40, [some (.ref 0), some (.int a1)], [], sl, (RH I w A N)) =
    some (46, [some (.ref 0), some (.int a1)], [.int ((A 2) 0)], sl, (RH I w A N)) :=
  (R_gob [6, 40, 47, 55, 62, 69, 74] 400 _ _ _).trans rfl
set_option maxRecDepth 100000 in
theorem m281_47 (d sl : Nat) (I : Nat → Int32) (w : Int64) (A : Nat → Nat → Int32) (N : Nat → Nat → Int64) (a1 : Int32) :
  R d 281 (47, [some (.ref 0), some (.int a1)], [], sl, (RH I w A N)) =
    some (54, [some (.ref 0), some (.int a1)], [.int ((A 2) 72)], sl, (RH I w A N)) :=
  (R_gob [6, 40, 47, 55, 62, 69, 74] 400 _ _ _).trans rfl
set_option maxRecDepth 100000 in
theorem m281_55 (d sl : Nat) (I : Nat → Int32) (w : Int64) (A : Nat → Nat → Int32) (N : Nat → Nat → Int64) (a1 : Int32) :
  R d 281 (55, [some (.ref 0), some (.int a1)], [], sl, (RH I w A N)) =
    some (61, [some (.ref 0), some (.int a1)], [.int ((A 2) 2)], sl, (RH I w A N)) :=
  (R_gob [6, 40, 47, 55, 62, 69, 74] 400 _ _ _).trans rfl
set_option maxRecDepth 100000 in
theorem m281_62 (d sl : Nat) (I : Nat → Int32) (w : Int64) (A : Nat → Nat → Int32) (N : Nat → Nat → Int64) (a1 : Int32) :
  R d 281 (62, [some (.ref 0), some (.int a1)], [], sl, (RH I w A N)) =
    some (68, [some (.ref 0), some (.int a1)], [.int ((A 2) 3)], sl, (RH I w A N)) :=
  (R_gob [6, 40, 47, 55, 62, 69, 74] 400 _ _ _).trans rfl
set_option maxRecDepth 100000 in
theorem m281_69 (d sl : Nat) (I : Nat → Int32) (w : Int64) (A : Nat → Nat → Int32) (N : Nat → Nat → Int64) (a1 : Int32) :
  R d 281 (69, [some (.ref 0), some (.int a1)], [], sl, (RH I w A N)) =
    some (73, [some (.ref 0), some (.int a1)], [.int (I 2)], sl, (RH I w A N)) :=
  (R_gob [6, 40, 47, 55, 62, 69, 74] 400 _ _ _).trans rfl
